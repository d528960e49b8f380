set_option maxHeartbeats 4000000 in
set_option maxRecDepth 100000 in
theorem t_X9_roomiestFor (l : Launch) {Z : ZT} (hZ : zOK Z) (A : Nat × Nat → Nat) (g : Nat → Bool) (μ : CM) (sz : Nat) (v : Nat → Int32) (hVG : VG v) (hR : RP (μ 0) v) (w : Nat → Int32) (lvk : Nat → Nat) (hVk : VT w (ntV v) (cpN v) lvk) (hTu : ∀ t, t < ntV v → w (29 + 12 * t + 1) = v (29 + 12 * t + 1)) (hRm : ∀ t, t < ntV v → μ 0 21 t = nI (cpN v t - lvk t)) (x : Int32) : XCi l yX9_roomiestFor cX9_roomiestFor 5 (some .int) 2 [.ref (A (0, 14)), .int x] Z (ids g) A (cE Z A g μ) sz (fun r => r = oI (bstV w x (ntV v))) := by
  refine r_met (E := (cE Z A g μ)) (by decide +kernel) (Nat.le_of_ble_eq_true rfl) ?_
  intro p e s m below meth c ls S hr hlk hnm hsz hW hl
  have hxe := S.1
  have hcd := S.2.1
  subst hsz
  have hl : lv_has ls 5 [(0, .ref (A (0, 14))), (1, .int x)] := hl
  have hn4 := hVG.2.1.2
  refine lv_iconst (v := (-1)) hxe hcd dX9_roomiestFor_0 (by decide) ?_
  refine lv_istore_n (lv' := [(2, .int (-1)), (0, .ref (A (0, 14))), (1, .int x)]) hxe hcd dX9_roomiestFor_1 rfl hl (by decide) rfl (fun ls hl => ?_)
  refine lv_iconst (v := (nI 0)) hxe hcd dX9_roomiestFor_2 (by decide) ?_
  refine lv_istore_n (lv' := [(3, .int (nI 0)), (2, .int (-1)), (0, .ref (A (0, 14))), (1, .int x)]) hxe hcd dX9_roomiestFor_3 rfl hl (by decide) rfl (fun ls hl => ?_)
  refine lv_iconst (v := (nI 0)) hxe hcd dX9_roomiestFor_4 (by decide) ?_
  refine lv_istore (lv' := [(4, .int (nI 0)), (3, .int (nI 0)), (2, .int (-1)), (0, .ref (A (0, 14))), (1, .int x)]) hxe hcd dX9_roomiestFor_5 hl (by decide) rfl (fun ls hl => ?_)
  have hl : lv_has ls 5 [(4, .int (nI 0)), (3, .int (nI (mrN (cpN v) lvk (bstV w x 0)))), (2, .int (oI (bstV w x 0))), (0, .ref (A (0, 14))), (1, .int x)] := hl
  have loop7 : ∀ (n_ : Nat) (i : Nat), ntV v - i < n_ → (i ≤ ntV v) → ∀ (H : Heap) (locs : List Loc) (ls : Array Slot), wX Z (ids g) A (cE Z A g μ) (fA (ids g) A (cE Z A g μ) s.heap.size) s H locs → lv_has ls 5 [(0, .ref (A (0, 14))), (1, .int x), (2, .int (oI (bstV w x i))), (3, .int (nI (mrN (cpN v) lvk (bstV w x i)))), (4, .int (nI i))] → W p l e (rmD 2 0 0) s m ([.ref (A (0, 14)), .int x] : List Value).toArray below meth c H locs 0 0 (MQ below (va_Qi (fun r (_ : Unit) => (fun r => r = oI (bstV w x (ntV v))) r) (fun _ t => qB Z (ids g) A (cE Z A g μ) (fA (ids g) A (cE Z A g μ) s.heap.size) t) (fA (ids g) A (cE Z A g μ) s.heap.size)) ([.ref (A (0, 14)), .int x] : List Value).toArray s 0 0 (fA (ids g) A (cE Z A g μ) s.heap.size)) (F0 m 7 ls []) := by
    intro n_
    induction n_ with
    | zero => intro i hm; exact absurd hm (Nat.not_lt_zero _)
    | succ n_ ih7 =>
      intro i hm hi H locs ls hW hl
      refine lv_iload hxe hcd dX9_roomiestFor_7 (lv_at hl 4 rfl) ?_
      refine lv_aload_n hxe hcd dX9_roomiestFor_9 rfl (lv_at hl 0 rfl) ?_
      refine gf_X9_10 S hW dX9_roomiestFor_10 ?_
      refine gf_X9_193 S hW sB_0 dX9_roomiestFor_13 ?_
      refine gf_X9_218 S hW (Or.inl sB_0) dX9_roomiestFor_16 ?_
      refine r_as (y := (nI (ntV v))) (hR.2.2.1.1.trans hVG.2.1.1) ?_
      refine n_ge S (a := i) (b := (ntV v)) (by omega) (by omega) dX9_roomiestFor_19 (tgt := 70) (by decide) (fun c19 => ?_) (fun c19 => ?_)
      · refine lv_iload_n hxe hcd dX9_roomiestFor_70 rfl (lv_at hl 2 rfl) ?_
        refine r_iret0 S hr hlk hW ?_ dX9_roomiestFor_71
        rw [show i = ntV v by omega]
      · refine lv_iload_n hxe hcd dX9_roomiestFor_22 rfl (lv_at hl 1 rfl) ?_
        refine lv_aload_n hxe hcd dX9_roomiestFor_23 rfl (lv_at hl 0 rfl) ?_
        refine gf_X9_10 S hW dX9_roomiestFor_24 ?_
        refine gf_X9_193 S hW sB_0 dX9_roomiestFor_27 ?_
        refine lv_iload hxe hcd dX9_roomiestFor_30 (lv_at hl 4 rfl) ?_
        refine r_calli0 (r_runV hZ S hW (As := [.int (nI i)]) (rest := [.int x]) (t_X7_tuningOf l hZ A g μ H.size (Or.inl sB_0) (nI i)) k_X9_225 (r_recv hW (x := (0, 9)) (in_s sB_0 (by decide)) rfl rfl) (hl.1) rfl rfl (Nat.le_of_ble_eq_true rfl) ⟨Nat.le_of_ble_eq_true rfl, Nat.le_of_ble_eq_true rfl⟩ ⟨Nat.le_of_ble_eq_true rfl, Nat.le_of_ble_eq_true rfl⟩ dX9_roomiestFor_32) hW (fun r32 H locs hp32 hW => ?_)
        have hp32 := hp32.symm
        subst hp32
        refine r_as (y := (v (29 + 12 * i + 1))) (by rw [rd_in (n := 4) (k := i) _ (by omega) (by decide), (hR.2.2.2 i (by omega)).2.1]) ?_
        refine lv_icmp_gt (tgt := 64) hxe hcd dX9_roomiestFor_35 (by decide) (fun c35 => ?_) (fun c35 => ?_)
        · refine lv_iinc (v := (nI (i + 1))) (lv' := [(4, .int (nI (i + 1))), (0, .ref (A (0, 14))), (1, .int x), (2, .int (oI (bstV w x i))), (3, .int (nI (mrN (cpN v) lvk (bstV w x i))))]) hxe hcd dX9_roomiestFor_64 hl (k := 4) rfl (nI_add i 1) (by decide) rfl (fun ls hl => ?_)
          refine lv_goto (tgt := 7) hxe hcd dX9_roomiestFor_67 (by decide) ?_
          have hl : lv_has ls 5 [(4, .int (nI (i + 1))), (3, .int (nI (mrN (cpN v) lvk (bstV w x (i + 1))))), (2, .int (oI (bstV w x (i + 1)))), (0, .ref (A (0, 14))), (1, .int x)] := by
            rw [bstV_st hVk (by omega) (fun z => I_nle.mpr c35 (by rw [← hTu i (by omega)]; exact z.1))]
            exact lv_sub hl [0, 4, 3, 1, 2] rfl
          exact ih7 (i + 1) (by omega) (by omega) _ _ _ hW (lv_sub hl [3, 4, 2, 1, 0] rfl)
        · refine lv_aload_n hxe hcd dX9_roomiestFor_38 rfl (lv_at hl 0 rfl) ?_
          refine gf_X9_43 S hW dX9_roomiestFor_39 ?_
          refine lv_iload hxe hcd dX9_roomiestFor_42 (lv_at hl 4 rfl) ?_
          refine r_calli0 (r_runS hZ S hW (As := [.ref (A (0, 21)), .int (nI i)]) (rest := []) (t_X9_read l hZ A g μ H.size (b := 0) (o := 21) (n := 4) rfl (in_r (by decide) (by decide)) (nI i)) k_X9_383 (hl.1) rfl rfl (Nat.le_of_ble_eq_true rfl) ⟨Nat.le_of_ble_eq_true rfl, Nat.le_of_ble_eq_true rfl⟩ ⟨Nat.le_of_ble_eq_true rfl, Nat.le_of_ble_eq_true rfl⟩ dX9_roomiestFor_44) hW (fun r44 H locs hp44 hW => ?_)
          have hp44 := hp44.symm
          subst hp44
          refine r_as (y := (nI (cpN v i - lvk i))) (by rw [rd_in (n := 4) (k := i) _ (by omega) (by decide), hRm i (by omega)]) ?_
          have hc9 := hVk i (by omega)
          have hm9 : mrN (cpN v) lvk (bstV w x i) < 2 ^ 20 := by (cases hb : bstV w x i with | none => simp only [mrN]; omega | some qq => (have hq9 := hVk qq (by have := (bstT_lt hb).1; omega); simp only [mrN]; omega))
          refine lv_iload_n hxe hcd dX9_roomiestFor_47 rfl (lv_at hl 3 rfl) ?_
          refine n_le S (a := (cpN v i - lvk i)) (b := (mrN (cpN v) lvk (bstV w x i))) (by omega) (by omega) dX9_roomiestFor_48 (tgt := 64) (by decide) (fun c48 => ?_) (fun c48 => ?_)
          · refine lv_iinc (v := (nI (i + 1))) (lv' := [(4, .int (nI (i + 1))), (0, .ref (A (0, 14))), (1, .int x), (2, .int (oI (bstV w x i))), (3, .int (nI (mrN (cpN v) lvk (bstV w x i))))]) hxe hcd dX9_roomiestFor_64 hl (k := 4) rfl (nI_add i 1) (by decide) rfl (fun ls hl => ?_)
            refine lv_goto (tgt := 7) hxe hcd dX9_roomiestFor_67 (by decide) ?_
            have hl : lv_has ls 5 [(4, .int (nI (i + 1))), (3, .int (nI (mrN (cpN v) lvk (bstV w x (i + 1))))), (2, .int (oI (bstV w x (i + 1)))), (0, .ref (A (0, 14))), (1, .int x)] := by
              rw [bstV_st hVk (by omega) (fun z => by have := z.2; omega)]
              exact lv_sub hl [0, 4, 3, 1, 2] rfl
            exact ih7 (i + 1) (by omega) (by omega) _ _ _ hW (lv_sub hl [3, 4, 2, 1, 0] rfl)
          · refine lv_iload hxe hcd dX9_roomiestFor_51 (lv_at hl 4 rfl) ?_
            refine lv_istore_n (lv' := [(2, .int (nI i)), (0, .ref (A (0, 14))), (1, .int x), (3, .int (nI (mrN (cpN v) lvk (bstV w x i)))), (4, .int (nI i))]) hxe hcd dX9_roomiestFor_53 rfl hl (by decide) rfl (fun ls hl => ?_)
            refine lv_aload_n hxe hcd dX9_roomiestFor_54 rfl (lv_at hl 1 rfl) ?_
            refine gf_X9_43 S hW dX9_roomiestFor_55 ?_
            refine lv_iload hxe hcd dX9_roomiestFor_58 (lv_at hl 4 rfl) ?_
            refine r_calli0 (r_runS hZ S hW (As := [.ref (A (0, 21)), .int (nI i)]) (rest := []) (t_X9_read l hZ A g μ H.size (b := 0) (o := 21) (n := 4) rfl (in_r (by decide) (by decide)) (nI i)) k_X9_383 (hl.1) rfl rfl (Nat.le_of_ble_eq_true rfl) ⟨Nat.le_of_ble_eq_true rfl, Nat.le_of_ble_eq_true rfl⟩ ⟨Nat.le_of_ble_eq_true rfl, Nat.le_of_ble_eq_true rfl⟩ dX9_roomiestFor_60) hW (fun r60 H locs hp60 hW => ?_)
            have hp60 := hp60.symm
            subst hp60
            refine r_as (y := (nI (cpN v i - lvk i))) (by rw [rd_in (n := 4) (k := i) _ (by omega) (by decide), hRm i (by omega)]) ?_
            refine lv_istore_n (lv' := [(3, .int (nI (cpN v i - lvk i))), (2, .int (nI i)), (0, .ref (A (0, 14))), (1, .int x), (4, .int (nI i))]) hxe hcd dX9_roomiestFor_63 rfl hl (by decide) rfl (fun ls hl => ?_)
            refine lv_iinc (v := (nI (i + 1))) (lv' := [(4, .int (nI (i + 1))), (3, .int (nI (cpN v i - lvk i))), (2, .int (nI i)), (0, .ref (A (0, 14))), (1, .int x)]) hxe hcd dX9_roomiestFor_64 hl (k := 4) rfl (nI_add i 1) (by decide) rfl (fun ls hl => ?_)
            refine lv_goto (tgt := 7) hxe hcd dX9_roomiestFor_67 (by decide) ?_
            have hl : lv_has ls 5 [(4, .int (nI (i + 1))), (3, .int (nI (mrN (cpN v) lvk (bstV w x (i + 1))))), (2, .int (oI (bstV w x (i + 1)))), (0, .ref (A (0, 14))), (1, .int x)] := by
              rw [bstV_up hVk (by omega) (by rw [hTu i (by omega)]; exact I_nlt.mp c35) (by omega)]
              exact lv_sub hl [0, 1, 2, 3, 4] rfl
            exact ih7 (i + 1) (by omega) (by omega) _ _ _ hW (lv_sub hl [3, 4, 2, 1, 0] rfl)
  exact loop7 (ntV v + 1) 0 (Nat.lt_succ_self _) (Nat.zero_le _) _ _ _ hW (lv_sub hl [3, 4, 2, 1, 0] rfl)
