set_option maxHeartbeats 4000000 in
set_option maxRecDepth 100000 in
theorem t_X3_putNumber (l : Launch) {Z : ZT} (hZ : zOK Z) (A : Nat × Nat → Nat) (g : Nat → Bool) (μ : CM) (sz : Nat) {n lN : Nat} (hn6 : n < 1000000) (hlN : μ 0 26 1 = nI lN) (h80 : lN + 6 ≤ 80) : XMv l yX3_putNumber cX3_putNumber 3 2 [.ref (A (0, 26)), .int (nI n)] Z (ids g) A (cE Z A g) μ sz (fun u => u = LK μ (wrn (μ 0 27, lN) n)) := by
  refine r_met (E := (cE Z A g μ)) (by decide +kernel) (Nat.le_of_ble_eq_true rfl) ?_
  intro p e s m below meth c ls S hr hlk hnm hsz hW hl
  have hxe := S.1
  have hcd := S.2.1
  subst hsz
  have hl : lv_has ls 3 [(0, .ref (A (0, 26))), (1, .int (nI n))] := hl
  refine lv_ldc (v := (100000 : Int32)) hxe hcd S.2.2.2.1 (S.2.2.2.2 _ g_361) dX3_putNumber_0 ?_
  refine r_as (y := (nI 100000)) (by decide) ?_
  refine lv_istore_n (lv' := [(2, .int (nI 100000)), (0, .ref (A (0, 26))), (1, .int (nI n))]) hxe hcd dX3_putNumber_2 rfl hl (by decide) rfl (fun ls hl => ?_)
  have h1n := nd_1 n
  have h6n := nd_6 n
  have hl : lv_has ls 3 [(2, .int (nI (tnP 5 0))), (0, .ref (A (0, 26))), (1, .int (nI n))] := hl
  have loop3 : ∀ (n_ : Nat) (i : Nat), 6 - i < n_ → (i ≤ 6) → ∀ (H : Heap) (locs : List Loc) (ls : Array Slot), wX Z (ids g) A (cE Z A g (LK μ (dgP (μ 0 27) lN n (nd n - 1) (i - (6 - nd n)), lN + (i - (6 - nd n))))) (fA (ids g) A (cE Z A g μ) s.heap.size) s H locs → lv_has ls 3 [(0, .ref (A (0, 26))), (1, .int (nI n)), (2, .int (nI (tnP 5 i)))] → W p l e (rmD 2 0 0) s m ([.ref (A (0, 26)), .int (nI n)] : List Value).toArray below meth c H locs 0 0 (MQ below (va_Qv (fun u => u = LK μ (wrn (μ 0 27, lN) n)) (fun u t => qB Z (ids g) A ((cE Z A g) u) (fA (ids g) A (cE Z A g μ) s.heap.size) t) (fA (ids g) A (cE Z A g μ) s.heap.size)) ([.ref (A (0, 26)), .int (nI n)] : List Value).toArray s 0 0 (fA (ids g) A (cE Z A g μ) s.heap.size)) (F0 m 3 ls []) := by
    intro n_
    induction n_ with
    | zero => intro i hm; exact absurd hm (Nat.not_lt_zero _)
    | succ n_ ih3 =>
      intro i hm hi H locs ls hW hl
      have ht := tnP_le (k := 5) (i := i) (by decide)
      have hdv2 := Nat.div_le_self n (tnP 5 i)
      refine lv_iload_n hxe hcd dX3_putNumber_3 rfl (lv_at hl 2 rfl) ?_
      refine n_ifle S (a := (tnP 5 i)) (by omega) dX3_putNumber_4 (tgt := 38) (by decide) (fun c4 => ?_) (fun c4 => ?_)
      · refine r_vret S hr hlk (F := (cE Z A g)) (u := (LK μ (dgP (μ 0 27) lN n (nd n - 1) (i - (6 - nd n)), lN + (i - (6 - nd n))))) hW ?_ dX3_putNumber_38
        have e : i = 6 := by have := tnP_z.mp c4; omega
        rw [wrn, e, show 6 - (6 - nd n) = nd n by omega]
      · have hi5 : i ≤ 5 := Nat.not_lt.mp (fun z => c4 (tnP_z.mpr z))
        have htp : 0 < tnP 5 i := by omega
        refine lv_iload_n hxe hcd dX3_putNumber_7 rfl (lv_at hl 1 rfl) ?_
        refine lv_iload_n hxe hcd dX3_putNumber_8 rfl (lv_at hl 2 rfl) ?_
        refine n_ge S (a := n) (b := (tnP 5 i)) (by omega) (by omega) dX3_putNumber_9 (tgt := 17) (by decide) (fun c9 => ?_) (fun c9 => ?_)
        · refine lv_aload_n hxe hcd dX3_putNumber_17 rfl (lv_at hl 0 rfl) ?_
          refine lv_bipush (v := (nI 48)) hxe hcd dX3_putNumber_18 (by decide) ?_
          refine lv_iload_n hxe hcd dX3_putNumber_20 rfl (lv_at hl 1 rfl) ?_
          refine lv_iload_n hxe hcd dX3_putNumber_21 rfl (lv_at hl 2 rfl) ?_
          refine n_idiv S (a := n) (b := (tnP 5 i)) (by omega) (by omega) (by omega) dX3_putNumber_22 ?_
          refine lv_bipush (v := (nI 10)) hxe hcd dX3_putNumber_23 (by decide) ?_
          refine n_irem S (a := (n / (tnP 5 i))) (b := 10) (by omega) (by omega) (by omega) dX3_putNumber_25 ?_
          refine n_iadd S (a := 48) (b := ((n / (tnP 5 i)) % 10)) dX3_putNumber_26 ?_
          refine r_callv (F := (cE Z A g)) (r_runV hZ S hW (As := [.int (nI (48 + ((n / (tnP 5 i)) % 10)))]) (rest := []) (t_X3_putSign l hZ A g (LK μ (dgP (μ 0 27) lN n (nd n - 1) (i - (6 - nd n)), lN + (i - (6 - nd n)))) H.size (lN := (dgP (μ 0 27) lN n (nd n - 1) (i - (6 - nd n)), lN + (i - (6 - nd n))).2) (LK_n _ _) (by first | omega | (simp only [wr1, wrn]; omega)) (nI (48 + ((n / (tnP 5 i)) % 10)))) k_X3_28 (r_recv hW (x := (0, 26)) (in_r (by decide) (by decide)) rfl rfl) (hl.1) rfl rfl (Nat.le_of_ble_eq_true rfl) ⟨Nat.le_of_ble_eq_true rfl, Nat.le_of_ble_eq_true rfl⟩ ⟨Nat.le_of_ble_eq_true rfl, Nat.le_of_ble_eq_true rfl⟩ dX3_putNumber_27) hW (fun u27 H locs hp27 hW => ?_)
          have hmhp27 : u27 = LK μ (wr1 (dgP (μ 0 27) lN n (nd n - 1) (i - (6 - nd n)), lN + (i - (6 - nd n))) (nI (48 + ((n / (tnP 5 i)) % 10)))) := by rw [hp27]; exact LK_wr1 _ _ _
          subst hmhp27
          refine lv_iload_n hxe hcd dX3_putNumber_30 rfl (lv_at hl 2 rfl) ?_
          refine lv_bipush (v := (nI 10)) hxe hcd dX3_putNumber_31 (by decide) ?_
          refine n_idiv S (a := (tnP 5 i)) (b := 10) (by omega) (by omega) (by omega) dX3_putNumber_33 ?_
          refine lv_istore_n (lv' := [(2, .int (nI ((tnP 5 i) / 10))), (0, .ref (A (0, 26))), (1, .int (nI n))]) hxe hcd dX3_putNumber_34 rfl hl (by decide) rfl (fun ls hl => ?_)
          refine lv_goto (tgt := 3) hxe hcd dX3_putNumber_35 (by decide) ?_
          have hl : lv_has ls 3 [(2, .int (nI (tnP 5 (i + 1)))), (0, .ref (A (0, 26))), (1, .int (nI n))] := by
            rw [tnP_s hi5]
            exact lv_sub hl [0, 1, 2] rfl
          exact ih3 (i + 1) (by omega) (by omega) _ _ _ (by have hon := (nd_on (n := n) hi5).mp (Or.inl (by rw [← tnP_p hi5]; exact c9)); have hs := dgP_s (μ 0 27) (L := lN) (n := n) (k := nd n - 1) (i := i - (6 - nd n)) (by omega); rw [← tnP_w hi5 hon] at hs; have he : (dgP (μ 0 27) lN n (nd n - 1) ((i + 1) - (6 - nd n)), lN + ((i + 1) - (6 - nd n))) = wr1 (dgP (μ 0 27) lN n (nd n - 1) (i - (6 - nd n)), lN + (i - (6 - nd n))) (nI (48 + n / tnP 5 i % 10)) := Prod.ext (by rw [show i + 1 - (6 - nd n) = i - (6 - nd n) + 1 by omega]; exact hs.symm) (by simp only [wr1]; omega); rw [he]; exact hW) (lv_sub hl [1, 2, 0] rfl)
        · refine lv_iload_n hxe hcd dX3_putNumber_12 rfl (lv_at hl 2 rfl) ?_
          refine lv_iconst (v := (nI 1)) hxe hcd dX3_putNumber_13 (by decide) ?_
          refine n_ne S (a := (tnP 5 i)) (b := 1) (by omega) (by omega) dX3_putNumber_14 (tgt := 30) (by decide) (fun c14 => ?_) (fun c14 => ?_)
          · refine lv_iload_n hxe hcd dX3_putNumber_30 rfl (lv_at hl 2 rfl) ?_
            refine lv_bipush (v := (nI 10)) hxe hcd dX3_putNumber_31 (by decide) ?_
            refine n_idiv S (a := (tnP 5 i)) (b := 10) (by omega) (by omega) (by omega) dX3_putNumber_33 ?_
            refine lv_istore_n (lv' := [(2, .int (nI ((tnP 5 i) / 10))), (0, .ref (A (0, 26))), (1, .int (nI n))]) hxe hcd dX3_putNumber_34 rfl hl (by decide) rfl (fun ls hl => ?_)
            refine lv_goto (tgt := 3) hxe hcd dX3_putNumber_35 (by decide) ?_
            have hl : lv_has ls 3 [(2, .int (nI (tnP 5 (i + 1)))), (0, .ref (A (0, 26))), (1, .int (nI n))] := by
              rw [tnP_s hi5]
              exact lv_sub hl [0, 1, 2] rfl
            exact ih3 (i + 1) (by omega) (by omega) _ _ _ (by have hon : ¬ 6 - nd n ≤ i := fun z => by { rcases (nd_on (n := n) hi5).mpr z with h | h; exact c9 (by rw [tnP_p hi5]; exact h); exact c14 (by rw [tnP_p hi5, h]; rfl) }; rw [show i + 1 - (6 - nd n) = i - (6 - nd n) by omega]; exact hW) (lv_sub hl [1, 2, 0] rfl)
          · refine lv_aload_n hxe hcd dX3_putNumber_17 rfl (lv_at hl 0 rfl) ?_
            refine lv_bipush (v := (nI 48)) hxe hcd dX3_putNumber_18 (by decide) ?_
            refine lv_iload_n hxe hcd dX3_putNumber_20 rfl (lv_at hl 1 rfl) ?_
            refine lv_iload_n hxe hcd dX3_putNumber_21 rfl (lv_at hl 2 rfl) ?_
            refine n_idiv S (a := n) (b := (tnP 5 i)) (by omega) (by omega) (by omega) dX3_putNumber_22 ?_
            refine lv_bipush (v := (nI 10)) hxe hcd dX3_putNumber_23 (by decide) ?_
            refine n_irem S (a := (n / (tnP 5 i))) (b := 10) (by omega) (by omega) (by omega) dX3_putNumber_25 ?_
            refine n_iadd S (a := 48) (b := ((n / (tnP 5 i)) % 10)) dX3_putNumber_26 ?_
            refine r_callv (F := (cE Z A g)) (r_runV hZ S hW (As := [.int (nI (48 + ((n / (tnP 5 i)) % 10)))]) (rest := []) (t_X3_putSign l hZ A g (LK μ (dgP (μ 0 27) lN n (nd n - 1) (i - (6 - nd n)), lN + (i - (6 - nd n)))) H.size (lN := (dgP (μ 0 27) lN n (nd n - 1) (i - (6 - nd n)), lN + (i - (6 - nd n))).2) (LK_n _ _) (by first | omega | (simp only [wr1, wrn]; omega)) (nI (48 + ((n / (tnP 5 i)) % 10)))) k_X3_28 (r_recv hW (x := (0, 26)) (in_r (by decide) (by decide)) rfl rfl) (hl.1) rfl rfl (Nat.le_of_ble_eq_true rfl) ⟨Nat.le_of_ble_eq_true rfl, Nat.le_of_ble_eq_true rfl⟩ ⟨Nat.le_of_ble_eq_true rfl, Nat.le_of_ble_eq_true rfl⟩ dX3_putNumber_27) hW (fun u27 H locs hp27 hW => ?_)
            have hmhp27 : u27 = LK μ (wr1 (dgP (μ 0 27) lN n (nd n - 1) (i - (6 - nd n)), lN + (i - (6 - nd n))) (nI (48 + ((n / (tnP 5 i)) % 10)))) := by rw [hp27]; exact LK_wr1 _ _ _
            subst hmhp27
            refine lv_iload_n hxe hcd dX3_putNumber_30 rfl (lv_at hl 2 rfl) ?_
            refine lv_bipush (v := (nI 10)) hxe hcd dX3_putNumber_31 (by decide) ?_
            refine n_idiv S (a := (tnP 5 i)) (b := 10) (by omega) (by omega) (by omega) dX3_putNumber_33 ?_
            refine lv_istore_n (lv' := [(2, .int (nI ((tnP 5 i) / 10))), (0, .ref (A (0, 26))), (1, .int (nI n))]) hxe hcd dX3_putNumber_34 rfl hl (by decide) rfl (fun ls hl => ?_)
            refine lv_goto (tgt := 3) hxe hcd dX3_putNumber_35 (by decide) ?_
            have hl : lv_has ls 3 [(2, .int (nI (tnP 5 (i + 1)))), (0, .ref (A (0, 26))), (1, .int (nI n))] := by
              rw [tnP_s hi5]
              exact lv_sub hl [0, 1, 2] rfl
            exact ih3 (i + 1) (by omega) (by omega) _ _ _ (by have hon := (nd_on (n := n) hi5).mp (Or.inr (by have := p10_1 (by rw [← tnP_p hi5]; exact c14); omega)); have hs := dgP_s (μ 0 27) (L := lN) (n := n) (k := nd n - 1) (i := i - (6 - nd n)) (by omega); rw [← tnP_w hi5 hon] at hs; have he : (dgP (μ 0 27) lN n (nd n - 1) ((i + 1) - (6 - nd n)), lN + ((i + 1) - (6 - nd n))) = wr1 (dgP (μ 0 27) lN n (nd n - 1) (i - (6 - nd n)), lN + (i - (6 - nd n))) (nI (48 + n / tnP 5 i % 10)) := Prod.ext (by rw [show i + 1 - (6 - nd n) = i - (6 - nd n) + 1 by omega]; exact hs.symm) (by simp only [wr1]; omega); rw [he]; exact hW) (lv_sub hl [1, 2, 0] rfl)
  exact loop3 ((6 - 0) + 1) 0 (Nat.lt_succ_self _) (Nat.zero_le _) _ _ _ (by rw [Nat.zero_sub, dgP_0, Nat.add_zero, LK_0, ← hlN, upd_id0, up2_id]; exact hW) (lv_sub hl [1, 2, 0] rfl)
