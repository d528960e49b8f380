set_option maxHeartbeats 4000000 in
set_option maxRecDepth 100000 in
theorem t_X7_store (l : Launch) {Z : ZT} (hZ : zOK Z) (A : Nat × Nat → Nat) (g : Nat → Bool) (μ : CM) (sz : Nat) {b : Nat} (hb : tB g b) {nt : Nat} (hc : μ b 9 4 = nI nt) (h4 : nt ≤ 4) (lv : Nat → Nat) (hlv : ∀ q, q < nt → μ b 12 q = nI (lv q) ∧ lv q ≤ 9) (cp : Nat → Nat) (hcp : ∀ q, q < nt → μ b 10 q = nI (cp q) ∧ cp q ≤ 9) (x : Int32) : XMi l yX7_store cX7_store 4 (some .boolean) 3 [.ref (A (b, 9)), .int x] Z (ids g) A (cE Z A g) μ sz (fun r u => (bstT (μ b 10) (μ b 12) (μ b 11) x nt = none ∧ r = nI 0 ∧ u = up2 μ b 9 (upd (μ b 9) 6 (μ b 9 6 + nI 1))) ∨ ∃ q, bstT (μ b 10) (μ b 12) (μ b 11) x nt = some q ∧ r = nI 1 ∧ u = up2 (up2 (up2 μ b 13 (upd (μ b 13) (q * 9 + lv q) x)) b 12 (upd (μ b 12) q (nI (lv q + 1)))) b 9 (upd (μ b 9) 5 (μ b 9 5 + nI 1))) := by
  refine r_met (E := (cE Z A g μ)) (by decide +kernel) (Nat.le_of_ble_eq_true rfl) ?_
  intro p e s m below meth c ls S hr hlk hnm hsz hW hl
  have hxe := S.1
  have hcd := S.2.1
  subst hsz
  have hl : lv_has ls 4 [(0, .ref (A (b, 9))), (1, .int x)] := hl
  refine lv_iconst (v := (-1)) hxe hcd dX7_store_0 (by decide) ?_
  refine lv_istore_n (lv' := [(2, .int (-1)), (0, .ref (A (b, 9))), (1, .int x)]) hxe hcd dX7_store_1 rfl hl (by decide) rfl (fun ls hl => ?_)
  refine lv_iconst (v := (nI 0)) hxe hcd dX7_store_2 (by decide) ?_
  refine lv_istore_n (lv' := [(3, .int (nI 0)), (2, .int (-1)), (0, .ref (A (b, 9))), (1, .int x)]) hxe hcd dX7_store_3 rfl hl (by decide) rfl (fun ls hl => ?_)
  have loop4 : ∀ (n_ : Nat) (i : Nat), nt - i < n_ → (i ≤ nt) → ∀ (H : Heap) (locs : List Loc) (ls : Array Slot), wX Z (ids g) A (cE Z A g μ) (fA (ids g) A (cE Z A g μ) s.heap.size) s H locs → lv_has ls 4 [(0, .ref (A (b, 9))), (1, .int x), (2, .int (oI (bstT (μ b 10) (μ b 12) (μ b 11) x i))), (3, .int (nI i))] → W p l e (rmD 3 0 0) s m ([.ref (A (b, 9)), .int x] : List Value).toArray below meth c H locs 0 0 (MQ below (va_Qi (fun r u => (bstT (μ b 10) (μ b 12) (μ b 11) x nt = none ∧ r = nI 0 ∧ u = up2 μ b 9 (upd (μ b 9) 6 (μ b 9 6 + nI 1))) ∨ ∃ q, bstT (μ b 10) (μ b 12) (μ b 11) x nt = some q ∧ r = nI 1 ∧ u = up2 (up2 (up2 μ b 13 (upd (μ b 13) (q * 9 + lv q) x)) b 12 (upd (μ b 12) q (nI (lv q + 1)))) b 9 (upd (μ b 9) 5 (μ b 9 5 + nI 1))) (fun u t => qB Z (ids g) A ((cE Z A g) u) (fA (ids g) A (cE Z A g μ) s.heap.size) t) (fA (ids g) A (cE Z A g μ) s.heap.size)) ([.ref (A (b, 9)), .int x] : List Value).toArray s 0 0 (fA (ids g) A (cE Z A g μ) s.heap.size)) (F0 m 4 ls []) := by
    intro n_
    induction n_ with
    | zero => intro i hm; exact absurd hm (Nat.not_lt_zero _)
    | succ n_ ih4 =>
      intro i hm hi H locs ls hW hl
      refine lv_iload_n hxe hcd dX7_store_4 rfl (lv_at hl 3 rfl) ?_
      refine lv_aload_n hxe hcd dX7_store_5 rfl (lv_at hl 0 rfl) ?_
      refine gf_X7_24 S hW hb dX7_store_6 ?_
      refine r_as (y := (nI nt)) (hc) ?_
      refine n_ge S (a := i) (b := nt) (by omega) (by omega) dX7_store_9 (tgt := 47) (by decide) (fun c9 => ?_) (fun c9 => ?_)
      · rcases hB : bstT (μ b 10) (μ b 12) (μ b 11) x i with _ | q
        · rw [hB, oI_none] at hl
          refine lv_iload_n hxe hcd dX7_store_47 rfl (lv_at hl 2 rfl) ?_
          refine lv_iconst (v := (-1)) hxe hcd dX7_store_48 (by decide) ?_
          refine lv_icmp_ne (tgt := 64) hxe hcd dX7_store_49 (by decide) (fun h => absurd h (by decide)) (fun _ => ?_)
          refine lv_aload_n hxe hcd dX7_store_52 rfl (lv_at hl 0 rfl) ?_
          refine lv_dup hxe hcd dX7_store_53 rfl ?_
          refine gf_X7_31 S hW hb dX7_store_54 ?_
          refine lv_iconst (v := (nI 1)) hxe hcd dX7_store_57 (by decide) ?_
          refine lv_iadd hxe hcd dX7_store_58 ?_
          refine gp_X7_31 S hW hb dX7_store_59 (fun H locs hW => ?_)
          refine lv_iconst (v := (nI 0)) hxe hcd dX7_store_62 (by decide) ?_
          refine r_zret S hr hlk (F := (cE Z A g)) (u := (up2 μ b 9 (upd (μ b 9) 6 ((μ b 9 6) + (nI 1))))) hW (by decide +kernel) ?_ dX7_store_63
          have e : i = nt := by omega
          rw [e] at hB
          exact Or.inl ⟨hB, rfl, rfl⟩
        · rw [hB, oI_some] at hl
          have hbq := bstT_lt hB
          refine lv_iload_n hxe hcd dX7_store_47 rfl (lv_at hl 2 rfl) ?_
          refine lv_iconst (v := (-1)) hxe hcd dX7_store_48 (by decide) ?_
          refine lv_icmp_ne (tgt := 64) hxe hcd dX7_store_49 (by decide) (fun c49 => ?_) (fun c49 => absurd c49 (nI_m1 (by omega)))
          have e : i = nt := by omega
          have hlq := hlv q (by omega)
          have hcq := hcp q (by omega)
          have hlt : lv q < cp q := by (have h9 := hbq.2.1; rw [hlq.1, hcq.1] at h9; exact (nI_ltI (by omega) (by omega)).mp h9)
          refine lv_aload_n hxe hcd dX7_store_64 rfl (lv_at hl 0 rfl) ?_
          refine lv_iload_n hxe hcd dX7_store_65 rfl (lv_at hl 2 rfl) ?_
          refine lv_aload_n hxe hcd dX7_store_66 rfl (lv_at hl 0 rfl) ?_
          refine lv_iload_n hxe hcd dX7_store_67 rfl (lv_at hl 2 rfl) ?_
          refine r_calli0 (r_runV hZ S hW (As := [.int (nI q)]) (rest := [.int (nI q), .ref (A (b, 9))]) (t_X7_levelOf l hZ A g μ H.size hb (nI q)) k_X7_57 (r_recv hW (x := (b, 9)) (in_t hb (by decide) (by decide)) rfl rfl) (hl.1) rfl rfl (Nat.le_of_ble_eq_true rfl) ⟨Nat.le_of_ble_eq_true rfl, Nat.le_of_ble_eq_true rfl⟩ ⟨Nat.le_of_ble_eq_true rfl, Nat.le_of_ble_eq_true rfl⟩ dX7_store_68) hW (fun r68 H locs hp68 hW => ?_)
          have hp68 := hp68.symm
          subst hp68
          refine r_as (y := (nI (lv q))) (by rw [rd_in (n := 4) (k := q) _ (by omega) (by decide), hlq.1]) ?_
          refine lv_iload_n hxe hcd dX7_store_71 rfl (lv_at hl 1 rfl) ?_
          refine r_callv (F := (cE Z A g)) (r_runV hZ S hW (As := [.int (nI q), .int (nI (lv q)), .int x]) (rest := []) (t_X7_setFrame l hZ A g μ H.size hb (q := q) (i := (lv q)) (by omega) (by omega) x) k_X7_70 (r_recv hW (x := (b, 9)) (in_t hb (by decide) (by decide)) rfl rfl) (hl.1) rfl rfl (Nat.le_of_ble_eq_true rfl) ⟨Nat.le_of_ble_eq_true rfl, Nat.le_of_ble_eq_true rfl⟩ ⟨Nat.le_of_ble_eq_true rfl, Nat.le_of_ble_eq_true rfl⟩ dX7_store_72) hW (fun u72 H locs hp72 hW => ?_)
          have hp72 := hp72.symm
          subst hp72
          refine lv_aload_n hxe hcd dX7_store_75 rfl (lv_at hl 0 rfl) ?_
          refine gf_X7_18 S hW hb dX7_store_76 ?_
          refine lv_iload_n hxe hcd dX7_store_79 rfl (lv_at hl 2 rfl) ?_
          refine lv_aload_n hxe hcd dX7_store_80 rfl (lv_at hl 0 rfl) ?_
          refine lv_iload_n hxe hcd dX7_store_81 rfl (lv_at hl 2 rfl) ?_
          refine r_calli0 (r_runV hZ S hW (As := [.int (nI q)]) (rest := [.int (nI q), .ref (A (b, 12))]) (t_X7_levelOf l hZ A g (up2 μ b 13 (upd (μ b 13) (q * 9 + (lv q)) x)) H.size hb (nI q)) k_X7_57 (r_recv hW (x := (b, 9)) (in_t hb (by decide) (by decide)) rfl rfl) (hl.1) rfl rfl (Nat.le_of_ble_eq_true rfl) ⟨Nat.le_of_ble_eq_true rfl, Nat.le_of_ble_eq_true rfl⟩ ⟨Nat.le_of_ble_eq_true rfl, Nat.le_of_ble_eq_true rfl⟩ dX7_store_82) hW (fun r82 H locs hp82 hW => ?_)
          have hp82 := hp82.symm
          subst hp82
          refine r_as (y := (nI (lv q))) (by rw [up2_o (o2 := 12) (o := 13) (by decide), rd_in (n := 4) (k := q) _ (by omega) (by decide), hlq.1]) ?_
          refine lv_iconst (v := (nI 1)) hxe hcd dX7_store_85 (by decide) ?_
          refine n_iadd S (a := (lv q)) (b := 1) dX7_store_86 ?_
          refine r_callv (F := (cE Z A g)) (r_runSN hZ S hW (As := [.ref (A (b, 12)), .int (nI q), .int (nI ((lv q) + 1))]) (rest := []) (t_X9_write l hZ A g (up2 μ b 13 (upd (μ b 13) (q * 9 + (lv q)) x)) H.size (b := b) (o := 12) (n := 4) rfl (in_t hb (by decide) (by decide)) (nI q) (nI ((lv q) + 1))) k_X7_45 (hl.1) rfl rfl (Nat.le_of_ble_eq_true rfl) ⟨Nat.le_of_ble_eq_true rfl, Nat.le_of_ble_eq_true rfl⟩ ⟨Nat.le_of_ble_eq_true rfl, Nat.le_of_ble_eq_true rfl⟩ dX7_store_87) hW (fun u87 H locs hp87 hW => ?_)
          have hp87 := hp87.symm
          subst hp87
          refine lv_aload_n hxe hcd dX7_store_90 rfl (lv_at hl 0 rfl) ?_
          refine lv_dup hxe hcd dX7_store_91 rfl ?_
          refine gf_X7_28 S hW hb dX7_store_92 ?_
          refine lv_iconst (v := (nI 1)) hxe hcd dX7_store_95 (by decide) ?_
          refine lv_iadd hxe hcd dX7_store_96 ?_
          refine gp_X7_28 S hW hb dX7_store_97 (fun H locs hW => ?_)
          refine lv_iconst (v := (nI 1)) hxe hcd dX7_store_100 (by decide) ?_
          refine r_zret S hr hlk (F := (cE Z A g)) (u := (up2 (up2 (up2 μ b 13 (upd (μ b 13) (q * 9 + (lv q)) x)) b 12 (wr 4 ((up2 μ b 13 (upd (μ b 13) (q * 9 + (lv q)) x)) b 12) (nI q) (nI ((lv q) + 1)))) b 9 (upd ((up2 (up2 μ b 13 (upd (μ b 13) (q * 9 + (lv q)) x)) b 12 (wr 4 ((up2 μ b 13 (upd (μ b 13) (q * 9 + (lv q)) x)) b 12) (nI q) (nI ((lv q) + 1)))) b 9) 5 (((up2 (up2 μ b 13 (upd (μ b 13) (q * 9 + (lv q)) x)) b 12 (wr 4 ((up2 μ b 13 (upd (μ b 13) (q * 9 + (lv q)) x)) b 12) (nI q) (nI ((lv q) + 1)))) b 9 5) + (nI 1))))) hW (by decide +kernel) ?_ dX7_store_101
          have e : i = nt := by omega
          rw [e] at hB
          refine Or.inr ⟨q, hB, rfl, ?_⟩
          rw [up2_o (o2 := 9) (o := 12) (by decide), up2_o (o2 := 9) (o := 13) (by decide), up2_o (o2 := 12) (o := 13) (by decide), wr_in (n := 4) (k := q) _ _ (by omega) (by decide)]
      · refine lv_aload_n hxe hcd dX7_store_12 rfl (lv_at hl 0 rfl) ?_
        refine lv_iload_n hxe hcd dX7_store_13 rfl (lv_at hl 3 rfl) ?_
        refine lv_iload_n hxe hcd dX7_store_14 rfl (lv_at hl 1 rfl) ?_
        refine r_calli0 (r_runV hZ S hW (As := [.int (nI i), .int x]) (rest := []) (t_X7_accepts l hZ A g μ H.size hb (q := i) (by omega) x) k_X7_63 (r_recv hW (x := (b, 9)) (in_t hb (by decide) (by decide)) rfl rfl) (hl.1) rfl rfl (Nat.le_of_ble_eq_true rfl) ⟨Nat.le_of_ble_eq_true rfl, Nat.le_of_ble_eq_true rfl⟩ ⟨Nat.le_of_ble_eq_true rfl, Nat.le_of_ble_eq_true rfl⟩ dX7_store_15) hW (fun r15 H locs hp15 hW => ?_)
        rcases hp15 with ⟨hp150, hp15⟩ | ⟨hp150, hp15⟩
        · subst hp150
          refine lv_if_eq (tgt := 41) hxe hcd dX7_store_18 (by decide) (fun h => absurd h (by decide)) (fun _ => ?_)
          rcases hB : bstT (μ b 10) (μ b 12) (μ b 11) x i with _ | q
          · rw [hB, oI_none] at hl
            refine lv_iload_n hxe hcd dX7_store_21 rfl (lv_at hl 2 rfl) ?_
            refine lv_iconst (v := (-1)) hxe hcd dX7_store_22 (by decide) ?_
            refine lv_icmp_eq (tgt := 39) hxe hcd dX7_store_23 (by decide) (fun _ => ?_) (fun h => absurd (by decide) h)
            refine lv_iload_n hxe hcd dX7_store_39 rfl (lv_at hl 3 rfl) ?_
            refine lv_istore_n (lv' := [(2, .int (nI i)), (0, .ref (A (b, 9))), (1, .int x), (3, .int (nI i))]) hxe hcd dX7_store_40 rfl hl (by decide) rfl (fun ls hl => ?_)
            refine lv_iinc (v := (nI (i + 1))) (lv' := [(3, .int (nI (i + 1))), (2, .int (nI i)), (0, .ref (A (b, 9))), (1, .int x)]) hxe hcd dX7_store_41 hl (k := 3) rfl (nI_add i 1) (by decide) rfl (fun ls hl => ?_)
            refine lv_goto (tgt := 4) hxe hcd dX7_store_44 (by decide) ?_
            have hl : lv_has ls 4 [(3, .int (nI (i + 1))), (2, .int (oI (bstT (μ b 10) (μ b 12) (μ b 11) x (i + 1)))), (0, .ref (A (b, 9))), (1, .int x)] := by
              rw [bstT_none hp15 hB]
              exact lv_sub hl [0, 1, 2, 3] rfl
            exact ih4 (i + 1) (by omega) (by omega) _ _ _ hW (lv_sub hl [2, 3, 1, 0] rfl)
          · rw [hB, oI_some] at hl
            have hbq := bstT_lt hB
            refine lv_iload_n hxe hcd dX7_store_21 rfl (lv_at hl 2 rfl) ?_
            refine lv_iconst (v := (-1)) hxe hcd dX7_store_22 (by decide) ?_
            refine lv_icmp_eq (tgt := 39) hxe hcd dX7_store_23 (by decide) (fun c23 => absurd c23 (nI_m1 (by omega))) (fun c23 => ?_)
            refine lv_aload_n hxe hcd dX7_store_26 rfl (lv_at hl 0 rfl) ?_
            refine lv_iload_n hxe hcd dX7_store_27 rfl (lv_at hl 3 rfl) ?_
            refine r_calli0 (r_runV hZ S hW (As := [.int (nI i)]) (rest := []) (t_X7_roomOf l hZ A g μ H.size hb (q := i) (by omega)) k_X7_67 (r_recv hW (x := (b, 9)) (in_t hb (by decide) (by decide)) rfl rfl) (hl.1) rfl rfl (Nat.le_of_ble_eq_true rfl) ⟨Nat.le_of_ble_eq_true rfl, Nat.le_of_ble_eq_true rfl⟩ ⟨Nat.le_of_ble_eq_true rfl, Nat.le_of_ble_eq_true rfl⟩ dX7_store_28) hW (fun r28 H locs hp28 hW => ?_)
            have hp28 := hp28.symm
            subst hp28
            refine lv_aload_n hxe hcd dX7_store_31 rfl (lv_at hl 0 rfl) ?_
            refine lv_iload_n hxe hcd dX7_store_32 rfl (lv_at hl 2 rfl) ?_
            refine r_calli0 (r_runV hZ S hW (As := [.int (nI q)]) (rest := [.int (μ b 10 i - μ b 12 i)]) (t_X7_roomOf l hZ A g μ H.size hb (q := q) (by omega)) k_X7_67 (r_recv hW (x := (b, 9)) (in_t hb (by decide) (by decide)) rfl rfl) (hl.1) rfl rfl (Nat.le_of_ble_eq_true rfl) ⟨Nat.le_of_ble_eq_true rfl, Nat.le_of_ble_eq_true rfl⟩ ⟨Nat.le_of_ble_eq_true rfl, Nat.le_of_ble_eq_true rfl⟩ dX7_store_33) hW (fun r33 H locs hp33 hW => ?_)
            have hp33 := hp33.symm
            subst hp33
            refine lv_icmp_le (tgt := 41) hxe hcd dX7_store_36 (by decide) (fun c36 => ?_) (fun c36 => ?_)
            · refine lv_iinc (v := (nI (i + 1))) (lv' := [(3, .int (nI (i + 1))), (0, .ref (A (b, 9))), (1, .int x), (2, .int (nI q))]) hxe hcd dX7_store_41 hl (k := 3) rfl (nI_add i 1) (by decide) rfl (fun ls hl => ?_)
              refine lv_goto (tgt := 4) hxe hcd dX7_store_44 (by decide) ?_
              have hl : lv_has ls 4 [(3, .int (nI (i + 1))), (2, .int (oI (bstT (μ b 10) (μ b 12) (μ b 11) x (i + 1)))), (0, .ref (A (b, 9))), (1, .int x)] := by
                rw [bstT_less hp15 hB (I_nlt.mpr c36)]
                exact lv_sub hl [0, 3, 1, 2] rfl
              exact ih4 (i + 1) (by omega) (by omega) _ _ _ hW (lv_sub hl [2, 3, 1, 0] rfl)
            · refine lv_iload_n hxe hcd dX7_store_39 rfl (lv_at hl 3 rfl) ?_
              refine lv_istore_n (lv' := [(2, .int (nI i)), (0, .ref (A (b, 9))), (1, .int x), (3, .int (nI i))]) hxe hcd dX7_store_40 rfl hl (by decide) rfl (fun ls hl => ?_)
              refine lv_iinc (v := (nI (i + 1))) (lv' := [(3, .int (nI (i + 1))), (2, .int (nI i)), (0, .ref (A (b, 9))), (1, .int x)]) hxe hcd dX7_store_41 hl (k := 3) rfl (nI_add i 1) (by decide) rfl (fun ls hl => ?_)
              refine lv_goto (tgt := 4) hxe hcd dX7_store_44 (by decide) ?_
              have hl : lv_has ls 4 [(3, .int (nI (i + 1))), (2, .int (oI (bstT (μ b 10) (μ b 12) (μ b 11) x (i + 1)))), (0, .ref (A (b, 9))), (1, .int x)] := by
                rw [bstT_more hp15 hB (I_nle.mp c36)]
                exact lv_sub hl [0, 1, 2, 3] rfl
              exact ih4 (i + 1) (by omega) (by omega) _ _ _ hW (lv_sub hl [2, 3, 1, 0] rfl)
        · subst hp150
          refine lv_if_eq (tgt := 41) hxe hcd dX7_store_18 (by decide) (fun _ => ?_) (fun h => absurd (by decide) h)
          refine lv_iinc (v := (nI (i + 1))) (lv' := [(3, .int (nI (i + 1))), (0, .ref (A (b, 9))), (1, .int x), (2, .int (oI (bstT (μ b 10) (μ b 12) (μ b 11) x i)))]) hxe hcd dX7_store_41 hl (k := 3) rfl (nI_add i 1) (by decide) rfl (fun ls hl => ?_)
          refine lv_goto (tgt := 4) hxe hcd dX7_store_44 (by decide) ?_
          have hl : lv_has ls 4 [(3, .int (nI (i + 1))), (2, .int (oI (bstT (μ b 10) (μ b 12) (μ b 11) x (i + 1)))), (0, .ref (A (b, 9))), (1, .int x)] := by
            rw [bstT_no hp15]
            exact lv_sub hl [0, 3, 1, 2] rfl
          exact ih4 (i + 1) (by omega) (by omega) _ _ _ hW (lv_sub hl [2, 3, 1, 0] rfl)
  exact loop4 (nt + 1) 0 (Nat.lt_succ_self _) (Nat.zero_le _) _ _ _ hW (lv_sub hl [2, 3, 1, 0] rfl)
