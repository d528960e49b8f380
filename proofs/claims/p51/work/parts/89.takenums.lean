set_option maxHeartbeats 4000000 in
set_option maxRecDepth 100000 in
theorem t_X1_takeNumbers (l : Launch) {Z : ZT} (hZ : zOK Z) (A : Nat × Nat → Nat) (g : Nat → Bool) (μ : CM) (sz : Nat) {n : Nat} (hen : μ 0 22 1 = nI n) (hn60 : n ≤ 60) (t : Nat → Nat) (htx : ∀ j, j < n → μ 0 23 j = nI (t j) ∧ t j < 128) {pp : Nat} (hpp : μ 0 22 5 = nI pp) (hpn : pp ≤ n) {cN : Nat} (hcN : μ 0 22 4 = nI cN) (hc12 : cN < 12) {wd : WDT} (hw : ZW Z wd) {w : Nat} (hww : w < 12) : XMi l yX1_takeNumbers cX1_takeNumbers 4 (some .boolean) 4 [.ref (A (0, 22)), .ref (wd.2.1 w)] Z (ids g) A (cE Z A g) μ sz (fun r u => (∃ (q : Nat) (f : Nat → Int32), c1F t n w pp = (none, q) ∧ r = nI 0 ∧ u = TX μ (μ 0 24) f cN q) ∨ (∃ (q a1 a2 a3 a4 : Nat) (f : Nat → Int32), c1F t n w pp = (some (w, a1, a2, a3, a4), q) ∧ r = nI 1 ∧ u = TX μ (upd (μ 0 24) cN (nI (WS w))) f (cN + 1) q ∧ q ≤ n ∧ pp ≤ q ∧ a1 < 1000 ∧ a2 < 1000 ∧ a3 < 1000 ∧ a4 < 1000 ∧ CMJ u cN w a1 a2 a3 a4 ∧ ∀ k, k < cN * 4 → f k = μ 0 25 k)) := by
  refine r_met (E := (cE Z A g μ)) (by decide +kernel) (Nat.le_of_ble_eq_true rfl) ?_
  intro p e s m below meth c ls S hr hlk hnm hsz hW hl
  have hxe := S.1
  have hcd := S.2.1
  subst hsz
  have hl : lv_has ls 4 [(0, .ref (A (0, 22))), (1, .ref (wd.2.1 w))] := hl
  rcases (show w = 0 ∨ w = 1 ∨ w = 2 ∨ w = 3 ∨ w = 4 ∨ w = 5 ∨ w = 6 ∨ w = 7 ∨ w = 8 ∨ w = 9 ∨ w = 10 ∨ w = 11 by omega) with rfl | rfl | rfl | rfl | rfl | rfl | rfl | rfl | rfl | rfl | rfl | rfl
  · refine lv_iconst (v := (nI 0)) hxe hcd dX1_takeNumbers_0 (by decide) ?_
    refine lv_istore_n (lv' := [(2, .int (nI 0)), (0, .ref (A (0, 22))), (1, .ref (wd.2.1 0))]) hxe hcd dX1_takeNumbers_1 rfl hl (by decide) rfl (fun ls hl => ?_)
    refine lv_iload_n hxe hcd dX1_takeNumbers_2 rfl (lv_at hl 0 rfl) ?_
    refine lv_aload_n hxe hcd dX1_takeNumbers_3 rfl (lv_at hl 2 rfl) ?_
    refine r_getO S hW ((hw _ _ _ hW.2.2.2.2.2).2.2.2 0 (by decide)).2.1 g_1624 dX1_takeNumbers_4 ?_
    refine r_calli0 (r_runV hZ S hW (As := []) (rest := [.int (nI 0)]) (t_J0_length_8abf5 l hZ (ids g) A (cE Z A g μ) s.heap.size (fun A U H h => ((hw A U H h).2.2.2 0 (by first | decide | omega)).2.2.2.2) (fun A U H h => (hw A U H h).1) (by first | decide | omega)) k_X1_69 (va_Orecv ((hw _ _ _ hW.2.2.2.2.2).2.2.2 0 (by first | decide | omega)).2.2.2.2.1 hW.2.2.1) (hl.1) rfl rfl (Nat.le_of_ble_eq_true rfl) ⟨Nat.le_of_ble_eq_true rfl, Nat.le_of_ble_eq_true rfl⟩ ⟨Nat.le_of_ble_eq_true rfl, Nat.le_of_ble_eq_true rfl⟩ dX1_takeNumbers_7) hW (fun r7 H locs hp7 hW => ?_)
    have hp7 := hp7.symm
    subst hp7
    refine r_as (y := (nI 1)) (by decide) ?_
    refine lv_icmp_ge (tgt := 80) hxe hcd dX1_takeNumbers_10 (by decide) (fun h => absurd h (by decide)) (fun _ => ?_)
    refine lv_iload_n hxe hcd dX1_takeNumbers_13 rfl (lv_at hl 0 rfl) ?_
    refine lv_if_le (tgt := 28) hxe hcd dX1_takeNumbers_14 (by decide) (fun _ => ?_) (fun h => absurd (by decide) h)
    refine lv_aload_n hxe hcd dX1_takeNumbers_28 rfl (lv_at hl 1 rfl) ?_
    refine lv_aload_n hxe hcd dX1_takeNumbers_29 rfl (lv_at hl 2 rfl) ?_
    refine r_getO S hW ((hw _ _ _ hW.2.2.2.2.2).2.2.2 0 (by decide)).2.1 g_1624 dX1_takeNumbers_30 ?_
    refine lv_iload_n hxe hcd dX1_takeNumbers_33 rfl (lv_at hl 0 rfl) ?_
    refine r_calli0 (r_runV hZ S hW (As := [.int (nI 0)]) (rest := [.ref (A (0, 22))]) (t_J0_charAt_5068e l hZ (ids g) A (cE Z A g μ) H.size (i := 0) (f := fmC 0) (fun A U H h => ((hw A U H h).2.2.2 0 (by first | decide | omega)).2.2.2.2) (by first | decide | omega) (by first | decide | omega) (by first | decide | exact kc_lt _ _) (fun A U H h => (hw A U H h).1)) k_X1_84 (va_Orecv ((hw _ _ _ hW.2.2.2.2.2).2.2.2 0 (by first | decide | omega)).2.2.2.2.1 hW.2.2.1) (hl.1) rfl rfl (Nat.le_of_ble_eq_true rfl) ⟨Nat.le_of_ble_eq_true rfl, Nat.le_of_ble_eq_true rfl⟩ ⟨Nat.le_of_ble_eq_true rfl, Nat.le_of_ble_eq_true rfl⟩ dX1_takeNumbers_34) hW (fun r34 H locs hp34 hW => ?_)
    have hp34 := hp34.symm
    subst hp34
    refine r_as (y := (nI 110)) (by decide) ?_
    refine lv_bipush (v := (nI 100)) hxe hcd dX1_takeNumbers_37 (by decide) ?_
    refine lv_icmp_ne (tgt := 46) hxe hcd dX1_takeNumbers_39 (by decide) (fun _ => ?_) (fun h => absurd h (by decide))
    refine lv_iconst (v := (nI 3)) hxe hcd dX1_takeNumbers_46 (by decide) ?_
    refine r_calli (F := (cE Z A g)) (r_runV hZ S hW (As := [.int (nI 3)]) (rest := []) (t_X1_takeNumber l hZ A g μ H.size (mo := 3) (by omega) hen hn60 t htx (pp := pp) hpp (by omega)) k_X1_91 (r_recv hW (x := (0, 22)) (in_r (by decide) (by decide)) rfl rfl) (hl.1) rfl rfl (Nat.le_of_ble_eq_true rfl) ⟨Nat.le_of_ble_eq_true rfl, Nat.le_of_ble_eq_true rfl⟩ ⟨Nat.le_of_ble_eq_true rfl, Nat.le_of_ble_eq_true rfl⟩ dX1_takeNumbers_47) hW (fun r47 u47 H locs hp47 hW => ?_)
    obtain ⟨d47_0, hdg47_0, hp47, hu⟩ := hp47
    have hu := hu.trans (TX_q0 hcN _)
    subst hu
    rcases hp47 with ⟨hd047_0, rfl⟩ | ⟨hd047_0, rfl⟩
    · refine lv_istore_n (lv' := [(3, .int (-1)), (2, .int (nI 0)), (0, .ref (A (0, 22))), (1, .ref (wd.2.1 0))]) hxe hcd dX1_takeNumbers_50 rfl hl (by decide) rfl (fun ls hl => ?_)
      refine lv_iload_n hxe hcd dX1_takeNumbers_51 rfl (lv_at hl 0 rfl) ?_
      refine lv_iconst (v := (-1)) hxe hcd dX1_takeNumbers_52 (by decide) ?_
      refine lv_icmp_ne (tgt := 58) hxe hcd dX1_takeNumbers_53 (by decide) (fun h => absurd h (by decide)) (fun _ => ?_)
      refine lv_iconst (v := (nI 0)) hxe hcd dX1_takeNumbers_56 (by decide) ?_
      refine r_zret S hr hlk (F := (cE Z A g)) (u := (TX μ (μ 0 24) (μ 0 25) cN (pp + d47_0))) hW (by decide +kernel) ?_ dX1_takeNumbers_57
      exact Or.inl ⟨_, (μ 0 25), (c1_0 (by decide) (if_pos (by decide)) hdg47_0 hd047_0), rfl, by rw [hd047_0, Nat.add_zero]⟩
    · have hdi47_0 := DG_in (fun j hj => (htx j hj).2) (by omega) hdg47_0
      have hdv47_0 := DG_v (fun j hj => (htx j hj).2) (by decide) hdg47_0
      refine lv_istore_n (lv' := [(3, .int (nI (dvN t pp d47_0))), (2, .int (nI 0)), (0, .ref (A (0, 22))), (1, .ref (wd.2.1 0))]) hxe hcd dX1_takeNumbers_50 rfl hl (by decide) rfl (fun ls hl => ?_)
      refine lv_iload_n hxe hcd dX1_takeNumbers_51 rfl (lv_at hl 0 rfl) ?_
      refine lv_iconst (v := (-1)) hxe hcd dX1_takeNumbers_52 (by decide) ?_
      refine lv_icmp_ne (tgt := 58) hxe hcd dX1_takeNumbers_53 (by decide) (fun c53 => ?_) (fun c53 => absurd c53 (nI_m1 (by omega)))
      refine lv_aload_n hxe hcd dX1_takeNumbers_58 rfl (lv_at hl 2 rfl) ?_
      refine gf_X1_22 S hW dX1_takeNumbers_59 ?_
      refine lv_aload_n hxe hcd dX1_takeNumbers_62 rfl (lv_at hl 2 rfl) ?_
      refine gf_X1_25 S hW dX1_takeNumbers_63 ?_
      refine r_as (y := (nI cN)) (TX_c _ _ _ _ _) ?_
      refine lv_iconst (v := (nI 4)) hxe hcd dX1_takeNumbers_66 (by decide) ?_
      refine n_imul S (a := cN) (b := 4) dX1_takeNumbers_67 ?_
      refine lv_iload_n hxe hcd dX1_takeNumbers_68 rfl (lv_at hl 1 rfl) ?_
      refine n_iadd S (a := (cN * 4)) (b := 0) dX1_takeNumbers_69 ?_
      refine lv_iload_n hxe hcd dX1_takeNumbers_70 rfl (lv_at hl 0 rfl) ?_
      refine r_callv (F := (cE Z A g)) (r_runSN hZ S hW (As := [.ref (A (0, 25)), .int (nI ((cN * 4) + 0)), .int (nI (dvN t pp d47_0))]) (rest := []) (t_X9_write l hZ A g (TX μ (μ 0 24) (μ 0 25) cN (pp + d47_0)) H.size (b := 0) (o := 25) (n := 48) rfl (in_r (by decide) (by decide)) (nI ((cN * 4) + 0)) (nI (dvN t pp d47_0))) k_X1_35 (hl.1) rfl rfl (Nat.le_of_ble_eq_true rfl) ⟨Nat.le_of_ble_eq_true rfl, Nat.le_of_ble_eq_true rfl⟩ ⟨Nat.le_of_ble_eq_true rfl, Nat.le_of_ble_eq_true rfl⟩ dX1_takeNumbers_71) hW (fun u71 H locs hp71 hW => ?_)
      have hp71 : u71 = TX μ (μ 0 24) (upd (μ 0 25) ((cN * 4) + 0) (nI (dvN t pp d47_0))) cN (pp + d47_0) := by rw [hp71, TX_w25, TX_25, wr_in (n := 48) (k := ((cN * 4) + 0)) _ _ (by omega) (by decide)]
      subst hp71
      refine lv_iinc (v := (nI 1)) (lv' := [(2, .int (nI 1)), (3, .int (nI (dvN t pp d47_0))), (0, .ref (A (0, 22))), (1, .ref (wd.2.1 0))]) hxe hcd dX1_takeNumbers_74 hl (k := 1) rfl (nI_add 0 1) (by decide) rfl (fun ls hl => ?_)
      refine lv_goto (tgt := 2) hxe hcd dX1_takeNumbers_77 (by decide) ?_
      refine lv_iload_n hxe hcd dX1_takeNumbers_2 rfl (lv_at hl 0 rfl) ?_
      refine lv_aload_n hxe hcd dX1_takeNumbers_3 rfl (lv_at hl 3 rfl) ?_
      refine r_getO S hW ((hw _ _ _ hW.2.2.2.2.2).2.2.2 0 (by decide)).2.1 g_1624 dX1_takeNumbers_4 ?_
      refine r_calli0 (r_runV hZ S hW (As := []) (rest := [.int (nI 1)]) (t_J0_length_8abf5 l hZ (ids g) A (cE Z A g (TX μ (μ 0 24) (upd (μ 0 25) ((cN * 4) + 0) (nI (dvN t pp d47_0))) cN (pp + d47_0))) H.size (fun A U H h => ((hw A U H h).2.2.2 0 (by first | decide | omega)).2.2.2.2) (fun A U H h => (hw A U H h).1) (by first | decide | omega)) k_X1_69 (va_Orecv ((hw _ _ _ hW.2.2.2.2.2).2.2.2 0 (by first | decide | omega)).2.2.2.2.1 hW.2.2.1) (hl.1) rfl rfl (Nat.le_of_ble_eq_true rfl) ⟨Nat.le_of_ble_eq_true rfl, Nat.le_of_ble_eq_true rfl⟩ ⟨Nat.le_of_ble_eq_true rfl, Nat.le_of_ble_eq_true rfl⟩ dX1_takeNumbers_7) hW (fun r7 H locs hp7 hW => ?_)
      have hp7 := hp7.symm
      subst hp7
      refine r_as (y := (nI 1)) (by decide) ?_
      refine lv_icmp_ge (tgt := 80) hxe hcd dX1_takeNumbers_10 (by decide) (fun _ => ?_) (fun h => absurd (by decide) h)
      refine lv_aload_n hxe hcd dX1_takeNumbers_80 rfl (lv_at hl 3 rfl) ?_
      refine r_getO S hW ((hw _ _ _ hW.2.2.2.2.2).2.2.2 0 (by decide)).2.1 g_1624 dX1_takeNumbers_81 ?_
      refine r_calli0 (r_runV hZ S hW (As := []) (rest := []) (t_J0_isEmpty_aae02 l hZ (ids g) A (cE Z A g (TX μ (μ 0 24) (upd (μ 0 25) ((cN * 4) + 0) (nI (dvN t pp d47_0))) cN (pp + d47_0))) H.size (fun A U H h => ((hw A U H h).2.2.2 0 (by first | decide | omega)).2.2.2.2) (fun A U H h => (hw A U H h).1) (by first | decide | omega)) k_X1_94 (va_Orecv ((hw _ _ _ hW.2.2.2.2.2).2.2.2 0 (by first | decide | omega)).2.2.2.2.1 hW.2.2.1) (hl.1) rfl rfl (Nat.le_of_ble_eq_true rfl) ⟨Nat.le_of_ble_eq_true rfl, Nat.le_of_ble_eq_true rfl⟩ ⟨Nat.le_of_ble_eq_true rfl, Nat.le_of_ble_eq_true rfl⟩ dX1_takeNumbers_84) hW (fun r84 H locs hp84 hW => ?_)
      rcases hp84 with ⟨hp840, hp84⟩ | ⟨hp840, hp84⟩
      · exact absurd hp84 (show ¬ fmN 0 = 0 from by decide)
      · subst hp840
        refine lv_if_eq (tgt := 104) hxe hcd dX1_takeNumbers_87 (by decide) (fun _ => ?_) (fun h => absurd (by decide) h)
        refine lv_aload_n hxe hcd dX1_takeNumbers_104 rfl (lv_at hl 2 rfl) ?_
        refine gf_X1_19 S hW dX1_takeNumbers_105 ?_
        refine lv_aload_n hxe hcd dX1_takeNumbers_108 rfl (lv_at hl 2 rfl) ?_
        refine gf_X1_25 S hW dX1_takeNumbers_109 ?_
        refine r_as (y := (nI cN)) (TX_c _ _ _ _ _) ?_
        refine lv_aload_n hxe hcd dX1_takeNumbers_112 rfl (lv_at hl 3 rfl) ?_
        refine r_getO S hW ((hw _ _ _ hW.2.2.2.2.2).2.2.2 0 (by decide)).2.2.1 g_1625 dX1_takeNumbers_113 ?_
        refine r_callv (F := (cE Z A g)) (r_runSN hZ S hW (As := [.ref (A (0, 24)), .int (nI cN), .int (nI (WS 0))]) (rest := []) (t_X9_write l hZ A g (TX μ (μ 0 24) (upd (μ 0 25) ((cN * 4) + 0) (nI (dvN t pp d47_0))) cN (pp + d47_0)) H.size (b := 0) (o := 24) (n := 12) rfl (in_r (by decide) (by decide)) (nI cN) (nI (WS 0))) k_X1_35 (hl.1) rfl rfl (Nat.le_of_ble_eq_true rfl) ⟨Nat.le_of_ble_eq_true rfl, Nat.le_of_ble_eq_true rfl⟩ ⟨Nat.le_of_ble_eq_true rfl, Nat.le_of_ble_eq_true rfl⟩ dX1_takeNumbers_116) hW (fun u116 H locs hp116 hW => ?_)
        have hp116 : u116 = TX μ (upd (μ 0 24) cN (nI (WS 0))) (upd (μ 0 25) ((cN * 4) + 0) (nI (dvN t pp d47_0))) cN (pp + d47_0) := by rw [hp116, TX_w24, TX_24, wr_in (n := 12) (k := cN) _ _ (by omega) (by decide)]
        subst hp116
        refine lv_aload_n hxe hcd dX1_takeNumbers_119 rfl (lv_at hl 2 rfl) ?_
        refine lv_dup hxe hcd dX1_takeNumbers_120 rfl ?_
        refine gf_X1_25 S hW dX1_takeNumbers_121 ?_
        refine r_as (y := (nI cN)) (TX_c _ _ _ _ _) ?_
        refine lv_iconst (v := (nI 1)) hxe hcd dX1_takeNumbers_124 (by decide) ?_
        refine n_iadd S (a := cN) (b := 1) dX1_takeNumbers_125 ?_
        refine gp_X1_25 S hW dX1_takeNumbers_126 (fun H locs hW => ?_)
        rw [TX_wc] at hW
        refine lv_iconst (v := (nI 1)) hxe hcd dX1_takeNumbers_129 (by decide) ?_
        refine r_zret S hr hlk (F := (cE Z A g)) (u := (TX μ (upd (μ 0 24) cN (nI (WS 0))) (upd (μ 0 25) ((cN * 4) + 0) (nI (dvN t pp d47_0))) (cN + 1) (pp + d47_0))) hW (by decide +kernel) ?_ dX1_takeNumbers_130
        refine Or.inr ⟨_, _, _, _, _, _, (c1_d (by decide) (if_pos (by decide)) hdg47_0 hd047_0 (rs_o (by decide) (by decide) (by decide))), rfl, rfl, by omega, by omega, by omega, by omega, by omega, by omega, ⟨?_, ?_, ?_, ?_⟩, fun k hk => ?_⟩
        · rw [TX_24, upd_s]
        · rw [TX_25]; simp [upd_rd]
        · intro hx; exact absurd hx (by decide)
        · intro hx; exact absurd hx (by decide)
        · rw [upd_o (by omega)]
  · refine lv_iconst (v := (nI 0)) hxe hcd dX1_takeNumbers_0 (by decide) ?_
    refine lv_istore_n (lv' := [(2, .int (nI 0)), (0, .ref (A (0, 22))), (1, .ref (wd.2.1 1))]) hxe hcd dX1_takeNumbers_1 rfl hl (by decide) rfl (fun ls hl => ?_)
    refine lv_iload_n hxe hcd dX1_takeNumbers_2 rfl (lv_at hl 0 rfl) ?_
    refine lv_aload_n hxe hcd dX1_takeNumbers_3 rfl (lv_at hl 2 rfl) ?_
    refine r_getO S hW ((hw _ _ _ hW.2.2.2.2.2).2.2.2 1 (by decide)).2.1 g_1624 dX1_takeNumbers_4 ?_
    refine r_calli0 (r_runV hZ S hW (As := []) (rest := [.int (nI 0)]) (t_J0_length_8abf5 l hZ (ids g) A (cE Z A g μ) s.heap.size (fun A U H h => ((hw A U H h).2.2.2 1 (by first | decide | omega)).2.2.2.2) (fun A U H h => (hw A U H h).1) (by first | decide | omega)) k_X1_69 (va_Orecv ((hw _ _ _ hW.2.2.2.2.2).2.2.2 1 (by first | decide | omega)).2.2.2.2.1 hW.2.2.1) (hl.1) rfl rfl (Nat.le_of_ble_eq_true rfl) ⟨Nat.le_of_ble_eq_true rfl, Nat.le_of_ble_eq_true rfl⟩ ⟨Nat.le_of_ble_eq_true rfl, Nat.le_of_ble_eq_true rfl⟩ dX1_takeNumbers_7) hW (fun r7 H locs hp7 hW => ?_)
    have hp7 := hp7.symm
    subst hp7
    refine r_as (y := (nI 1)) (by decide) ?_
    refine lv_icmp_ge (tgt := 80) hxe hcd dX1_takeNumbers_10 (by decide) (fun h => absurd h (by decide)) (fun _ => ?_)
    refine lv_iload_n hxe hcd dX1_takeNumbers_13 rfl (lv_at hl 0 rfl) ?_
    refine lv_if_le (tgt := 28) hxe hcd dX1_takeNumbers_14 (by decide) (fun _ => ?_) (fun h => absurd (by decide) h)
    refine lv_aload_n hxe hcd dX1_takeNumbers_28 rfl (lv_at hl 1 rfl) ?_
    refine lv_aload_n hxe hcd dX1_takeNumbers_29 rfl (lv_at hl 2 rfl) ?_
    refine r_getO S hW ((hw _ _ _ hW.2.2.2.2.2).2.2.2 1 (by decide)).2.1 g_1624 dX1_takeNumbers_30 ?_
    refine lv_iload_n hxe hcd dX1_takeNumbers_33 rfl (lv_at hl 0 rfl) ?_
    refine r_calli0 (r_runV hZ S hW (As := [.int (nI 0)]) (rest := [.ref (A (0, 22))]) (t_J0_charAt_5068e l hZ (ids g) A (cE Z A g μ) H.size (i := 0) (f := fmC 1) (fun A U H h => ((hw A U H h).2.2.2 1 (by first | decide | omega)).2.2.2.2) (by first | decide | omega) (by first | decide | omega) (by first | decide | exact kc_lt _ _) (fun A U H h => (hw A U H h).1)) k_X1_84 (va_Orecv ((hw _ _ _ hW.2.2.2.2.2).2.2.2 1 (by first | decide | omega)).2.2.2.2.1 hW.2.2.1) (hl.1) rfl rfl (Nat.le_of_ble_eq_true rfl) ⟨Nat.le_of_ble_eq_true rfl, Nat.le_of_ble_eq_true rfl⟩ ⟨Nat.le_of_ble_eq_true rfl, Nat.le_of_ble_eq_true rfl⟩ dX1_takeNumbers_34) hW (fun r34 H locs hp34 hW => ?_)
    have hp34 := hp34.symm
    subst hp34
    refine r_as (y := (nI 110)) (by decide) ?_
    refine lv_bipush (v := (nI 100)) hxe hcd dX1_takeNumbers_37 (by decide) ?_
    refine lv_icmp_ne (tgt := 46) hxe hcd dX1_takeNumbers_39 (by decide) (fun _ => ?_) (fun h => absurd h (by decide))
    refine lv_iconst (v := (nI 3)) hxe hcd dX1_takeNumbers_46 (by decide) ?_
    refine r_calli (F := (cE Z A g)) (r_runV hZ S hW (As := [.int (nI 3)]) (rest := []) (t_X1_takeNumber l hZ A g μ H.size (mo := 3) (by omega) hen hn60 t htx (pp := pp) hpp (by omega)) k_X1_91 (r_recv hW (x := (0, 22)) (in_r (by decide) (by decide)) rfl rfl) (hl.1) rfl rfl (Nat.le_of_ble_eq_true rfl) ⟨Nat.le_of_ble_eq_true rfl, Nat.le_of_ble_eq_true rfl⟩ ⟨Nat.le_of_ble_eq_true rfl, Nat.le_of_ble_eq_true rfl⟩ dX1_takeNumbers_47) hW (fun r47 u47 H locs hp47 hW => ?_)
    obtain ⟨d47_0, hdg47_0, hp47, hu⟩ := hp47
    have hu := hu.trans (TX_q0 hcN _)
    subst hu
    rcases hp47 with ⟨hd047_0, rfl⟩ | ⟨hd047_0, rfl⟩
    · refine lv_istore_n (lv' := [(3, .int (-1)), (2, .int (nI 0)), (0, .ref (A (0, 22))), (1, .ref (wd.2.1 1))]) hxe hcd dX1_takeNumbers_50 rfl hl (by decide) rfl (fun ls hl => ?_)
      refine lv_iload_n hxe hcd dX1_takeNumbers_51 rfl (lv_at hl 0 rfl) ?_
      refine lv_iconst (v := (-1)) hxe hcd dX1_takeNumbers_52 (by decide) ?_
      refine lv_icmp_ne (tgt := 58) hxe hcd dX1_takeNumbers_53 (by decide) (fun h => absurd h (by decide)) (fun _ => ?_)
      refine lv_iconst (v := (nI 0)) hxe hcd dX1_takeNumbers_56 (by decide) ?_
      refine r_zret S hr hlk (F := (cE Z A g)) (u := (TX μ (μ 0 24) (μ 0 25) cN (pp + d47_0))) hW (by decide +kernel) ?_ dX1_takeNumbers_57
      exact Or.inl ⟨_, (μ 0 25), (c1_0 (by decide) (if_pos (by decide)) hdg47_0 hd047_0), rfl, by rw [hd047_0, Nat.add_zero]⟩
    · have hdi47_0 := DG_in (fun j hj => (htx j hj).2) (by omega) hdg47_0
      have hdv47_0 := DG_v (fun j hj => (htx j hj).2) (by decide) hdg47_0
      refine lv_istore_n (lv' := [(3, .int (nI (dvN t pp d47_0))), (2, .int (nI 0)), (0, .ref (A (0, 22))), (1, .ref (wd.2.1 1))]) hxe hcd dX1_takeNumbers_50 rfl hl (by decide) rfl (fun ls hl => ?_)
      refine lv_iload_n hxe hcd dX1_takeNumbers_51 rfl (lv_at hl 0 rfl) ?_
      refine lv_iconst (v := (-1)) hxe hcd dX1_takeNumbers_52 (by decide) ?_
      refine lv_icmp_ne (tgt := 58) hxe hcd dX1_takeNumbers_53 (by decide) (fun c53 => ?_) (fun c53 => absurd c53 (nI_m1 (by omega)))
      refine lv_aload_n hxe hcd dX1_takeNumbers_58 rfl (lv_at hl 2 rfl) ?_
      refine gf_X1_22 S hW dX1_takeNumbers_59 ?_
      refine lv_aload_n hxe hcd dX1_takeNumbers_62 rfl (lv_at hl 2 rfl) ?_
      refine gf_X1_25 S hW dX1_takeNumbers_63 ?_
      refine r_as (y := (nI cN)) (TX_c _ _ _ _ _) ?_
      refine lv_iconst (v := (nI 4)) hxe hcd dX1_takeNumbers_66 (by decide) ?_
      refine n_imul S (a := cN) (b := 4) dX1_takeNumbers_67 ?_
      refine lv_iload_n hxe hcd dX1_takeNumbers_68 rfl (lv_at hl 1 rfl) ?_
      refine n_iadd S (a := (cN * 4)) (b := 0) dX1_takeNumbers_69 ?_
      refine lv_iload_n hxe hcd dX1_takeNumbers_70 rfl (lv_at hl 0 rfl) ?_
      refine r_callv (F := (cE Z A g)) (r_runSN hZ S hW (As := [.ref (A (0, 25)), .int (nI ((cN * 4) + 0)), .int (nI (dvN t pp d47_0))]) (rest := []) (t_X9_write l hZ A g (TX μ (μ 0 24) (μ 0 25) cN (pp + d47_0)) H.size (b := 0) (o := 25) (n := 48) rfl (in_r (by decide) (by decide)) (nI ((cN * 4) + 0)) (nI (dvN t pp d47_0))) k_X1_35 (hl.1) rfl rfl (Nat.le_of_ble_eq_true rfl) ⟨Nat.le_of_ble_eq_true rfl, Nat.le_of_ble_eq_true rfl⟩ ⟨Nat.le_of_ble_eq_true rfl, Nat.le_of_ble_eq_true rfl⟩ dX1_takeNumbers_71) hW (fun u71 H locs hp71 hW => ?_)
      have hp71 : u71 = TX μ (μ 0 24) (upd (μ 0 25) ((cN * 4) + 0) (nI (dvN t pp d47_0))) cN (pp + d47_0) := by rw [hp71, TX_w25, TX_25, wr_in (n := 48) (k := ((cN * 4) + 0)) _ _ (by omega) (by decide)]
      subst hp71
      refine lv_iinc (v := (nI 1)) (lv' := [(2, .int (nI 1)), (3, .int (nI (dvN t pp d47_0))), (0, .ref (A (0, 22))), (1, .ref (wd.2.1 1))]) hxe hcd dX1_takeNumbers_74 hl (k := 1) rfl (nI_add 0 1) (by decide) rfl (fun ls hl => ?_)
      refine lv_goto (tgt := 2) hxe hcd dX1_takeNumbers_77 (by decide) ?_
      refine lv_iload_n hxe hcd dX1_takeNumbers_2 rfl (lv_at hl 0 rfl) ?_
      refine lv_aload_n hxe hcd dX1_takeNumbers_3 rfl (lv_at hl 3 rfl) ?_
      refine r_getO S hW ((hw _ _ _ hW.2.2.2.2.2).2.2.2 1 (by decide)).2.1 g_1624 dX1_takeNumbers_4 ?_
      refine r_calli0 (r_runV hZ S hW (As := []) (rest := [.int (nI 1)]) (t_J0_length_8abf5 l hZ (ids g) A (cE Z A g (TX μ (μ 0 24) (upd (μ 0 25) ((cN * 4) + 0) (nI (dvN t pp d47_0))) cN (pp + d47_0))) H.size (fun A U H h => ((hw A U H h).2.2.2 1 (by first | decide | omega)).2.2.2.2) (fun A U H h => (hw A U H h).1) (by first | decide | omega)) k_X1_69 (va_Orecv ((hw _ _ _ hW.2.2.2.2.2).2.2.2 1 (by first | decide | omega)).2.2.2.2.1 hW.2.2.1) (hl.1) rfl rfl (Nat.le_of_ble_eq_true rfl) ⟨Nat.le_of_ble_eq_true rfl, Nat.le_of_ble_eq_true rfl⟩ ⟨Nat.le_of_ble_eq_true rfl, Nat.le_of_ble_eq_true rfl⟩ dX1_takeNumbers_7) hW (fun r7 H locs hp7 hW => ?_)
      have hp7 := hp7.symm
      subst hp7
      refine r_as (y := (nI 1)) (by decide) ?_
      refine lv_icmp_ge (tgt := 80) hxe hcd dX1_takeNumbers_10 (by decide) (fun _ => ?_) (fun h => absurd (by decide) h)
      refine lv_aload_n hxe hcd dX1_takeNumbers_80 rfl (lv_at hl 3 rfl) ?_
      refine r_getO S hW ((hw _ _ _ hW.2.2.2.2.2).2.2.2 1 (by decide)).2.1 g_1624 dX1_takeNumbers_81 ?_
      refine r_calli0 (r_runV hZ S hW (As := []) (rest := []) (t_J0_isEmpty_aae02 l hZ (ids g) A (cE Z A g (TX μ (μ 0 24) (upd (μ 0 25) ((cN * 4) + 0) (nI (dvN t pp d47_0))) cN (pp + d47_0))) H.size (fun A U H h => ((hw A U H h).2.2.2 1 (by first | decide | omega)).2.2.2.2) (fun A U H h => (hw A U H h).1) (by first | decide | omega)) k_X1_94 (va_Orecv ((hw _ _ _ hW.2.2.2.2.2).2.2.2 1 (by first | decide | omega)).2.2.2.2.1 hW.2.2.1) (hl.1) rfl rfl (Nat.le_of_ble_eq_true rfl) ⟨Nat.le_of_ble_eq_true rfl, Nat.le_of_ble_eq_true rfl⟩ ⟨Nat.le_of_ble_eq_true rfl, Nat.le_of_ble_eq_true rfl⟩ dX1_takeNumbers_84) hW (fun r84 H locs hp84 hW => ?_)
      rcases hp84 with ⟨hp840, hp84⟩ | ⟨hp840, hp84⟩
      · exact absurd hp84 (show ¬ fmN 1 = 0 from by decide)
      · subst hp840
        refine lv_if_eq (tgt := 104) hxe hcd dX1_takeNumbers_87 (by decide) (fun _ => ?_) (fun h => absurd (by decide) h)
        refine lv_aload_n hxe hcd dX1_takeNumbers_104 rfl (lv_at hl 2 rfl) ?_
        refine gf_X1_19 S hW dX1_takeNumbers_105 ?_
        refine lv_aload_n hxe hcd dX1_takeNumbers_108 rfl (lv_at hl 2 rfl) ?_
        refine gf_X1_25 S hW dX1_takeNumbers_109 ?_
        refine r_as (y := (nI cN)) (TX_c _ _ _ _ _) ?_
        refine lv_aload_n hxe hcd dX1_takeNumbers_112 rfl (lv_at hl 3 rfl) ?_
        refine r_getO S hW ((hw _ _ _ hW.2.2.2.2.2).2.2.2 1 (by decide)).2.2.1 g_1625 dX1_takeNumbers_113 ?_
        refine r_callv (F := (cE Z A g)) (r_runSN hZ S hW (As := [.ref (A (0, 24)), .int (nI cN), .int (nI (WS 1))]) (rest := []) (t_X9_write l hZ A g (TX μ (μ 0 24) (upd (μ 0 25) ((cN * 4) + 0) (nI (dvN t pp d47_0))) cN (pp + d47_0)) H.size (b := 0) (o := 24) (n := 12) rfl (in_r (by decide) (by decide)) (nI cN) (nI (WS 1))) k_X1_35 (hl.1) rfl rfl (Nat.le_of_ble_eq_true rfl) ⟨Nat.le_of_ble_eq_true rfl, Nat.le_of_ble_eq_true rfl⟩ ⟨Nat.le_of_ble_eq_true rfl, Nat.le_of_ble_eq_true rfl⟩ dX1_takeNumbers_116) hW (fun u116 H locs hp116 hW => ?_)
        have hp116 : u116 = TX μ (upd (μ 0 24) cN (nI (WS 1))) (upd (μ 0 25) ((cN * 4) + 0) (nI (dvN t pp d47_0))) cN (pp + d47_0) := by rw [hp116, TX_w24, TX_24, wr_in (n := 12) (k := cN) _ _ (by omega) (by decide)]
        subst hp116
        refine lv_aload_n hxe hcd dX1_takeNumbers_119 rfl (lv_at hl 2 rfl) ?_
        refine lv_dup hxe hcd dX1_takeNumbers_120 rfl ?_
        refine gf_X1_25 S hW dX1_takeNumbers_121 ?_
        refine r_as (y := (nI cN)) (TX_c _ _ _ _ _) ?_
        refine lv_iconst (v := (nI 1)) hxe hcd dX1_takeNumbers_124 (by decide) ?_
        refine n_iadd S (a := cN) (b := 1) dX1_takeNumbers_125 ?_
        refine gp_X1_25 S hW dX1_takeNumbers_126 (fun H locs hW => ?_)
        rw [TX_wc] at hW
        refine lv_iconst (v := (nI 1)) hxe hcd dX1_takeNumbers_129 (by decide) ?_
        refine r_zret S hr hlk (F := (cE Z A g)) (u := (TX μ (upd (μ 0 24) cN (nI (WS 1))) (upd (μ 0 25) ((cN * 4) + 0) (nI (dvN t pp d47_0))) (cN + 1) (pp + d47_0))) hW (by decide +kernel) ?_ dX1_takeNumbers_130
        refine Or.inr ⟨_, _, _, _, _, _, (c1_d (by decide) (if_pos (by decide)) hdg47_0 hd047_0 (rs_o (by decide) (by decide) (by decide))), rfl, rfl, by omega, by omega, by omega, by omega, by omega, by omega, ⟨?_, ?_, ?_, ?_⟩, fun k hk => ?_⟩
        · rw [TX_24, upd_s]
        · rw [TX_25]; simp [upd_rd]
        · intro hx; exact absurd hx (by decide)
        · intro hx; exact absurd hx (by decide)
        · rw [upd_o (by omega)]
  · refine lv_iconst (v := (nI 0)) hxe hcd dX1_takeNumbers_0 (by decide) ?_
    refine lv_istore_n (lv' := [(2, .int (nI 0)), (0, .ref (A (0, 22))), (1, .ref (wd.2.1 2))]) hxe hcd dX1_takeNumbers_1 rfl hl (by decide) rfl (fun ls hl => ?_)
    refine lv_iload_n hxe hcd dX1_takeNumbers_2 rfl (lv_at hl 0 rfl) ?_
    refine lv_aload_n hxe hcd dX1_takeNumbers_3 rfl (lv_at hl 2 rfl) ?_
    refine r_getO S hW ((hw _ _ _ hW.2.2.2.2.2).2.2.2 2 (by decide)).2.1 g_1624 dX1_takeNumbers_4 ?_
    refine r_calli0 (r_runV hZ S hW (As := []) (rest := [.int (nI 0)]) (t_J0_length_8abf5 l hZ (ids g) A (cE Z A g μ) s.heap.size (fun A U H h => ((hw A U H h).2.2.2 2 (by first | decide | omega)).2.2.2.2) (fun A U H h => (hw A U H h).1) (by first | decide | omega)) k_X1_69 (va_Orecv ((hw _ _ _ hW.2.2.2.2.2).2.2.2 2 (by first | decide | omega)).2.2.2.2.1 hW.2.2.1) (hl.1) rfl rfl (Nat.le_of_ble_eq_true rfl) ⟨Nat.le_of_ble_eq_true rfl, Nat.le_of_ble_eq_true rfl⟩ ⟨Nat.le_of_ble_eq_true rfl, Nat.le_of_ble_eq_true rfl⟩ dX1_takeNumbers_7) hW (fun r7 H locs hp7 hW => ?_)
    have hp7 := hp7.symm
    subst hp7
    refine r_as (y := (nI 1)) (by decide) ?_
    refine lv_icmp_ge (tgt := 80) hxe hcd dX1_takeNumbers_10 (by decide) (fun h => absurd h (by decide)) (fun _ => ?_)
    refine lv_iload_n hxe hcd dX1_takeNumbers_13 rfl (lv_at hl 0 rfl) ?_
    refine lv_if_le (tgt := 28) hxe hcd dX1_takeNumbers_14 (by decide) (fun _ => ?_) (fun h => absurd (by decide) h)
    refine lv_aload_n hxe hcd dX1_takeNumbers_28 rfl (lv_at hl 1 rfl) ?_
    refine lv_aload_n hxe hcd dX1_takeNumbers_29 rfl (lv_at hl 2 rfl) ?_
    refine r_getO S hW ((hw _ _ _ hW.2.2.2.2.2).2.2.2 2 (by decide)).2.1 g_1624 dX1_takeNumbers_30 ?_
    refine lv_iload_n hxe hcd dX1_takeNumbers_33 rfl (lv_at hl 0 rfl) ?_
    refine r_calli0 (r_runV hZ S hW (As := [.int (nI 0)]) (rest := [.ref (A (0, 22))]) (t_J0_charAt_5068e l hZ (ids g) A (cE Z A g μ) H.size (i := 0) (f := fmC 2) (fun A U H h => ((hw A U H h).2.2.2 2 (by first | decide | omega)).2.2.2.2) (by first | decide | omega) (by first | decide | omega) (by first | decide | exact kc_lt _ _) (fun A U H h => (hw A U H h).1)) k_X1_84 (va_Orecv ((hw _ _ _ hW.2.2.2.2.2).2.2.2 2 (by first | decide | omega)).2.2.2.2.1 hW.2.2.1) (hl.1) rfl rfl (Nat.le_of_ble_eq_true rfl) ⟨Nat.le_of_ble_eq_true rfl, Nat.le_of_ble_eq_true rfl⟩ ⟨Nat.le_of_ble_eq_true rfl, Nat.le_of_ble_eq_true rfl⟩ dX1_takeNumbers_34) hW (fun r34 H locs hp34 hW => ?_)
    have hp34 := hp34.symm
    subst hp34
    refine r_as (y := (nI 110)) (by decide) ?_
    refine lv_bipush (v := (nI 100)) hxe hcd dX1_takeNumbers_37 (by decide) ?_
    refine lv_icmp_ne (tgt := 46) hxe hcd dX1_takeNumbers_39 (by decide) (fun _ => ?_) (fun h => absurd h (by decide))
    refine lv_iconst (v := (nI 3)) hxe hcd dX1_takeNumbers_46 (by decide) ?_
    refine r_calli (F := (cE Z A g)) (r_runV hZ S hW (As := [.int (nI 3)]) (rest := []) (t_X1_takeNumber l hZ A g μ H.size (mo := 3) (by omega) hen hn60 t htx (pp := pp) hpp (by omega)) k_X1_91 (r_recv hW (x := (0, 22)) (in_r (by decide) (by decide)) rfl rfl) (hl.1) rfl rfl (Nat.le_of_ble_eq_true rfl) ⟨Nat.le_of_ble_eq_true rfl, Nat.le_of_ble_eq_true rfl⟩ ⟨Nat.le_of_ble_eq_true rfl, Nat.le_of_ble_eq_true rfl⟩ dX1_takeNumbers_47) hW (fun r47 u47 H locs hp47 hW => ?_)
    obtain ⟨d47_0, hdg47_0, hp47, hu⟩ := hp47
    have hu := hu.trans (TX_q0 hcN _)
    subst hu
    rcases hp47 with ⟨hd047_0, rfl⟩ | ⟨hd047_0, rfl⟩
    · refine lv_istore_n (lv' := [(3, .int (-1)), (2, .int (nI 0)), (0, .ref (A (0, 22))), (1, .ref (wd.2.1 2))]) hxe hcd dX1_takeNumbers_50 rfl hl (by decide) rfl (fun ls hl => ?_)
      refine lv_iload_n hxe hcd dX1_takeNumbers_51 rfl (lv_at hl 0 rfl) ?_
      refine lv_iconst (v := (-1)) hxe hcd dX1_takeNumbers_52 (by decide) ?_
      refine lv_icmp_ne (tgt := 58) hxe hcd dX1_takeNumbers_53 (by decide) (fun h => absurd h (by decide)) (fun _ => ?_)
      refine lv_iconst (v := (nI 0)) hxe hcd dX1_takeNumbers_56 (by decide) ?_
      refine r_zret S hr hlk (F := (cE Z A g)) (u := (TX μ (μ 0 24) (μ 0 25) cN (pp + d47_0))) hW (by decide +kernel) ?_ dX1_takeNumbers_57
      exact Or.inl ⟨_, (μ 0 25), (c1_0 (by decide) (if_pos (by decide)) hdg47_0 hd047_0), rfl, by rw [hd047_0, Nat.add_zero]⟩
    · have hdi47_0 := DG_in (fun j hj => (htx j hj).2) (by omega) hdg47_0
      have hdv47_0 := DG_v (fun j hj => (htx j hj).2) (by decide) hdg47_0
      refine lv_istore_n (lv' := [(3, .int (nI (dvN t pp d47_0))), (2, .int (nI 0)), (0, .ref (A (0, 22))), (1, .ref (wd.2.1 2))]) hxe hcd dX1_takeNumbers_50 rfl hl (by decide) rfl (fun ls hl => ?_)
      refine lv_iload_n hxe hcd dX1_takeNumbers_51 rfl (lv_at hl 0 rfl) ?_
      refine lv_iconst (v := (-1)) hxe hcd dX1_takeNumbers_52 (by decide) ?_
      refine lv_icmp_ne (tgt := 58) hxe hcd dX1_takeNumbers_53 (by decide) (fun c53 => ?_) (fun c53 => absurd c53 (nI_m1 (by omega)))
      refine lv_aload_n hxe hcd dX1_takeNumbers_58 rfl (lv_at hl 2 rfl) ?_
      refine gf_X1_22 S hW dX1_takeNumbers_59 ?_
      refine lv_aload_n hxe hcd dX1_takeNumbers_62 rfl (lv_at hl 2 rfl) ?_
      refine gf_X1_25 S hW dX1_takeNumbers_63 ?_
      refine r_as (y := (nI cN)) (TX_c _ _ _ _ _) ?_
      refine lv_iconst (v := (nI 4)) hxe hcd dX1_takeNumbers_66 (by decide) ?_
      refine n_imul S (a := cN) (b := 4) dX1_takeNumbers_67 ?_
      refine lv_iload_n hxe hcd dX1_takeNumbers_68 rfl (lv_at hl 1 rfl) ?_
      refine n_iadd S (a := (cN * 4)) (b := 0) dX1_takeNumbers_69 ?_
      refine lv_iload_n hxe hcd dX1_takeNumbers_70 rfl (lv_at hl 0 rfl) ?_
      refine r_callv (F := (cE Z A g)) (r_runSN hZ S hW (As := [.ref (A (0, 25)), .int (nI ((cN * 4) + 0)), .int (nI (dvN t pp d47_0))]) (rest := []) (t_X9_write l hZ A g (TX μ (μ 0 24) (μ 0 25) cN (pp + d47_0)) H.size (b := 0) (o := 25) (n := 48) rfl (in_r (by decide) (by decide)) (nI ((cN * 4) + 0)) (nI (dvN t pp d47_0))) k_X1_35 (hl.1) rfl rfl (Nat.le_of_ble_eq_true rfl) ⟨Nat.le_of_ble_eq_true rfl, Nat.le_of_ble_eq_true rfl⟩ ⟨Nat.le_of_ble_eq_true rfl, Nat.le_of_ble_eq_true rfl⟩ dX1_takeNumbers_71) hW (fun u71 H locs hp71 hW => ?_)
      have hp71 : u71 = TX μ (μ 0 24) (upd (μ 0 25) ((cN * 4) + 0) (nI (dvN t pp d47_0))) cN (pp + d47_0) := by rw [hp71, TX_w25, TX_25, wr_in (n := 48) (k := ((cN * 4) + 0)) _ _ (by omega) (by decide)]
      subst hp71
      refine lv_iinc (v := (nI 1)) (lv' := [(2, .int (nI 1)), (3, .int (nI (dvN t pp d47_0))), (0, .ref (A (0, 22))), (1, .ref (wd.2.1 2))]) hxe hcd dX1_takeNumbers_74 hl (k := 1) rfl (nI_add 0 1) (by decide) rfl (fun ls hl => ?_)
      refine lv_goto (tgt := 2) hxe hcd dX1_takeNumbers_77 (by decide) ?_
      refine lv_iload_n hxe hcd dX1_takeNumbers_2 rfl (lv_at hl 0 rfl) ?_
      refine lv_aload_n hxe hcd dX1_takeNumbers_3 rfl (lv_at hl 3 rfl) ?_
      refine r_getO S hW ((hw _ _ _ hW.2.2.2.2.2).2.2.2 2 (by decide)).2.1 g_1624 dX1_takeNumbers_4 ?_
      refine r_calli0 (r_runV hZ S hW (As := []) (rest := [.int (nI 1)]) (t_J0_length_8abf5 l hZ (ids g) A (cE Z A g (TX μ (μ 0 24) (upd (μ 0 25) ((cN * 4) + 0) (nI (dvN t pp d47_0))) cN (pp + d47_0))) H.size (fun A U H h => ((hw A U H h).2.2.2 2 (by first | decide | omega)).2.2.2.2) (fun A U H h => (hw A U H h).1) (by first | decide | omega)) k_X1_69 (va_Orecv ((hw _ _ _ hW.2.2.2.2.2).2.2.2 2 (by first | decide | omega)).2.2.2.2.1 hW.2.2.1) (hl.1) rfl rfl (Nat.le_of_ble_eq_true rfl) ⟨Nat.le_of_ble_eq_true rfl, Nat.le_of_ble_eq_true rfl⟩ ⟨Nat.le_of_ble_eq_true rfl, Nat.le_of_ble_eq_true rfl⟩ dX1_takeNumbers_7) hW (fun r7 H locs hp7 hW => ?_)
      have hp7 := hp7.symm
      subst hp7
      refine r_as (y := (nI 1)) (by decide) ?_
      refine lv_icmp_ge (tgt := 80) hxe hcd dX1_takeNumbers_10 (by decide) (fun _ => ?_) (fun h => absurd (by decide) h)
      refine lv_aload_n hxe hcd dX1_takeNumbers_80 rfl (lv_at hl 3 rfl) ?_
      refine r_getO S hW ((hw _ _ _ hW.2.2.2.2.2).2.2.2 2 (by decide)).2.1 g_1624 dX1_takeNumbers_81 ?_
      refine r_calli0 (r_runV hZ S hW (As := []) (rest := []) (t_J0_isEmpty_aae02 l hZ (ids g) A (cE Z A g (TX μ (μ 0 24) (upd (μ 0 25) ((cN * 4) + 0) (nI (dvN t pp d47_0))) cN (pp + d47_0))) H.size (fun A U H h => ((hw A U H h).2.2.2 2 (by first | decide | omega)).2.2.2.2) (fun A U H h => (hw A U H h).1) (by first | decide | omega)) k_X1_94 (va_Orecv ((hw _ _ _ hW.2.2.2.2.2).2.2.2 2 (by first | decide | omega)).2.2.2.2.1 hW.2.2.1) (hl.1) rfl rfl (Nat.le_of_ble_eq_true rfl) ⟨Nat.le_of_ble_eq_true rfl, Nat.le_of_ble_eq_true rfl⟩ ⟨Nat.le_of_ble_eq_true rfl, Nat.le_of_ble_eq_true rfl⟩ dX1_takeNumbers_84) hW (fun r84 H locs hp84 hW => ?_)
      rcases hp84 with ⟨hp840, hp84⟩ | ⟨hp840, hp84⟩
      · exact absurd hp84 (show ¬ fmN 2 = 0 from by decide)
      · subst hp840
        refine lv_if_eq (tgt := 104) hxe hcd dX1_takeNumbers_87 (by decide) (fun _ => ?_) (fun h => absurd (by decide) h)
        refine lv_aload_n hxe hcd dX1_takeNumbers_104 rfl (lv_at hl 2 rfl) ?_
        refine gf_X1_19 S hW dX1_takeNumbers_105 ?_
        refine lv_aload_n hxe hcd dX1_takeNumbers_108 rfl (lv_at hl 2 rfl) ?_
        refine gf_X1_25 S hW dX1_takeNumbers_109 ?_
        refine r_as (y := (nI cN)) (TX_c _ _ _ _ _) ?_
        refine lv_aload_n hxe hcd dX1_takeNumbers_112 rfl (lv_at hl 3 rfl) ?_
        refine r_getO S hW ((hw _ _ _ hW.2.2.2.2.2).2.2.2 2 (by decide)).2.2.1 g_1625 dX1_takeNumbers_113 ?_
        refine r_callv (F := (cE Z A g)) (r_runSN hZ S hW (As := [.ref (A (0, 24)), .int (nI cN), .int (nI (WS 2))]) (rest := []) (t_X9_write l hZ A g (TX μ (μ 0 24) (upd (μ 0 25) ((cN * 4) + 0) (nI (dvN t pp d47_0))) cN (pp + d47_0)) H.size (b := 0) (o := 24) (n := 12) rfl (in_r (by decide) (by decide)) (nI cN) (nI (WS 2))) k_X1_35 (hl.1) rfl rfl (Nat.le_of_ble_eq_true rfl) ⟨Nat.le_of_ble_eq_true rfl, Nat.le_of_ble_eq_true rfl⟩ ⟨Nat.le_of_ble_eq_true rfl, Nat.le_of_ble_eq_true rfl⟩ dX1_takeNumbers_116) hW (fun u116 H locs hp116 hW => ?_)
        have hp116 : u116 = TX μ (upd (μ 0 24) cN (nI (WS 2))) (upd (μ 0 25) ((cN * 4) + 0) (nI (dvN t pp d47_0))) cN (pp + d47_0) := by rw [hp116, TX_w24, TX_24, wr_in (n := 12) (k := cN) _ _ (by omega) (by decide)]
        subst hp116
        refine lv_aload_n hxe hcd dX1_takeNumbers_119 rfl (lv_at hl 2 rfl) ?_
        refine lv_dup hxe hcd dX1_takeNumbers_120 rfl ?_
        refine gf_X1_25 S hW dX1_takeNumbers_121 ?_
        refine r_as (y := (nI cN)) (TX_c _ _ _ _ _) ?_
        refine lv_iconst (v := (nI 1)) hxe hcd dX1_takeNumbers_124 (by decide) ?_
        refine n_iadd S (a := cN) (b := 1) dX1_takeNumbers_125 ?_
        refine gp_X1_25 S hW dX1_takeNumbers_126 (fun H locs hW => ?_)
        rw [TX_wc] at hW
        refine lv_iconst (v := (nI 1)) hxe hcd dX1_takeNumbers_129 (by decide) ?_
        refine r_zret S hr hlk (F := (cE Z A g)) (u := (TX μ (upd (μ 0 24) cN (nI (WS 2))) (upd (μ 0 25) ((cN * 4) + 0) (nI (dvN t pp d47_0))) (cN + 1) (pp + d47_0))) hW (by decide +kernel) ?_ dX1_takeNumbers_130
        refine Or.inr ⟨_, _, _, _, _, _, (c1_d (by decide) (if_pos (by decide)) hdg47_0 hd047_0 (rs_o (by decide) (by decide) (by decide))), rfl, rfl, by omega, by omega, by omega, by omega, by omega, by omega, ⟨?_, ?_, ?_, ?_⟩, fun k hk => ?_⟩
        · rw [TX_24, upd_s]
        · rw [TX_25]; simp [upd_rd]
        · intro hx; exact absurd hx (by decide)
        · intro hx; exact absurd hx (by decide)
        · rw [upd_o (by omega)]
  · refine lv_iconst (v := (nI 0)) hxe hcd dX1_takeNumbers_0 (by decide) ?_
    refine lv_istore_n (lv' := [(2, .int (nI 0)), (0, .ref (A (0, 22))), (1, .ref (wd.2.1 3))]) hxe hcd dX1_takeNumbers_1 rfl hl (by decide) rfl (fun ls hl => ?_)
    refine lv_iload_n hxe hcd dX1_takeNumbers_2 rfl (lv_at hl 0 rfl) ?_
    refine lv_aload_n hxe hcd dX1_takeNumbers_3 rfl (lv_at hl 2 rfl) ?_
    refine r_getO S hW ((hw _ _ _ hW.2.2.2.2.2).2.2.2 3 (by decide)).2.1 g_1624 dX1_takeNumbers_4 ?_
    refine r_calli0 (r_runV hZ S hW (As := []) (rest := [.int (nI 0)]) (t_J0_length_8abf5 l hZ (ids g) A (cE Z A g μ) s.heap.size (fun A U H h => ((hw A U H h).2.2.2 3 (by first | decide | omega)).2.2.2.2) (fun A U H h => (hw A U H h).1) (by first | decide | omega)) k_X1_69 (va_Orecv ((hw _ _ _ hW.2.2.2.2.2).2.2.2 3 (by first | decide | omega)).2.2.2.2.1 hW.2.2.1) (hl.1) rfl rfl (Nat.le_of_ble_eq_true rfl) ⟨Nat.le_of_ble_eq_true rfl, Nat.le_of_ble_eq_true rfl⟩ ⟨Nat.le_of_ble_eq_true rfl, Nat.le_of_ble_eq_true rfl⟩ dX1_takeNumbers_7) hW (fun r7 H locs hp7 hW => ?_)
    have hp7 := hp7.symm
    subst hp7
    refine r_as (y := (nI 1)) (by decide) ?_
    refine lv_icmp_ge (tgt := 80) hxe hcd dX1_takeNumbers_10 (by decide) (fun h => absurd h (by decide)) (fun _ => ?_)
    refine lv_iload_n hxe hcd dX1_takeNumbers_13 rfl (lv_at hl 0 rfl) ?_
    refine lv_if_le (tgt := 28) hxe hcd dX1_takeNumbers_14 (by decide) (fun _ => ?_) (fun h => absurd (by decide) h)
    refine lv_aload_n hxe hcd dX1_takeNumbers_28 rfl (lv_at hl 1 rfl) ?_
    refine lv_aload_n hxe hcd dX1_takeNumbers_29 rfl (lv_at hl 2 rfl) ?_
    refine r_getO S hW ((hw _ _ _ hW.2.2.2.2.2).2.2.2 3 (by decide)).2.1 g_1624 dX1_takeNumbers_30 ?_
    refine lv_iload_n hxe hcd dX1_takeNumbers_33 rfl (lv_at hl 0 rfl) ?_
    refine r_calli0 (r_runV hZ S hW (As := [.int (nI 0)]) (rest := [.ref (A (0, 22))]) (t_J0_charAt_5068e l hZ (ids g) A (cE Z A g μ) H.size (i := 0) (f := fmC 3) (fun A U H h => ((hw A U H h).2.2.2 3 (by first | decide | omega)).2.2.2.2) (by first | decide | omega) (by first | decide | omega) (by first | decide | exact kc_lt _ _) (fun A U H h => (hw A U H h).1)) k_X1_84 (va_Orecv ((hw _ _ _ hW.2.2.2.2.2).2.2.2 3 (by first | decide | omega)).2.2.2.2.1 hW.2.2.1) (hl.1) rfl rfl (Nat.le_of_ble_eq_true rfl) ⟨Nat.le_of_ble_eq_true rfl, Nat.le_of_ble_eq_true rfl⟩ ⟨Nat.le_of_ble_eq_true rfl, Nat.le_of_ble_eq_true rfl⟩ dX1_takeNumbers_34) hW (fun r34 H locs hp34 hW => ?_)
    have hp34 := hp34.symm
    subst hp34
    refine r_as (y := (nI 110)) (by decide) ?_
    refine lv_bipush (v := (nI 100)) hxe hcd dX1_takeNumbers_37 (by decide) ?_
    refine lv_icmp_ne (tgt := 46) hxe hcd dX1_takeNumbers_39 (by decide) (fun _ => ?_) (fun h => absurd h (by decide))
    refine lv_iconst (v := (nI 3)) hxe hcd dX1_takeNumbers_46 (by decide) ?_
    refine r_calli (F := (cE Z A g)) (r_runV hZ S hW (As := [.int (nI 3)]) (rest := []) (t_X1_takeNumber l hZ A g μ H.size (mo := 3) (by omega) hen hn60 t htx (pp := pp) hpp (by omega)) k_X1_91 (r_recv hW (x := (0, 22)) (in_r (by decide) (by decide)) rfl rfl) (hl.1) rfl rfl (Nat.le_of_ble_eq_true rfl) ⟨Nat.le_of_ble_eq_true rfl, Nat.le_of_ble_eq_true rfl⟩ ⟨Nat.le_of_ble_eq_true rfl, Nat.le_of_ble_eq_true rfl⟩ dX1_takeNumbers_47) hW (fun r47 u47 H locs hp47 hW => ?_)
    obtain ⟨d47_0, hdg47_0, hp47, hu⟩ := hp47
    have hu := hu.trans (TX_q0 hcN _)
    subst hu
    rcases hp47 with ⟨hd047_0, rfl⟩ | ⟨hd047_0, rfl⟩
    · refine lv_istore_n (lv' := [(3, .int (-1)), (2, .int (nI 0)), (0, .ref (A (0, 22))), (1, .ref (wd.2.1 3))]) hxe hcd dX1_takeNumbers_50 rfl hl (by decide) rfl (fun ls hl => ?_)
      refine lv_iload_n hxe hcd dX1_takeNumbers_51 rfl (lv_at hl 0 rfl) ?_
      refine lv_iconst (v := (-1)) hxe hcd dX1_takeNumbers_52 (by decide) ?_
      refine lv_icmp_ne (tgt := 58) hxe hcd dX1_takeNumbers_53 (by decide) (fun h => absurd h (by decide)) (fun _ => ?_)
      refine lv_iconst (v := (nI 0)) hxe hcd dX1_takeNumbers_56 (by decide) ?_
      refine r_zret S hr hlk (F := (cE Z A g)) (u := (TX μ (μ 0 24) (μ 0 25) cN (pp + d47_0))) hW (by decide +kernel) ?_ dX1_takeNumbers_57
      exact Or.inl ⟨_, (μ 0 25), (c1_0 (by decide) (if_pos (by decide)) hdg47_0 hd047_0), rfl, by rw [hd047_0, Nat.add_zero]⟩
    · have hdi47_0 := DG_in (fun j hj => (htx j hj).2) (by omega) hdg47_0
      have hdv47_0 := DG_v (fun j hj => (htx j hj).2) (by decide) hdg47_0
      refine lv_istore_n (lv' := [(3, .int (nI (dvN t pp d47_0))), (2, .int (nI 0)), (0, .ref (A (0, 22))), (1, .ref (wd.2.1 3))]) hxe hcd dX1_takeNumbers_50 rfl hl (by decide) rfl (fun ls hl => ?_)
      refine lv_iload_n hxe hcd dX1_takeNumbers_51 rfl (lv_at hl 0 rfl) ?_
      refine lv_iconst (v := (-1)) hxe hcd dX1_takeNumbers_52 (by decide) ?_
      refine lv_icmp_ne (tgt := 58) hxe hcd dX1_takeNumbers_53 (by decide) (fun c53 => ?_) (fun c53 => absurd c53 (nI_m1 (by omega)))
      refine lv_aload_n hxe hcd dX1_takeNumbers_58 rfl (lv_at hl 2 rfl) ?_
      refine gf_X1_22 S hW dX1_takeNumbers_59 ?_
      refine lv_aload_n hxe hcd dX1_takeNumbers_62 rfl (lv_at hl 2 rfl) ?_
      refine gf_X1_25 S hW dX1_takeNumbers_63 ?_
      refine r_as (y := (nI cN)) (TX_c _ _ _ _ _) ?_
      refine lv_iconst (v := (nI 4)) hxe hcd dX1_takeNumbers_66 (by decide) ?_
      refine n_imul S (a := cN) (b := 4) dX1_takeNumbers_67 ?_
      refine lv_iload_n hxe hcd dX1_takeNumbers_68 rfl (lv_at hl 1 rfl) ?_
      refine n_iadd S (a := (cN * 4)) (b := 0) dX1_takeNumbers_69 ?_
      refine lv_iload_n hxe hcd dX1_takeNumbers_70 rfl (lv_at hl 0 rfl) ?_
      refine r_callv (F := (cE Z A g)) (r_runSN hZ S hW (As := [.ref (A (0, 25)), .int (nI ((cN * 4) + 0)), .int (nI (dvN t pp d47_0))]) (rest := []) (t_X9_write l hZ A g (TX μ (μ 0 24) (μ 0 25) cN (pp + d47_0)) H.size (b := 0) (o := 25) (n := 48) rfl (in_r (by decide) (by decide)) (nI ((cN * 4) + 0)) (nI (dvN t pp d47_0))) k_X1_35 (hl.1) rfl rfl (Nat.le_of_ble_eq_true rfl) ⟨Nat.le_of_ble_eq_true rfl, Nat.le_of_ble_eq_true rfl⟩ ⟨Nat.le_of_ble_eq_true rfl, Nat.le_of_ble_eq_true rfl⟩ dX1_takeNumbers_71) hW (fun u71 H locs hp71 hW => ?_)
      have hp71 : u71 = TX μ (μ 0 24) (upd (μ 0 25) ((cN * 4) + 0) (nI (dvN t pp d47_0))) cN (pp + d47_0) := by rw [hp71, TX_w25, TX_25, wr_in (n := 48) (k := ((cN * 4) + 0)) _ _ (by omega) (by decide)]
      subst hp71
      refine lv_iinc (v := (nI 1)) (lv' := [(2, .int (nI 1)), (3, .int (nI (dvN t pp d47_0))), (0, .ref (A (0, 22))), (1, .ref (wd.2.1 3))]) hxe hcd dX1_takeNumbers_74 hl (k := 1) rfl (nI_add 0 1) (by decide) rfl (fun ls hl => ?_)
      refine lv_goto (tgt := 2) hxe hcd dX1_takeNumbers_77 (by decide) ?_
      refine lv_iload_n hxe hcd dX1_takeNumbers_2 rfl (lv_at hl 0 rfl) ?_
      refine lv_aload_n hxe hcd dX1_takeNumbers_3 rfl (lv_at hl 3 rfl) ?_
      refine r_getO S hW ((hw _ _ _ hW.2.2.2.2.2).2.2.2 3 (by decide)).2.1 g_1624 dX1_takeNumbers_4 ?_
      refine r_calli0 (r_runV hZ S hW (As := []) (rest := [.int (nI 1)]) (t_J0_length_8abf5 l hZ (ids g) A (cE Z A g (TX μ (μ 0 24) (upd (μ 0 25) ((cN * 4) + 0) (nI (dvN t pp d47_0))) cN (pp + d47_0))) H.size (fun A U H h => ((hw A U H h).2.2.2 3 (by first | decide | omega)).2.2.2.2) (fun A U H h => (hw A U H h).1) (by first | decide | omega)) k_X1_69 (va_Orecv ((hw _ _ _ hW.2.2.2.2.2).2.2.2 3 (by first | decide | omega)).2.2.2.2.1 hW.2.2.1) (hl.1) rfl rfl (Nat.le_of_ble_eq_true rfl) ⟨Nat.le_of_ble_eq_true rfl, Nat.le_of_ble_eq_true rfl⟩ ⟨Nat.le_of_ble_eq_true rfl, Nat.le_of_ble_eq_true rfl⟩ dX1_takeNumbers_7) hW (fun r7 H locs hp7 hW => ?_)
      have hp7 := hp7.symm
      subst hp7
      refine r_as (y := (nI 1)) (by decide) ?_
      refine lv_icmp_ge (tgt := 80) hxe hcd dX1_takeNumbers_10 (by decide) (fun _ => ?_) (fun h => absurd (by decide) h)
      refine lv_aload_n hxe hcd dX1_takeNumbers_80 rfl (lv_at hl 3 rfl) ?_
      refine r_getO S hW ((hw _ _ _ hW.2.2.2.2.2).2.2.2 3 (by decide)).2.1 g_1624 dX1_takeNumbers_81 ?_
      refine r_calli0 (r_runV hZ S hW (As := []) (rest := []) (t_J0_isEmpty_aae02 l hZ (ids g) A (cE Z A g (TX μ (μ 0 24) (upd (μ 0 25) ((cN * 4) + 0) (nI (dvN t pp d47_0))) cN (pp + d47_0))) H.size (fun A U H h => ((hw A U H h).2.2.2 3 (by first | decide | omega)).2.2.2.2) (fun A U H h => (hw A U H h).1) (by first | decide | omega)) k_X1_94 (va_Orecv ((hw _ _ _ hW.2.2.2.2.2).2.2.2 3 (by first | decide | omega)).2.2.2.2.1 hW.2.2.1) (hl.1) rfl rfl (Nat.le_of_ble_eq_true rfl) ⟨Nat.le_of_ble_eq_true rfl, Nat.le_of_ble_eq_true rfl⟩ ⟨Nat.le_of_ble_eq_true rfl, Nat.le_of_ble_eq_true rfl⟩ dX1_takeNumbers_84) hW (fun r84 H locs hp84 hW => ?_)
      rcases hp84 with ⟨hp840, hp84⟩ | ⟨hp840, hp84⟩
      · exact absurd hp84 (show ¬ fmN 3 = 0 from by decide)
      · subst hp840
        refine lv_if_eq (tgt := 104) hxe hcd dX1_takeNumbers_87 (by decide) (fun _ => ?_) (fun h => absurd (by decide) h)
        refine lv_aload_n hxe hcd dX1_takeNumbers_104 rfl (lv_at hl 2 rfl) ?_
        refine gf_X1_19 S hW dX1_takeNumbers_105 ?_
        refine lv_aload_n hxe hcd dX1_takeNumbers_108 rfl (lv_at hl 2 rfl) ?_
        refine gf_X1_25 S hW dX1_takeNumbers_109 ?_
        refine r_as (y := (nI cN)) (TX_c _ _ _ _ _) ?_
        refine lv_aload_n hxe hcd dX1_takeNumbers_112 rfl (lv_at hl 3 rfl) ?_
        refine r_getO S hW ((hw _ _ _ hW.2.2.2.2.2).2.2.2 3 (by decide)).2.2.1 g_1625 dX1_takeNumbers_113 ?_
        refine r_callv (F := (cE Z A g)) (r_runSN hZ S hW (As := [.ref (A (0, 24)), .int (nI cN), .int (nI (WS 3))]) (rest := []) (t_X9_write l hZ A g (TX μ (μ 0 24) (upd (μ 0 25) ((cN * 4) + 0) (nI (dvN t pp d47_0))) cN (pp + d47_0)) H.size (b := 0) (o := 24) (n := 12) rfl (in_r (by decide) (by decide)) (nI cN) (nI (WS 3))) k_X1_35 (hl.1) rfl rfl (Nat.le_of_ble_eq_true rfl) ⟨Nat.le_of_ble_eq_true rfl, Nat.le_of_ble_eq_true rfl⟩ ⟨Nat.le_of_ble_eq_true rfl, Nat.le_of_ble_eq_true rfl⟩ dX1_takeNumbers_116) hW (fun u116 H locs hp116 hW => ?_)
        have hp116 : u116 = TX μ (upd (μ 0 24) cN (nI (WS 3))) (upd (μ 0 25) ((cN * 4) + 0) (nI (dvN t pp d47_0))) cN (pp + d47_0) := by rw [hp116, TX_w24, TX_24, wr_in (n := 12) (k := cN) _ _ (by omega) (by decide)]
        subst hp116
        refine lv_aload_n hxe hcd dX1_takeNumbers_119 rfl (lv_at hl 2 rfl) ?_
        refine lv_dup hxe hcd dX1_takeNumbers_120 rfl ?_
        refine gf_X1_25 S hW dX1_takeNumbers_121 ?_
        refine r_as (y := (nI cN)) (TX_c _ _ _ _ _) ?_
        refine lv_iconst (v := (nI 1)) hxe hcd dX1_takeNumbers_124 (by decide) ?_
        refine n_iadd S (a := cN) (b := 1) dX1_takeNumbers_125 ?_
        refine gp_X1_25 S hW dX1_takeNumbers_126 (fun H locs hW => ?_)
        rw [TX_wc] at hW
        refine lv_iconst (v := (nI 1)) hxe hcd dX1_takeNumbers_129 (by decide) ?_
        refine r_zret S hr hlk (F := (cE Z A g)) (u := (TX μ (upd (μ 0 24) cN (nI (WS 3))) (upd (μ 0 25) ((cN * 4) + 0) (nI (dvN t pp d47_0))) (cN + 1) (pp + d47_0))) hW (by decide +kernel) ?_ dX1_takeNumbers_130
        refine Or.inr ⟨_, _, _, _, _, _, (c1_d (by decide) (if_pos (by decide)) hdg47_0 hd047_0 (rs_o (by decide) (by decide) (by decide))), rfl, rfl, by omega, by omega, by omega, by omega, by omega, by omega, ⟨?_, ?_, ?_, ?_⟩, fun k hk => ?_⟩
        · rw [TX_24, upd_s]
        · rw [TX_25]; simp [upd_rd]
        · intro hx; exact absurd hx (by decide)
        · intro hx; exact absurd hx (by decide)
        · rw [upd_o (by omega)]
  · refine lv_iconst (v := (nI 0)) hxe hcd dX1_takeNumbers_0 (by decide) ?_
    refine lv_istore_n (lv' := [(2, .int (nI 0)), (0, .ref (A (0, 22))), (1, .ref (wd.2.1 4))]) hxe hcd dX1_takeNumbers_1 rfl hl (by decide) rfl (fun ls hl => ?_)
    refine lv_iload_n hxe hcd dX1_takeNumbers_2 rfl (lv_at hl 0 rfl) ?_
    refine lv_aload_n hxe hcd dX1_takeNumbers_3 rfl (lv_at hl 2 rfl) ?_
    refine r_getO S hW ((hw _ _ _ hW.2.2.2.2.2).2.2.2 4 (by decide)).2.1 g_1624 dX1_takeNumbers_4 ?_
    refine r_calli0 (r_runV hZ S hW (As := []) (rest := [.int (nI 0)]) (t_J0_length_8abf5 l hZ (ids g) A (cE Z A g μ) s.heap.size (fun A U H h => ((hw A U H h).2.2.2 4 (by first | decide | omega)).2.2.2.2) (fun A U H h => (hw A U H h).1) (by first | decide | omega)) k_X1_69 (va_Orecv ((hw _ _ _ hW.2.2.2.2.2).2.2.2 4 (by first | decide | omega)).2.2.2.2.1 hW.2.2.1) (hl.1) rfl rfl (Nat.le_of_ble_eq_true rfl) ⟨Nat.le_of_ble_eq_true rfl, Nat.le_of_ble_eq_true rfl⟩ ⟨Nat.le_of_ble_eq_true rfl, Nat.le_of_ble_eq_true rfl⟩ dX1_takeNumbers_7) hW (fun r7 H locs hp7 hW => ?_)
    have hp7 := hp7.symm
    subst hp7
    refine r_as (y := (nI 0)) (by decide) ?_
    refine lv_icmp_ge (tgt := 80) hxe hcd dX1_takeNumbers_10 (by decide) (fun _ => ?_) (fun h => absurd (by decide) h)
    refine lv_aload_n hxe hcd dX1_takeNumbers_80 rfl (lv_at hl 2 rfl) ?_
    refine r_getO S hW ((hw _ _ _ hW.2.2.2.2.2).2.2.2 4 (by decide)).2.1 g_1624 dX1_takeNumbers_81 ?_
    refine r_calli0 (r_runV hZ S hW (As := []) (rest := []) (t_J0_isEmpty_aae02 l hZ (ids g) A (cE Z A g μ) H.size (fun A U H h => ((hw A U H h).2.2.2 4 (by first | decide | omega)).2.2.2.2) (fun A U H h => (hw A U H h).1) (by first | decide | omega)) k_X1_94 (va_Orecv ((hw _ _ _ hW.2.2.2.2.2).2.2.2 4 (by first | decide | omega)).2.2.2.2.1 hW.2.2.1) (hl.1) rfl rfl (Nat.le_of_ble_eq_true rfl) ⟨Nat.le_of_ble_eq_true rfl, Nat.le_of_ble_eq_true rfl⟩ ⟨Nat.le_of_ble_eq_true rfl, Nat.le_of_ble_eq_true rfl⟩ dX1_takeNumbers_84) hW (fun r84 H locs hp84 hW => ?_)
    rcases hp84 with ⟨hp840, hp84⟩ | ⟨hp840, hp84⟩
    · subst hp840
      refine lv_if_eq (tgt := 104) hxe hcd dX1_takeNumbers_87 (by decide) (fun h => absurd h (by decide)) (fun _ => ?_)
      refine lv_aload_n hxe hcd dX1_takeNumbers_90 rfl (lv_at hl 1 rfl) ?_
      refine gf_X1_22 S hW dX1_takeNumbers_91 ?_
      refine lv_aload_n hxe hcd dX1_takeNumbers_94 rfl (lv_at hl 1 rfl) ?_
      refine gf_X1_25 S hW dX1_takeNumbers_95 ?_
      refine r_as (y := (nI cN)) (hcN) ?_
      refine lv_iconst (v := (nI 4)) hxe hcd dX1_takeNumbers_98 (by decide) ?_
      refine n_imul S (a := cN) (b := 4) dX1_takeNumbers_99 ?_
      refine lv_iconst (v := (nI 0)) hxe hcd dX1_takeNumbers_100 (by decide) ?_
      refine r_callv (F := (cE Z A g)) (r_runSN hZ S hW (As := [.ref (A (0, 25)), .int (nI (cN * 4)), .int (nI 0)]) (rest := []) (t_X9_write l hZ A g μ H.size (b := 0) (o := 25) (n := 48) rfl (in_r (by decide) (by decide)) (nI (cN * 4)) (nI 0)) k_X1_35 (hl.1) rfl rfl (Nat.le_of_ble_eq_true rfl) ⟨Nat.le_of_ble_eq_true rfl, Nat.le_of_ble_eq_true rfl⟩ ⟨Nat.le_of_ble_eq_true rfl, Nat.le_of_ble_eq_true rfl⟩ dX1_takeNumbers_101) hW (fun u101 H locs hp101 hW => ?_)
      have hp101 : u101 = TX μ (μ 0 24) (upd (μ 0 25) (cN * 4) (nI 0)) cN pp := by rw [hp101, wr_in (n := 48) (k := (cN * 4)) _ _ (by omega) (by decide), TX_w250 hcN hpp]
      subst hp101
      refine lv_aload_n hxe hcd dX1_takeNumbers_104 rfl (lv_at hl 1 rfl) ?_
      refine gf_X1_19 S hW dX1_takeNumbers_105 ?_
      refine lv_aload_n hxe hcd dX1_takeNumbers_108 rfl (lv_at hl 1 rfl) ?_
      refine gf_X1_25 S hW dX1_takeNumbers_109 ?_
      refine r_as (y := (nI cN)) (TX_c _ _ _ _ _) ?_
      refine lv_aload_n hxe hcd dX1_takeNumbers_112 rfl (lv_at hl 2 rfl) ?_
      refine r_getO S hW ((hw _ _ _ hW.2.2.2.2.2).2.2.2 4 (by decide)).2.2.1 g_1625 dX1_takeNumbers_113 ?_
      refine r_callv (F := (cE Z A g)) (r_runSN hZ S hW (As := [.ref (A (0, 24)), .int (nI cN), .int (nI (WS 4))]) (rest := []) (t_X9_write l hZ A g (TX μ (μ 0 24) (upd (μ 0 25) (cN * 4) (nI 0)) cN pp) H.size (b := 0) (o := 24) (n := 12) rfl (in_r (by decide) (by decide)) (nI cN) (nI (WS 4))) k_X1_35 (hl.1) rfl rfl (Nat.le_of_ble_eq_true rfl) ⟨Nat.le_of_ble_eq_true rfl, Nat.le_of_ble_eq_true rfl⟩ ⟨Nat.le_of_ble_eq_true rfl, Nat.le_of_ble_eq_true rfl⟩ dX1_takeNumbers_116) hW (fun u116 H locs hp116 hW => ?_)
      have hp116 : u116 = TX μ (upd (μ 0 24) cN (nI (WS 4))) (upd (μ 0 25) (cN * 4) (nI 0)) cN pp := by rw [hp116, TX_w24, TX_24, wr_in (n := 12) (k := cN) _ _ (by omega) (by decide)]
      subst hp116
      refine lv_aload_n hxe hcd dX1_takeNumbers_119 rfl (lv_at hl 1 rfl) ?_
      refine lv_dup hxe hcd dX1_takeNumbers_120 rfl ?_
      refine gf_X1_25 S hW dX1_takeNumbers_121 ?_
      refine r_as (y := (nI cN)) (TX_c _ _ _ _ _) ?_
      refine lv_iconst (v := (nI 1)) hxe hcd dX1_takeNumbers_124 (by decide) ?_
      refine n_iadd S (a := cN) (b := 1) dX1_takeNumbers_125 ?_
      refine gp_X1_25 S hW dX1_takeNumbers_126 (fun H locs hW => ?_)
      rw [TX_wc] at hW
      refine lv_iconst (v := (nI 1)) hxe hcd dX1_takeNumbers_129 (by decide) ?_
      refine r_zret S hr hlk (F := (cE Z A g)) (u := (TX μ (upd (μ 0 24) cN (nI (WS 4))) (upd (μ 0 25) (cN * 4) (nI 0)) (cN + 1) pp)) hW (by decide +kernel) ?_ dX1_takeNumbers_130
      refine Or.inr ⟨_, _, _, _, _, _, (c1_4 rfl), rfl, rfl, by omega, by omega, by omega, by omega, by omega, by omega, ⟨?_, ?_, ?_, ?_⟩, fun k hk => ?_⟩
      · rw [TX_24, upd_s]
      · rw [TX_25]; simp [upd_rd]
      · intro hx; exact absurd hx (by decide)
      · intro hx; exact absurd hx (by decide)
      · rw [upd_o (by omega)]
    · exact absurd (show fmN 4 = 0 from by decide) hp84
  · refine lv_iconst (v := (nI 0)) hxe hcd dX1_takeNumbers_0 (by decide) ?_
    refine lv_istore_n (lv' := [(2, .int (nI 0)), (0, .ref (A (0, 22))), (1, .ref (wd.2.1 5))]) hxe hcd dX1_takeNumbers_1 rfl hl (by decide) rfl (fun ls hl => ?_)
    refine lv_iload_n hxe hcd dX1_takeNumbers_2 rfl (lv_at hl 0 rfl) ?_
    refine lv_aload_n hxe hcd dX1_takeNumbers_3 rfl (lv_at hl 2 rfl) ?_
    refine r_getO S hW ((hw _ _ _ hW.2.2.2.2.2).2.2.2 5 (by decide)).2.1 g_1624 dX1_takeNumbers_4 ?_
    refine r_calli0 (r_runV hZ S hW (As := []) (rest := [.int (nI 0)]) (t_J0_length_8abf5 l hZ (ids g) A (cE Z A g μ) s.heap.size (fun A U H h => ((hw A U H h).2.2.2 5 (by first | decide | omega)).2.2.2.2) (fun A U H h => (hw A U H h).1) (by first | decide | omega)) k_X1_69 (va_Orecv ((hw _ _ _ hW.2.2.2.2.2).2.2.2 5 (by first | decide | omega)).2.2.2.2.1 hW.2.2.1) (hl.1) rfl rfl (Nat.le_of_ble_eq_true rfl) ⟨Nat.le_of_ble_eq_true rfl, Nat.le_of_ble_eq_true rfl⟩ ⟨Nat.le_of_ble_eq_true rfl, Nat.le_of_ble_eq_true rfl⟩ dX1_takeNumbers_7) hW (fun r7 H locs hp7 hW => ?_)
    have hp7 := hp7.symm
    subst hp7
    refine r_as (y := (nI 1)) (by decide) ?_
    refine lv_icmp_ge (tgt := 80) hxe hcd dX1_takeNumbers_10 (by decide) (fun h => absurd h (by decide)) (fun _ => ?_)
    refine lv_iload_n hxe hcd dX1_takeNumbers_13 rfl (lv_at hl 0 rfl) ?_
    refine lv_if_le (tgt := 28) hxe hcd dX1_takeNumbers_14 (by decide) (fun _ => ?_) (fun h => absurd (by decide) h)
    refine lv_aload_n hxe hcd dX1_takeNumbers_28 rfl (lv_at hl 1 rfl) ?_
    refine lv_aload_n hxe hcd dX1_takeNumbers_29 rfl (lv_at hl 2 rfl) ?_
    refine r_getO S hW ((hw _ _ _ hW.2.2.2.2.2).2.2.2 5 (by decide)).2.1 g_1624 dX1_takeNumbers_30 ?_
    refine lv_iload_n hxe hcd dX1_takeNumbers_33 rfl (lv_at hl 0 rfl) ?_
    refine r_calli0 (r_runV hZ S hW (As := [.int (nI 0)]) (rest := [.ref (A (0, 22))]) (t_J0_charAt_5068e l hZ (ids g) A (cE Z A g μ) H.size (i := 0) (f := fmC 5) (fun A U H h => ((hw A U H h).2.2.2 5 (by first | decide | omega)).2.2.2.2) (by first | decide | omega) (by first | decide | omega) (by first | decide | exact kc_lt _ _) (fun A U H h => (hw A U H h).1)) k_X1_84 (va_Orecv ((hw _ _ _ hW.2.2.2.2.2).2.2.2 5 (by first | decide | omega)).2.2.2.2.1 hW.2.2.1) (hl.1) rfl rfl (Nat.le_of_ble_eq_true rfl) ⟨Nat.le_of_ble_eq_true rfl, Nat.le_of_ble_eq_true rfl⟩ ⟨Nat.le_of_ble_eq_true rfl, Nat.le_of_ble_eq_true rfl⟩ dX1_takeNumbers_34) hW (fun r34 H locs hp34 hW => ?_)
    have hp34 := hp34.symm
    subst hp34
    refine r_as (y := (nI 110)) (by decide) ?_
    refine lv_bipush (v := (nI 100)) hxe hcd dX1_takeNumbers_37 (by decide) ?_
    refine lv_icmp_ne (tgt := 46) hxe hcd dX1_takeNumbers_39 (by decide) (fun _ => ?_) (fun h => absurd h (by decide))
    refine lv_iconst (v := (nI 3)) hxe hcd dX1_takeNumbers_46 (by decide) ?_
    refine r_calli (F := (cE Z A g)) (r_runV hZ S hW (As := [.int (nI 3)]) (rest := []) (t_X1_takeNumber l hZ A g μ H.size (mo := 3) (by omega) hen hn60 t htx (pp := pp) hpp (by omega)) k_X1_91 (r_recv hW (x := (0, 22)) (in_r (by decide) (by decide)) rfl rfl) (hl.1) rfl rfl (Nat.le_of_ble_eq_true rfl) ⟨Nat.le_of_ble_eq_true rfl, Nat.le_of_ble_eq_true rfl⟩ ⟨Nat.le_of_ble_eq_true rfl, Nat.le_of_ble_eq_true rfl⟩ dX1_takeNumbers_47) hW (fun r47 u47 H locs hp47 hW => ?_)
    obtain ⟨d47_0, hdg47_0, hp47, hu⟩ := hp47
    have hu := hu.trans (TX_q0 hcN _)
    subst hu
    rcases hp47 with ⟨hd047_0, rfl⟩ | ⟨hd047_0, rfl⟩
    · refine lv_istore_n (lv' := [(3, .int (-1)), (2, .int (nI 0)), (0, .ref (A (0, 22))), (1, .ref (wd.2.1 5))]) hxe hcd dX1_takeNumbers_50 rfl hl (by decide) rfl (fun ls hl => ?_)
      refine lv_iload_n hxe hcd dX1_takeNumbers_51 rfl (lv_at hl 0 rfl) ?_
      refine lv_iconst (v := (-1)) hxe hcd dX1_takeNumbers_52 (by decide) ?_
      refine lv_icmp_ne (tgt := 58) hxe hcd dX1_takeNumbers_53 (by decide) (fun h => absurd h (by decide)) (fun _ => ?_)
      refine lv_iconst (v := (nI 0)) hxe hcd dX1_takeNumbers_56 (by decide) ?_
      refine r_zret S hr hlk (F := (cE Z A g)) (u := (TX μ (μ 0 24) (μ 0 25) cN (pp + d47_0))) hW (by decide +kernel) ?_ dX1_takeNumbers_57
      exact Or.inl ⟨_, (μ 0 25), (c1_0 (by decide) (if_pos (by decide)) hdg47_0 hd047_0), rfl, by rw [hd047_0, Nat.add_zero]⟩
    · have hdi47_0 := DG_in (fun j hj => (htx j hj).2) (by omega) hdg47_0
      have hdv47_0 := DG_v (fun j hj => (htx j hj).2) (by decide) hdg47_0
      refine lv_istore_n (lv' := [(3, .int (nI (dvN t pp d47_0))), (2, .int (nI 0)), (0, .ref (A (0, 22))), (1, .ref (wd.2.1 5))]) hxe hcd dX1_takeNumbers_50 rfl hl (by decide) rfl (fun ls hl => ?_)
      refine lv_iload_n hxe hcd dX1_takeNumbers_51 rfl (lv_at hl 0 rfl) ?_
      refine lv_iconst (v := (-1)) hxe hcd dX1_takeNumbers_52 (by decide) ?_
      refine lv_icmp_ne (tgt := 58) hxe hcd dX1_takeNumbers_53 (by decide) (fun c53 => ?_) (fun c53 => absurd c53 (nI_m1 (by omega)))
      refine lv_aload_n hxe hcd dX1_takeNumbers_58 rfl (lv_at hl 2 rfl) ?_
      refine gf_X1_22 S hW dX1_takeNumbers_59 ?_
      refine lv_aload_n hxe hcd dX1_takeNumbers_62 rfl (lv_at hl 2 rfl) ?_
      refine gf_X1_25 S hW dX1_takeNumbers_63 ?_
      refine r_as (y := (nI cN)) (TX_c _ _ _ _ _) ?_
      refine lv_iconst (v := (nI 4)) hxe hcd dX1_takeNumbers_66 (by decide) ?_
      refine n_imul S (a := cN) (b := 4) dX1_takeNumbers_67 ?_
      refine lv_iload_n hxe hcd dX1_takeNumbers_68 rfl (lv_at hl 1 rfl) ?_
      refine n_iadd S (a := (cN * 4)) (b := 0) dX1_takeNumbers_69 ?_
      refine lv_iload_n hxe hcd dX1_takeNumbers_70 rfl (lv_at hl 0 rfl) ?_
      refine r_callv (F := (cE Z A g)) (r_runSN hZ S hW (As := [.ref (A (0, 25)), .int (nI ((cN * 4) + 0)), .int (nI (dvN t pp d47_0))]) (rest := []) (t_X9_write l hZ A g (TX μ (μ 0 24) (μ 0 25) cN (pp + d47_0)) H.size (b := 0) (o := 25) (n := 48) rfl (in_r (by decide) (by decide)) (nI ((cN * 4) + 0)) (nI (dvN t pp d47_0))) k_X1_35 (hl.1) rfl rfl (Nat.le_of_ble_eq_true rfl) ⟨Nat.le_of_ble_eq_true rfl, Nat.le_of_ble_eq_true rfl⟩ ⟨Nat.le_of_ble_eq_true rfl, Nat.le_of_ble_eq_true rfl⟩ dX1_takeNumbers_71) hW (fun u71 H locs hp71 hW => ?_)
      have hp71 : u71 = TX μ (μ 0 24) (upd (μ 0 25) ((cN * 4) + 0) (nI (dvN t pp d47_0))) cN (pp + d47_0) := by rw [hp71, TX_w25, TX_25, wr_in (n := 48) (k := ((cN * 4) + 0)) _ _ (by omega) (by decide)]
      subst hp71
      refine lv_iinc (v := (nI 1)) (lv' := [(2, .int (nI 1)), (3, .int (nI (dvN t pp d47_0))), (0, .ref (A (0, 22))), (1, .ref (wd.2.1 5))]) hxe hcd dX1_takeNumbers_74 hl (k := 1) rfl (nI_add 0 1) (by decide) rfl (fun ls hl => ?_)
      refine lv_goto (tgt := 2) hxe hcd dX1_takeNumbers_77 (by decide) ?_
      refine lv_iload_n hxe hcd dX1_takeNumbers_2 rfl (lv_at hl 0 rfl) ?_
      refine lv_aload_n hxe hcd dX1_takeNumbers_3 rfl (lv_at hl 3 rfl) ?_
      refine r_getO S hW ((hw _ _ _ hW.2.2.2.2.2).2.2.2 5 (by decide)).2.1 g_1624 dX1_takeNumbers_4 ?_
      refine r_calli0 (r_runV hZ S hW (As := []) (rest := [.int (nI 1)]) (t_J0_length_8abf5 l hZ (ids g) A (cE Z A g (TX μ (μ 0 24) (upd (μ 0 25) ((cN * 4) + 0) (nI (dvN t pp d47_0))) cN (pp + d47_0))) H.size (fun A U H h => ((hw A U H h).2.2.2 5 (by first | decide | omega)).2.2.2.2) (fun A U H h => (hw A U H h).1) (by first | decide | omega)) k_X1_69 (va_Orecv ((hw _ _ _ hW.2.2.2.2.2).2.2.2 5 (by first | decide | omega)).2.2.2.2.1 hW.2.2.1) (hl.1) rfl rfl (Nat.le_of_ble_eq_true rfl) ⟨Nat.le_of_ble_eq_true rfl, Nat.le_of_ble_eq_true rfl⟩ ⟨Nat.le_of_ble_eq_true rfl, Nat.le_of_ble_eq_true rfl⟩ dX1_takeNumbers_7) hW (fun r7 H locs hp7 hW => ?_)
      have hp7 := hp7.symm
      subst hp7
      refine r_as (y := (nI 1)) (by decide) ?_
      refine lv_icmp_ge (tgt := 80) hxe hcd dX1_takeNumbers_10 (by decide) (fun _ => ?_) (fun h => absurd (by decide) h)
      refine lv_aload_n hxe hcd dX1_takeNumbers_80 rfl (lv_at hl 3 rfl) ?_
      refine r_getO S hW ((hw _ _ _ hW.2.2.2.2.2).2.2.2 5 (by decide)).2.1 g_1624 dX1_takeNumbers_81 ?_
      refine r_calli0 (r_runV hZ S hW (As := []) (rest := []) (t_J0_isEmpty_aae02 l hZ (ids g) A (cE Z A g (TX μ (μ 0 24) (upd (μ 0 25) ((cN * 4) + 0) (nI (dvN t pp d47_0))) cN (pp + d47_0))) H.size (fun A U H h => ((hw A U H h).2.2.2 5 (by first | decide | omega)).2.2.2.2) (fun A U H h => (hw A U H h).1) (by first | decide | omega)) k_X1_94 (va_Orecv ((hw _ _ _ hW.2.2.2.2.2).2.2.2 5 (by first | decide | omega)).2.2.2.2.1 hW.2.2.1) (hl.1) rfl rfl (Nat.le_of_ble_eq_true rfl) ⟨Nat.le_of_ble_eq_true rfl, Nat.le_of_ble_eq_true rfl⟩ ⟨Nat.le_of_ble_eq_true rfl, Nat.le_of_ble_eq_true rfl⟩ dX1_takeNumbers_84) hW (fun r84 H locs hp84 hW => ?_)
      rcases hp84 with ⟨hp840, hp84⟩ | ⟨hp840, hp84⟩
      · exact absurd hp84 (show ¬ fmN 5 = 0 from by decide)
      · subst hp840
        refine lv_if_eq (tgt := 104) hxe hcd dX1_takeNumbers_87 (by decide) (fun _ => ?_) (fun h => absurd (by decide) h)
        refine lv_aload_n hxe hcd dX1_takeNumbers_104 rfl (lv_at hl 2 rfl) ?_
        refine gf_X1_19 S hW dX1_takeNumbers_105 ?_
        refine lv_aload_n hxe hcd dX1_takeNumbers_108 rfl (lv_at hl 2 rfl) ?_
        refine gf_X1_25 S hW dX1_takeNumbers_109 ?_
        refine r_as (y := (nI cN)) (TX_c _ _ _ _ _) ?_
        refine lv_aload_n hxe hcd dX1_takeNumbers_112 rfl (lv_at hl 3 rfl) ?_
        refine r_getO S hW ((hw _ _ _ hW.2.2.2.2.2).2.2.2 5 (by decide)).2.2.1 g_1625 dX1_takeNumbers_113 ?_
        refine r_callv (F := (cE Z A g)) (r_runSN hZ S hW (As := [.ref (A (0, 24)), .int (nI cN), .int (nI (WS 5))]) (rest := []) (t_X9_write l hZ A g (TX μ (μ 0 24) (upd (μ 0 25) ((cN * 4) + 0) (nI (dvN t pp d47_0))) cN (pp + d47_0)) H.size (b := 0) (o := 24) (n := 12) rfl (in_r (by decide) (by decide)) (nI cN) (nI (WS 5))) k_X1_35 (hl.1) rfl rfl (Nat.le_of_ble_eq_true rfl) ⟨Nat.le_of_ble_eq_true rfl, Nat.le_of_ble_eq_true rfl⟩ ⟨Nat.le_of_ble_eq_true rfl, Nat.le_of_ble_eq_true rfl⟩ dX1_takeNumbers_116) hW (fun u116 H locs hp116 hW => ?_)
        have hp116 : u116 = TX μ (upd (μ 0 24) cN (nI (WS 5))) (upd (μ 0 25) ((cN * 4) + 0) (nI (dvN t pp d47_0))) cN (pp + d47_0) := by rw [hp116, TX_w24, TX_24, wr_in (n := 12) (k := cN) _ _ (by omega) (by decide)]
        subst hp116
        refine lv_aload_n hxe hcd dX1_takeNumbers_119 rfl (lv_at hl 2 rfl) ?_
        refine lv_dup hxe hcd dX1_takeNumbers_120 rfl ?_
        refine gf_X1_25 S hW dX1_takeNumbers_121 ?_
        refine r_as (y := (nI cN)) (TX_c _ _ _ _ _) ?_
        refine lv_iconst (v := (nI 1)) hxe hcd dX1_takeNumbers_124 (by decide) ?_
        refine n_iadd S (a := cN) (b := 1) dX1_takeNumbers_125 ?_
        refine gp_X1_25 S hW dX1_takeNumbers_126 (fun H locs hW => ?_)
        rw [TX_wc] at hW
        refine lv_iconst (v := (nI 1)) hxe hcd dX1_takeNumbers_129 (by decide) ?_
        refine r_zret S hr hlk (F := (cE Z A g)) (u := (TX μ (upd (μ 0 24) cN (nI (WS 5))) (upd (μ 0 25) ((cN * 4) + 0) (nI (dvN t pp d47_0))) (cN + 1) (pp + d47_0))) hW (by decide +kernel) ?_ dX1_takeNumbers_130
        refine Or.inr ⟨_, _, _, _, _, _, (c1_d (by decide) (if_pos (by decide)) hdg47_0 hd047_0 (rs_o (by decide) (by decide) (by decide))), rfl, rfl, by omega, by omega, by omega, by omega, by omega, by omega, ⟨?_, ?_, ?_, ?_⟩, fun k hk => ?_⟩
        · rw [TX_24, upd_s]
        · rw [TX_25]; simp [upd_rd]
        · intro hx; exact absurd hx (by decide)
        · intro hx; exact absurd hx (by decide)
        · rw [upd_o (by omega)]
  · refine lv_iconst (v := (nI 0)) hxe hcd dX1_takeNumbers_0 (by decide) ?_
    refine lv_istore_n (lv' := [(2, .int (nI 0)), (0, .ref (A (0, 22))), (1, .ref (wd.2.1 6))]) hxe hcd dX1_takeNumbers_1 rfl hl (by decide) rfl (fun ls hl => ?_)
    refine lv_iload_n hxe hcd dX1_takeNumbers_2 rfl (lv_at hl 0 rfl) ?_
    refine lv_aload_n hxe hcd dX1_takeNumbers_3 rfl (lv_at hl 2 rfl) ?_
    refine r_getO S hW ((hw _ _ _ hW.2.2.2.2.2).2.2.2 6 (by decide)).2.1 g_1624 dX1_takeNumbers_4 ?_
    refine r_calli0 (r_runV hZ S hW (As := []) (rest := [.int (nI 0)]) (t_J0_length_8abf5 l hZ (ids g) A (cE Z A g μ) s.heap.size (fun A U H h => ((hw A U H h).2.2.2 6 (by first | decide | omega)).2.2.2.2) (fun A U H h => (hw A U H h).1) (by first | decide | omega)) k_X1_69 (va_Orecv ((hw _ _ _ hW.2.2.2.2.2).2.2.2 6 (by first | decide | omega)).2.2.2.2.1 hW.2.2.1) (hl.1) rfl rfl (Nat.le_of_ble_eq_true rfl) ⟨Nat.le_of_ble_eq_true rfl, Nat.le_of_ble_eq_true rfl⟩ ⟨Nat.le_of_ble_eq_true rfl, Nat.le_of_ble_eq_true rfl⟩ dX1_takeNumbers_7) hW (fun r7 H locs hp7 hW => ?_)
    have hp7 := hp7.symm
    subst hp7
    refine r_as (y := (nI 1)) (by decide) ?_
    refine lv_icmp_ge (tgt := 80) hxe hcd dX1_takeNumbers_10 (by decide) (fun h => absurd h (by decide)) (fun _ => ?_)
    refine lv_iload_n hxe hcd dX1_takeNumbers_13 rfl (lv_at hl 0 rfl) ?_
    refine lv_if_le (tgt := 28) hxe hcd dX1_takeNumbers_14 (by decide) (fun _ => ?_) (fun h => absurd (by decide) h)
    refine lv_aload_n hxe hcd dX1_takeNumbers_28 rfl (lv_at hl 1 rfl) ?_
    refine lv_aload_n hxe hcd dX1_takeNumbers_29 rfl (lv_at hl 2 rfl) ?_
    refine r_getO S hW ((hw _ _ _ hW.2.2.2.2.2).2.2.2 6 (by decide)).2.1 g_1624 dX1_takeNumbers_30 ?_
    refine lv_iload_n hxe hcd dX1_takeNumbers_33 rfl (lv_at hl 0 rfl) ?_
    refine r_calli0 (r_runV hZ S hW (As := [.int (nI 0)]) (rest := [.ref (A (0, 22))]) (t_J0_charAt_5068e l hZ (ids g) A (cE Z A g μ) H.size (i := 0) (f := fmC 6) (fun A U H h => ((hw A U H h).2.2.2 6 (by first | decide | omega)).2.2.2.2) (by first | decide | omega) (by first | decide | omega) (by first | decide | exact kc_lt _ _) (fun A U H h => (hw A U H h).1)) k_X1_84 (va_Orecv ((hw _ _ _ hW.2.2.2.2.2).2.2.2 6 (by first | decide | omega)).2.2.2.2.1 hW.2.2.1) (hl.1) rfl rfl (Nat.le_of_ble_eq_true rfl) ⟨Nat.le_of_ble_eq_true rfl, Nat.le_of_ble_eq_true rfl⟩ ⟨Nat.le_of_ble_eq_true rfl, Nat.le_of_ble_eq_true rfl⟩ dX1_takeNumbers_34) hW (fun r34 H locs hp34 hW => ?_)
    have hp34 := hp34.symm
    subst hp34
    refine r_as (y := (nI 100)) (by decide) ?_
    refine lv_bipush (v := (nI 100)) hxe hcd dX1_takeNumbers_37 (by decide) ?_
    refine lv_icmp_ne (tgt := 46) hxe hcd dX1_takeNumbers_39 (by decide) (fun h => absurd h (by decide)) (fun _ => ?_)
    refine lv_iconst (v := (nI 1)) hxe hcd dX1_takeNumbers_42 (by decide) ?_
    refine lv_goto (tgt := 47) hxe hcd dX1_takeNumbers_43 (by decide) ?_
    refine r_calli (F := (cE Z A g)) (r_runV hZ S hW (As := [.int (nI 1)]) (rest := []) (t_X1_takeNumber l hZ A g μ H.size (mo := 1) (by omega) hen hn60 t htx (pp := pp) hpp (by omega)) k_X1_91 (r_recv hW (x := (0, 22)) (in_r (by decide) (by decide)) rfl rfl) (hl.1) rfl rfl (Nat.le_of_ble_eq_true rfl) ⟨Nat.le_of_ble_eq_true rfl, Nat.le_of_ble_eq_true rfl⟩ ⟨Nat.le_of_ble_eq_true rfl, Nat.le_of_ble_eq_true rfl⟩ dX1_takeNumbers_47) hW (fun r47 u47 H locs hp47 hW => ?_)
    obtain ⟨d47_0, hdg47_0, hp47, hu⟩ := hp47
    have hu := hu.trans (TX_q0 hcN _)
    subst hu
    rcases hp47 with ⟨hd047_0, rfl⟩ | ⟨hd047_0, rfl⟩
    · refine lv_istore_n (lv' := [(3, .int (-1)), (2, .int (nI 0)), (0, .ref (A (0, 22))), (1, .ref (wd.2.1 6))]) hxe hcd dX1_takeNumbers_50 rfl hl (by decide) rfl (fun ls hl => ?_)
      refine lv_iload_n hxe hcd dX1_takeNumbers_51 rfl (lv_at hl 0 rfl) ?_
      refine lv_iconst (v := (-1)) hxe hcd dX1_takeNumbers_52 (by decide) ?_
      refine lv_icmp_ne (tgt := 58) hxe hcd dX1_takeNumbers_53 (by decide) (fun h => absurd h (by decide)) (fun _ => ?_)
      refine lv_iconst (v := (nI 0)) hxe hcd dX1_takeNumbers_56 (by decide) ?_
      refine r_zret S hr hlk (F := (cE Z A g)) (u := (TX μ (μ 0 24) (μ 0 25) cN (pp + d47_0))) hW (by decide +kernel) ?_ dX1_takeNumbers_57
      exact Or.inl ⟨_, (μ 0 25), (c1_0 (by decide) (if_neg (by decide)) hdg47_0 hd047_0), rfl, by rw [hd047_0, Nat.add_zero]⟩
    · have hdi47_0 := DG_in (fun j hj => (htx j hj).2) (by omega) hdg47_0
      have hdv47_0 := DG_v (fun j hj => (htx j hj).2) (by decide) hdg47_0
      refine lv_istore_n (lv' := [(3, .int (nI (dvN t pp d47_0))), (2, .int (nI 0)), (0, .ref (A (0, 22))), (1, .ref (wd.2.1 6))]) hxe hcd dX1_takeNumbers_50 rfl hl (by decide) rfl (fun ls hl => ?_)
      refine lv_iload_n hxe hcd dX1_takeNumbers_51 rfl (lv_at hl 0 rfl) ?_
      refine lv_iconst (v := (-1)) hxe hcd dX1_takeNumbers_52 (by decide) ?_
      refine lv_icmp_ne (tgt := 58) hxe hcd dX1_takeNumbers_53 (by decide) (fun c53 => ?_) (fun c53 => absurd c53 (nI_m1 (by omega)))
      refine lv_aload_n hxe hcd dX1_takeNumbers_58 rfl (lv_at hl 2 rfl) ?_
      refine gf_X1_22 S hW dX1_takeNumbers_59 ?_
      refine lv_aload_n hxe hcd dX1_takeNumbers_62 rfl (lv_at hl 2 rfl) ?_
      refine gf_X1_25 S hW dX1_takeNumbers_63 ?_
      refine r_as (y := (nI cN)) (TX_c _ _ _ _ _) ?_
      refine lv_iconst (v := (nI 4)) hxe hcd dX1_takeNumbers_66 (by decide) ?_
      refine n_imul S (a := cN) (b := 4) dX1_takeNumbers_67 ?_
      refine lv_iload_n hxe hcd dX1_takeNumbers_68 rfl (lv_at hl 1 rfl) ?_
      refine n_iadd S (a := (cN * 4)) (b := 0) dX1_takeNumbers_69 ?_
      refine lv_iload_n hxe hcd dX1_takeNumbers_70 rfl (lv_at hl 0 rfl) ?_
      refine r_callv (F := (cE Z A g)) (r_runSN hZ S hW (As := [.ref (A (0, 25)), .int (nI ((cN * 4) + 0)), .int (nI (dvN t pp d47_0))]) (rest := []) (t_X9_write l hZ A g (TX μ (μ 0 24) (μ 0 25) cN (pp + d47_0)) H.size (b := 0) (o := 25) (n := 48) rfl (in_r (by decide) (by decide)) (nI ((cN * 4) + 0)) (nI (dvN t pp d47_0))) k_X1_35 (hl.1) rfl rfl (Nat.le_of_ble_eq_true rfl) ⟨Nat.le_of_ble_eq_true rfl, Nat.le_of_ble_eq_true rfl⟩ ⟨Nat.le_of_ble_eq_true rfl, Nat.le_of_ble_eq_true rfl⟩ dX1_takeNumbers_71) hW (fun u71 H locs hp71 hW => ?_)
      have hp71 : u71 = TX μ (μ 0 24) (upd (μ 0 25) ((cN * 4) + 0) (nI (dvN t pp d47_0))) cN (pp + d47_0) := by rw [hp71, TX_w25, TX_25, wr_in (n := 48) (k := ((cN * 4) + 0)) _ _ (by omega) (by decide)]
      subst hp71
      refine lv_iinc (v := (nI 1)) (lv' := [(2, .int (nI 1)), (3, .int (nI (dvN t pp d47_0))), (0, .ref (A (0, 22))), (1, .ref (wd.2.1 6))]) hxe hcd dX1_takeNumbers_74 hl (k := 1) rfl (nI_add 0 1) (by decide) rfl (fun ls hl => ?_)
      refine lv_goto (tgt := 2) hxe hcd dX1_takeNumbers_77 (by decide) ?_
      refine lv_iload_n hxe hcd dX1_takeNumbers_2 rfl (lv_at hl 0 rfl) ?_
      refine lv_aload_n hxe hcd dX1_takeNumbers_3 rfl (lv_at hl 3 rfl) ?_
      refine r_getO S hW ((hw _ _ _ hW.2.2.2.2.2).2.2.2 6 (by decide)).2.1 g_1624 dX1_takeNumbers_4 ?_
      refine r_calli0 (r_runV hZ S hW (As := []) (rest := [.int (nI 1)]) (t_J0_length_8abf5 l hZ (ids g) A (cE Z A g (TX μ (μ 0 24) (upd (μ 0 25) ((cN * 4) + 0) (nI (dvN t pp d47_0))) cN (pp + d47_0))) H.size (fun A U H h => ((hw A U H h).2.2.2 6 (by first | decide | omega)).2.2.2.2) (fun A U H h => (hw A U H h).1) (by first | decide | omega)) k_X1_69 (va_Orecv ((hw _ _ _ hW.2.2.2.2.2).2.2.2 6 (by first | decide | omega)).2.2.2.2.1 hW.2.2.1) (hl.1) rfl rfl (Nat.le_of_ble_eq_true rfl) ⟨Nat.le_of_ble_eq_true rfl, Nat.le_of_ble_eq_true rfl⟩ ⟨Nat.le_of_ble_eq_true rfl, Nat.le_of_ble_eq_true rfl⟩ dX1_takeNumbers_7) hW (fun r7 H locs hp7 hW => ?_)
      have hp7 := hp7.symm
      subst hp7
      refine r_as (y := (nI 1)) (by decide) ?_
      refine lv_icmp_ge (tgt := 80) hxe hcd dX1_takeNumbers_10 (by decide) (fun _ => ?_) (fun h => absurd (by decide) h)
      refine lv_aload_n hxe hcd dX1_takeNumbers_80 rfl (lv_at hl 3 rfl) ?_
      refine r_getO S hW ((hw _ _ _ hW.2.2.2.2.2).2.2.2 6 (by decide)).2.1 g_1624 dX1_takeNumbers_81 ?_
      refine r_calli0 (r_runV hZ S hW (As := []) (rest := []) (t_J0_isEmpty_aae02 l hZ (ids g) A (cE Z A g (TX μ (μ 0 24) (upd (μ 0 25) ((cN * 4) + 0) (nI (dvN t pp d47_0))) cN (pp + d47_0))) H.size (fun A U H h => ((hw A U H h).2.2.2 6 (by first | decide | omega)).2.2.2.2) (fun A U H h => (hw A U H h).1) (by first | decide | omega)) k_X1_94 (va_Orecv ((hw _ _ _ hW.2.2.2.2.2).2.2.2 6 (by first | decide | omega)).2.2.2.2.1 hW.2.2.1) (hl.1) rfl rfl (Nat.le_of_ble_eq_true rfl) ⟨Nat.le_of_ble_eq_true rfl, Nat.le_of_ble_eq_true rfl⟩ ⟨Nat.le_of_ble_eq_true rfl, Nat.le_of_ble_eq_true rfl⟩ dX1_takeNumbers_84) hW (fun r84 H locs hp84 hW => ?_)
      rcases hp84 with ⟨hp840, hp84⟩ | ⟨hp840, hp84⟩
      · exact absurd hp84 (show ¬ fmN 6 = 0 from by decide)
      · subst hp840
        refine lv_if_eq (tgt := 104) hxe hcd dX1_takeNumbers_87 (by decide) (fun _ => ?_) (fun h => absurd (by decide) h)
        refine lv_aload_n hxe hcd dX1_takeNumbers_104 rfl (lv_at hl 2 rfl) ?_
        refine gf_X1_19 S hW dX1_takeNumbers_105 ?_
        refine lv_aload_n hxe hcd dX1_takeNumbers_108 rfl (lv_at hl 2 rfl) ?_
        refine gf_X1_25 S hW dX1_takeNumbers_109 ?_
        refine r_as (y := (nI cN)) (TX_c _ _ _ _ _) ?_
        refine lv_aload_n hxe hcd dX1_takeNumbers_112 rfl (lv_at hl 3 rfl) ?_
        refine r_getO S hW ((hw _ _ _ hW.2.2.2.2.2).2.2.2 6 (by decide)).2.2.1 g_1625 dX1_takeNumbers_113 ?_
        refine r_callv (F := (cE Z A g)) (r_runSN hZ S hW (As := [.ref (A (0, 24)), .int (nI cN), .int (nI (WS 6))]) (rest := []) (t_X9_write l hZ A g (TX μ (μ 0 24) (upd (μ 0 25) ((cN * 4) + 0) (nI (dvN t pp d47_0))) cN (pp + d47_0)) H.size (b := 0) (o := 24) (n := 12) rfl (in_r (by decide) (by decide)) (nI cN) (nI (WS 6))) k_X1_35 (hl.1) rfl rfl (Nat.le_of_ble_eq_true rfl) ⟨Nat.le_of_ble_eq_true rfl, Nat.le_of_ble_eq_true rfl⟩ ⟨Nat.le_of_ble_eq_true rfl, Nat.le_of_ble_eq_true rfl⟩ dX1_takeNumbers_116) hW (fun u116 H locs hp116 hW => ?_)
        have hp116 : u116 = TX μ (upd (μ 0 24) cN (nI (WS 6))) (upd (μ 0 25) ((cN * 4) + 0) (nI (dvN t pp d47_0))) cN (pp + d47_0) := by rw [hp116, TX_w24, TX_24, wr_in (n := 12) (k := cN) _ _ (by omega) (by decide)]
        subst hp116
        refine lv_aload_n hxe hcd dX1_takeNumbers_119 rfl (lv_at hl 2 rfl) ?_
        refine lv_dup hxe hcd dX1_takeNumbers_120 rfl ?_
        refine gf_X1_25 S hW dX1_takeNumbers_121 ?_
        refine r_as (y := (nI cN)) (TX_c _ _ _ _ _) ?_
        refine lv_iconst (v := (nI 1)) hxe hcd dX1_takeNumbers_124 (by decide) ?_
        refine n_iadd S (a := cN) (b := 1) dX1_takeNumbers_125 ?_
        refine gp_X1_25 S hW dX1_takeNumbers_126 (fun H locs hW => ?_)
        rw [TX_wc] at hW
        refine lv_iconst (v := (nI 1)) hxe hcd dX1_takeNumbers_129 (by decide) ?_
        refine r_zret S hr hlk (F := (cE Z A g)) (u := (TX μ (upd (μ 0 24) cN (nI (WS 6))) (upd (μ 0 25) ((cN * 4) + 0) (nI (dvN t pp d47_0))) (cN + 1) (pp + d47_0))) hW (by decide +kernel) ?_ dX1_takeNumbers_130
        refine Or.inr ⟨_, _, _, _, _, _, (c1_d (by decide) (if_neg (by decide)) hdg47_0 hd047_0 (rs_o (by decide) (by decide) (by decide))), rfl, rfl, by omega, by omega, by omega, by omega, by omega, by omega, ⟨?_, ?_, ?_, ?_⟩, fun k hk => ?_⟩
        · rw [TX_24, upd_s]
        · rw [TX_25]; simp [upd_rd]
        · intro hx; exact absurd hx (by decide)
        · intro hx; exact absurd hx (by decide)
        · rw [upd_o (by omega)]
  · refine lv_iconst (v := (nI 0)) hxe hcd dX1_takeNumbers_0 (by decide) ?_
    refine lv_istore_n (lv' := [(2, .int (nI 0)), (0, .ref (A (0, 22))), (1, .ref (wd.2.1 7))]) hxe hcd dX1_takeNumbers_1 rfl hl (by decide) rfl (fun ls hl => ?_)
    refine lv_iload_n hxe hcd dX1_takeNumbers_2 rfl (lv_at hl 0 rfl) ?_
    refine lv_aload_n hxe hcd dX1_takeNumbers_3 rfl (lv_at hl 2 rfl) ?_
    refine r_getO S hW ((hw _ _ _ hW.2.2.2.2.2).2.2.2 7 (by decide)).2.1 g_1624 dX1_takeNumbers_4 ?_
    refine r_calli0 (r_runV hZ S hW (As := []) (rest := [.int (nI 0)]) (t_J0_length_8abf5 l hZ (ids g) A (cE Z A g μ) s.heap.size (fun A U H h => ((hw A U H h).2.2.2 7 (by first | decide | omega)).2.2.2.2) (fun A U H h => (hw A U H h).1) (by first | decide | omega)) k_X1_69 (va_Orecv ((hw _ _ _ hW.2.2.2.2.2).2.2.2 7 (by first | decide | omega)).2.2.2.2.1 hW.2.2.1) (hl.1) rfl rfl (Nat.le_of_ble_eq_true rfl) ⟨Nat.le_of_ble_eq_true rfl, Nat.le_of_ble_eq_true rfl⟩ ⟨Nat.le_of_ble_eq_true rfl, Nat.le_of_ble_eq_true rfl⟩ dX1_takeNumbers_7) hW (fun r7 H locs hp7 hW => ?_)
    have hp7 := hp7.symm
    subst hp7
    refine r_as (y := (nI 4)) (by decide) ?_
    refine lv_icmp_ge (tgt := 80) hxe hcd dX1_takeNumbers_10 (by decide) (fun h => absurd h (by decide)) (fun _ => ?_)
    refine lv_iload_n hxe hcd dX1_takeNumbers_13 rfl (lv_at hl 0 rfl) ?_
    refine lv_if_le (tgt := 28) hxe hcd dX1_takeNumbers_14 (by decide) (fun _ => ?_) (fun h => absurd (by decide) h)
    refine lv_aload_n hxe hcd dX1_takeNumbers_28 rfl (lv_at hl 1 rfl) ?_
    refine lv_aload_n hxe hcd dX1_takeNumbers_29 rfl (lv_at hl 2 rfl) ?_
    refine r_getO S hW ((hw _ _ _ hW.2.2.2.2.2).2.2.2 7 (by decide)).2.1 g_1624 dX1_takeNumbers_30 ?_
    refine lv_iload_n hxe hcd dX1_takeNumbers_33 rfl (lv_at hl 0 rfl) ?_
    refine r_calli0 (r_runV hZ S hW (As := [.int (nI 0)]) (rest := [.ref (A (0, 22))]) (t_J0_charAt_5068e l hZ (ids g) A (cE Z A g μ) H.size (i := 0) (f := fmC 7) (fun A U H h => ((hw A U H h).2.2.2 7 (by first | decide | omega)).2.2.2.2) (by first | decide | omega) (by first | decide | omega) (by first | decide | exact kc_lt _ _) (fun A U H h => (hw A U H h).1)) k_X1_84 (va_Orecv ((hw _ _ _ hW.2.2.2.2.2).2.2.2 7 (by first | decide | omega)).2.2.2.2.1 hW.2.2.1) (hl.1) rfl rfl (Nat.le_of_ble_eq_true rfl) ⟨Nat.le_of_ble_eq_true rfl, Nat.le_of_ble_eq_true rfl⟩ ⟨Nat.le_of_ble_eq_true rfl, Nat.le_of_ble_eq_true rfl⟩ dX1_takeNumbers_34) hW (fun r34 H locs hp34 hW => ?_)
    have hp34 := hp34.symm
    subst hp34
    refine r_as (y := (nI 100)) (by decide) ?_
    refine lv_bipush (v := (nI 100)) hxe hcd dX1_takeNumbers_37 (by decide) ?_
    refine lv_icmp_ne (tgt := 46) hxe hcd dX1_takeNumbers_39 (by decide) (fun h => absurd h (by decide)) (fun _ => ?_)
    refine lv_iconst (v := (nI 1)) hxe hcd dX1_takeNumbers_42 (by decide) ?_
    refine lv_goto (tgt := 47) hxe hcd dX1_takeNumbers_43 (by decide) ?_
    refine r_calli (F := (cE Z A g)) (r_runV hZ S hW (As := [.int (nI 1)]) (rest := []) (t_X1_takeNumber l hZ A g μ H.size (mo := 1) (by omega) hen hn60 t htx (pp := pp) hpp (by omega)) k_X1_91 (r_recv hW (x := (0, 22)) (in_r (by decide) (by decide)) rfl rfl) (hl.1) rfl rfl (Nat.le_of_ble_eq_true rfl) ⟨Nat.le_of_ble_eq_true rfl, Nat.le_of_ble_eq_true rfl⟩ ⟨Nat.le_of_ble_eq_true rfl, Nat.le_of_ble_eq_true rfl⟩ dX1_takeNumbers_47) hW (fun r47 u47 H locs hp47 hW => ?_)
    obtain ⟨d47_0, hdg47_0, hp47, hu⟩ := hp47
    have hu := hu.trans (TX_q0 hcN _)
    subst hu
    rcases hp47 with ⟨hd047_0, rfl⟩ | ⟨hd047_0, rfl⟩
    · refine lv_istore_n (lv' := [(3, .int (-1)), (2, .int (nI 0)), (0, .ref (A (0, 22))), (1, .ref (wd.2.1 7))]) hxe hcd dX1_takeNumbers_50 rfl hl (by decide) rfl (fun ls hl => ?_)
      refine lv_iload_n hxe hcd dX1_takeNumbers_51 rfl (lv_at hl 0 rfl) ?_
      refine lv_iconst (v := (-1)) hxe hcd dX1_takeNumbers_52 (by decide) ?_
      refine lv_icmp_ne (tgt := 58) hxe hcd dX1_takeNumbers_53 (by decide) (fun h => absurd h (by decide)) (fun _ => ?_)
      refine lv_iconst (v := (nI 0)) hxe hcd dX1_takeNumbers_56 (by decide) ?_
      refine r_zret S hr hlk (F := (cE Z A g)) (u := (TX μ (μ 0 24) (μ 0 25) cN (pp + d47_0))) hW (by decide +kernel) ?_ dX1_takeNumbers_57
      exact Or.inl ⟨_, (μ 0 25), (c1_0 (by decide) (if_neg (by decide)) hdg47_0 hd047_0), rfl, by rw [hd047_0, Nat.add_zero]⟩
    · have hdi47_0 := DG_in (fun j hj => (htx j hj).2) (by omega) hdg47_0
      have hdv47_0 := DG_v (fun j hj => (htx j hj).2) (by decide) hdg47_0
      refine lv_istore_n (lv' := [(3, .int (nI (dvN t pp d47_0))), (2, .int (nI 0)), (0, .ref (A (0, 22))), (1, .ref (wd.2.1 7))]) hxe hcd dX1_takeNumbers_50 rfl hl (by decide) rfl (fun ls hl => ?_)
      refine lv_iload_n hxe hcd dX1_takeNumbers_51 rfl (lv_at hl 0 rfl) ?_
      refine lv_iconst (v := (-1)) hxe hcd dX1_takeNumbers_52 (by decide) ?_
      refine lv_icmp_ne (tgt := 58) hxe hcd dX1_takeNumbers_53 (by decide) (fun c53 => ?_) (fun c53 => absurd c53 (nI_m1 (by omega)))
      refine lv_aload_n hxe hcd dX1_takeNumbers_58 rfl (lv_at hl 2 rfl) ?_
      refine gf_X1_22 S hW dX1_takeNumbers_59 ?_
      refine lv_aload_n hxe hcd dX1_takeNumbers_62 rfl (lv_at hl 2 rfl) ?_
      refine gf_X1_25 S hW dX1_takeNumbers_63 ?_
      refine r_as (y := (nI cN)) (TX_c _ _ _ _ _) ?_
      refine lv_iconst (v := (nI 4)) hxe hcd dX1_takeNumbers_66 (by decide) ?_
      refine n_imul S (a := cN) (b := 4) dX1_takeNumbers_67 ?_
      refine lv_iload_n hxe hcd dX1_takeNumbers_68 rfl (lv_at hl 1 rfl) ?_
      refine n_iadd S (a := (cN * 4)) (b := 0) dX1_takeNumbers_69 ?_
      refine lv_iload_n hxe hcd dX1_takeNumbers_70 rfl (lv_at hl 0 rfl) ?_
      refine r_callv (F := (cE Z A g)) (r_runSN hZ S hW (As := [.ref (A (0, 25)), .int (nI ((cN * 4) + 0)), .int (nI (dvN t pp d47_0))]) (rest := []) (t_X9_write l hZ A g (TX μ (μ 0 24) (μ 0 25) cN (pp + d47_0)) H.size (b := 0) (o := 25) (n := 48) rfl (in_r (by decide) (by decide)) (nI ((cN * 4) + 0)) (nI (dvN t pp d47_0))) k_X1_35 (hl.1) rfl rfl (Nat.le_of_ble_eq_true rfl) ⟨Nat.le_of_ble_eq_true rfl, Nat.le_of_ble_eq_true rfl⟩ ⟨Nat.le_of_ble_eq_true rfl, Nat.le_of_ble_eq_true rfl⟩ dX1_takeNumbers_71) hW (fun u71 H locs hp71 hW => ?_)
      have hp71 : u71 = TX μ (μ 0 24) (upd (μ 0 25) ((cN * 4) + 0) (nI (dvN t pp d47_0))) cN (pp + d47_0) := by rw [hp71, TX_w25, TX_25, wr_in (n := 48) (k := ((cN * 4) + 0)) _ _ (by omega) (by decide)]
      subst hp71
      refine lv_iinc (v := (nI 1)) (lv' := [(2, .int (nI 1)), (3, .int (nI (dvN t pp d47_0))), (0, .ref (A (0, 22))), (1, .ref (wd.2.1 7))]) hxe hcd dX1_takeNumbers_74 hl (k := 1) rfl (nI_add 0 1) (by decide) rfl (fun ls hl => ?_)
      refine lv_goto (tgt := 2) hxe hcd dX1_takeNumbers_77 (by decide) ?_
      refine lv_iload_n hxe hcd dX1_takeNumbers_2 rfl (lv_at hl 0 rfl) ?_
      refine lv_aload_n hxe hcd dX1_takeNumbers_3 rfl (lv_at hl 3 rfl) ?_
      refine r_getO S hW ((hw _ _ _ hW.2.2.2.2.2).2.2.2 7 (by decide)).2.1 g_1624 dX1_takeNumbers_4 ?_
      refine r_calli0 (r_runV hZ S hW (As := []) (rest := [.int (nI 1)]) (t_J0_length_8abf5 l hZ (ids g) A (cE Z A g (TX μ (μ 0 24) (upd (μ 0 25) ((cN * 4) + 0) (nI (dvN t pp d47_0))) cN (pp + d47_0))) H.size (fun A U H h => ((hw A U H h).2.2.2 7 (by first | decide | omega)).2.2.2.2) (fun A U H h => (hw A U H h).1) (by first | decide | omega)) k_X1_69 (va_Orecv ((hw _ _ _ hW.2.2.2.2.2).2.2.2 7 (by first | decide | omega)).2.2.2.2.1 hW.2.2.1) (hl.1) rfl rfl (Nat.le_of_ble_eq_true rfl) ⟨Nat.le_of_ble_eq_true rfl, Nat.le_of_ble_eq_true rfl⟩ ⟨Nat.le_of_ble_eq_true rfl, Nat.le_of_ble_eq_true rfl⟩ dX1_takeNumbers_7) hW (fun r7 H locs hp7 hW => ?_)
      have hp7 := hp7.symm
      subst hp7
      refine r_as (y := (nI 4)) (by decide) ?_
      refine lv_icmp_ge (tgt := 80) hxe hcd dX1_takeNumbers_10 (by decide) (fun h => absurd h (by decide)) (fun _ => ?_)
      refine lv_iload_n hxe hcd dX1_takeNumbers_13 rfl (lv_at hl 0 rfl) ?_
      refine lv_if_le (tgt := 28) hxe hcd dX1_takeNumbers_14 (by decide) (fun h => absurd h (by decide)) (fun _ => ?_)
      refine lv_aload_n hxe hcd dX1_takeNumbers_17 rfl (lv_at hl 2 rfl) ?_
      refine lv_bipush (v := (nI 32)) hxe hcd dX1_takeNumbers_18 (by decide) ?_
      refine r_calli (F := (cE Z A g)) (r_runV hZ S hW (As := [.int (nI 32)]) (rest := []) (t_X1_takeSign l hZ A g (TX μ (μ 0 24) (upd (μ 0 25) ((cN * 4) + 0) (nI (dvN t pp d47_0))) cN (pp + d47_0)) H.size ((TX_n _ _ _ _ _).trans hen) hn60 t (fun j hj => by rw [TX_t]; exact htx j hj) (pp := pp + d47_0) (TX_h _ _ _ _ _) (by omega) (nI 32)) k_X1_47 (r_recv hW (x := (0, 22)) (in_r (by decide) (by decide)) rfl rfl) (hl.1) rfl rfl (Nat.le_of_ble_eq_true rfl) ⟨Nat.le_of_ble_eq_true rfl, Nat.le_of_ble_eq_true rfl⟩ ⟨Nat.le_of_ble_eq_true rfl, Nat.le_of_ble_eq_true rfl⟩ dX1_takeNumbers_20) hW (fun r20 u20 H locs hp20 hW => ?_)
      rcases hp20 with ⟨hk20_1, rfl, hu⟩ | ⟨hk20_1, rfl, rfl⟩
      · have hu := hu.trans (TX_q _ _ _ _ _ _)
        subst hu
        have hlt20_1 := chT_in (by decide) hk20_1
        refine lv_if_ne (tgt := 28) hxe hcd dX1_takeNumbers_23 (by decide) (fun _ => ?_) (fun h => absurd h (by decide))
        refine lv_aload_n hxe hcd dX1_takeNumbers_28 rfl (lv_at hl 2 rfl) ?_
        refine lv_aload_n hxe hcd dX1_takeNumbers_29 rfl (lv_at hl 3 rfl) ?_
        refine r_getO S hW ((hw _ _ _ hW.2.2.2.2.2).2.2.2 7 (by decide)).2.1 g_1624 dX1_takeNumbers_30 ?_
        refine lv_iload_n hxe hcd dX1_takeNumbers_33 rfl (lv_at hl 0 rfl) ?_
        refine r_calli0 (r_runV hZ S hW (As := [.int (nI 1)]) (rest := [.ref (A (0, 22))]) (t_J0_charAt_5068e l hZ (ids g) A (cE Z A g (TX μ (μ 0 24) (upd (μ 0 25) ((cN * 4) + 0) (nI (dvN t pp d47_0))) cN (pp + d47_0 + 1))) H.size (i := 1) (f := fmC 7) (fun A U H h => ((hw A U H h).2.2.2 7 (by first | decide | omega)).2.2.2.2) (by first | decide | omega) (by first | decide | omega) (by first | decide | exact kc_lt _ _) (fun A U H h => (hw A U H h).1)) k_X1_84 (va_Orecv ((hw _ _ _ hW.2.2.2.2.2).2.2.2 7 (by first | decide | omega)).2.2.2.2.1 hW.2.2.1) (hl.1) rfl rfl (Nat.le_of_ble_eq_true rfl) ⟨Nat.le_of_ble_eq_true rfl, Nat.le_of_ble_eq_true rfl⟩ ⟨Nat.le_of_ble_eq_true rfl, Nat.le_of_ble_eq_true rfl⟩ dX1_takeNumbers_34) hW (fun r34 H locs hp34 hW => ?_)
        have hp34 := hp34.symm
        subst hp34
        refine r_as (y := (nI 110)) (by decide) ?_
        refine lv_bipush (v := (nI 100)) hxe hcd dX1_takeNumbers_37 (by decide) ?_
        refine lv_icmp_ne (tgt := 46) hxe hcd dX1_takeNumbers_39 (by decide) (fun _ => ?_) (fun h => absurd h (by decide))
        refine lv_iconst (v := (nI 3)) hxe hcd dX1_takeNumbers_46 (by decide) ?_
        refine r_calli (F := (cE Z A g)) (r_runV hZ S hW (As := [.int (nI 3)]) (rest := []) (t_X1_takeNumber l hZ A g (TX μ (μ 0 24) (upd (μ 0 25) ((cN * 4) + 0) (nI (dvN t pp d47_0))) cN (pp + d47_0 + 1)) H.size (mo := 3) (by omega) ((TX_n _ _ _ _ _).trans hen) hn60 t (fun j hj => by rw [TX_t]; exact htx j hj) (pp := pp + d47_0 + 1) (TX_h _ _ _ _ _) (by omega)) k_X1_91 (r_recv hW (x := (0, 22)) (in_r (by decide) (by decide)) rfl rfl) (hl.1) rfl rfl (Nat.le_of_ble_eq_true rfl) ⟨Nat.le_of_ble_eq_true rfl, Nat.le_of_ble_eq_true rfl⟩ ⟨Nat.le_of_ble_eq_true rfl, Nat.le_of_ble_eq_true rfl⟩ dX1_takeNumbers_47) hW (fun r47 u47 H locs hp47 hW => ?_)
        obtain ⟨d47_2, hdg47_2, hp47, hu⟩ := hp47
        have hu := hu.trans (TX_q _ _ _ _ _ _)
        subst hu
        rcases hp47 with ⟨hd047_2, rfl⟩ | ⟨hd047_2, rfl⟩
        · refine lv_istore_n (lv' := [(3, .int (-1)), (2, .int (nI 1)), (0, .ref (A (0, 22))), (1, .ref (wd.2.1 7))]) hxe hcd dX1_takeNumbers_50 rfl hl (by decide) rfl (fun ls hl => ?_)
          refine lv_iload_n hxe hcd dX1_takeNumbers_51 rfl (lv_at hl 0 rfl) ?_
          refine lv_iconst (v := (-1)) hxe hcd dX1_takeNumbers_52 (by decide) ?_
          refine lv_icmp_ne (tgt := 58) hxe hcd dX1_takeNumbers_53 (by decide) (fun h => absurd h (by decide)) (fun _ => ?_)
          refine lv_iconst (v := (nI 0)) hxe hcd dX1_takeNumbers_56 (by decide) ?_
          refine r_zret S hr hlk (F := (cE Z A g)) (u := (TX μ (μ 0 24) (upd (μ 0 25) ((cN * 4) + 0) (nI (dvN t pp d47_0))) cN (pp + d47_0 + 1 + d47_2))) hW (by decide +kernel) ?_ dX1_takeNumbers_57
          exact Or.inl ⟨_, (upd (μ 0 25) ((cN * 4) + 0) (nI (dvN t pp d47_0))), (c1_d (by decide) (if_neg (by decide)) hdg47_0 hd047_0 (rs7_1 rfl (bhF_0 hk20_1 hdg47_2 hd047_2))), rfl, by rw [hd047_2, Nat.add_zero]⟩
        · have hdi47_2 := DG_in (fun j hj => (htx j hj).2) (by omega) hdg47_2
          have hdv47_2 := DG_v (fun j hj => (htx j hj).2) (by decide) hdg47_2
          refine lv_istore_n (lv' := [(3, .int (nI (dvN t (pp + d47_0 + 1) d47_2))), (2, .int (nI 1)), (0, .ref (A (0, 22))), (1, .ref (wd.2.1 7))]) hxe hcd dX1_takeNumbers_50 rfl hl (by decide) rfl (fun ls hl => ?_)
          refine lv_iload_n hxe hcd dX1_takeNumbers_51 rfl (lv_at hl 0 rfl) ?_
          refine lv_iconst (v := (-1)) hxe hcd dX1_takeNumbers_52 (by decide) ?_
          refine lv_icmp_ne (tgt := 58) hxe hcd dX1_takeNumbers_53 (by decide) (fun c53 => ?_) (fun c53 => absurd c53 (nI_m1 (by omega)))
          refine lv_aload_n hxe hcd dX1_takeNumbers_58 rfl (lv_at hl 2 rfl) ?_
          refine gf_X1_22 S hW dX1_takeNumbers_59 ?_
          refine lv_aload_n hxe hcd dX1_takeNumbers_62 rfl (lv_at hl 2 rfl) ?_
          refine gf_X1_25 S hW dX1_takeNumbers_63 ?_
          refine r_as (y := (nI cN)) (TX_c _ _ _ _ _) ?_
          refine lv_iconst (v := (nI 4)) hxe hcd dX1_takeNumbers_66 (by decide) ?_
          refine n_imul S (a := cN) (b := 4) dX1_takeNumbers_67 ?_
          refine lv_iload_n hxe hcd dX1_takeNumbers_68 rfl (lv_at hl 1 rfl) ?_
          refine n_iadd S (a := (cN * 4)) (b := 1) dX1_takeNumbers_69 ?_
          refine lv_iload_n hxe hcd dX1_takeNumbers_70 rfl (lv_at hl 0 rfl) ?_
          refine r_callv (F := (cE Z A g)) (r_runSN hZ S hW (As := [.ref (A (0, 25)), .int (nI ((cN * 4) + 1)), .int (nI (dvN t (pp + d47_0 + 1) d47_2))]) (rest := []) (t_X9_write l hZ A g (TX μ (μ 0 24) (upd (μ 0 25) ((cN * 4) + 0) (nI (dvN t pp d47_0))) cN (pp + d47_0 + 1 + d47_2)) H.size (b := 0) (o := 25) (n := 48) rfl (in_r (by decide) (by decide)) (nI ((cN * 4) + 1)) (nI (dvN t (pp + d47_0 + 1) d47_2))) k_X1_35 (hl.1) rfl rfl (Nat.le_of_ble_eq_true rfl) ⟨Nat.le_of_ble_eq_true rfl, Nat.le_of_ble_eq_true rfl⟩ ⟨Nat.le_of_ble_eq_true rfl, Nat.le_of_ble_eq_true rfl⟩ dX1_takeNumbers_71) hW (fun u71 H locs hp71 hW => ?_)
          have hp71 : u71 = TX μ (μ 0 24) (upd (upd (μ 0 25) ((cN * 4) + 0) (nI (dvN t pp d47_0))) ((cN * 4) + 1) (nI (dvN t (pp + d47_0 + 1) d47_2))) cN (pp + d47_0 + 1 + d47_2) := by rw [hp71, TX_w25, TX_25, wr_in (n := 48) (k := ((cN * 4) + 1)) _ _ (by omega) (by decide)]
          subst hp71
          refine lv_iinc (v := (nI 2)) (lv' := [(2, .int (nI 2)), (3, .int (nI (dvN t (pp + d47_0 + 1) d47_2))), (0, .ref (A (0, 22))), (1, .ref (wd.2.1 7))]) hxe hcd dX1_takeNumbers_74 hl (k := 1) rfl (nI_add 1 1) (by decide) rfl (fun ls hl => ?_)
          refine lv_goto (tgt := 2) hxe hcd dX1_takeNumbers_77 (by decide) ?_
          refine lv_iload_n hxe hcd dX1_takeNumbers_2 rfl (lv_at hl 0 rfl) ?_
          refine lv_aload_n hxe hcd dX1_takeNumbers_3 rfl (lv_at hl 3 rfl) ?_
          refine r_getO S hW ((hw _ _ _ hW.2.2.2.2.2).2.2.2 7 (by decide)).2.1 g_1624 dX1_takeNumbers_4 ?_
          refine r_calli0 (r_runV hZ S hW (As := []) (rest := [.int (nI 2)]) (t_J0_length_8abf5 l hZ (ids g) A (cE Z A g (TX μ (μ 0 24) (upd (upd (μ 0 25) ((cN * 4) + 0) (nI (dvN t pp d47_0))) ((cN * 4) + 1) (nI (dvN t (pp + d47_0 + 1) d47_2))) cN (pp + d47_0 + 1 + d47_2))) H.size (fun A U H h => ((hw A U H h).2.2.2 7 (by first | decide | omega)).2.2.2.2) (fun A U H h => (hw A U H h).1) (by first | decide | omega)) k_X1_69 (va_Orecv ((hw _ _ _ hW.2.2.2.2.2).2.2.2 7 (by first | decide | omega)).2.2.2.2.1 hW.2.2.1) (hl.1) rfl rfl (Nat.le_of_ble_eq_true rfl) ⟨Nat.le_of_ble_eq_true rfl, Nat.le_of_ble_eq_true rfl⟩ ⟨Nat.le_of_ble_eq_true rfl, Nat.le_of_ble_eq_true rfl⟩ dX1_takeNumbers_7) hW (fun r7 H locs hp7 hW => ?_)
          have hp7 := hp7.symm
          subst hp7
          refine r_as (y := (nI 4)) (by decide) ?_
          refine lv_icmp_ge (tgt := 80) hxe hcd dX1_takeNumbers_10 (by decide) (fun h => absurd h (by decide)) (fun _ => ?_)
          refine lv_iload_n hxe hcd dX1_takeNumbers_13 rfl (lv_at hl 0 rfl) ?_
          refine lv_if_le (tgt := 28) hxe hcd dX1_takeNumbers_14 (by decide) (fun h => absurd h (by decide)) (fun _ => ?_)
          refine lv_aload_n hxe hcd dX1_takeNumbers_17 rfl (lv_at hl 2 rfl) ?_
          refine lv_bipush (v := (nI 32)) hxe hcd dX1_takeNumbers_18 (by decide) ?_
          refine r_calli (F := (cE Z A g)) (r_runV hZ S hW (As := [.int (nI 32)]) (rest := []) (t_X1_takeSign l hZ A g (TX μ (μ 0 24) (upd (upd (μ 0 25) ((cN * 4) + 0) (nI (dvN t pp d47_0))) ((cN * 4) + 1) (nI (dvN t (pp + d47_0 + 1) d47_2))) cN (pp + d47_0 + 1 + d47_2)) H.size ((TX_n _ _ _ _ _).trans hen) hn60 t (fun j hj => by rw [TX_t]; exact htx j hj) (pp := pp + d47_0 + 1 + d47_2) (TX_h _ _ _ _ _) (by omega) (nI 32)) k_X1_47 (r_recv hW (x := (0, 22)) (in_r (by decide) (by decide)) rfl rfl) (hl.1) rfl rfl (Nat.le_of_ble_eq_true rfl) ⟨Nat.le_of_ble_eq_true rfl, Nat.le_of_ble_eq_true rfl⟩ ⟨Nat.le_of_ble_eq_true rfl, Nat.le_of_ble_eq_true rfl⟩ dX1_takeNumbers_20) hW (fun r20 u20 H locs hp20 hW => ?_)
          rcases hp20 with ⟨hk20_3, rfl, hu⟩ | ⟨hk20_3, rfl, rfl⟩
          · have hu := hu.trans (TX_q _ _ _ _ _ _)
            subst hu
            have hlt20_3 := chT_in (by decide) hk20_3
            refine lv_if_ne (tgt := 28) hxe hcd dX1_takeNumbers_23 (by decide) (fun _ => ?_) (fun h => absurd h (by decide))
            refine lv_aload_n hxe hcd dX1_takeNumbers_28 rfl (lv_at hl 2 rfl) ?_
            refine lv_aload_n hxe hcd dX1_takeNumbers_29 rfl (lv_at hl 3 rfl) ?_
            refine r_getO S hW ((hw _ _ _ hW.2.2.2.2.2).2.2.2 7 (by decide)).2.1 g_1624 dX1_takeNumbers_30 ?_
            refine lv_iload_n hxe hcd dX1_takeNumbers_33 rfl (lv_at hl 0 rfl) ?_
            refine r_calli0 (r_runV hZ S hW (As := [.int (nI 2)]) (rest := [.ref (A (0, 22))]) (t_J0_charAt_5068e l hZ (ids g) A (cE Z A g (TX μ (μ 0 24) (upd (upd (μ 0 25) ((cN * 4) + 0) (nI (dvN t pp d47_0))) ((cN * 4) + 1) (nI (dvN t (pp + d47_0 + 1) d47_2))) cN (pp + d47_0 + 1 + d47_2 + 1))) H.size (i := 2) (f := fmC 7) (fun A U H h => ((hw A U H h).2.2.2 7 (by first | decide | omega)).2.2.2.2) (by first | decide | omega) (by first | decide | omega) (by first | decide | exact kc_lt _ _) (fun A U H h => (hw A U H h).1)) k_X1_84 (va_Orecv ((hw _ _ _ hW.2.2.2.2.2).2.2.2 7 (by first | decide | omega)).2.2.2.2.1 hW.2.2.1) (hl.1) rfl rfl (Nat.le_of_ble_eq_true rfl) ⟨Nat.le_of_ble_eq_true rfl, Nat.le_of_ble_eq_true rfl⟩ ⟨Nat.le_of_ble_eq_true rfl, Nat.le_of_ble_eq_true rfl⟩ dX1_takeNumbers_34) hW (fun r34 H locs hp34 hW => ?_)
            have hp34 := hp34.symm
            subst hp34
            refine r_as (y := (nI 110)) (by decide) ?_
            refine lv_bipush (v := (nI 100)) hxe hcd dX1_takeNumbers_37 (by decide) ?_
            refine lv_icmp_ne (tgt := 46) hxe hcd dX1_takeNumbers_39 (by decide) (fun _ => ?_) (fun h => absurd h (by decide))
            refine lv_iconst (v := (nI 3)) hxe hcd dX1_takeNumbers_46 (by decide) ?_
            refine r_calli (F := (cE Z A g)) (r_runV hZ S hW (As := [.int (nI 3)]) (rest := []) (t_X1_takeNumber l hZ A g (TX μ (μ 0 24) (upd (upd (μ 0 25) ((cN * 4) + 0) (nI (dvN t pp d47_0))) ((cN * 4) + 1) (nI (dvN t (pp + d47_0 + 1) d47_2))) cN (pp + d47_0 + 1 + d47_2 + 1)) H.size (mo := 3) (by omega) ((TX_n _ _ _ _ _).trans hen) hn60 t (fun j hj => by rw [TX_t]; exact htx j hj) (pp := pp + d47_0 + 1 + d47_2 + 1) (TX_h _ _ _ _ _) (by omega)) k_X1_91 (r_recv hW (x := (0, 22)) (in_r (by decide) (by decide)) rfl rfl) (hl.1) rfl rfl (Nat.le_of_ble_eq_true rfl) ⟨Nat.le_of_ble_eq_true rfl, Nat.le_of_ble_eq_true rfl⟩ ⟨Nat.le_of_ble_eq_true rfl, Nat.le_of_ble_eq_true rfl⟩ dX1_takeNumbers_47) hW (fun r47 u47 H locs hp47 hW => ?_)
            obtain ⟨d47_4, hdg47_4, hp47, hu⟩ := hp47
            have hu := hu.trans (TX_q _ _ _ _ _ _)
            subst hu
            rcases hp47 with ⟨hd047_4, rfl⟩ | ⟨hd047_4, rfl⟩
            · refine lv_istore_n (lv' := [(3, .int (-1)), (2, .int (nI 2)), (0, .ref (A (0, 22))), (1, .ref (wd.2.1 7))]) hxe hcd dX1_takeNumbers_50 rfl hl (by decide) rfl (fun ls hl => ?_)
              refine lv_iload_n hxe hcd dX1_takeNumbers_51 rfl (lv_at hl 0 rfl) ?_
              refine lv_iconst (v := (-1)) hxe hcd dX1_takeNumbers_52 (by decide) ?_
              refine lv_icmp_ne (tgt := 58) hxe hcd dX1_takeNumbers_53 (by decide) (fun h => absurd h (by decide)) (fun _ => ?_)
              refine lv_iconst (v := (nI 0)) hxe hcd dX1_takeNumbers_56 (by decide) ?_
              refine r_zret S hr hlk (F := (cE Z A g)) (u := (TX μ (μ 0 24) (upd (upd (μ 0 25) ((cN * 4) + 0) (nI (dvN t pp d47_0))) ((cN * 4) + 1) (nI (dvN t (pp + d47_0 + 1) d47_2))) cN (pp + d47_0 + 1 + d47_2 + 1 + d47_4))) hW (by decide +kernel) ?_ dX1_takeNumbers_57
              exact Or.inl ⟨_, (upd (upd (μ 0 25) ((cN * 4) + 0) (nI (dvN t pp d47_0))) ((cN * 4) + 1) (nI (dvN t (pp + d47_0 + 1) d47_2))), (c1_d (by decide) (if_neg (by decide)) hdg47_0 hd047_0 (rs7_2 rfl (bhF_d hk20_1 hdg47_2 hd047_2) (bhF_0 hk20_3 hdg47_4 hd047_4))), rfl, by rw [hd047_4, Nat.add_zero]⟩
            · have hdi47_4 := DG_in (fun j hj => (htx j hj).2) (by omega) hdg47_4
              have hdv47_4 := DG_v (fun j hj => (htx j hj).2) (by decide) hdg47_4
              refine lv_istore_n (lv' := [(3, .int (nI (dvN t (pp + d47_0 + 1 + d47_2 + 1) d47_4))), (2, .int (nI 2)), (0, .ref (A (0, 22))), (1, .ref (wd.2.1 7))]) hxe hcd dX1_takeNumbers_50 rfl hl (by decide) rfl (fun ls hl => ?_)
              refine lv_iload_n hxe hcd dX1_takeNumbers_51 rfl (lv_at hl 0 rfl) ?_
              refine lv_iconst (v := (-1)) hxe hcd dX1_takeNumbers_52 (by decide) ?_
              refine lv_icmp_ne (tgt := 58) hxe hcd dX1_takeNumbers_53 (by decide) (fun c53 => ?_) (fun c53 => absurd c53 (nI_m1 (by omega)))
              refine lv_aload_n hxe hcd dX1_takeNumbers_58 rfl (lv_at hl 2 rfl) ?_
              refine gf_X1_22 S hW dX1_takeNumbers_59 ?_
              refine lv_aload_n hxe hcd dX1_takeNumbers_62 rfl (lv_at hl 2 rfl) ?_
              refine gf_X1_25 S hW dX1_takeNumbers_63 ?_
              refine r_as (y := (nI cN)) (TX_c _ _ _ _ _) ?_
              refine lv_iconst (v := (nI 4)) hxe hcd dX1_takeNumbers_66 (by decide) ?_
              refine n_imul S (a := cN) (b := 4) dX1_takeNumbers_67 ?_
              refine lv_iload_n hxe hcd dX1_takeNumbers_68 rfl (lv_at hl 1 rfl) ?_
              refine n_iadd S (a := (cN * 4)) (b := 2) dX1_takeNumbers_69 ?_
              refine lv_iload_n hxe hcd dX1_takeNumbers_70 rfl (lv_at hl 0 rfl) ?_
              refine r_callv (F := (cE Z A g)) (r_runSN hZ S hW (As := [.ref (A (0, 25)), .int (nI ((cN * 4) + 2)), .int (nI (dvN t (pp + d47_0 + 1 + d47_2 + 1) d47_4))]) (rest := []) (t_X9_write l hZ A g (TX μ (μ 0 24) (upd (upd (μ 0 25) ((cN * 4) + 0) (nI (dvN t pp d47_0))) ((cN * 4) + 1) (nI (dvN t (pp + d47_0 + 1) d47_2))) cN (pp + d47_0 + 1 + d47_2 + 1 + d47_4)) H.size (b := 0) (o := 25) (n := 48) rfl (in_r (by decide) (by decide)) (nI ((cN * 4) + 2)) (nI (dvN t (pp + d47_0 + 1 + d47_2 + 1) d47_4))) k_X1_35 (hl.1) rfl rfl (Nat.le_of_ble_eq_true rfl) ⟨Nat.le_of_ble_eq_true rfl, Nat.le_of_ble_eq_true rfl⟩ ⟨Nat.le_of_ble_eq_true rfl, Nat.le_of_ble_eq_true rfl⟩ dX1_takeNumbers_71) hW (fun u71 H locs hp71 hW => ?_)
              have hp71 : u71 = TX μ (μ 0 24) (upd (upd (upd (μ 0 25) ((cN * 4) + 0) (nI (dvN t pp d47_0))) ((cN * 4) + 1) (nI (dvN t (pp + d47_0 + 1) d47_2))) ((cN * 4) + 2) (nI (dvN t (pp + d47_0 + 1 + d47_2 + 1) d47_4))) cN (pp + d47_0 + 1 + d47_2 + 1 + d47_4) := by rw [hp71, TX_w25, TX_25, wr_in (n := 48) (k := ((cN * 4) + 2)) _ _ (by omega) (by decide)]
              subst hp71
              refine lv_iinc (v := (nI 3)) (lv' := [(2, .int (nI 3)), (3, .int (nI (dvN t (pp + d47_0 + 1 + d47_2 + 1) d47_4))), (0, .ref (A (0, 22))), (1, .ref (wd.2.1 7))]) hxe hcd dX1_takeNumbers_74 hl (k := 1) rfl (nI_add 2 1) (by decide) rfl (fun ls hl => ?_)
              refine lv_goto (tgt := 2) hxe hcd dX1_takeNumbers_77 (by decide) ?_
              refine lv_iload_n hxe hcd dX1_takeNumbers_2 rfl (lv_at hl 0 rfl) ?_
              refine lv_aload_n hxe hcd dX1_takeNumbers_3 rfl (lv_at hl 3 rfl) ?_
              refine r_getO S hW ((hw _ _ _ hW.2.2.2.2.2).2.2.2 7 (by decide)).2.1 g_1624 dX1_takeNumbers_4 ?_
              refine r_calli0 (r_runV hZ S hW (As := []) (rest := [.int (nI 3)]) (t_J0_length_8abf5 l hZ (ids g) A (cE Z A g (TX μ (μ 0 24) (upd (upd (upd (μ 0 25) ((cN * 4) + 0) (nI (dvN t pp d47_0))) ((cN * 4) + 1) (nI (dvN t (pp + d47_0 + 1) d47_2))) ((cN * 4) + 2) (nI (dvN t (pp + d47_0 + 1 + d47_2 + 1) d47_4))) cN (pp + d47_0 + 1 + d47_2 + 1 + d47_4))) H.size (fun A U H h => ((hw A U H h).2.2.2 7 (by first | decide | omega)).2.2.2.2) (fun A U H h => (hw A U H h).1) (by first | decide | omega)) k_X1_69 (va_Orecv ((hw _ _ _ hW.2.2.2.2.2).2.2.2 7 (by first | decide | omega)).2.2.2.2.1 hW.2.2.1) (hl.1) rfl rfl (Nat.le_of_ble_eq_true rfl) ⟨Nat.le_of_ble_eq_true rfl, Nat.le_of_ble_eq_true rfl⟩ ⟨Nat.le_of_ble_eq_true rfl, Nat.le_of_ble_eq_true rfl⟩ dX1_takeNumbers_7) hW (fun r7 H locs hp7 hW => ?_)
              have hp7 := hp7.symm
              subst hp7
              refine r_as (y := (nI 4)) (by decide) ?_
              refine lv_icmp_ge (tgt := 80) hxe hcd dX1_takeNumbers_10 (by decide) (fun h => absurd h (by decide)) (fun _ => ?_)
              refine lv_iload_n hxe hcd dX1_takeNumbers_13 rfl (lv_at hl 0 rfl) ?_
              refine lv_if_le (tgt := 28) hxe hcd dX1_takeNumbers_14 (by decide) (fun h => absurd h (by decide)) (fun _ => ?_)
              refine lv_aload_n hxe hcd dX1_takeNumbers_17 rfl (lv_at hl 2 rfl) ?_
              refine lv_bipush (v := (nI 32)) hxe hcd dX1_takeNumbers_18 (by decide) ?_
              refine r_calli (F := (cE Z A g)) (r_runV hZ S hW (As := [.int (nI 32)]) (rest := []) (t_X1_takeSign l hZ A g (TX μ (μ 0 24) (upd (upd (upd (μ 0 25) ((cN * 4) + 0) (nI (dvN t pp d47_0))) ((cN * 4) + 1) (nI (dvN t (pp + d47_0 + 1) d47_2))) ((cN * 4) + 2) (nI (dvN t (pp + d47_0 + 1 + d47_2 + 1) d47_4))) cN (pp + d47_0 + 1 + d47_2 + 1 + d47_4)) H.size ((TX_n _ _ _ _ _).trans hen) hn60 t (fun j hj => by rw [TX_t]; exact htx j hj) (pp := pp + d47_0 + 1 + d47_2 + 1 + d47_4) (TX_h _ _ _ _ _) (by omega) (nI 32)) k_X1_47 (r_recv hW (x := (0, 22)) (in_r (by decide) (by decide)) rfl rfl) (hl.1) rfl rfl (Nat.le_of_ble_eq_true rfl) ⟨Nat.le_of_ble_eq_true rfl, Nat.le_of_ble_eq_true rfl⟩ ⟨Nat.le_of_ble_eq_true rfl, Nat.le_of_ble_eq_true rfl⟩ dX1_takeNumbers_20) hW (fun r20 u20 H locs hp20 hW => ?_)
              rcases hp20 with ⟨hk20_5, rfl, hu⟩ | ⟨hk20_5, rfl, rfl⟩
              · have hu := hu.trans (TX_q _ _ _ _ _ _)
                subst hu
                have hlt20_5 := chT_in (by decide) hk20_5
                refine lv_if_ne (tgt := 28) hxe hcd dX1_takeNumbers_23 (by decide) (fun _ => ?_) (fun h => absurd h (by decide))
                refine lv_aload_n hxe hcd dX1_takeNumbers_28 rfl (lv_at hl 2 rfl) ?_
                refine lv_aload_n hxe hcd dX1_takeNumbers_29 rfl (lv_at hl 3 rfl) ?_
                refine r_getO S hW ((hw _ _ _ hW.2.2.2.2.2).2.2.2 7 (by decide)).2.1 g_1624 dX1_takeNumbers_30 ?_
                refine lv_iload_n hxe hcd dX1_takeNumbers_33 rfl (lv_at hl 0 rfl) ?_
                refine r_calli0 (r_runV hZ S hW (As := [.int (nI 3)]) (rest := [.ref (A (0, 22))]) (t_J0_charAt_5068e l hZ (ids g) A (cE Z A g (TX μ (μ 0 24) (upd (upd (upd (μ 0 25) ((cN * 4) + 0) (nI (dvN t pp d47_0))) ((cN * 4) + 1) (nI (dvN t (pp + d47_0 + 1) d47_2))) ((cN * 4) + 2) (nI (dvN t (pp + d47_0 + 1 + d47_2 + 1) d47_4))) cN (pp + d47_0 + 1 + d47_2 + 1 + d47_4 + 1))) H.size (i := 3) (f := fmC 7) (fun A U H h => ((hw A U H h).2.2.2 7 (by first | decide | omega)).2.2.2.2) (by first | decide | omega) (by first | decide | omega) (by first | decide | exact kc_lt _ _) (fun A U H h => (hw A U H h).1)) k_X1_84 (va_Orecv ((hw _ _ _ hW.2.2.2.2.2).2.2.2 7 (by first | decide | omega)).2.2.2.2.1 hW.2.2.1) (hl.1) rfl rfl (Nat.le_of_ble_eq_true rfl) ⟨Nat.le_of_ble_eq_true rfl, Nat.le_of_ble_eq_true rfl⟩ ⟨Nat.le_of_ble_eq_true rfl, Nat.le_of_ble_eq_true rfl⟩ dX1_takeNumbers_34) hW (fun r34 H locs hp34 hW => ?_)
                have hp34 := hp34.symm
                subst hp34
                refine r_as (y := (nI 110)) (by decide) ?_
                refine lv_bipush (v := (nI 100)) hxe hcd dX1_takeNumbers_37 (by decide) ?_
                refine lv_icmp_ne (tgt := 46) hxe hcd dX1_takeNumbers_39 (by decide) (fun _ => ?_) (fun h => absurd h (by decide))
                refine lv_iconst (v := (nI 3)) hxe hcd dX1_takeNumbers_46 (by decide) ?_
                refine r_calli (F := (cE Z A g)) (r_runV hZ S hW (As := [.int (nI 3)]) (rest := []) (t_X1_takeNumber l hZ A g (TX μ (μ 0 24) (upd (upd (upd (μ 0 25) ((cN * 4) + 0) (nI (dvN t pp d47_0))) ((cN * 4) + 1) (nI (dvN t (pp + d47_0 + 1) d47_2))) ((cN * 4) + 2) (nI (dvN t (pp + d47_0 + 1 + d47_2 + 1) d47_4))) cN (pp + d47_0 + 1 + d47_2 + 1 + d47_4 + 1)) H.size (mo := 3) (by omega) ((TX_n _ _ _ _ _).trans hen) hn60 t (fun j hj => by rw [TX_t]; exact htx j hj) (pp := pp + d47_0 + 1 + d47_2 + 1 + d47_4 + 1) (TX_h _ _ _ _ _) (by omega)) k_X1_91 (r_recv hW (x := (0, 22)) (in_r (by decide) (by decide)) rfl rfl) (hl.1) rfl rfl (Nat.le_of_ble_eq_true rfl) ⟨Nat.le_of_ble_eq_true rfl, Nat.le_of_ble_eq_true rfl⟩ ⟨Nat.le_of_ble_eq_true rfl, Nat.le_of_ble_eq_true rfl⟩ dX1_takeNumbers_47) hW (fun r47 u47 H locs hp47 hW => ?_)
                obtain ⟨d47_6, hdg47_6, hp47, hu⟩ := hp47
                have hu := hu.trans (TX_q _ _ _ _ _ _)
                subst hu
                rcases hp47 with ⟨hd047_6, rfl⟩ | ⟨hd047_6, rfl⟩
                · refine lv_istore_n (lv' := [(3, .int (-1)), (2, .int (nI 3)), (0, .ref (A (0, 22))), (1, .ref (wd.2.1 7))]) hxe hcd dX1_takeNumbers_50 rfl hl (by decide) rfl (fun ls hl => ?_)
                  refine lv_iload_n hxe hcd dX1_takeNumbers_51 rfl (lv_at hl 0 rfl) ?_
                  refine lv_iconst (v := (-1)) hxe hcd dX1_takeNumbers_52 (by decide) ?_
                  refine lv_icmp_ne (tgt := 58) hxe hcd dX1_takeNumbers_53 (by decide) (fun h => absurd h (by decide)) (fun _ => ?_)
                  refine lv_iconst (v := (nI 0)) hxe hcd dX1_takeNumbers_56 (by decide) ?_
                  refine r_zret S hr hlk (F := (cE Z A g)) (u := (TX μ (μ 0 24) (upd (upd (upd (μ 0 25) ((cN * 4) + 0) (nI (dvN t pp d47_0))) ((cN * 4) + 1) (nI (dvN t (pp + d47_0 + 1) d47_2))) ((cN * 4) + 2) (nI (dvN t (pp + d47_0 + 1 + d47_2 + 1) d47_4))) cN (pp + d47_0 + 1 + d47_2 + 1 + d47_4 + 1 + d47_6))) hW (by decide +kernel) ?_ dX1_takeNumbers_57
                  exact Or.inl ⟨_, (upd (upd (upd (μ 0 25) ((cN * 4) + 0) (nI (dvN t pp d47_0))) ((cN * 4) + 1) (nI (dvN t (pp + d47_0 + 1) d47_2))) ((cN * 4) + 2) (nI (dvN t (pp + d47_0 + 1 + d47_2 + 1) d47_4))), (c1_d (by decide) (if_neg (by decide)) hdg47_0 hd047_0 (rs7_3 rfl (bhF_d hk20_1 hdg47_2 hd047_2) (bhF_d hk20_3 hdg47_4 hd047_4) (bhF_0 hk20_5 hdg47_6 hd047_6))), rfl, by rw [hd047_6, Nat.add_zero]⟩
                · have hdi47_6 := DG_in (fun j hj => (htx j hj).2) (by omega) hdg47_6
                  have hdv47_6 := DG_v (fun j hj => (htx j hj).2) (by decide) hdg47_6
                  refine lv_istore_n (lv' := [(3, .int (nI (dvN t (pp + d47_0 + 1 + d47_2 + 1 + d47_4 + 1) d47_6))), (2, .int (nI 3)), (0, .ref (A (0, 22))), (1, .ref (wd.2.1 7))]) hxe hcd dX1_takeNumbers_50 rfl hl (by decide) rfl (fun ls hl => ?_)
                  refine lv_iload_n hxe hcd dX1_takeNumbers_51 rfl (lv_at hl 0 rfl) ?_
                  refine lv_iconst (v := (-1)) hxe hcd dX1_takeNumbers_52 (by decide) ?_
                  refine lv_icmp_ne (tgt := 58) hxe hcd dX1_takeNumbers_53 (by decide) (fun c53 => ?_) (fun c53 => absurd c53 (nI_m1 (by omega)))
                  refine lv_aload_n hxe hcd dX1_takeNumbers_58 rfl (lv_at hl 2 rfl) ?_
                  refine gf_X1_22 S hW dX1_takeNumbers_59 ?_
                  refine lv_aload_n hxe hcd dX1_takeNumbers_62 rfl (lv_at hl 2 rfl) ?_
                  refine gf_X1_25 S hW dX1_takeNumbers_63 ?_
                  refine r_as (y := (nI cN)) (TX_c _ _ _ _ _) ?_
                  refine lv_iconst (v := (nI 4)) hxe hcd dX1_takeNumbers_66 (by decide) ?_
                  refine n_imul S (a := cN) (b := 4) dX1_takeNumbers_67 ?_
                  refine lv_iload_n hxe hcd dX1_takeNumbers_68 rfl (lv_at hl 1 rfl) ?_
                  refine n_iadd S (a := (cN * 4)) (b := 3) dX1_takeNumbers_69 ?_
                  refine lv_iload_n hxe hcd dX1_takeNumbers_70 rfl (lv_at hl 0 rfl) ?_
                  refine r_callv (F := (cE Z A g)) (r_runSN hZ S hW (As := [.ref (A (0, 25)), .int (nI ((cN * 4) + 3)), .int (nI (dvN t (pp + d47_0 + 1 + d47_2 + 1 + d47_4 + 1) d47_6))]) (rest := []) (t_X9_write l hZ A g (TX μ (μ 0 24) (upd (upd (upd (μ 0 25) ((cN * 4) + 0) (nI (dvN t pp d47_0))) ((cN * 4) + 1) (nI (dvN t (pp + d47_0 + 1) d47_2))) ((cN * 4) + 2) (nI (dvN t (pp + d47_0 + 1 + d47_2 + 1) d47_4))) cN (pp + d47_0 + 1 + d47_2 + 1 + d47_4 + 1 + d47_6)) H.size (b := 0) (o := 25) (n := 48) rfl (in_r (by decide) (by decide)) (nI ((cN * 4) + 3)) (nI (dvN t (pp + d47_0 + 1 + d47_2 + 1 + d47_4 + 1) d47_6))) k_X1_35 (hl.1) rfl rfl (Nat.le_of_ble_eq_true rfl) ⟨Nat.le_of_ble_eq_true rfl, Nat.le_of_ble_eq_true rfl⟩ ⟨Nat.le_of_ble_eq_true rfl, Nat.le_of_ble_eq_true rfl⟩ dX1_takeNumbers_71) hW (fun u71 H locs hp71 hW => ?_)
                  have hp71 : u71 = TX μ (μ 0 24) (upd (upd (upd (upd (μ 0 25) ((cN * 4) + 0) (nI (dvN t pp d47_0))) ((cN * 4) + 1) (nI (dvN t (pp + d47_0 + 1) d47_2))) ((cN * 4) + 2) (nI (dvN t (pp + d47_0 + 1 + d47_2 + 1) d47_4))) ((cN * 4) + 3) (nI (dvN t (pp + d47_0 + 1 + d47_2 + 1 + d47_4 + 1) d47_6))) cN (pp + d47_0 + 1 + d47_2 + 1 + d47_4 + 1 + d47_6) := by rw [hp71, TX_w25, TX_25, wr_in (n := 48) (k := ((cN * 4) + 3)) _ _ (by omega) (by decide)]
                  subst hp71
                  refine lv_iinc (v := (nI 4)) (lv' := [(2, .int (nI 4)), (3, .int (nI (dvN t (pp + d47_0 + 1 + d47_2 + 1 + d47_4 + 1) d47_6))), (0, .ref (A (0, 22))), (1, .ref (wd.2.1 7))]) hxe hcd dX1_takeNumbers_74 hl (k := 1) rfl (nI_add 3 1) (by decide) rfl (fun ls hl => ?_)
                  refine lv_goto (tgt := 2) hxe hcd dX1_takeNumbers_77 (by decide) ?_
                  refine lv_iload_n hxe hcd dX1_takeNumbers_2 rfl (lv_at hl 0 rfl) ?_
                  refine lv_aload_n hxe hcd dX1_takeNumbers_3 rfl (lv_at hl 3 rfl) ?_
                  refine r_getO S hW ((hw _ _ _ hW.2.2.2.2.2).2.2.2 7 (by decide)).2.1 g_1624 dX1_takeNumbers_4 ?_
                  refine r_calli0 (r_runV hZ S hW (As := []) (rest := [.int (nI 4)]) (t_J0_length_8abf5 l hZ (ids g) A (cE Z A g (TX μ (μ 0 24) (upd (upd (upd (upd (μ 0 25) ((cN * 4) + 0) (nI (dvN t pp d47_0))) ((cN * 4) + 1) (nI (dvN t (pp + d47_0 + 1) d47_2))) ((cN * 4) + 2) (nI (dvN t (pp + d47_0 + 1 + d47_2 + 1) d47_4))) ((cN * 4) + 3) (nI (dvN t (pp + d47_0 + 1 + d47_2 + 1 + d47_4 + 1) d47_6))) cN (pp + d47_0 + 1 + d47_2 + 1 + d47_4 + 1 + d47_6))) H.size (fun A U H h => ((hw A U H h).2.2.2 7 (by first | decide | omega)).2.2.2.2) (fun A U H h => (hw A U H h).1) (by first | decide | omega)) k_X1_69 (va_Orecv ((hw _ _ _ hW.2.2.2.2.2).2.2.2 7 (by first | decide | omega)).2.2.2.2.1 hW.2.2.1) (hl.1) rfl rfl (Nat.le_of_ble_eq_true rfl) ⟨Nat.le_of_ble_eq_true rfl, Nat.le_of_ble_eq_true rfl⟩ ⟨Nat.le_of_ble_eq_true rfl, Nat.le_of_ble_eq_true rfl⟩ dX1_takeNumbers_7) hW (fun r7 H locs hp7 hW => ?_)
                  have hp7 := hp7.symm
                  subst hp7
                  refine r_as (y := (nI 4)) (by decide) ?_
                  refine lv_icmp_ge (tgt := 80) hxe hcd dX1_takeNumbers_10 (by decide) (fun _ => ?_) (fun h => absurd (by decide) h)
                  refine lv_aload_n hxe hcd dX1_takeNumbers_80 rfl (lv_at hl 3 rfl) ?_
                  refine r_getO S hW ((hw _ _ _ hW.2.2.2.2.2).2.2.2 7 (by decide)).2.1 g_1624 dX1_takeNumbers_81 ?_
                  refine r_calli0 (r_runV hZ S hW (As := []) (rest := []) (t_J0_isEmpty_aae02 l hZ (ids g) A (cE Z A g (TX μ (μ 0 24) (upd (upd (upd (upd (μ 0 25) ((cN * 4) + 0) (nI (dvN t pp d47_0))) ((cN * 4) + 1) (nI (dvN t (pp + d47_0 + 1) d47_2))) ((cN * 4) + 2) (nI (dvN t (pp + d47_0 + 1 + d47_2 + 1) d47_4))) ((cN * 4) + 3) (nI (dvN t (pp + d47_0 + 1 + d47_2 + 1 + d47_4 + 1) d47_6))) cN (pp + d47_0 + 1 + d47_2 + 1 + d47_4 + 1 + d47_6))) H.size (fun A U H h => ((hw A U H h).2.2.2 7 (by first | decide | omega)).2.2.2.2) (fun A U H h => (hw A U H h).1) (by first | decide | omega)) k_X1_94 (va_Orecv ((hw _ _ _ hW.2.2.2.2.2).2.2.2 7 (by first | decide | omega)).2.2.2.2.1 hW.2.2.1) (hl.1) rfl rfl (Nat.le_of_ble_eq_true rfl) ⟨Nat.le_of_ble_eq_true rfl, Nat.le_of_ble_eq_true rfl⟩ ⟨Nat.le_of_ble_eq_true rfl, Nat.le_of_ble_eq_true rfl⟩ dX1_takeNumbers_84) hW (fun r84 H locs hp84 hW => ?_)
                  rcases hp84 with ⟨hp840, hp84⟩ | ⟨hp840, hp84⟩
                  · exact absurd hp84 (show ¬ fmN 7 = 0 from by decide)
                  · subst hp840
                    refine lv_if_eq (tgt := 104) hxe hcd dX1_takeNumbers_87 (by decide) (fun _ => ?_) (fun h => absurd (by decide) h)
                    refine lv_aload_n hxe hcd dX1_takeNumbers_104 rfl (lv_at hl 2 rfl) ?_
                    refine gf_X1_19 S hW dX1_takeNumbers_105 ?_
                    refine lv_aload_n hxe hcd dX1_takeNumbers_108 rfl (lv_at hl 2 rfl) ?_
                    refine gf_X1_25 S hW dX1_takeNumbers_109 ?_
                    refine r_as (y := (nI cN)) (TX_c _ _ _ _ _) ?_
                    refine lv_aload_n hxe hcd dX1_takeNumbers_112 rfl (lv_at hl 3 rfl) ?_
                    refine r_getO S hW ((hw _ _ _ hW.2.2.2.2.2).2.2.2 7 (by decide)).2.2.1 g_1625 dX1_takeNumbers_113 ?_
                    refine r_callv (F := (cE Z A g)) (r_runSN hZ S hW (As := [.ref (A (0, 24)), .int (nI cN), .int (nI (WS 7))]) (rest := []) (t_X9_write l hZ A g (TX μ (μ 0 24) (upd (upd (upd (upd (μ 0 25) ((cN * 4) + 0) (nI (dvN t pp d47_0))) ((cN * 4) + 1) (nI (dvN t (pp + d47_0 + 1) d47_2))) ((cN * 4) + 2) (nI (dvN t (pp + d47_0 + 1 + d47_2 + 1) d47_4))) ((cN * 4) + 3) (nI (dvN t (pp + d47_0 + 1 + d47_2 + 1 + d47_4 + 1) d47_6))) cN (pp + d47_0 + 1 + d47_2 + 1 + d47_4 + 1 + d47_6)) H.size (b := 0) (o := 24) (n := 12) rfl (in_r (by decide) (by decide)) (nI cN) (nI (WS 7))) k_X1_35 (hl.1) rfl rfl (Nat.le_of_ble_eq_true rfl) ⟨Nat.le_of_ble_eq_true rfl, Nat.le_of_ble_eq_true rfl⟩ ⟨Nat.le_of_ble_eq_true rfl, Nat.le_of_ble_eq_true rfl⟩ dX1_takeNumbers_116) hW (fun u116 H locs hp116 hW => ?_)
                    have hp116 : u116 = TX μ (upd (μ 0 24) cN (nI (WS 7))) (upd (upd (upd (upd (μ 0 25) ((cN * 4) + 0) (nI (dvN t pp d47_0))) ((cN * 4) + 1) (nI (dvN t (pp + d47_0 + 1) d47_2))) ((cN * 4) + 2) (nI (dvN t (pp + d47_0 + 1 + d47_2 + 1) d47_4))) ((cN * 4) + 3) (nI (dvN t (pp + d47_0 + 1 + d47_2 + 1 + d47_4 + 1) d47_6))) cN (pp + d47_0 + 1 + d47_2 + 1 + d47_4 + 1 + d47_6) := by rw [hp116, TX_w24, TX_24, wr_in (n := 12) (k := cN) _ _ (by omega) (by decide)]
                    subst hp116
                    refine lv_aload_n hxe hcd dX1_takeNumbers_119 rfl (lv_at hl 2 rfl) ?_
                    refine lv_dup hxe hcd dX1_takeNumbers_120 rfl ?_
                    refine gf_X1_25 S hW dX1_takeNumbers_121 ?_
                    refine r_as (y := (nI cN)) (TX_c _ _ _ _ _) ?_
                    refine lv_iconst (v := (nI 1)) hxe hcd dX1_takeNumbers_124 (by decide) ?_
                    refine n_iadd S (a := cN) (b := 1) dX1_takeNumbers_125 ?_
                    refine gp_X1_25 S hW dX1_takeNumbers_126 (fun H locs hW => ?_)
                    rw [TX_wc] at hW
                    refine lv_iconst (v := (nI 1)) hxe hcd dX1_takeNumbers_129 (by decide) ?_
                    refine r_zret S hr hlk (F := (cE Z A g)) (u := (TX μ (upd (μ 0 24) cN (nI (WS 7))) (upd (upd (upd (upd (μ 0 25) ((cN * 4) + 0) (nI (dvN t pp d47_0))) ((cN * 4) + 1) (nI (dvN t (pp + d47_0 + 1) d47_2))) ((cN * 4) + 2) (nI (dvN t (pp + d47_0 + 1 + d47_2 + 1) d47_4))) ((cN * 4) + 3) (nI (dvN t (pp + d47_0 + 1 + d47_2 + 1 + d47_4 + 1) d47_6))) (cN + 1) (pp + d47_0 + 1 + d47_2 + 1 + d47_4 + 1 + d47_6))) hW (by decide +kernel) ?_ dX1_takeNumbers_130
                    refine Or.inr ⟨_, _, _, _, _, _, (c1_d (by decide) (if_neg (by decide)) hdg47_0 hd047_0 (rs7_4 rfl (bhF_d hk20_1 hdg47_2 hd047_2) (bhF_d hk20_3 hdg47_4 hd047_4) (bhF_d hk20_5 hdg47_6 hd047_6))), rfl, rfl, by omega, by omega, by omega, by omega, by omega, by omega, ⟨?_, ?_, ?_, ?_⟩, fun k hk => ?_⟩
                    · rw [TX_24, upd_s]
                    · rw [TX_25]; simp [upd_rd]
                    · intro hx; rw [TX_25]; simp [upd_rd]
                    · intro hx; rw [TX_25]; exact ⟨by simp [upd_rd], by simp [upd_rd]⟩
                    · rw [upd_o (by omega), upd_o (by omega), upd_o (by omega), upd_o (by omega)]
              · refine lv_if_ne (tgt := 28) hxe hcd dX1_takeNumbers_23 (by decide) (fun h => absurd h (by decide)) (fun _ => ?_)
                refine lv_iconst (v := (nI 0)) hxe hcd dX1_takeNumbers_26 (by decide) ?_
                refine r_zret S hr hlk (F := (cE Z A g)) (u := (TX μ (μ 0 24) (upd (upd (upd (μ 0 25) ((cN * 4) + 0) (nI (dvN t pp d47_0))) ((cN * 4) + 1) (nI (dvN t (pp + d47_0 + 1) d47_2))) ((cN * 4) + 2) (nI (dvN t (pp + d47_0 + 1 + d47_2 + 1) d47_4))) cN (pp + d47_0 + 1 + d47_2 + 1 + d47_4))) hW (by decide +kernel) ?_ dX1_takeNumbers_27
                exact Or.inl ⟨_, (upd (upd (upd (μ 0 25) ((cN * 4) + 0) (nI (dvN t pp d47_0))) ((cN * 4) + 1) (nI (dvN t (pp + d47_0 + 1) d47_2))) ((cN * 4) + 2) (nI (dvN t (pp + d47_0 + 1 + d47_2 + 1) d47_4))), (c1_d (by decide) (if_neg (by decide)) hdg47_0 hd047_0 (rs7_3 rfl (bhF_d hk20_1 hdg47_2 hd047_2) (bhF_d hk20_3 hdg47_4 hd047_4) (bhF_s hk20_5))), rfl, rfl⟩
          · refine lv_if_ne (tgt := 28) hxe hcd dX1_takeNumbers_23 (by decide) (fun h => absurd h (by decide)) (fun _ => ?_)
            refine lv_iconst (v := (nI 0)) hxe hcd dX1_takeNumbers_26 (by decide) ?_
            refine r_zret S hr hlk (F := (cE Z A g)) (u := (TX μ (μ 0 24) (upd (upd (μ 0 25) ((cN * 4) + 0) (nI (dvN t pp d47_0))) ((cN * 4) + 1) (nI (dvN t (pp + d47_0 + 1) d47_2))) cN (pp + d47_0 + 1 + d47_2))) hW (by decide +kernel) ?_ dX1_takeNumbers_27
            exact Or.inl ⟨_, (upd (upd (μ 0 25) ((cN * 4) + 0) (nI (dvN t pp d47_0))) ((cN * 4) + 1) (nI (dvN t (pp + d47_0 + 1) d47_2))), (c1_d (by decide) (if_neg (by decide)) hdg47_0 hd047_0 (rs7_2 rfl (bhF_d hk20_1 hdg47_2 hd047_2) (bhF_s hk20_3))), rfl, rfl⟩
      · refine lv_if_ne (tgt := 28) hxe hcd dX1_takeNumbers_23 (by decide) (fun h => absurd h (by decide)) (fun _ => ?_)
        refine lv_iconst (v := (nI 0)) hxe hcd dX1_takeNumbers_26 (by decide) ?_
        refine r_zret S hr hlk (F := (cE Z A g)) (u := (TX μ (μ 0 24) (upd (μ 0 25) ((cN * 4) + 0) (nI (dvN t pp d47_0))) cN (pp + d47_0))) hW (by decide +kernel) ?_ dX1_takeNumbers_27
        exact Or.inl ⟨_, (upd (μ 0 25) ((cN * 4) + 0) (nI (dvN t pp d47_0))), (c1_d (by decide) (if_neg (by decide)) hdg47_0 hd047_0 (rs7_1 rfl (bhF_s hk20_1))), rfl, rfl⟩
  · refine lv_iconst (v := (nI 0)) hxe hcd dX1_takeNumbers_0 (by decide) ?_
    refine lv_istore_n (lv' := [(2, .int (nI 0)), (0, .ref (A (0, 22))), (1, .ref (wd.2.1 8))]) hxe hcd dX1_takeNumbers_1 rfl hl (by decide) rfl (fun ls hl => ?_)
    refine lv_iload_n hxe hcd dX1_takeNumbers_2 rfl (lv_at hl 0 rfl) ?_
    refine lv_aload_n hxe hcd dX1_takeNumbers_3 rfl (lv_at hl 2 rfl) ?_
    refine r_getO S hW ((hw _ _ _ hW.2.2.2.2.2).2.2.2 8 (by decide)).2.1 g_1624 dX1_takeNumbers_4 ?_
    refine r_calli0 (r_runV hZ S hW (As := []) (rest := [.int (nI 0)]) (t_J0_length_8abf5 l hZ (ids g) A (cE Z A g μ) s.heap.size (fun A U H h => ((hw A U H h).2.2.2 8 (by first | decide | omega)).2.2.2.2) (fun A U H h => (hw A U H h).1) (by first | decide | omega)) k_X1_69 (va_Orecv ((hw _ _ _ hW.2.2.2.2.2).2.2.2 8 (by first | decide | omega)).2.2.2.2.1 hW.2.2.1) (hl.1) rfl rfl (Nat.le_of_ble_eq_true rfl) ⟨Nat.le_of_ble_eq_true rfl, Nat.le_of_ble_eq_true rfl⟩ ⟨Nat.le_of_ble_eq_true rfl, Nat.le_of_ble_eq_true rfl⟩ dX1_takeNumbers_7) hW (fun r7 H locs hp7 hW => ?_)
    have hp7 := hp7.symm
    subst hp7
    refine r_as (y := (nI 1)) (by decide) ?_
    refine lv_icmp_ge (tgt := 80) hxe hcd dX1_takeNumbers_10 (by decide) (fun h => absurd h (by decide)) (fun _ => ?_)
    refine lv_iload_n hxe hcd dX1_takeNumbers_13 rfl (lv_at hl 0 rfl) ?_
    refine lv_if_le (tgt := 28) hxe hcd dX1_takeNumbers_14 (by decide) (fun _ => ?_) (fun h => absurd (by decide) h)
    refine lv_aload_n hxe hcd dX1_takeNumbers_28 rfl (lv_at hl 1 rfl) ?_
    refine lv_aload_n hxe hcd dX1_takeNumbers_29 rfl (lv_at hl 2 rfl) ?_
    refine r_getO S hW ((hw _ _ _ hW.2.2.2.2.2).2.2.2 8 (by decide)).2.1 g_1624 dX1_takeNumbers_30 ?_
    refine lv_iload_n hxe hcd dX1_takeNumbers_33 rfl (lv_at hl 0 rfl) ?_
    refine r_calli0 (r_runV hZ S hW (As := [.int (nI 0)]) (rest := [.ref (A (0, 22))]) (t_J0_charAt_5068e l hZ (ids g) A (cE Z A g μ) H.size (i := 0) (f := fmC 8) (fun A U H h => ((hw A U H h).2.2.2 8 (by first | decide | omega)).2.2.2.2) (by first | decide | omega) (by first | decide | omega) (by first | decide | exact kc_lt _ _) (fun A U H h => (hw A U H h).1)) k_X1_84 (va_Orecv ((hw _ _ _ hW.2.2.2.2.2).2.2.2 8 (by first | decide | omega)).2.2.2.2.1 hW.2.2.1) (hl.1) rfl rfl (Nat.le_of_ble_eq_true rfl) ⟨Nat.le_of_ble_eq_true rfl, Nat.le_of_ble_eq_true rfl⟩ ⟨Nat.le_of_ble_eq_true rfl, Nat.le_of_ble_eq_true rfl⟩ dX1_takeNumbers_34) hW (fun r34 H locs hp34 hW => ?_)
    have hp34 := hp34.symm
    subst hp34
    refine r_as (y := (nI 100)) (by decide) ?_
    refine lv_bipush (v := (nI 100)) hxe hcd dX1_takeNumbers_37 (by decide) ?_
    refine lv_icmp_ne (tgt := 46) hxe hcd dX1_takeNumbers_39 (by decide) (fun h => absurd h (by decide)) (fun _ => ?_)
    refine lv_iconst (v := (nI 1)) hxe hcd dX1_takeNumbers_42 (by decide) ?_
    refine lv_goto (tgt := 47) hxe hcd dX1_takeNumbers_43 (by decide) ?_
    refine r_calli (F := (cE Z A g)) (r_runV hZ S hW (As := [.int (nI 1)]) (rest := []) (t_X1_takeNumber l hZ A g μ H.size (mo := 1) (by omega) hen hn60 t htx (pp := pp) hpp (by omega)) k_X1_91 (r_recv hW (x := (0, 22)) (in_r (by decide) (by decide)) rfl rfl) (hl.1) rfl rfl (Nat.le_of_ble_eq_true rfl) ⟨Nat.le_of_ble_eq_true rfl, Nat.le_of_ble_eq_true rfl⟩ ⟨Nat.le_of_ble_eq_true rfl, Nat.le_of_ble_eq_true rfl⟩ dX1_takeNumbers_47) hW (fun r47 u47 H locs hp47 hW => ?_)
    obtain ⟨d47_0, hdg47_0, hp47, hu⟩ := hp47
    have hu := hu.trans (TX_q0 hcN _)
    subst hu
    rcases hp47 with ⟨hd047_0, rfl⟩ | ⟨hd047_0, rfl⟩
    · refine lv_istore_n (lv' := [(3, .int (-1)), (2, .int (nI 0)), (0, .ref (A (0, 22))), (1, .ref (wd.2.1 8))]) hxe hcd dX1_takeNumbers_50 rfl hl (by decide) rfl (fun ls hl => ?_)
      refine lv_iload_n hxe hcd dX1_takeNumbers_51 rfl (lv_at hl 0 rfl) ?_
      refine lv_iconst (v := (-1)) hxe hcd dX1_takeNumbers_52 (by decide) ?_
      refine lv_icmp_ne (tgt := 58) hxe hcd dX1_takeNumbers_53 (by decide) (fun h => absurd h (by decide)) (fun _ => ?_)
      refine lv_iconst (v := (nI 0)) hxe hcd dX1_takeNumbers_56 (by decide) ?_
      refine r_zret S hr hlk (F := (cE Z A g)) (u := (TX μ (μ 0 24) (μ 0 25) cN (pp + d47_0))) hW (by decide +kernel) ?_ dX1_takeNumbers_57
      exact Or.inl ⟨_, (μ 0 25), (c1_0 (by decide) (if_neg (by decide)) hdg47_0 hd047_0), rfl, by rw [hd047_0, Nat.add_zero]⟩
    · have hdi47_0 := DG_in (fun j hj => (htx j hj).2) (by omega) hdg47_0
      have hdv47_0 := DG_v (fun j hj => (htx j hj).2) (by decide) hdg47_0
      refine lv_istore_n (lv' := [(3, .int (nI (dvN t pp d47_0))), (2, .int (nI 0)), (0, .ref (A (0, 22))), (1, .ref (wd.2.1 8))]) hxe hcd dX1_takeNumbers_50 rfl hl (by decide) rfl (fun ls hl => ?_)
      refine lv_iload_n hxe hcd dX1_takeNumbers_51 rfl (lv_at hl 0 rfl) ?_
      refine lv_iconst (v := (-1)) hxe hcd dX1_takeNumbers_52 (by decide) ?_
      refine lv_icmp_ne (tgt := 58) hxe hcd dX1_takeNumbers_53 (by decide) (fun c53 => ?_) (fun c53 => absurd c53 (nI_m1 (by omega)))
      refine lv_aload_n hxe hcd dX1_takeNumbers_58 rfl (lv_at hl 2 rfl) ?_
      refine gf_X1_22 S hW dX1_takeNumbers_59 ?_
      refine lv_aload_n hxe hcd dX1_takeNumbers_62 rfl (lv_at hl 2 rfl) ?_
      refine gf_X1_25 S hW dX1_takeNumbers_63 ?_
      refine r_as (y := (nI cN)) (TX_c _ _ _ _ _) ?_
      refine lv_iconst (v := (nI 4)) hxe hcd dX1_takeNumbers_66 (by decide) ?_
      refine n_imul S (a := cN) (b := 4) dX1_takeNumbers_67 ?_
      refine lv_iload_n hxe hcd dX1_takeNumbers_68 rfl (lv_at hl 1 rfl) ?_
      refine n_iadd S (a := (cN * 4)) (b := 0) dX1_takeNumbers_69 ?_
      refine lv_iload_n hxe hcd dX1_takeNumbers_70 rfl (lv_at hl 0 rfl) ?_
      refine r_callv (F := (cE Z A g)) (r_runSN hZ S hW (As := [.ref (A (0, 25)), .int (nI ((cN * 4) + 0)), .int (nI (dvN t pp d47_0))]) (rest := []) (t_X9_write l hZ A g (TX μ (μ 0 24) (μ 0 25) cN (pp + d47_0)) H.size (b := 0) (o := 25) (n := 48) rfl (in_r (by decide) (by decide)) (nI ((cN * 4) + 0)) (nI (dvN t pp d47_0))) k_X1_35 (hl.1) rfl rfl (Nat.le_of_ble_eq_true rfl) ⟨Nat.le_of_ble_eq_true rfl, Nat.le_of_ble_eq_true rfl⟩ ⟨Nat.le_of_ble_eq_true rfl, Nat.le_of_ble_eq_true rfl⟩ dX1_takeNumbers_71) hW (fun u71 H locs hp71 hW => ?_)
      have hp71 : u71 = TX μ (μ 0 24) (upd (μ 0 25) ((cN * 4) + 0) (nI (dvN t pp d47_0))) cN (pp + d47_0) := by rw [hp71, TX_w25, TX_25, wr_in (n := 48) (k := ((cN * 4) + 0)) _ _ (by omega) (by decide)]
      subst hp71
      refine lv_iinc (v := (nI 1)) (lv' := [(2, .int (nI 1)), (3, .int (nI (dvN t pp d47_0))), (0, .ref (A (0, 22))), (1, .ref (wd.2.1 8))]) hxe hcd dX1_takeNumbers_74 hl (k := 1) rfl (nI_add 0 1) (by decide) rfl (fun ls hl => ?_)
      refine lv_goto (tgt := 2) hxe hcd dX1_takeNumbers_77 (by decide) ?_
      refine lv_iload_n hxe hcd dX1_takeNumbers_2 rfl (lv_at hl 0 rfl) ?_
      refine lv_aload_n hxe hcd dX1_takeNumbers_3 rfl (lv_at hl 3 rfl) ?_
      refine r_getO S hW ((hw _ _ _ hW.2.2.2.2.2).2.2.2 8 (by decide)).2.1 g_1624 dX1_takeNumbers_4 ?_
      refine r_calli0 (r_runV hZ S hW (As := []) (rest := [.int (nI 1)]) (t_J0_length_8abf5 l hZ (ids g) A (cE Z A g (TX μ (μ 0 24) (upd (μ 0 25) ((cN * 4) + 0) (nI (dvN t pp d47_0))) cN (pp + d47_0))) H.size (fun A U H h => ((hw A U H h).2.2.2 8 (by first | decide | omega)).2.2.2.2) (fun A U H h => (hw A U H h).1) (by first | decide | omega)) k_X1_69 (va_Orecv ((hw _ _ _ hW.2.2.2.2.2).2.2.2 8 (by first | decide | omega)).2.2.2.2.1 hW.2.2.1) (hl.1) rfl rfl (Nat.le_of_ble_eq_true rfl) ⟨Nat.le_of_ble_eq_true rfl, Nat.le_of_ble_eq_true rfl⟩ ⟨Nat.le_of_ble_eq_true rfl, Nat.le_of_ble_eq_true rfl⟩ dX1_takeNumbers_7) hW (fun r7 H locs hp7 hW => ?_)
      have hp7 := hp7.symm
      subst hp7
      refine r_as (y := (nI 1)) (by decide) ?_
      refine lv_icmp_ge (tgt := 80) hxe hcd dX1_takeNumbers_10 (by decide) (fun _ => ?_) (fun h => absurd (by decide) h)
      refine lv_aload_n hxe hcd dX1_takeNumbers_80 rfl (lv_at hl 3 rfl) ?_
      refine r_getO S hW ((hw _ _ _ hW.2.2.2.2.2).2.2.2 8 (by decide)).2.1 g_1624 dX1_takeNumbers_81 ?_
      refine r_calli0 (r_runV hZ S hW (As := []) (rest := []) (t_J0_isEmpty_aae02 l hZ (ids g) A (cE Z A g (TX μ (μ 0 24) (upd (μ 0 25) ((cN * 4) + 0) (nI (dvN t pp d47_0))) cN (pp + d47_0))) H.size (fun A U H h => ((hw A U H h).2.2.2 8 (by first | decide | omega)).2.2.2.2) (fun A U H h => (hw A U H h).1) (by first | decide | omega)) k_X1_94 (va_Orecv ((hw _ _ _ hW.2.2.2.2.2).2.2.2 8 (by first | decide | omega)).2.2.2.2.1 hW.2.2.1) (hl.1) rfl rfl (Nat.le_of_ble_eq_true rfl) ⟨Nat.le_of_ble_eq_true rfl, Nat.le_of_ble_eq_true rfl⟩ ⟨Nat.le_of_ble_eq_true rfl, Nat.le_of_ble_eq_true rfl⟩ dX1_takeNumbers_84) hW (fun r84 H locs hp84 hW => ?_)
      rcases hp84 with ⟨hp840, hp84⟩ | ⟨hp840, hp84⟩
      · exact absurd hp84 (show ¬ fmN 8 = 0 from by decide)
      · subst hp840
        refine lv_if_eq (tgt := 104) hxe hcd dX1_takeNumbers_87 (by decide) (fun _ => ?_) (fun h => absurd (by decide) h)
        refine lv_aload_n hxe hcd dX1_takeNumbers_104 rfl (lv_at hl 2 rfl) ?_
        refine gf_X1_19 S hW dX1_takeNumbers_105 ?_
        refine lv_aload_n hxe hcd dX1_takeNumbers_108 rfl (lv_at hl 2 rfl) ?_
        refine gf_X1_25 S hW dX1_takeNumbers_109 ?_
        refine r_as (y := (nI cN)) (TX_c _ _ _ _ _) ?_
        refine lv_aload_n hxe hcd dX1_takeNumbers_112 rfl (lv_at hl 3 rfl) ?_
        refine r_getO S hW ((hw _ _ _ hW.2.2.2.2.2).2.2.2 8 (by decide)).2.2.1 g_1625 dX1_takeNumbers_113 ?_
        refine r_callv (F := (cE Z A g)) (r_runSN hZ S hW (As := [.ref (A (0, 24)), .int (nI cN), .int (nI (WS 8))]) (rest := []) (t_X9_write l hZ A g (TX μ (μ 0 24) (upd (μ 0 25) ((cN * 4) + 0) (nI (dvN t pp d47_0))) cN (pp + d47_0)) H.size (b := 0) (o := 24) (n := 12) rfl (in_r (by decide) (by decide)) (nI cN) (nI (WS 8))) k_X1_35 (hl.1) rfl rfl (Nat.le_of_ble_eq_true rfl) ⟨Nat.le_of_ble_eq_true rfl, Nat.le_of_ble_eq_true rfl⟩ ⟨Nat.le_of_ble_eq_true rfl, Nat.le_of_ble_eq_true rfl⟩ dX1_takeNumbers_116) hW (fun u116 H locs hp116 hW => ?_)
        have hp116 : u116 = TX μ (upd (μ 0 24) cN (nI (WS 8))) (upd (μ 0 25) ((cN * 4) + 0) (nI (dvN t pp d47_0))) cN (pp + d47_0) := by rw [hp116, TX_w24, TX_24, wr_in (n := 12) (k := cN) _ _ (by omega) (by decide)]
        subst hp116
        refine lv_aload_n hxe hcd dX1_takeNumbers_119 rfl (lv_at hl 2 rfl) ?_
        refine lv_dup hxe hcd dX1_takeNumbers_120 rfl ?_
        refine gf_X1_25 S hW dX1_takeNumbers_121 ?_
        refine r_as (y := (nI cN)) (TX_c _ _ _ _ _) ?_
        refine lv_iconst (v := (nI 1)) hxe hcd dX1_takeNumbers_124 (by decide) ?_
        refine n_iadd S (a := cN) (b := 1) dX1_takeNumbers_125 ?_
        refine gp_X1_25 S hW dX1_takeNumbers_126 (fun H locs hW => ?_)
        rw [TX_wc] at hW
        refine lv_iconst (v := (nI 1)) hxe hcd dX1_takeNumbers_129 (by decide) ?_
        refine r_zret S hr hlk (F := (cE Z A g)) (u := (TX μ (upd (μ 0 24) cN (nI (WS 8))) (upd (μ 0 25) ((cN * 4) + 0) (nI (dvN t pp d47_0))) (cN + 1) (pp + d47_0))) hW (by decide +kernel) ?_ dX1_takeNumbers_130
        refine Or.inr ⟨_, _, _, _, _, _, (c1_d (by decide) (if_neg (by decide)) hdg47_0 hd047_0 (rs_o (by decide) (by decide) (by decide))), rfl, rfl, by omega, by omega, by omega, by omega, by omega, by omega, ⟨?_, ?_, ?_, ?_⟩, fun k hk => ?_⟩
        · rw [TX_24, upd_s]
        · rw [TX_25]; simp [upd_rd]
        · intro hx; exact absurd hx (by decide)
        · intro hx; exact absurd hx (by decide)
        · rw [upd_o (by omega)]
  · refine lv_iconst (v := (nI 0)) hxe hcd dX1_takeNumbers_0 (by decide) ?_
    refine lv_istore_n (lv' := [(2, .int (nI 0)), (0, .ref (A (0, 22))), (1, .ref (wd.2.1 9))]) hxe hcd dX1_takeNumbers_1 rfl hl (by decide) rfl (fun ls hl => ?_)
    refine lv_iload_n hxe hcd dX1_takeNumbers_2 rfl (lv_at hl 0 rfl) ?_
    refine lv_aload_n hxe hcd dX1_takeNumbers_3 rfl (lv_at hl 2 rfl) ?_
    refine r_getO S hW ((hw _ _ _ hW.2.2.2.2.2).2.2.2 9 (by decide)).2.1 g_1624 dX1_takeNumbers_4 ?_
    refine r_calli0 (r_runV hZ S hW (As := []) (rest := [.int (nI 0)]) (t_J0_length_8abf5 l hZ (ids g) A (cE Z A g μ) s.heap.size (fun A U H h => ((hw A U H h).2.2.2 9 (by first | decide | omega)).2.2.2.2) (fun A U H h => (hw A U H h).1) (by first | decide | omega)) k_X1_69 (va_Orecv ((hw _ _ _ hW.2.2.2.2.2).2.2.2 9 (by first | decide | omega)).2.2.2.2.1 hW.2.2.1) (hl.1) rfl rfl (Nat.le_of_ble_eq_true rfl) ⟨Nat.le_of_ble_eq_true rfl, Nat.le_of_ble_eq_true rfl⟩ ⟨Nat.le_of_ble_eq_true rfl, Nat.le_of_ble_eq_true rfl⟩ dX1_takeNumbers_7) hW (fun r7 H locs hp7 hW => ?_)
    have hp7 := hp7.symm
    subst hp7
    refine r_as (y := (nI 2)) (by decide) ?_
    refine lv_icmp_ge (tgt := 80) hxe hcd dX1_takeNumbers_10 (by decide) (fun h => absurd h (by decide)) (fun _ => ?_)
    refine lv_iload_n hxe hcd dX1_takeNumbers_13 rfl (lv_at hl 0 rfl) ?_
    refine lv_if_le (tgt := 28) hxe hcd dX1_takeNumbers_14 (by decide) (fun _ => ?_) (fun h => absurd (by decide) h)
    refine lv_aload_n hxe hcd dX1_takeNumbers_28 rfl (lv_at hl 1 rfl) ?_
    refine lv_aload_n hxe hcd dX1_takeNumbers_29 rfl (lv_at hl 2 rfl) ?_
    refine r_getO S hW ((hw _ _ _ hW.2.2.2.2.2).2.2.2 9 (by decide)).2.1 g_1624 dX1_takeNumbers_30 ?_
    refine lv_iload_n hxe hcd dX1_takeNumbers_33 rfl (lv_at hl 0 rfl) ?_
    refine r_calli0 (r_runV hZ S hW (As := [.int (nI 0)]) (rest := [.ref (A (0, 22))]) (t_J0_charAt_5068e l hZ (ids g) A (cE Z A g μ) H.size (i := 0) (f := fmC 9) (fun A U H h => ((hw A U H h).2.2.2 9 (by first | decide | omega)).2.2.2.2) (by first | decide | omega) (by first | decide | omega) (by first | decide | exact kc_lt _ _) (fun A U H h => (hw A U H h).1)) k_X1_84 (va_Orecv ((hw _ _ _ hW.2.2.2.2.2).2.2.2 9 (by first | decide | omega)).2.2.2.2.1 hW.2.2.1) (hl.1) rfl rfl (Nat.le_of_ble_eq_true rfl) ⟨Nat.le_of_ble_eq_true rfl, Nat.le_of_ble_eq_true rfl⟩ ⟨Nat.le_of_ble_eq_true rfl, Nat.le_of_ble_eq_true rfl⟩ dX1_takeNumbers_34) hW (fun r34 H locs hp34 hW => ?_)
    have hp34 := hp34.symm
    subst hp34
    refine r_as (y := (nI 100)) (by decide) ?_
    refine lv_bipush (v := (nI 100)) hxe hcd dX1_takeNumbers_37 (by decide) ?_
    refine lv_icmp_ne (tgt := 46) hxe hcd dX1_takeNumbers_39 (by decide) (fun h => absurd h (by decide)) (fun _ => ?_)
    refine lv_iconst (v := (nI 1)) hxe hcd dX1_takeNumbers_42 (by decide) ?_
    refine lv_goto (tgt := 47) hxe hcd dX1_takeNumbers_43 (by decide) ?_
    refine r_calli (F := (cE Z A g)) (r_runV hZ S hW (As := [.int (nI 1)]) (rest := []) (t_X1_takeNumber l hZ A g μ H.size (mo := 1) (by omega) hen hn60 t htx (pp := pp) hpp (by omega)) k_X1_91 (r_recv hW (x := (0, 22)) (in_r (by decide) (by decide)) rfl rfl) (hl.1) rfl rfl (Nat.le_of_ble_eq_true rfl) ⟨Nat.le_of_ble_eq_true rfl, Nat.le_of_ble_eq_true rfl⟩ ⟨Nat.le_of_ble_eq_true rfl, Nat.le_of_ble_eq_true rfl⟩ dX1_takeNumbers_47) hW (fun r47 u47 H locs hp47 hW => ?_)
    obtain ⟨d47_0, hdg47_0, hp47, hu⟩ := hp47
    have hu := hu.trans (TX_q0 hcN _)
    subst hu
    rcases hp47 with ⟨hd047_0, rfl⟩ | ⟨hd047_0, rfl⟩
    · refine lv_istore_n (lv' := [(3, .int (-1)), (2, .int (nI 0)), (0, .ref (A (0, 22))), (1, .ref (wd.2.1 9))]) hxe hcd dX1_takeNumbers_50 rfl hl (by decide) rfl (fun ls hl => ?_)
      refine lv_iload_n hxe hcd dX1_takeNumbers_51 rfl (lv_at hl 0 rfl) ?_
      refine lv_iconst (v := (-1)) hxe hcd dX1_takeNumbers_52 (by decide) ?_
      refine lv_icmp_ne (tgt := 58) hxe hcd dX1_takeNumbers_53 (by decide) (fun h => absurd h (by decide)) (fun _ => ?_)
      refine lv_iconst (v := (nI 0)) hxe hcd dX1_takeNumbers_56 (by decide) ?_
      refine r_zret S hr hlk (F := (cE Z A g)) (u := (TX μ (μ 0 24) (μ 0 25) cN (pp + d47_0))) hW (by decide +kernel) ?_ dX1_takeNumbers_57
      exact Or.inl ⟨_, (μ 0 25), (c1_0 (by decide) (if_neg (by decide)) hdg47_0 hd047_0), rfl, by rw [hd047_0, Nat.add_zero]⟩
    · have hdi47_0 := DG_in (fun j hj => (htx j hj).2) (by omega) hdg47_0
      have hdv47_0 := DG_v (fun j hj => (htx j hj).2) (by decide) hdg47_0
      refine lv_istore_n (lv' := [(3, .int (nI (dvN t pp d47_0))), (2, .int (nI 0)), (0, .ref (A (0, 22))), (1, .ref (wd.2.1 9))]) hxe hcd dX1_takeNumbers_50 rfl hl (by decide) rfl (fun ls hl => ?_)
      refine lv_iload_n hxe hcd dX1_takeNumbers_51 rfl (lv_at hl 0 rfl) ?_
      refine lv_iconst (v := (-1)) hxe hcd dX1_takeNumbers_52 (by decide) ?_
      refine lv_icmp_ne (tgt := 58) hxe hcd dX1_takeNumbers_53 (by decide) (fun c53 => ?_) (fun c53 => absurd c53 (nI_m1 (by omega)))
      refine lv_aload_n hxe hcd dX1_takeNumbers_58 rfl (lv_at hl 2 rfl) ?_
      refine gf_X1_22 S hW dX1_takeNumbers_59 ?_
      refine lv_aload_n hxe hcd dX1_takeNumbers_62 rfl (lv_at hl 2 rfl) ?_
      refine gf_X1_25 S hW dX1_takeNumbers_63 ?_
      refine r_as (y := (nI cN)) (TX_c _ _ _ _ _) ?_
      refine lv_iconst (v := (nI 4)) hxe hcd dX1_takeNumbers_66 (by decide) ?_
      refine n_imul S (a := cN) (b := 4) dX1_takeNumbers_67 ?_
      refine lv_iload_n hxe hcd dX1_takeNumbers_68 rfl (lv_at hl 1 rfl) ?_
      refine n_iadd S (a := (cN * 4)) (b := 0) dX1_takeNumbers_69 ?_
      refine lv_iload_n hxe hcd dX1_takeNumbers_70 rfl (lv_at hl 0 rfl) ?_
      refine r_callv (F := (cE Z A g)) (r_runSN hZ S hW (As := [.ref (A (0, 25)), .int (nI ((cN * 4) + 0)), .int (nI (dvN t pp d47_0))]) (rest := []) (t_X9_write l hZ A g (TX μ (μ 0 24) (μ 0 25) cN (pp + d47_0)) H.size (b := 0) (o := 25) (n := 48) rfl (in_r (by decide) (by decide)) (nI ((cN * 4) + 0)) (nI (dvN t pp d47_0))) k_X1_35 (hl.1) rfl rfl (Nat.le_of_ble_eq_true rfl) ⟨Nat.le_of_ble_eq_true rfl, Nat.le_of_ble_eq_true rfl⟩ ⟨Nat.le_of_ble_eq_true rfl, Nat.le_of_ble_eq_true rfl⟩ dX1_takeNumbers_71) hW (fun u71 H locs hp71 hW => ?_)
      have hp71 : u71 = TX μ (μ 0 24) (upd (μ 0 25) ((cN * 4) + 0) (nI (dvN t pp d47_0))) cN (pp + d47_0) := by rw [hp71, TX_w25, TX_25, wr_in (n := 48) (k := ((cN * 4) + 0)) _ _ (by omega) (by decide)]
      subst hp71
      refine lv_iinc (v := (nI 1)) (lv' := [(2, .int (nI 1)), (3, .int (nI (dvN t pp d47_0))), (0, .ref (A (0, 22))), (1, .ref (wd.2.1 9))]) hxe hcd dX1_takeNumbers_74 hl (k := 1) rfl (nI_add 0 1) (by decide) rfl (fun ls hl => ?_)
      refine lv_goto (tgt := 2) hxe hcd dX1_takeNumbers_77 (by decide) ?_
      refine lv_iload_n hxe hcd dX1_takeNumbers_2 rfl (lv_at hl 0 rfl) ?_
      refine lv_aload_n hxe hcd dX1_takeNumbers_3 rfl (lv_at hl 3 rfl) ?_
      refine r_getO S hW ((hw _ _ _ hW.2.2.2.2.2).2.2.2 9 (by decide)).2.1 g_1624 dX1_takeNumbers_4 ?_
      refine r_calli0 (r_runV hZ S hW (As := []) (rest := [.int (nI 1)]) (t_J0_length_8abf5 l hZ (ids g) A (cE Z A g (TX μ (μ 0 24) (upd (μ 0 25) ((cN * 4) + 0) (nI (dvN t pp d47_0))) cN (pp + d47_0))) H.size (fun A U H h => ((hw A U H h).2.2.2 9 (by first | decide | omega)).2.2.2.2) (fun A U H h => (hw A U H h).1) (by first | decide | omega)) k_X1_69 (va_Orecv ((hw _ _ _ hW.2.2.2.2.2).2.2.2 9 (by first | decide | omega)).2.2.2.2.1 hW.2.2.1) (hl.1) rfl rfl (Nat.le_of_ble_eq_true rfl) ⟨Nat.le_of_ble_eq_true rfl, Nat.le_of_ble_eq_true rfl⟩ ⟨Nat.le_of_ble_eq_true rfl, Nat.le_of_ble_eq_true rfl⟩ dX1_takeNumbers_7) hW (fun r7 H locs hp7 hW => ?_)
      have hp7 := hp7.symm
      subst hp7
      refine r_as (y := (nI 2)) (by decide) ?_
      refine lv_icmp_ge (tgt := 80) hxe hcd dX1_takeNumbers_10 (by decide) (fun h => absurd h (by decide)) (fun _ => ?_)
      refine lv_iload_n hxe hcd dX1_takeNumbers_13 rfl (lv_at hl 0 rfl) ?_
      refine lv_if_le (tgt := 28) hxe hcd dX1_takeNumbers_14 (by decide) (fun h => absurd h (by decide)) (fun _ => ?_)
      refine lv_aload_n hxe hcd dX1_takeNumbers_17 rfl (lv_at hl 2 rfl) ?_
      refine lv_bipush (v := (nI 32)) hxe hcd dX1_takeNumbers_18 (by decide) ?_
      refine r_calli (F := (cE Z A g)) (r_runV hZ S hW (As := [.int (nI 32)]) (rest := []) (t_X1_takeSign l hZ A g (TX μ (μ 0 24) (upd (μ 0 25) ((cN * 4) + 0) (nI (dvN t pp d47_0))) cN (pp + d47_0)) H.size ((TX_n _ _ _ _ _).trans hen) hn60 t (fun j hj => by rw [TX_t]; exact htx j hj) (pp := pp + d47_0) (TX_h _ _ _ _ _) (by omega) (nI 32)) k_X1_47 (r_recv hW (x := (0, 22)) (in_r (by decide) (by decide)) rfl rfl) (hl.1) rfl rfl (Nat.le_of_ble_eq_true rfl) ⟨Nat.le_of_ble_eq_true rfl, Nat.le_of_ble_eq_true rfl⟩ ⟨Nat.le_of_ble_eq_true rfl, Nat.le_of_ble_eq_true rfl⟩ dX1_takeNumbers_20) hW (fun r20 u20 H locs hp20 hW => ?_)
      rcases hp20 with ⟨hk20_1, rfl, hu⟩ | ⟨hk20_1, rfl, rfl⟩
      · have hu := hu.trans (TX_q _ _ _ _ _ _)
        subst hu
        have hlt20_1 := chT_in (by decide) hk20_1
        refine lv_if_ne (tgt := 28) hxe hcd dX1_takeNumbers_23 (by decide) (fun _ => ?_) (fun h => absurd h (by decide))
        refine lv_aload_n hxe hcd dX1_takeNumbers_28 rfl (lv_at hl 2 rfl) ?_
        refine lv_aload_n hxe hcd dX1_takeNumbers_29 rfl (lv_at hl 3 rfl) ?_
        refine r_getO S hW ((hw _ _ _ hW.2.2.2.2.2).2.2.2 9 (by decide)).2.1 g_1624 dX1_takeNumbers_30 ?_
        refine lv_iload_n hxe hcd dX1_takeNumbers_33 rfl (lv_at hl 0 rfl) ?_
        refine r_calli0 (r_runV hZ S hW (As := [.int (nI 1)]) (rest := [.ref (A (0, 22))]) (t_J0_charAt_5068e l hZ (ids g) A (cE Z A g (TX μ (μ 0 24) (upd (μ 0 25) ((cN * 4) + 0) (nI (dvN t pp d47_0))) cN (pp + d47_0 + 1))) H.size (i := 1) (f := fmC 9) (fun A U H h => ((hw A U H h).2.2.2 9 (by first | decide | omega)).2.2.2.2) (by first | decide | omega) (by first | decide | omega) (by first | decide | exact kc_lt _ _) (fun A U H h => (hw A U H h).1)) k_X1_84 (va_Orecv ((hw _ _ _ hW.2.2.2.2.2).2.2.2 9 (by first | decide | omega)).2.2.2.2.1 hW.2.2.1) (hl.1) rfl rfl (Nat.le_of_ble_eq_true rfl) ⟨Nat.le_of_ble_eq_true rfl, Nat.le_of_ble_eq_true rfl⟩ ⟨Nat.le_of_ble_eq_true rfl, Nat.le_of_ble_eq_true rfl⟩ dX1_takeNumbers_34) hW (fun r34 H locs hp34 hW => ?_)
        have hp34 := hp34.symm
        subst hp34
        refine r_as (y := (nI 110)) (by decide) ?_
        refine lv_bipush (v := (nI 100)) hxe hcd dX1_takeNumbers_37 (by decide) ?_
        refine lv_icmp_ne (tgt := 46) hxe hcd dX1_takeNumbers_39 (by decide) (fun _ => ?_) (fun h => absurd h (by decide))
        refine lv_iconst (v := (nI 3)) hxe hcd dX1_takeNumbers_46 (by decide) ?_
        refine r_calli (F := (cE Z A g)) (r_runV hZ S hW (As := [.int (nI 3)]) (rest := []) (t_X1_takeNumber l hZ A g (TX μ (μ 0 24) (upd (μ 0 25) ((cN * 4) + 0) (nI (dvN t pp d47_0))) cN (pp + d47_0 + 1)) H.size (mo := 3) (by omega) ((TX_n _ _ _ _ _).trans hen) hn60 t (fun j hj => by rw [TX_t]; exact htx j hj) (pp := pp + d47_0 + 1) (TX_h _ _ _ _ _) (by omega)) k_X1_91 (r_recv hW (x := (0, 22)) (in_r (by decide) (by decide)) rfl rfl) (hl.1) rfl rfl (Nat.le_of_ble_eq_true rfl) ⟨Nat.le_of_ble_eq_true rfl, Nat.le_of_ble_eq_true rfl⟩ ⟨Nat.le_of_ble_eq_true rfl, Nat.le_of_ble_eq_true rfl⟩ dX1_takeNumbers_47) hW (fun r47 u47 H locs hp47 hW => ?_)
        obtain ⟨d47_2, hdg47_2, hp47, hu⟩ := hp47
        have hu := hu.trans (TX_q _ _ _ _ _ _)
        subst hu
        rcases hp47 with ⟨hd047_2, rfl⟩ | ⟨hd047_2, rfl⟩
        · refine lv_istore_n (lv' := [(3, .int (-1)), (2, .int (nI 1)), (0, .ref (A (0, 22))), (1, .ref (wd.2.1 9))]) hxe hcd dX1_takeNumbers_50 rfl hl (by decide) rfl (fun ls hl => ?_)
          refine lv_iload_n hxe hcd dX1_takeNumbers_51 rfl (lv_at hl 0 rfl) ?_
          refine lv_iconst (v := (-1)) hxe hcd dX1_takeNumbers_52 (by decide) ?_
          refine lv_icmp_ne (tgt := 58) hxe hcd dX1_takeNumbers_53 (by decide) (fun h => absurd h (by decide)) (fun _ => ?_)
          refine lv_iconst (v := (nI 0)) hxe hcd dX1_takeNumbers_56 (by decide) ?_
          refine r_zret S hr hlk (F := (cE Z A g)) (u := (TX μ (μ 0 24) (upd (μ 0 25) ((cN * 4) + 0) (nI (dvN t pp d47_0))) cN (pp + d47_0 + 1 + d47_2))) hW (by decide +kernel) ?_ dX1_takeNumbers_57
          exact Or.inl ⟨_, (upd (μ 0 25) ((cN * 4) + 0) (nI (dvN t pp d47_0))), (c1_d (by decide) (if_neg (by decide)) hdg47_0 hd047_0 (rs9_n rfl (bhF_0 hk20_1 hdg47_2 hd047_2))), rfl, by rw [hd047_2, Nat.add_zero]⟩
        · have hdi47_2 := DG_in (fun j hj => (htx j hj).2) (by omega) hdg47_2
          have hdv47_2 := DG_v (fun j hj => (htx j hj).2) (by decide) hdg47_2
          refine lv_istore_n (lv' := [(3, .int (nI (dvN t (pp + d47_0 + 1) d47_2))), (2, .int (nI 1)), (0, .ref (A (0, 22))), (1, .ref (wd.2.1 9))]) hxe hcd dX1_takeNumbers_50 rfl hl (by decide) rfl (fun ls hl => ?_)
          refine lv_iload_n hxe hcd dX1_takeNumbers_51 rfl (lv_at hl 0 rfl) ?_
          refine lv_iconst (v := (-1)) hxe hcd dX1_takeNumbers_52 (by decide) ?_
          refine lv_icmp_ne (tgt := 58) hxe hcd dX1_takeNumbers_53 (by decide) (fun c53 => ?_) (fun c53 => absurd c53 (nI_m1 (by omega)))
          refine lv_aload_n hxe hcd dX1_takeNumbers_58 rfl (lv_at hl 2 rfl) ?_
          refine gf_X1_22 S hW dX1_takeNumbers_59 ?_
          refine lv_aload_n hxe hcd dX1_takeNumbers_62 rfl (lv_at hl 2 rfl) ?_
          refine gf_X1_25 S hW dX1_takeNumbers_63 ?_
          refine r_as (y := (nI cN)) (TX_c _ _ _ _ _) ?_
          refine lv_iconst (v := (nI 4)) hxe hcd dX1_takeNumbers_66 (by decide) ?_
          refine n_imul S (a := cN) (b := 4) dX1_takeNumbers_67 ?_
          refine lv_iload_n hxe hcd dX1_takeNumbers_68 rfl (lv_at hl 1 rfl) ?_
          refine n_iadd S (a := (cN * 4)) (b := 1) dX1_takeNumbers_69 ?_
          refine lv_iload_n hxe hcd dX1_takeNumbers_70 rfl (lv_at hl 0 rfl) ?_
          refine r_callv (F := (cE Z A g)) (r_runSN hZ S hW (As := [.ref (A (0, 25)), .int (nI ((cN * 4) + 1)), .int (nI (dvN t (pp + d47_0 + 1) d47_2))]) (rest := []) (t_X9_write l hZ A g (TX μ (μ 0 24) (upd (μ 0 25) ((cN * 4) + 0) (nI (dvN t pp d47_0))) cN (pp + d47_0 + 1 + d47_2)) H.size (b := 0) (o := 25) (n := 48) rfl (in_r (by decide) (by decide)) (nI ((cN * 4) + 1)) (nI (dvN t (pp + d47_0 + 1) d47_2))) k_X1_35 (hl.1) rfl rfl (Nat.le_of_ble_eq_true rfl) ⟨Nat.le_of_ble_eq_true rfl, Nat.le_of_ble_eq_true rfl⟩ ⟨Nat.le_of_ble_eq_true rfl, Nat.le_of_ble_eq_true rfl⟩ dX1_takeNumbers_71) hW (fun u71 H locs hp71 hW => ?_)
          have hp71 : u71 = TX μ (μ 0 24) (upd (upd (μ 0 25) ((cN * 4) + 0) (nI (dvN t pp d47_0))) ((cN * 4) + 1) (nI (dvN t (pp + d47_0 + 1) d47_2))) cN (pp + d47_0 + 1 + d47_2) := by rw [hp71, TX_w25, TX_25, wr_in (n := 48) (k := ((cN * 4) + 1)) _ _ (by omega) (by decide)]
          subst hp71
          refine lv_iinc (v := (nI 2)) (lv' := [(2, .int (nI 2)), (3, .int (nI (dvN t (pp + d47_0 + 1) d47_2))), (0, .ref (A (0, 22))), (1, .ref (wd.2.1 9))]) hxe hcd dX1_takeNumbers_74 hl (k := 1) rfl (nI_add 1 1) (by decide) rfl (fun ls hl => ?_)
          refine lv_goto (tgt := 2) hxe hcd dX1_takeNumbers_77 (by decide) ?_
          refine lv_iload_n hxe hcd dX1_takeNumbers_2 rfl (lv_at hl 0 rfl) ?_
          refine lv_aload_n hxe hcd dX1_takeNumbers_3 rfl (lv_at hl 3 rfl) ?_
          refine r_getO S hW ((hw _ _ _ hW.2.2.2.2.2).2.2.2 9 (by decide)).2.1 g_1624 dX1_takeNumbers_4 ?_
          refine r_calli0 (r_runV hZ S hW (As := []) (rest := [.int (nI 2)]) (t_J0_length_8abf5 l hZ (ids g) A (cE Z A g (TX μ (μ 0 24) (upd (upd (μ 0 25) ((cN * 4) + 0) (nI (dvN t pp d47_0))) ((cN * 4) + 1) (nI (dvN t (pp + d47_0 + 1) d47_2))) cN (pp + d47_0 + 1 + d47_2))) H.size (fun A U H h => ((hw A U H h).2.2.2 9 (by first | decide | omega)).2.2.2.2) (fun A U H h => (hw A U H h).1) (by first | decide | omega)) k_X1_69 (va_Orecv ((hw _ _ _ hW.2.2.2.2.2).2.2.2 9 (by first | decide | omega)).2.2.2.2.1 hW.2.2.1) (hl.1) rfl rfl (Nat.le_of_ble_eq_true rfl) ⟨Nat.le_of_ble_eq_true rfl, Nat.le_of_ble_eq_true rfl⟩ ⟨Nat.le_of_ble_eq_true rfl, Nat.le_of_ble_eq_true rfl⟩ dX1_takeNumbers_7) hW (fun r7 H locs hp7 hW => ?_)
          have hp7 := hp7.symm
          subst hp7
          refine r_as (y := (nI 2)) (by decide) ?_
          refine lv_icmp_ge (tgt := 80) hxe hcd dX1_takeNumbers_10 (by decide) (fun _ => ?_) (fun h => absurd (by decide) h)
          refine lv_aload_n hxe hcd dX1_takeNumbers_80 rfl (lv_at hl 3 rfl) ?_
          refine r_getO S hW ((hw _ _ _ hW.2.2.2.2.2).2.2.2 9 (by decide)).2.1 g_1624 dX1_takeNumbers_81 ?_
          refine r_calli0 (r_runV hZ S hW (As := []) (rest := []) (t_J0_isEmpty_aae02 l hZ (ids g) A (cE Z A g (TX μ (μ 0 24) (upd (upd (μ 0 25) ((cN * 4) + 0) (nI (dvN t pp d47_0))) ((cN * 4) + 1) (nI (dvN t (pp + d47_0 + 1) d47_2))) cN (pp + d47_0 + 1 + d47_2))) H.size (fun A U H h => ((hw A U H h).2.2.2 9 (by first | decide | omega)).2.2.2.2) (fun A U H h => (hw A U H h).1) (by first | decide | omega)) k_X1_94 (va_Orecv ((hw _ _ _ hW.2.2.2.2.2).2.2.2 9 (by first | decide | omega)).2.2.2.2.1 hW.2.2.1) (hl.1) rfl rfl (Nat.le_of_ble_eq_true rfl) ⟨Nat.le_of_ble_eq_true rfl, Nat.le_of_ble_eq_true rfl⟩ ⟨Nat.le_of_ble_eq_true rfl, Nat.le_of_ble_eq_true rfl⟩ dX1_takeNumbers_84) hW (fun r84 H locs hp84 hW => ?_)
          rcases hp84 with ⟨hp840, hp84⟩ | ⟨hp840, hp84⟩
          · exact absurd hp84 (show ¬ fmN 9 = 0 from by decide)
          · subst hp840
            refine lv_if_eq (tgt := 104) hxe hcd dX1_takeNumbers_87 (by decide) (fun _ => ?_) (fun h => absurd (by decide) h)
            refine lv_aload_n hxe hcd dX1_takeNumbers_104 rfl (lv_at hl 2 rfl) ?_
            refine gf_X1_19 S hW dX1_takeNumbers_105 ?_
            refine lv_aload_n hxe hcd dX1_takeNumbers_108 rfl (lv_at hl 2 rfl) ?_
            refine gf_X1_25 S hW dX1_takeNumbers_109 ?_
            refine r_as (y := (nI cN)) (TX_c _ _ _ _ _) ?_
            refine lv_aload_n hxe hcd dX1_takeNumbers_112 rfl (lv_at hl 3 rfl) ?_
            refine r_getO S hW ((hw _ _ _ hW.2.2.2.2.2).2.2.2 9 (by decide)).2.2.1 g_1625 dX1_takeNumbers_113 ?_
            refine r_callv (F := (cE Z A g)) (r_runSN hZ S hW (As := [.ref (A (0, 24)), .int (nI cN), .int (nI (WS 9))]) (rest := []) (t_X9_write l hZ A g (TX μ (μ 0 24) (upd (upd (μ 0 25) ((cN * 4) + 0) (nI (dvN t pp d47_0))) ((cN * 4) + 1) (nI (dvN t (pp + d47_0 + 1) d47_2))) cN (pp + d47_0 + 1 + d47_2)) H.size (b := 0) (o := 24) (n := 12) rfl (in_r (by decide) (by decide)) (nI cN) (nI (WS 9))) k_X1_35 (hl.1) rfl rfl (Nat.le_of_ble_eq_true rfl) ⟨Nat.le_of_ble_eq_true rfl, Nat.le_of_ble_eq_true rfl⟩ ⟨Nat.le_of_ble_eq_true rfl, Nat.le_of_ble_eq_true rfl⟩ dX1_takeNumbers_116) hW (fun u116 H locs hp116 hW => ?_)
            have hp116 : u116 = TX μ (upd (μ 0 24) cN (nI (WS 9))) (upd (upd (μ 0 25) ((cN * 4) + 0) (nI (dvN t pp d47_0))) ((cN * 4) + 1) (nI (dvN t (pp + d47_0 + 1) d47_2))) cN (pp + d47_0 + 1 + d47_2) := by rw [hp116, TX_w24, TX_24, wr_in (n := 12) (k := cN) _ _ (by omega) (by decide)]
            subst hp116
            refine lv_aload_n hxe hcd dX1_takeNumbers_119 rfl (lv_at hl 2 rfl) ?_
            refine lv_dup hxe hcd dX1_takeNumbers_120 rfl ?_
            refine gf_X1_25 S hW dX1_takeNumbers_121 ?_
            refine r_as (y := (nI cN)) (TX_c _ _ _ _ _) ?_
            refine lv_iconst (v := (nI 1)) hxe hcd dX1_takeNumbers_124 (by decide) ?_
            refine n_iadd S (a := cN) (b := 1) dX1_takeNumbers_125 ?_
            refine gp_X1_25 S hW dX1_takeNumbers_126 (fun H locs hW => ?_)
            rw [TX_wc] at hW
            refine lv_iconst (v := (nI 1)) hxe hcd dX1_takeNumbers_129 (by decide) ?_
            refine r_zret S hr hlk (F := (cE Z A g)) (u := (TX μ (upd (μ 0 24) cN (nI (WS 9))) (upd (upd (μ 0 25) ((cN * 4) + 0) (nI (dvN t pp d47_0))) ((cN * 4) + 1) (nI (dvN t (pp + d47_0 + 1) d47_2))) (cN + 1) (pp + d47_0 + 1 + d47_2))) hW (by decide +kernel) ?_ dX1_takeNumbers_130
            refine Or.inr ⟨_, _, _, _, _, _, (c1_d (by decide) (if_neg (by decide)) hdg47_0 hd047_0 (rs9_s rfl (bhF_d hk20_1 hdg47_2 hd047_2))), rfl, rfl, by omega, by omega, by omega, by omega, by omega, by omega, ⟨?_, ?_, ?_, ?_⟩, fun k hk => ?_⟩
            · rw [TX_24, upd_s]
            · rw [TX_25]; simp [upd_rd]
            · intro hx; rw [TX_25]; simp [upd_rd]
            · intro hx; exact absurd hx (by decide)
            · rw [upd_o (by omega), upd_o (by omega)]
      · refine lv_if_ne (tgt := 28) hxe hcd dX1_takeNumbers_23 (by decide) (fun h => absurd h (by decide)) (fun _ => ?_)
        refine lv_iconst (v := (nI 0)) hxe hcd dX1_takeNumbers_26 (by decide) ?_
        refine r_zret S hr hlk (F := (cE Z A g)) (u := (TX μ (μ 0 24) (upd (μ 0 25) ((cN * 4) + 0) (nI (dvN t pp d47_0))) cN (pp + d47_0))) hW (by decide +kernel) ?_ dX1_takeNumbers_27
        exact Or.inl ⟨_, (upd (μ 0 25) ((cN * 4) + 0) (nI (dvN t pp d47_0))), (c1_d (by decide) (if_neg (by decide)) hdg47_0 hd047_0 (rs9_n rfl (bhF_s hk20_1))), rfl, rfl⟩
  · refine lv_iconst (v := (nI 0)) hxe hcd dX1_takeNumbers_0 (by decide) ?_
    refine lv_istore_n (lv' := [(2, .int (nI 0)), (0, .ref (A (0, 22))), (1, .ref (wd.2.1 10))]) hxe hcd dX1_takeNumbers_1 rfl hl (by decide) rfl (fun ls hl => ?_)
    refine lv_iload_n hxe hcd dX1_takeNumbers_2 rfl (lv_at hl 0 rfl) ?_
    refine lv_aload_n hxe hcd dX1_takeNumbers_3 rfl (lv_at hl 2 rfl) ?_
    refine r_getO S hW ((hw _ _ _ hW.2.2.2.2.2).2.2.2 10 (by decide)).2.1 g_1624 dX1_takeNumbers_4 ?_
    refine r_calli0 (r_runV hZ S hW (As := []) (rest := [.int (nI 0)]) (t_J0_length_8abf5 l hZ (ids g) A (cE Z A g μ) s.heap.size (fun A U H h => ((hw A U H h).2.2.2 10 (by first | decide | omega)).2.2.2.2) (fun A U H h => (hw A U H h).1) (by first | decide | omega)) k_X1_69 (va_Orecv ((hw _ _ _ hW.2.2.2.2.2).2.2.2 10 (by first | decide | omega)).2.2.2.2.1 hW.2.2.1) (hl.1) rfl rfl (Nat.le_of_ble_eq_true rfl) ⟨Nat.le_of_ble_eq_true rfl, Nat.le_of_ble_eq_true rfl⟩ ⟨Nat.le_of_ble_eq_true rfl, Nat.le_of_ble_eq_true rfl⟩ dX1_takeNumbers_7) hW (fun r7 H locs hp7 hW => ?_)
    have hp7 := hp7.symm
    subst hp7
    refine r_as (y := (nI 1)) (by decide) ?_
    refine lv_icmp_ge (tgt := 80) hxe hcd dX1_takeNumbers_10 (by decide) (fun h => absurd h (by decide)) (fun _ => ?_)
    refine lv_iload_n hxe hcd dX1_takeNumbers_13 rfl (lv_at hl 0 rfl) ?_
    refine lv_if_le (tgt := 28) hxe hcd dX1_takeNumbers_14 (by decide) (fun _ => ?_) (fun h => absurd (by decide) h)
    refine lv_aload_n hxe hcd dX1_takeNumbers_28 rfl (lv_at hl 1 rfl) ?_
    refine lv_aload_n hxe hcd dX1_takeNumbers_29 rfl (lv_at hl 2 rfl) ?_
    refine r_getO S hW ((hw _ _ _ hW.2.2.2.2.2).2.2.2 10 (by decide)).2.1 g_1624 dX1_takeNumbers_30 ?_
    refine lv_iload_n hxe hcd dX1_takeNumbers_33 rfl (lv_at hl 0 rfl) ?_
    refine r_calli0 (r_runV hZ S hW (As := [.int (nI 0)]) (rest := [.ref (A (0, 22))]) (t_J0_charAt_5068e l hZ (ids g) A (cE Z A g μ) H.size (i := 0) (f := fmC 10) (fun A U H h => ((hw A U H h).2.2.2 10 (by first | decide | omega)).2.2.2.2) (by first | decide | omega) (by first | decide | omega) (by first | decide | exact kc_lt _ _) (fun A U H h => (hw A U H h).1)) k_X1_84 (va_Orecv ((hw _ _ _ hW.2.2.2.2.2).2.2.2 10 (by first | decide | omega)).2.2.2.2.1 hW.2.2.1) (hl.1) rfl rfl (Nat.le_of_ble_eq_true rfl) ⟨Nat.le_of_ble_eq_true rfl, Nat.le_of_ble_eq_true rfl⟩ ⟨Nat.le_of_ble_eq_true rfl, Nat.le_of_ble_eq_true rfl⟩ dX1_takeNumbers_34) hW (fun r34 H locs hp34 hW => ?_)
    have hp34 := hp34.symm
    subst hp34
    refine r_as (y := (nI 100)) (by decide) ?_
    refine lv_bipush (v := (nI 100)) hxe hcd dX1_takeNumbers_37 (by decide) ?_
    refine lv_icmp_ne (tgt := 46) hxe hcd dX1_takeNumbers_39 (by decide) (fun h => absurd h (by decide)) (fun _ => ?_)
    refine lv_iconst (v := (nI 1)) hxe hcd dX1_takeNumbers_42 (by decide) ?_
    refine lv_goto (tgt := 47) hxe hcd dX1_takeNumbers_43 (by decide) ?_
    refine r_calli (F := (cE Z A g)) (r_runV hZ S hW (As := [.int (nI 1)]) (rest := []) (t_X1_takeNumber l hZ A g μ H.size (mo := 1) (by omega) hen hn60 t htx (pp := pp) hpp (by omega)) k_X1_91 (r_recv hW (x := (0, 22)) (in_r (by decide) (by decide)) rfl rfl) (hl.1) rfl rfl (Nat.le_of_ble_eq_true rfl) ⟨Nat.le_of_ble_eq_true rfl, Nat.le_of_ble_eq_true rfl⟩ ⟨Nat.le_of_ble_eq_true rfl, Nat.le_of_ble_eq_true rfl⟩ dX1_takeNumbers_47) hW (fun r47 u47 H locs hp47 hW => ?_)
    obtain ⟨d47_0, hdg47_0, hp47, hu⟩ := hp47
    have hu := hu.trans (TX_q0 hcN _)
    subst hu
    rcases hp47 with ⟨hd047_0, rfl⟩ | ⟨hd047_0, rfl⟩
    · refine lv_istore_n (lv' := [(3, .int (-1)), (2, .int (nI 0)), (0, .ref (A (0, 22))), (1, .ref (wd.2.1 10))]) hxe hcd dX1_takeNumbers_50 rfl hl (by decide) rfl (fun ls hl => ?_)
      refine lv_iload_n hxe hcd dX1_takeNumbers_51 rfl (lv_at hl 0 rfl) ?_
      refine lv_iconst (v := (-1)) hxe hcd dX1_takeNumbers_52 (by decide) ?_
      refine lv_icmp_ne (tgt := 58) hxe hcd dX1_takeNumbers_53 (by decide) (fun h => absurd h (by decide)) (fun _ => ?_)
      refine lv_iconst (v := (nI 0)) hxe hcd dX1_takeNumbers_56 (by decide) ?_
      refine r_zret S hr hlk (F := (cE Z A g)) (u := (TX μ (μ 0 24) (μ 0 25) cN (pp + d47_0))) hW (by decide +kernel) ?_ dX1_takeNumbers_57
      exact Or.inl ⟨_, (μ 0 25), (c1_0 (by decide) (if_neg (by decide)) hdg47_0 hd047_0), rfl, by rw [hd047_0, Nat.add_zero]⟩
    · have hdi47_0 := DG_in (fun j hj => (htx j hj).2) (by omega) hdg47_0
      have hdv47_0 := DG_v (fun j hj => (htx j hj).2) (by decide) hdg47_0
      refine lv_istore_n (lv' := [(3, .int (nI (dvN t pp d47_0))), (2, .int (nI 0)), (0, .ref (A (0, 22))), (1, .ref (wd.2.1 10))]) hxe hcd dX1_takeNumbers_50 rfl hl (by decide) rfl (fun ls hl => ?_)
      refine lv_iload_n hxe hcd dX1_takeNumbers_51 rfl (lv_at hl 0 rfl) ?_
      refine lv_iconst (v := (-1)) hxe hcd dX1_takeNumbers_52 (by decide) ?_
      refine lv_icmp_ne (tgt := 58) hxe hcd dX1_takeNumbers_53 (by decide) (fun c53 => ?_) (fun c53 => absurd c53 (nI_m1 (by omega)))
      refine lv_aload_n hxe hcd dX1_takeNumbers_58 rfl (lv_at hl 2 rfl) ?_
      refine gf_X1_22 S hW dX1_takeNumbers_59 ?_
      refine lv_aload_n hxe hcd dX1_takeNumbers_62 rfl (lv_at hl 2 rfl) ?_
      refine gf_X1_25 S hW dX1_takeNumbers_63 ?_
      refine r_as (y := (nI cN)) (TX_c _ _ _ _ _) ?_
      refine lv_iconst (v := (nI 4)) hxe hcd dX1_takeNumbers_66 (by decide) ?_
      refine n_imul S (a := cN) (b := 4) dX1_takeNumbers_67 ?_
      refine lv_iload_n hxe hcd dX1_takeNumbers_68 rfl (lv_at hl 1 rfl) ?_
      refine n_iadd S (a := (cN * 4)) (b := 0) dX1_takeNumbers_69 ?_
      refine lv_iload_n hxe hcd dX1_takeNumbers_70 rfl (lv_at hl 0 rfl) ?_
      refine r_callv (F := (cE Z A g)) (r_runSN hZ S hW (As := [.ref (A (0, 25)), .int (nI ((cN * 4) + 0)), .int (nI (dvN t pp d47_0))]) (rest := []) (t_X9_write l hZ A g (TX μ (μ 0 24) (μ 0 25) cN (pp + d47_0)) H.size (b := 0) (o := 25) (n := 48) rfl (in_r (by decide) (by decide)) (nI ((cN * 4) + 0)) (nI (dvN t pp d47_0))) k_X1_35 (hl.1) rfl rfl (Nat.le_of_ble_eq_true rfl) ⟨Nat.le_of_ble_eq_true rfl, Nat.le_of_ble_eq_true rfl⟩ ⟨Nat.le_of_ble_eq_true rfl, Nat.le_of_ble_eq_true rfl⟩ dX1_takeNumbers_71) hW (fun u71 H locs hp71 hW => ?_)
      have hp71 : u71 = TX μ (μ 0 24) (upd (μ 0 25) ((cN * 4) + 0) (nI (dvN t pp d47_0))) cN (pp + d47_0) := by rw [hp71, TX_w25, TX_25, wr_in (n := 48) (k := ((cN * 4) + 0)) _ _ (by omega) (by decide)]
      subst hp71
      refine lv_iinc (v := (nI 1)) (lv' := [(2, .int (nI 1)), (3, .int (nI (dvN t pp d47_0))), (0, .ref (A (0, 22))), (1, .ref (wd.2.1 10))]) hxe hcd dX1_takeNumbers_74 hl (k := 1) rfl (nI_add 0 1) (by decide) rfl (fun ls hl => ?_)
      refine lv_goto (tgt := 2) hxe hcd dX1_takeNumbers_77 (by decide) ?_
      refine lv_iload_n hxe hcd dX1_takeNumbers_2 rfl (lv_at hl 0 rfl) ?_
      refine lv_aload_n hxe hcd dX1_takeNumbers_3 rfl (lv_at hl 3 rfl) ?_
      refine r_getO S hW ((hw _ _ _ hW.2.2.2.2.2).2.2.2 10 (by decide)).2.1 g_1624 dX1_takeNumbers_4 ?_
      refine r_calli0 (r_runV hZ S hW (As := []) (rest := [.int (nI 1)]) (t_J0_length_8abf5 l hZ (ids g) A (cE Z A g (TX μ (μ 0 24) (upd (μ 0 25) ((cN * 4) + 0) (nI (dvN t pp d47_0))) cN (pp + d47_0))) H.size (fun A U H h => ((hw A U H h).2.2.2 10 (by first | decide | omega)).2.2.2.2) (fun A U H h => (hw A U H h).1) (by first | decide | omega)) k_X1_69 (va_Orecv ((hw _ _ _ hW.2.2.2.2.2).2.2.2 10 (by first | decide | omega)).2.2.2.2.1 hW.2.2.1) (hl.1) rfl rfl (Nat.le_of_ble_eq_true rfl) ⟨Nat.le_of_ble_eq_true rfl, Nat.le_of_ble_eq_true rfl⟩ ⟨Nat.le_of_ble_eq_true rfl, Nat.le_of_ble_eq_true rfl⟩ dX1_takeNumbers_7) hW (fun r7 H locs hp7 hW => ?_)
      have hp7 := hp7.symm
      subst hp7
      refine r_as (y := (nI 1)) (by decide) ?_
      refine lv_icmp_ge (tgt := 80) hxe hcd dX1_takeNumbers_10 (by decide) (fun _ => ?_) (fun h => absurd (by decide) h)
      refine lv_aload_n hxe hcd dX1_takeNumbers_80 rfl (lv_at hl 3 rfl) ?_
      refine r_getO S hW ((hw _ _ _ hW.2.2.2.2.2).2.2.2 10 (by decide)).2.1 g_1624 dX1_takeNumbers_81 ?_
      refine r_calli0 (r_runV hZ S hW (As := []) (rest := []) (t_J0_isEmpty_aae02 l hZ (ids g) A (cE Z A g (TX μ (μ 0 24) (upd (μ 0 25) ((cN * 4) + 0) (nI (dvN t pp d47_0))) cN (pp + d47_0))) H.size (fun A U H h => ((hw A U H h).2.2.2 10 (by first | decide | omega)).2.2.2.2) (fun A U H h => (hw A U H h).1) (by first | decide | omega)) k_X1_94 (va_Orecv ((hw _ _ _ hW.2.2.2.2.2).2.2.2 10 (by first | decide | omega)).2.2.2.2.1 hW.2.2.1) (hl.1) rfl rfl (Nat.le_of_ble_eq_true rfl) ⟨Nat.le_of_ble_eq_true rfl, Nat.le_of_ble_eq_true rfl⟩ ⟨Nat.le_of_ble_eq_true rfl, Nat.le_of_ble_eq_true rfl⟩ dX1_takeNumbers_84) hW (fun r84 H locs hp84 hW => ?_)
      rcases hp84 with ⟨hp840, hp84⟩ | ⟨hp840, hp84⟩
      · exact absurd hp84 (show ¬ fmN 10 = 0 from by decide)
      · subst hp840
        refine lv_if_eq (tgt := 104) hxe hcd dX1_takeNumbers_87 (by decide) (fun _ => ?_) (fun h => absurd (by decide) h)
        refine lv_aload_n hxe hcd dX1_takeNumbers_104 rfl (lv_at hl 2 rfl) ?_
        refine gf_X1_19 S hW dX1_takeNumbers_105 ?_
        refine lv_aload_n hxe hcd dX1_takeNumbers_108 rfl (lv_at hl 2 rfl) ?_
        refine gf_X1_25 S hW dX1_takeNumbers_109 ?_
        refine r_as (y := (nI cN)) (TX_c _ _ _ _ _) ?_
        refine lv_aload_n hxe hcd dX1_takeNumbers_112 rfl (lv_at hl 3 rfl) ?_
        refine r_getO S hW ((hw _ _ _ hW.2.2.2.2.2).2.2.2 10 (by decide)).2.2.1 g_1625 dX1_takeNumbers_113 ?_
        refine r_callv (F := (cE Z A g)) (r_runSN hZ S hW (As := [.ref (A (0, 24)), .int (nI cN), .int (nI (WS 10))]) (rest := []) (t_X9_write l hZ A g (TX μ (μ 0 24) (upd (μ 0 25) ((cN * 4) + 0) (nI (dvN t pp d47_0))) cN (pp + d47_0)) H.size (b := 0) (o := 24) (n := 12) rfl (in_r (by decide) (by decide)) (nI cN) (nI (WS 10))) k_X1_35 (hl.1) rfl rfl (Nat.le_of_ble_eq_true rfl) ⟨Nat.le_of_ble_eq_true rfl, Nat.le_of_ble_eq_true rfl⟩ ⟨Nat.le_of_ble_eq_true rfl, Nat.le_of_ble_eq_true rfl⟩ dX1_takeNumbers_116) hW (fun u116 H locs hp116 hW => ?_)
        have hp116 : u116 = TX μ (upd (μ 0 24) cN (nI (WS 10))) (upd (μ 0 25) ((cN * 4) + 0) (nI (dvN t pp d47_0))) cN (pp + d47_0) := by rw [hp116, TX_w24, TX_24, wr_in (n := 12) (k := cN) _ _ (by omega) (by decide)]
        subst hp116
        refine lv_aload_n hxe hcd dX1_takeNumbers_119 rfl (lv_at hl 2 rfl) ?_
        refine lv_dup hxe hcd dX1_takeNumbers_120 rfl ?_
        refine gf_X1_25 S hW dX1_takeNumbers_121 ?_
        refine r_as (y := (nI cN)) (TX_c _ _ _ _ _) ?_
        refine lv_iconst (v := (nI 1)) hxe hcd dX1_takeNumbers_124 (by decide) ?_
        refine n_iadd S (a := cN) (b := 1) dX1_takeNumbers_125 ?_
        refine gp_X1_25 S hW dX1_takeNumbers_126 (fun H locs hW => ?_)
        rw [TX_wc] at hW
        refine lv_iconst (v := (nI 1)) hxe hcd dX1_takeNumbers_129 (by decide) ?_
        refine r_zret S hr hlk (F := (cE Z A g)) (u := (TX μ (upd (μ 0 24) cN (nI (WS 10))) (upd (μ 0 25) ((cN * 4) + 0) (nI (dvN t pp d47_0))) (cN + 1) (pp + d47_0))) hW (by decide +kernel) ?_ dX1_takeNumbers_130
        refine Or.inr ⟨_, _, _, _, _, _, (c1_d (by decide) (if_neg (by decide)) hdg47_0 hd047_0 (rs_o (by decide) (by decide) (by decide))), rfl, rfl, by omega, by omega, by omega, by omega, by omega, by omega, ⟨?_, ?_, ?_, ?_⟩, fun k hk => ?_⟩
        · rw [TX_24, upd_s]
        · rw [TX_25]; simp [upd_rd]
        · intro hx; exact absurd hx (by decide)
        · intro hx; exact absurd hx (by decide)
        · rw [upd_o (by omega)]
  · refine lv_iconst (v := (nI 0)) hxe hcd dX1_takeNumbers_0 (by decide) ?_
    refine lv_istore_n (lv' := [(2, .int (nI 0)), (0, .ref (A (0, 22))), (1, .ref (wd.2.1 11))]) hxe hcd dX1_takeNumbers_1 rfl hl (by decide) rfl (fun ls hl => ?_)
    refine lv_iload_n hxe hcd dX1_takeNumbers_2 rfl (lv_at hl 0 rfl) ?_
    refine lv_aload_n hxe hcd dX1_takeNumbers_3 rfl (lv_at hl 2 rfl) ?_
    refine r_getO S hW ((hw _ _ _ hW.2.2.2.2.2).2.2.2 11 (by decide)).2.1 g_1624 dX1_takeNumbers_4 ?_
    refine r_calli0 (r_runV hZ S hW (As := []) (rest := [.int (nI 0)]) (t_J0_length_8abf5 l hZ (ids g) A (cE Z A g μ) s.heap.size (fun A U H h => ((hw A U H h).2.2.2 11 (by first | decide | omega)).2.2.2.2) (fun A U H h => (hw A U H h).1) (by first | decide | omega)) k_X1_69 (va_Orecv ((hw _ _ _ hW.2.2.2.2.2).2.2.2 11 (by first | decide | omega)).2.2.2.2.1 hW.2.2.1) (hl.1) rfl rfl (Nat.le_of_ble_eq_true rfl) ⟨Nat.le_of_ble_eq_true rfl, Nat.le_of_ble_eq_true rfl⟩ ⟨Nat.le_of_ble_eq_true rfl, Nat.le_of_ble_eq_true rfl⟩ dX1_takeNumbers_7) hW (fun r7 H locs hp7 hW => ?_)
    have hp7 := hp7.symm
    subst hp7
    refine r_as (y := (nI 2)) (by decide) ?_
    refine lv_icmp_ge (tgt := 80) hxe hcd dX1_takeNumbers_10 (by decide) (fun h => absurd h (by decide)) (fun _ => ?_)
    refine lv_iload_n hxe hcd dX1_takeNumbers_13 rfl (lv_at hl 0 rfl) ?_
    refine lv_if_le (tgt := 28) hxe hcd dX1_takeNumbers_14 (by decide) (fun _ => ?_) (fun h => absurd (by decide) h)
    refine lv_aload_n hxe hcd dX1_takeNumbers_28 rfl (lv_at hl 1 rfl) ?_
    refine lv_aload_n hxe hcd dX1_takeNumbers_29 rfl (lv_at hl 2 rfl) ?_
    refine r_getO S hW ((hw _ _ _ hW.2.2.2.2.2).2.2.2 11 (by decide)).2.1 g_1624 dX1_takeNumbers_30 ?_
    refine lv_iload_n hxe hcd dX1_takeNumbers_33 rfl (lv_at hl 0 rfl) ?_
    refine r_calli0 (r_runV hZ S hW (As := [.int (nI 0)]) (rest := [.ref (A (0, 22))]) (t_J0_charAt_5068e l hZ (ids g) A (cE Z A g μ) H.size (i := 0) (f := fmC 11) (fun A U H h => ((hw A U H h).2.2.2 11 (by first | decide | omega)).2.2.2.2) (by first | decide | omega) (by first | decide | omega) (by first | decide | exact kc_lt _ _) (fun A U H h => (hw A U H h).1)) k_X1_84 (va_Orecv ((hw _ _ _ hW.2.2.2.2.2).2.2.2 11 (by first | decide | omega)).2.2.2.2.1 hW.2.2.1) (hl.1) rfl rfl (Nat.le_of_ble_eq_true rfl) ⟨Nat.le_of_ble_eq_true rfl, Nat.le_of_ble_eq_true rfl⟩ ⟨Nat.le_of_ble_eq_true rfl, Nat.le_of_ble_eq_true rfl⟩ dX1_takeNumbers_34) hW (fun r34 H locs hp34 hW => ?_)
    have hp34 := hp34.symm
    subst hp34
    refine r_as (y := (nI 100)) (by decide) ?_
    refine lv_bipush (v := (nI 100)) hxe hcd dX1_takeNumbers_37 (by decide) ?_
    refine lv_icmp_ne (tgt := 46) hxe hcd dX1_takeNumbers_39 (by decide) (fun h => absurd h (by decide)) (fun _ => ?_)
    refine lv_iconst (v := (nI 1)) hxe hcd dX1_takeNumbers_42 (by decide) ?_
    refine lv_goto (tgt := 47) hxe hcd dX1_takeNumbers_43 (by decide) ?_
    refine r_calli (F := (cE Z A g)) (r_runV hZ S hW (As := [.int (nI 1)]) (rest := []) (t_X1_takeNumber l hZ A g μ H.size (mo := 1) (by omega) hen hn60 t htx (pp := pp) hpp (by omega)) k_X1_91 (r_recv hW (x := (0, 22)) (in_r (by decide) (by decide)) rfl rfl) (hl.1) rfl rfl (Nat.le_of_ble_eq_true rfl) ⟨Nat.le_of_ble_eq_true rfl, Nat.le_of_ble_eq_true rfl⟩ ⟨Nat.le_of_ble_eq_true rfl, Nat.le_of_ble_eq_true rfl⟩ dX1_takeNumbers_47) hW (fun r47 u47 H locs hp47 hW => ?_)
    obtain ⟨d47_0, hdg47_0, hp47, hu⟩ := hp47
    have hu := hu.trans (TX_q0 hcN _)
    subst hu
    rcases hp47 with ⟨hd047_0, rfl⟩ | ⟨hd047_0, rfl⟩
    · refine lv_istore_n (lv' := [(3, .int (-1)), (2, .int (nI 0)), (0, .ref (A (0, 22))), (1, .ref (wd.2.1 11))]) hxe hcd dX1_takeNumbers_50 rfl hl (by decide) rfl (fun ls hl => ?_)
      refine lv_iload_n hxe hcd dX1_takeNumbers_51 rfl (lv_at hl 0 rfl) ?_
      refine lv_iconst (v := (-1)) hxe hcd dX1_takeNumbers_52 (by decide) ?_
      refine lv_icmp_ne (tgt := 58) hxe hcd dX1_takeNumbers_53 (by decide) (fun h => absurd h (by decide)) (fun _ => ?_)
      refine lv_iconst (v := (nI 0)) hxe hcd dX1_takeNumbers_56 (by decide) ?_
      refine r_zret S hr hlk (F := (cE Z A g)) (u := (TX μ (μ 0 24) (μ 0 25) cN (pp + d47_0))) hW (by decide +kernel) ?_ dX1_takeNumbers_57
      exact Or.inl ⟨_, (μ 0 25), (c1_0 (by decide) (if_neg (by decide)) hdg47_0 hd047_0), rfl, by rw [hd047_0, Nat.add_zero]⟩
    · have hdi47_0 := DG_in (fun j hj => (htx j hj).2) (by omega) hdg47_0
      have hdv47_0 := DG_v (fun j hj => (htx j hj).2) (by decide) hdg47_0
      refine lv_istore_n (lv' := [(3, .int (nI (dvN t pp d47_0))), (2, .int (nI 0)), (0, .ref (A (0, 22))), (1, .ref (wd.2.1 11))]) hxe hcd dX1_takeNumbers_50 rfl hl (by decide) rfl (fun ls hl => ?_)
      refine lv_iload_n hxe hcd dX1_takeNumbers_51 rfl (lv_at hl 0 rfl) ?_
      refine lv_iconst (v := (-1)) hxe hcd dX1_takeNumbers_52 (by decide) ?_
      refine lv_icmp_ne (tgt := 58) hxe hcd dX1_takeNumbers_53 (by decide) (fun c53 => ?_) (fun c53 => absurd c53 (nI_m1 (by omega)))
      refine lv_aload_n hxe hcd dX1_takeNumbers_58 rfl (lv_at hl 2 rfl) ?_
      refine gf_X1_22 S hW dX1_takeNumbers_59 ?_
      refine lv_aload_n hxe hcd dX1_takeNumbers_62 rfl (lv_at hl 2 rfl) ?_
      refine gf_X1_25 S hW dX1_takeNumbers_63 ?_
      refine r_as (y := (nI cN)) (TX_c _ _ _ _ _) ?_
      refine lv_iconst (v := (nI 4)) hxe hcd dX1_takeNumbers_66 (by decide) ?_
      refine n_imul S (a := cN) (b := 4) dX1_takeNumbers_67 ?_
      refine lv_iload_n hxe hcd dX1_takeNumbers_68 rfl (lv_at hl 1 rfl) ?_
      refine n_iadd S (a := (cN * 4)) (b := 0) dX1_takeNumbers_69 ?_
      refine lv_iload_n hxe hcd dX1_takeNumbers_70 rfl (lv_at hl 0 rfl) ?_
      refine r_callv (F := (cE Z A g)) (r_runSN hZ S hW (As := [.ref (A (0, 25)), .int (nI ((cN * 4) + 0)), .int (nI (dvN t pp d47_0))]) (rest := []) (t_X9_write l hZ A g (TX μ (μ 0 24) (μ 0 25) cN (pp + d47_0)) H.size (b := 0) (o := 25) (n := 48) rfl (in_r (by decide) (by decide)) (nI ((cN * 4) + 0)) (nI (dvN t pp d47_0))) k_X1_35 (hl.1) rfl rfl (Nat.le_of_ble_eq_true rfl) ⟨Nat.le_of_ble_eq_true rfl, Nat.le_of_ble_eq_true rfl⟩ ⟨Nat.le_of_ble_eq_true rfl, Nat.le_of_ble_eq_true rfl⟩ dX1_takeNumbers_71) hW (fun u71 H locs hp71 hW => ?_)
      have hp71 : u71 = TX μ (μ 0 24) (upd (μ 0 25) ((cN * 4) + 0) (nI (dvN t pp d47_0))) cN (pp + d47_0) := by rw [hp71, TX_w25, TX_25, wr_in (n := 48) (k := ((cN * 4) + 0)) _ _ (by omega) (by decide)]
      subst hp71
      refine lv_iinc (v := (nI 1)) (lv' := [(2, .int (nI 1)), (3, .int (nI (dvN t pp d47_0))), (0, .ref (A (0, 22))), (1, .ref (wd.2.1 11))]) hxe hcd dX1_takeNumbers_74 hl (k := 1) rfl (nI_add 0 1) (by decide) rfl (fun ls hl => ?_)
      refine lv_goto (tgt := 2) hxe hcd dX1_takeNumbers_77 (by decide) ?_
      refine lv_iload_n hxe hcd dX1_takeNumbers_2 rfl (lv_at hl 0 rfl) ?_
      refine lv_aload_n hxe hcd dX1_takeNumbers_3 rfl (lv_at hl 3 rfl) ?_
      refine r_getO S hW ((hw _ _ _ hW.2.2.2.2.2).2.2.2 11 (by decide)).2.1 g_1624 dX1_takeNumbers_4 ?_
      refine r_calli0 (r_runV hZ S hW (As := []) (rest := [.int (nI 1)]) (t_J0_length_8abf5 l hZ (ids g) A (cE Z A g (TX μ (μ 0 24) (upd (μ 0 25) ((cN * 4) + 0) (nI (dvN t pp d47_0))) cN (pp + d47_0))) H.size (fun A U H h => ((hw A U H h).2.2.2 11 (by first | decide | omega)).2.2.2.2) (fun A U H h => (hw A U H h).1) (by first | decide | omega)) k_X1_69 (va_Orecv ((hw _ _ _ hW.2.2.2.2.2).2.2.2 11 (by first | decide | omega)).2.2.2.2.1 hW.2.2.1) (hl.1) rfl rfl (Nat.le_of_ble_eq_true rfl) ⟨Nat.le_of_ble_eq_true rfl, Nat.le_of_ble_eq_true rfl⟩ ⟨Nat.le_of_ble_eq_true rfl, Nat.le_of_ble_eq_true rfl⟩ dX1_takeNumbers_7) hW (fun r7 H locs hp7 hW => ?_)
      have hp7 := hp7.symm
      subst hp7
      refine r_as (y := (nI 2)) (by decide) ?_
      refine lv_icmp_ge (tgt := 80) hxe hcd dX1_takeNumbers_10 (by decide) (fun h => absurd h (by decide)) (fun _ => ?_)
      refine lv_iload_n hxe hcd dX1_takeNumbers_13 rfl (lv_at hl 0 rfl) ?_
      refine lv_if_le (tgt := 28) hxe hcd dX1_takeNumbers_14 (by decide) (fun h => absurd h (by decide)) (fun _ => ?_)
      refine lv_aload_n hxe hcd dX1_takeNumbers_17 rfl (lv_at hl 2 rfl) ?_
      refine lv_bipush (v := (nI 32)) hxe hcd dX1_takeNumbers_18 (by decide) ?_
      refine r_calli (F := (cE Z A g)) (r_runV hZ S hW (As := [.int (nI 32)]) (rest := []) (t_X1_takeSign l hZ A g (TX μ (μ 0 24) (upd (μ 0 25) ((cN * 4) + 0) (nI (dvN t pp d47_0))) cN (pp + d47_0)) H.size ((TX_n _ _ _ _ _).trans hen) hn60 t (fun j hj => by rw [TX_t]; exact htx j hj) (pp := pp + d47_0) (TX_h _ _ _ _ _) (by omega) (nI 32)) k_X1_47 (r_recv hW (x := (0, 22)) (in_r (by decide) (by decide)) rfl rfl) (hl.1) rfl rfl (Nat.le_of_ble_eq_true rfl) ⟨Nat.le_of_ble_eq_true rfl, Nat.le_of_ble_eq_true rfl⟩ ⟨Nat.le_of_ble_eq_true rfl, Nat.le_of_ble_eq_true rfl⟩ dX1_takeNumbers_20) hW (fun r20 u20 H locs hp20 hW => ?_)
      rcases hp20 with ⟨hk20_1, rfl, hu⟩ | ⟨hk20_1, rfl, rfl⟩
      · have hu := hu.trans (TX_q _ _ _ _ _ _)
        subst hu
        have hlt20_1 := chT_in (by decide) hk20_1
        refine lv_if_ne (tgt := 28) hxe hcd dX1_takeNumbers_23 (by decide) (fun _ => ?_) (fun h => absurd h (by decide))
        refine lv_aload_n hxe hcd dX1_takeNumbers_28 rfl (lv_at hl 2 rfl) ?_
        refine lv_aload_n hxe hcd dX1_takeNumbers_29 rfl (lv_at hl 3 rfl) ?_
        refine r_getO S hW ((hw _ _ _ hW.2.2.2.2.2).2.2.2 11 (by decide)).2.1 g_1624 dX1_takeNumbers_30 ?_
        refine lv_iload_n hxe hcd dX1_takeNumbers_33 rfl (lv_at hl 0 rfl) ?_
        refine r_calli0 (r_runV hZ S hW (As := [.int (nI 1)]) (rest := [.ref (A (0, 22))]) (t_J0_charAt_5068e l hZ (ids g) A (cE Z A g (TX μ (μ 0 24) (upd (μ 0 25) ((cN * 4) + 0) (nI (dvN t pp d47_0))) cN (pp + d47_0 + 1))) H.size (i := 1) (f := fmC 11) (fun A U H h => ((hw A U H h).2.2.2 11 (by first | decide | omega)).2.2.2.2) (by first | decide | omega) (by first | decide | omega) (by first | decide | exact kc_lt _ _) (fun A U H h => (hw A U H h).1)) k_X1_84 (va_Orecv ((hw _ _ _ hW.2.2.2.2.2).2.2.2 11 (by first | decide | omega)).2.2.2.2.1 hW.2.2.1) (hl.1) rfl rfl (Nat.le_of_ble_eq_true rfl) ⟨Nat.le_of_ble_eq_true rfl, Nat.le_of_ble_eq_true rfl⟩ ⟨Nat.le_of_ble_eq_true rfl, Nat.le_of_ble_eq_true rfl⟩ dX1_takeNumbers_34) hW (fun r34 H locs hp34 hW => ?_)
        have hp34 := hp34.symm
        subst hp34
        refine r_as (y := (nI 100)) (by decide) ?_
        refine lv_bipush (v := (nI 100)) hxe hcd dX1_takeNumbers_37 (by decide) ?_
        refine lv_icmp_ne (tgt := 46) hxe hcd dX1_takeNumbers_39 (by decide) (fun h => absurd h (by decide)) (fun _ => ?_)
        refine lv_iconst (v := (nI 1)) hxe hcd dX1_takeNumbers_42 (by decide) ?_
        refine lv_goto (tgt := 47) hxe hcd dX1_takeNumbers_43 (by decide) ?_
        refine r_calli (F := (cE Z A g)) (r_runV hZ S hW (As := [.int (nI 1)]) (rest := []) (t_X1_takeNumber l hZ A g (TX μ (μ 0 24) (upd (μ 0 25) ((cN * 4) + 0) (nI (dvN t pp d47_0))) cN (pp + d47_0 + 1)) H.size (mo := 1) (by omega) ((TX_n _ _ _ _ _).trans hen) hn60 t (fun j hj => by rw [TX_t]; exact htx j hj) (pp := pp + d47_0 + 1) (TX_h _ _ _ _ _) (by omega)) k_X1_91 (r_recv hW (x := (0, 22)) (in_r (by decide) (by decide)) rfl rfl) (hl.1) rfl rfl (Nat.le_of_ble_eq_true rfl) ⟨Nat.le_of_ble_eq_true rfl, Nat.le_of_ble_eq_true rfl⟩ ⟨Nat.le_of_ble_eq_true rfl, Nat.le_of_ble_eq_true rfl⟩ dX1_takeNumbers_47) hW (fun r47 u47 H locs hp47 hW => ?_)
        obtain ⟨d47_2, hdg47_2, hp47, hu⟩ := hp47
        have hu := hu.trans (TX_q _ _ _ _ _ _)
        subst hu
        rcases hp47 with ⟨hd047_2, rfl⟩ | ⟨hd047_2, rfl⟩
        · refine lv_istore_n (lv' := [(3, .int (-1)), (2, .int (nI 1)), (0, .ref (A (0, 22))), (1, .ref (wd.2.1 11))]) hxe hcd dX1_takeNumbers_50 rfl hl (by decide) rfl (fun ls hl => ?_)
          refine lv_iload_n hxe hcd dX1_takeNumbers_51 rfl (lv_at hl 0 rfl) ?_
          refine lv_iconst (v := (-1)) hxe hcd dX1_takeNumbers_52 (by decide) ?_
          refine lv_icmp_ne (tgt := 58) hxe hcd dX1_takeNumbers_53 (by decide) (fun h => absurd h (by decide)) (fun _ => ?_)
          refine lv_iconst (v := (nI 0)) hxe hcd dX1_takeNumbers_56 (by decide) ?_
          refine r_zret S hr hlk (F := (cE Z A g)) (u := (TX μ (μ 0 24) (upd (μ 0 25) ((cN * 4) + 0) (nI (dvN t pp d47_0))) cN (pp + d47_0 + 1 + d47_2))) hW (by decide +kernel) ?_ dX1_takeNumbers_57
          exact Or.inl ⟨_, (upd (μ 0 25) ((cN * 4) + 0) (nI (dvN t pp d47_0))), (c1_d (by decide) (if_neg (by decide)) hdg47_0 hd047_0 (rs11_n rfl (bhF_0 hk20_1 hdg47_2 hd047_2))), rfl, by rw [hd047_2, Nat.add_zero]⟩
        · have hdi47_2 := DG_in (fun j hj => (htx j hj).2) (by omega) hdg47_2
          have hdv47_2 := DG_v (fun j hj => (htx j hj).2) (by decide) hdg47_2
          refine lv_istore_n (lv' := [(3, .int (nI (dvN t (pp + d47_0 + 1) d47_2))), (2, .int (nI 1)), (0, .ref (A (0, 22))), (1, .ref (wd.2.1 11))]) hxe hcd dX1_takeNumbers_50 rfl hl (by decide) rfl (fun ls hl => ?_)
          refine lv_iload_n hxe hcd dX1_takeNumbers_51 rfl (lv_at hl 0 rfl) ?_
          refine lv_iconst (v := (-1)) hxe hcd dX1_takeNumbers_52 (by decide) ?_
          refine lv_icmp_ne (tgt := 58) hxe hcd dX1_takeNumbers_53 (by decide) (fun c53 => ?_) (fun c53 => absurd c53 (nI_m1 (by omega)))
          refine lv_aload_n hxe hcd dX1_takeNumbers_58 rfl (lv_at hl 2 rfl) ?_
          refine gf_X1_22 S hW dX1_takeNumbers_59 ?_
          refine lv_aload_n hxe hcd dX1_takeNumbers_62 rfl (lv_at hl 2 rfl) ?_
          refine gf_X1_25 S hW dX1_takeNumbers_63 ?_
          refine r_as (y := (nI cN)) (TX_c _ _ _ _ _) ?_
          refine lv_iconst (v := (nI 4)) hxe hcd dX1_takeNumbers_66 (by decide) ?_
          refine n_imul S (a := cN) (b := 4) dX1_takeNumbers_67 ?_
          refine lv_iload_n hxe hcd dX1_takeNumbers_68 rfl (lv_at hl 1 rfl) ?_
          refine n_iadd S (a := (cN * 4)) (b := 1) dX1_takeNumbers_69 ?_
          refine lv_iload_n hxe hcd dX1_takeNumbers_70 rfl (lv_at hl 0 rfl) ?_
          refine r_callv (F := (cE Z A g)) (r_runSN hZ S hW (As := [.ref (A (0, 25)), .int (nI ((cN * 4) + 1)), .int (nI (dvN t (pp + d47_0 + 1) d47_2))]) (rest := []) (t_X9_write l hZ A g (TX μ (μ 0 24) (upd (μ 0 25) ((cN * 4) + 0) (nI (dvN t pp d47_0))) cN (pp + d47_0 + 1 + d47_2)) H.size (b := 0) (o := 25) (n := 48) rfl (in_r (by decide) (by decide)) (nI ((cN * 4) + 1)) (nI (dvN t (pp + d47_0 + 1) d47_2))) k_X1_35 (hl.1) rfl rfl (Nat.le_of_ble_eq_true rfl) ⟨Nat.le_of_ble_eq_true rfl, Nat.le_of_ble_eq_true rfl⟩ ⟨Nat.le_of_ble_eq_true rfl, Nat.le_of_ble_eq_true rfl⟩ dX1_takeNumbers_71) hW (fun u71 H locs hp71 hW => ?_)
          have hp71 : u71 = TX μ (μ 0 24) (upd (upd (μ 0 25) ((cN * 4) + 0) (nI (dvN t pp d47_0))) ((cN * 4) + 1) (nI (dvN t (pp + d47_0 + 1) d47_2))) cN (pp + d47_0 + 1 + d47_2) := by rw [hp71, TX_w25, TX_25, wr_in (n := 48) (k := ((cN * 4) + 1)) _ _ (by omega) (by decide)]
          subst hp71
          refine lv_iinc (v := (nI 2)) (lv' := [(2, .int (nI 2)), (3, .int (nI (dvN t (pp + d47_0 + 1) d47_2))), (0, .ref (A (0, 22))), (1, .ref (wd.2.1 11))]) hxe hcd dX1_takeNumbers_74 hl (k := 1) rfl (nI_add 1 1) (by decide) rfl (fun ls hl => ?_)
          refine lv_goto (tgt := 2) hxe hcd dX1_takeNumbers_77 (by decide) ?_
          refine lv_iload_n hxe hcd dX1_takeNumbers_2 rfl (lv_at hl 0 rfl) ?_
          refine lv_aload_n hxe hcd dX1_takeNumbers_3 rfl (lv_at hl 3 rfl) ?_
          refine r_getO S hW ((hw _ _ _ hW.2.2.2.2.2).2.2.2 11 (by decide)).2.1 g_1624 dX1_takeNumbers_4 ?_
          refine r_calli0 (r_runV hZ S hW (As := []) (rest := [.int (nI 2)]) (t_J0_length_8abf5 l hZ (ids g) A (cE Z A g (TX μ (μ 0 24) (upd (upd (μ 0 25) ((cN * 4) + 0) (nI (dvN t pp d47_0))) ((cN * 4) + 1) (nI (dvN t (pp + d47_0 + 1) d47_2))) cN (pp + d47_0 + 1 + d47_2))) H.size (fun A U H h => ((hw A U H h).2.2.2 11 (by first | decide | omega)).2.2.2.2) (fun A U H h => (hw A U H h).1) (by first | decide | omega)) k_X1_69 (va_Orecv ((hw _ _ _ hW.2.2.2.2.2).2.2.2 11 (by first | decide | omega)).2.2.2.2.1 hW.2.2.1) (hl.1) rfl rfl (Nat.le_of_ble_eq_true rfl) ⟨Nat.le_of_ble_eq_true rfl, Nat.le_of_ble_eq_true rfl⟩ ⟨Nat.le_of_ble_eq_true rfl, Nat.le_of_ble_eq_true rfl⟩ dX1_takeNumbers_7) hW (fun r7 H locs hp7 hW => ?_)
          have hp7 := hp7.symm
          subst hp7
          refine r_as (y := (nI 2)) (by decide) ?_
          refine lv_icmp_ge (tgt := 80) hxe hcd dX1_takeNumbers_10 (by decide) (fun _ => ?_) (fun h => absurd (by decide) h)
          refine lv_aload_n hxe hcd dX1_takeNumbers_80 rfl (lv_at hl 3 rfl) ?_
          refine r_getO S hW ((hw _ _ _ hW.2.2.2.2.2).2.2.2 11 (by decide)).2.1 g_1624 dX1_takeNumbers_81 ?_
          refine r_calli0 (r_runV hZ S hW (As := []) (rest := []) (t_J0_isEmpty_aae02 l hZ (ids g) A (cE Z A g (TX μ (μ 0 24) (upd (upd (μ 0 25) ((cN * 4) + 0) (nI (dvN t pp d47_0))) ((cN * 4) + 1) (nI (dvN t (pp + d47_0 + 1) d47_2))) cN (pp + d47_0 + 1 + d47_2))) H.size (fun A U H h => ((hw A U H h).2.2.2 11 (by first | decide | omega)).2.2.2.2) (fun A U H h => (hw A U H h).1) (by first | decide | omega)) k_X1_94 (va_Orecv ((hw _ _ _ hW.2.2.2.2.2).2.2.2 11 (by first | decide | omega)).2.2.2.2.1 hW.2.2.1) (hl.1) rfl rfl (Nat.le_of_ble_eq_true rfl) ⟨Nat.le_of_ble_eq_true rfl, Nat.le_of_ble_eq_true rfl⟩ ⟨Nat.le_of_ble_eq_true rfl, Nat.le_of_ble_eq_true rfl⟩ dX1_takeNumbers_84) hW (fun r84 H locs hp84 hW => ?_)
          rcases hp84 with ⟨hp840, hp84⟩ | ⟨hp840, hp84⟩
          · exact absurd hp84 (show ¬ fmN 11 = 0 from by decide)
          · subst hp840
            refine lv_if_eq (tgt := 104) hxe hcd dX1_takeNumbers_87 (by decide) (fun _ => ?_) (fun h => absurd (by decide) h)
            refine lv_aload_n hxe hcd dX1_takeNumbers_104 rfl (lv_at hl 2 rfl) ?_
            refine gf_X1_19 S hW dX1_takeNumbers_105 ?_
            refine lv_aload_n hxe hcd dX1_takeNumbers_108 rfl (lv_at hl 2 rfl) ?_
            refine gf_X1_25 S hW dX1_takeNumbers_109 ?_
            refine r_as (y := (nI cN)) (TX_c _ _ _ _ _) ?_
            refine lv_aload_n hxe hcd dX1_takeNumbers_112 rfl (lv_at hl 3 rfl) ?_
            refine r_getO S hW ((hw _ _ _ hW.2.2.2.2.2).2.2.2 11 (by decide)).2.2.1 g_1625 dX1_takeNumbers_113 ?_
            refine r_callv (F := (cE Z A g)) (r_runSN hZ S hW (As := [.ref (A (0, 24)), .int (nI cN), .int (nI (WS 11))]) (rest := []) (t_X9_write l hZ A g (TX μ (μ 0 24) (upd (upd (μ 0 25) ((cN * 4) + 0) (nI (dvN t pp d47_0))) ((cN * 4) + 1) (nI (dvN t (pp + d47_0 + 1) d47_2))) cN (pp + d47_0 + 1 + d47_2)) H.size (b := 0) (o := 24) (n := 12) rfl (in_r (by decide) (by decide)) (nI cN) (nI (WS 11))) k_X1_35 (hl.1) rfl rfl (Nat.le_of_ble_eq_true rfl) ⟨Nat.le_of_ble_eq_true rfl, Nat.le_of_ble_eq_true rfl⟩ ⟨Nat.le_of_ble_eq_true rfl, Nat.le_of_ble_eq_true rfl⟩ dX1_takeNumbers_116) hW (fun u116 H locs hp116 hW => ?_)
            have hp116 : u116 = TX μ (upd (μ 0 24) cN (nI (WS 11))) (upd (upd (μ 0 25) ((cN * 4) + 0) (nI (dvN t pp d47_0))) ((cN * 4) + 1) (nI (dvN t (pp + d47_0 + 1) d47_2))) cN (pp + d47_0 + 1 + d47_2) := by rw [hp116, TX_w24, TX_24, wr_in (n := 12) (k := cN) _ _ (by omega) (by decide)]
            subst hp116
            refine lv_aload_n hxe hcd dX1_takeNumbers_119 rfl (lv_at hl 2 rfl) ?_
            refine lv_dup hxe hcd dX1_takeNumbers_120 rfl ?_
            refine gf_X1_25 S hW dX1_takeNumbers_121 ?_
            refine r_as (y := (nI cN)) (TX_c _ _ _ _ _) ?_
            refine lv_iconst (v := (nI 1)) hxe hcd dX1_takeNumbers_124 (by decide) ?_
            refine n_iadd S (a := cN) (b := 1) dX1_takeNumbers_125 ?_
            refine gp_X1_25 S hW dX1_takeNumbers_126 (fun H locs hW => ?_)
            rw [TX_wc] at hW
            refine lv_iconst (v := (nI 1)) hxe hcd dX1_takeNumbers_129 (by decide) ?_
            refine r_zret S hr hlk (F := (cE Z A g)) (u := (TX μ (upd (μ 0 24) cN (nI (WS 11))) (upd (upd (μ 0 25) ((cN * 4) + 0) (nI (dvN t pp d47_0))) ((cN * 4) + 1) (nI (dvN t (pp + d47_0 + 1) d47_2))) (cN + 1) (pp + d47_0 + 1 + d47_2))) hW (by decide +kernel) ?_ dX1_takeNumbers_130
            refine Or.inr ⟨_, _, _, _, _, _, (c1_d (by decide) (if_neg (by decide)) hdg47_0 hd047_0 (rs11_s rfl (bhF_d hk20_1 hdg47_2 hd047_2))), rfl, rfl, by omega, by omega, by omega, by omega, by omega, by omega, ⟨?_, ?_, ?_, ?_⟩, fun k hk => ?_⟩
            · rw [TX_24, upd_s]
            · rw [TX_25]; simp [upd_rd]
            · intro hx; rw [TX_25]; simp [upd_rd]
            · intro hx; exact absurd hx (by decide)
            · rw [upd_o (by omega), upd_o (by omega)]
      · refine lv_if_ne (tgt := 28) hxe hcd dX1_takeNumbers_23 (by decide) (fun h => absurd h (by decide)) (fun _ => ?_)
        refine lv_iconst (v := (nI 0)) hxe hcd dX1_takeNumbers_26 (by decide) ?_
        refine r_zret S hr hlk (F := (cE Z A g)) (u := (TX μ (μ 0 24) (upd (μ 0 25) ((cN * 4) + 0) (nI (dvN t pp d47_0))) cN (pp + d47_0))) hW (by decide +kernel) ?_ dX1_takeNumbers_27
        exact Or.inl ⟨_, (upd (μ 0 25) ((cN * 4) + 0) (nI (dvN t pp d47_0))), (c1_d (by decide) (if_neg (by decide)) hdg47_0 hd047_0 (rs11_n rfl (bhF_s hk20_1))), rfl, rfl⟩
