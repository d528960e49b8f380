/-- a run that ends in an exception leaves this -/
def RUF (g : Nat → Bool) (A : Nat × Nat → Nat) (μ : CM) (u : GM) : Prop := u.1 = g ∧ u.2.1 = A ∧ (∀ b o, b ≠ 1 → ¬ (b = 0 ∧ (o = 14 ∨ o = 22 ∨ o = 24 ∨ o = 25)) → ¬ scr b o → u.2.2 b o = μ b o) ∧ u.2.2 0 22 1 = nI 0
theorem CMJ_k {μ u : CM} {j w a b c d : Nat} (h : CMJ μ j w a b c d) (h1 : u 0 24 = μ 0 24) (h2 : u 0 25 = μ 0 25) : CMJ u j w a b c d := by
  unfold CMJ at h ⊢
  rw [h1, h2]
  exact h
set_option maxHeartbeats 4000000 in
set_option maxRecDepth 100000 in
theorem t_X9_run (l : Launch) (hl0 : l.stackTraces = false) {Z : ZT} (hZ : zOK Z) (hZX : ZX Z) (A : Nat × Nat → Nat) (g : Nat → Bool) (μ : CM) (sz : Nat) {v : Nat → Int32} (hVG : VG v) (hR : RP (μ 0) v) {kr cn : Nat} (hkr : kr < 8) (hk15 : μ 0 15 1 = nI kr) (hcn : μ 0 15 2 = nI cn) (hc8 : cn ≤ 8) {n : Nat} (hen : μ 0 22 1 = nI n) (hn60 : n ≤ 60) (t : Nat → Nat) (htx : ∀ j, j < n → μ 0 23 j = nI (t j) ∧ t j < 128) {wd : WDT} (hw : ZW Z wd) : XVi l yX9_run cX9_run 3 (some .int) 7 15 1376 [.ref (A (0, 14))] Z (ids g) A (cE Z A g μ) sz (fun r u => ∃ mt, TOK t n mt ∧ mt < 12 ∧ (∀ i, i ≤ mt → exO (vSq t n v i) (coF t n i) ≠ none) ∧ r = nI (mt + 1) ∧ u.1 = gS g kr ∧ (∀ x ∈ ids g, u.2.1 x = A x) ∧ RP (u.2.2 0) (vSq t n v (mt + 1)) ∧ RP (u.2.2 (kr + 3)) v ∧ (∀ b o, b ≠ kr + 3 → b ≠ 1 → ¬ (b = 0 ∧ (o < 14 ∨ o = 15 ∨ o = 22 ∨ o = 24 ∨ o = 25)) → ¬ scr b o → u.2.2 b o = μ b o) ∧ u.2.2 0 22 1 = nI 0 ∧ u.2.2 0 15 1 = nI ((kr + 1) % 8) ∧ u.2.2 0 15 2 = nI (min (cn + 1) 8) ∧ VG (vSq t n v (mt + 1))) (fun nx u => RUF g A μ u ∧ ((nx = 2 ∧ ∃ mt, TNO t n mt ∧ u.2.2 0 14 = upd (μ 0 14) 10 (nI (enF t n mt))) ∨ (nx = 3 ∧ ∃ mt jf, TOK t n mt ∧ mt < 12 ∧ jf ≤ mt ∧ (∀ i, i < jf → exO (vSq t n v i) (coF t n i) ≠ none) ∧ exO (vSq t n v jf) (coF t n jf) = none ∧ u.2.2 0 14 = upd (μ 0 14) 11 (nI jf)))) := by
  refine x_met (E := (cE Z A g μ)) (by decide +kernel) (Nat.le_of_ble_eq_true rfl) ?_
  intro p e s m below meth c ls S hr hlk hnt hsz hW hl
  have hxe := S.1
  have hcd := S.2.1
  subst hsz
  have hl : lv_has ls 3 [(0, .ref (A (0, 14)))] := hl
  refine lv_aload_n hxe hcd dX9_run_0 rfl (lv_at hl 0 rfl) ?_
  refine gf_X9_50 S hW dX9_run_1 ?_
  refine r_calli (F := (cE Z A g)) (r_runV hZ S hW (As := []) (rest := []) (t_X1_parse l hZ A g μ s.heap.size hen hn60 t htx hw) k_X9_267 (r_recv hW (x := (0, 22)) (in_r (by decide) (by decide)) rfl rfl) (hl.1) rfl rfl (Nat.le_of_ble_eq_true rfl) ⟨Nat.le_of_ble_eq_true rfl, Nat.le_of_ble_eq_true rfl⟩ ⟨Nat.le_of_ble_eq_true rfl, Nat.le_of_ble_eq_true rfl⟩ dX9_run_4) hW (fun r4 u4 H locs hp4 hW => ?_)
  rcases hp4 with ⟨mm, f24, f25, hT, h12, rfl, rfl, hCM⟩ | ⟨mm, c2, f24, f25, hT, rfl, rfl⟩
  · refine lv_istore_n (lv' := [(1, .int (nI 1)), (0, .ref (A (0, 14)))]) hxe hcd dX9_run_7 rfl hl (by decide) rfl (fun ls hl => ?_)
    refine lv_aload_n hxe hcd dX9_run_8 rfl (lv_at hl 1 rfl) ?_
    refine gf_X9_50 S hW dX9_run_9 ?_
    refine r_callv (F := (cE Z A g)) (r_runV hZ S hW (As := []) (rest := []) (t_X1_clear l hZ A g (TX μ f24 f25 (mm + 1) n) H.size ) k_X9_271 (r_recv hW (x := (0, 22)) (in_r (by decide) (by decide)) rfl rfl) (hl.1) rfl rfl (Nat.le_of_ble_eq_true rfl) ⟨Nat.le_of_ble_eq_true rfl, Nat.le_of_ble_eq_true rfl⟩ ⟨Nat.le_of_ble_eq_true rfl, Nat.le_of_ble_eq_true rfl⟩ dX9_run_12) hW (fun u12 H locs hp12 hW => ?_)
    have hp12 := hp12.symm
    subst hp12
    refine lv_iload_n hxe hcd dX9_run_15 rfl (lv_at hl 0 rfl) ?_
    refine lv_if_ne (tgt := 41) hxe hcd dX9_run_16 (by decide) (fun _ => ?_) (fun h => absurd h (by decide))
    refine lv_aload_n hxe hcd dX9_run_41 rfl (lv_at hl 1 rfl) ?_
    refine gf_X9_16 S hW dX9_run_42 ?_
    refine lv_aload_n hxe hcd dX9_run_45 rfl (lv_at hl 1 rfl) ?_
    refine gf_X9_10 S hW dX9_run_46 ?_
    refine r_callv (F := (cE Z A g)) (r_runV hZ S hW (As := [.ref (A (0, 0))]) (rest := []) (t_X6_copyFrom l hZ A g (up2 (TX μ f24 f25 (mm + 1) n) 0 22 (upd ((TX μ f24 f25 (mm + 1) n) 0 22) 1 (nI 0))) H.size sB_1 sB_0 (by decide)) k_X9_282 (r_recv hW (x := (1, 0)) (in_s sB_1 (by decide)) rfl rfl) (hl.1) rfl rfl (Nat.le_of_ble_eq_true rfl) ⟨Nat.le_of_ble_eq_true rfl, Nat.le_of_ble_eq_true rfl⟩ ⟨Nat.le_of_ble_eq_true rfl, Nat.le_of_ble_eq_true rfl⟩ dX9_run_49) hW (fun u49 H locs hp49 hW => ?_)
    have hp49 := hp49.symm
    subst hp49
    refine lv_iconst (v := (nI 0)) hxe hcd dX9_run_52 (by decide) ?_
    refine lv_istore_n (lv' := [(2, .int (nI 0)), (1, .int (nI 1)), (0, .ref (A (0, 14)))]) hxe hcd dX9_run_53 rfl hl (by decide) rfl (fun ls hl => ?_)
    have loop54 : ∀ (n_ : Nat) (j : Nat) (w : CM), mm + 1 - j < n_ → (j ≤ mm + 1) → (VG (vSq t n v j)) → (RP (w 1) (vSq t n v j)) → (SQb 1 (cpState (up2 (TX μ f24 f25 (mm + 1) n) 0 22 (upd (TX μ f24 f25 (mm + 1) n 0 22) 1 (nI 0))) 1 0) w) → (∀ i, i < j → exO (vSq t n v i) (coF t n i) ≠ none) → ∀ (H : Heap) (locs : List Loc) (ls : Array Slot), wX Z (ids g) A (cE Z A g w) (fA (ids g) A (cE Z A g μ) s.heap.size) s H locs → lv_has ls 3 [(0, .ref (A (0, 14))), (2, .int (nI j))] → W p l e (rmD 7 15 1376) s m ([.ref (A (0, 14))] : List Value).toArray below meth c H locs 0 0 (vx_MQ below (va_Qi (fun r u => ∃ mt, TOK t n mt ∧ mt < 12 ∧ (∀ i, i ≤ mt → exO (vSq t n v i) (coF t n i) ≠ none) ∧ r = nI (mt + 1) ∧ u.1 = gS g kr ∧ (∀ x ∈ ids g, u.2.1 x = A x) ∧ RP (u.2.2 0) (vSq t n v (mt + 1)) ∧ RP (u.2.2 (kr + 3)) v ∧ (∀ b o, b ≠ kr + 3 → b ≠ 1 → ¬ (b = 0 ∧ (o < 14 ∨ o = 15 ∨ o = 22 ∨ o = 24 ∨ o = 25)) → ¬ scr b o → u.2.2 b o = μ b o) ∧ u.2.2 0 22 1 = nI 0 ∧ u.2.2 0 15 1 = nI ((kr + 1) % 8) ∧ u.2.2 0 15 2 = nI (min (cn + 1) 8) ∧ VG (vSq t n v (mt + 1))) (fun (u : GM) t => qG Z (fA (ids g) A (cE Z A g μ) s.heap.size) u t) (fA (ids g) A (cE Z A g μ) s.heap.size)) (XCx (fun nx u => RUF g A μ u ∧ ((nx = 2 ∧ ∃ mt, TNO t n mt ∧ u.2.2 0 14 = upd (μ 0 14) 10 (nI (enF t n mt))) ∨ (nx = 3 ∧ ∃ mt jf, TOK t n mt ∧ mt < 12 ∧ jf ≤ mt ∧ (∀ i, i < jf → exO (vSq t n v i) (coF t n i) ≠ none) ∧ exO (vSq t n v jf) (coF t n jf) = none ∧ u.2.2 0 14 = upd (μ 0 14) 11 (nI jf)))) Z (fA (ids g) A (cE Z A g μ) s.heap.size)) ([.ref (A (0, 14))] : List Value).toArray s 15 1376 (fA (ids g) A (cE Z A g μ) s.heap.size)) (F0 m 54 ls []) := by
      intro n_
      induction n_ with
      | zero => intro j w hm; exact absurd hm (Nat.not_lt_zero _)
      | succ n_ ih54 =>
        intro j w hm hj hVj hRj hsb hok H locs ls hW hl
        have hfr : ∀ b o, b ≠ 1 → ¬ (b = 0 ∧ (o = 22 ∨ o = 24 ∨ o = 25)) → ¬ scr b o → w b o = μ b o := fun b o h1 h2 h3 => by rw [hsb b o (fun z => h1 z.1) h3, cpS_o h1, up2_n (by omega), TX_o _ _ _ _ _ (by omega)]
        have h22 : w 0 22 = upd (TX μ f24 f25 (mm + 1) n 0 22) 1 (nI 0) := by rw [hsb 0 22 (by omega) (by unfold scr; omega), cpS_o (by decide), up2_s]
        have hw4 : w 0 22 4 = nI (mm + 1) := by rw [h22, upd_o (by decide), TX_c]
        have h24 : w 0 24 = f24 := by rw [hsb 0 24 (by omega) (by unfold scr; omega), cpS_o (by decide), up2_o (by decide), TX_24]
        have h25 : w 0 25 = f25 := by rw [hsb 0 25 (by omega) (by unfold scr; omega), cpS_o (by decide), up2_o (by decide), TX_25]
        refine lv_iload_n hxe hcd dX9_run_54 rfl (lv_at hl 1 rfl) ?_
        refine lv_aload_n hxe hcd dX9_run_55 rfl (lv_at hl 0 rfl) ?_
        refine gf_X9_50 S hW dX9_run_56 ?_
        refine gf_X9_285 S hW dX9_run_59 ?_
        refine r_as (y := (nI (mm + 1))) (hw4) ?_
        refine n_ge S (a := j) (b := (mm + 1)) (by omega) (by omega) dX9_run_62 (tgt := 108) (by decide) (fun c62 => ?_) (fun c62 => ?_)
        · have hk15 : w 0 15 1 = nI kr := by rw [hfr 0 15 (by decide) (by omega) (by unfold scr; omega)]; exact hk15
          have hcn : w 0 15 2 = nI cn := by rw [hfr 0 15 (by decide) (by omega) (by unfold scr; omega)]; exact hcn
          have hR : RP (w 0) v := RP_k hR (fun o ho => hfr 0 o (by decide) (by omega) (by unfold scr; omega))
          have ej : j = mm + 1 := by omega
          rw [ej] at hRj hVj hok
          refine lv_aload_n hxe hcd dX9_run_108 rfl (lv_at hl 0 rfl) ?_
          refine gf_X9_25 S hW dX9_run_109 ?_
          refine lv_aload_n hxe hcd dX9_run_112 rfl (lv_at hl 0 rfl) ?_
          refine gf_X9_10 S hW dX9_run_113 ?_
          refine r_callvG (r_runV hZ S hW (As := [.ref (A (0, 0))]) (rest := []) (t_X2_push l hZ A g w H.size hkr hk15 hcn hc8) k_X9_86 (r_recv hW (x := (0, 15)) (in_r (by decide) (by decide)) rfl rfl) hl.1 rfl rfl (Nat.le_of_ble_eq_true rfl) ⟨(Nat.le_of_ble_eq_true rfl), (Nat.le_of_ble_eq_true rfl)⟩ ⟨(Nat.le_of_ble_eq_true rfl), (Nat.le_of_ble_eq_true rfl)⟩ dX9_run_116) hW (fun u H locs hp hW => ?_)
          obtain ⟨g, A, μ⟩ := u
          obtain ⟨hg1, hA1, hm1, hk1n, hcnn, hRB⟩ := hp
          simp only at hg1 hA1 hm1 hk1n hcnn hRB
          have hW : wX Z (ids g) A (cE Z A g μ) _ s H locs := hW
          have hRB := hRB v hVG hR
          have hR : RP (μ 0) v := RP_k hR (fun o ho => hm1 0 o (by omega) (by omega))
          have hl : lv_has ls 3 [(0, .ref (A (0, 14))), (2, .int (nI j))] := by
            rw [hA1 _ (in_r (by decide) (by decide))]
            exact hl
          refine lv_aload_n hxe hcd dX9_run_119 rfl (lv_at hl 0 rfl) ?_
          refine gf_X9_10 S hW dX9_run_120 ?_
          refine lv_aload_n hxe hcd dX9_run_123 rfl (lv_at hl 0 rfl) ?_
          refine gf_X9_16 S hW dX9_run_124 ?_
          refine r_callv (F := (cE Z A g)) (r_runV hZ S hW (As := [.ref (A (1, 0))]) (rest := []) (t_X6_copyFrom l hZ A g μ H.size sB_0 sB_1 (by decide)) k_X9_282 (r_recv hW (x := (0, 0)) (in_s sB_0 (by decide)) rfl rfl) (hl.1) rfl rfl (Nat.le_of_ble_eq_true rfl) ⟨Nat.le_of_ble_eq_true rfl, Nat.le_of_ble_eq_true rfl⟩ ⟨Nat.le_of_ble_eq_true rfl, Nat.le_of_ble_eq_true rfl⟩ dX9_run_127) hW (fun u127 H locs hp127 hW => ?_)
          have hp127 := hp127.symm
          subst hp127
          refine lv_aload_n hxe hcd dX9_run_130 rfl (lv_at hl 0 rfl) ?_
          refine gf_X9_50 S hW dX9_run_131 ?_
          refine gf_X9_285 S hW dX9_run_134 ?_
          refine r_as (y := (nI (mm + 1))) (by rw [cpS_oo (by omega), hm1 0 22 (by omega) (by decide)]; exact hw4) ?_
          refine x_iret S hr hlk (Nat.le_of_ble_eq_true rfl) (Nat.le_of_ble_eq_true rfl) (g, A, cpState μ 0 1) hW ?_ dX9_run_137
          have hR1 : RP (μ 1) (vSq t n v (mm + 1)) := RP_k hRj (fun o ho => hm1 1 o (by omega) (by omega))
          refine ⟨mm, hT, h12, fun i hi => hok i (by omega), rfl, hg1, hA1, cpS_b (b := 0) (b2 := 1) (by decide) hR1 hVj, ?_, fun b o h1 h2 h3 h4 => ?_, ?_, ?_, ?_, hVj⟩
          · exact RP_k hRB (fun o ho => cpS_o (μ := μ) (b := 0) (b2 := 1) (b3 := kr + 3) (by omega) o)
          · simp only []; rw [cpS_oo (by omega), hm1 b o h1 (by omega)]; exact hfr b o h2 (by omega) h4
          · simp only []; rw [cpS_oo (by omega), hm1 0 22 (by omega) (by omega), h22, upd_s]
          · simp only []; rw [cpS_o15 (by decide)]; exact hk1n
          · simp only []; rw [cpS_o15 (by decide)]; exact hcnn
        · have hjm : j ≤ mm := by omega
          obtain ⟨cw, a1, a2, a3, a4, hco, hw12, ha1, ha2, ha3, ha4, hC0⟩ := CMF_J (μ := μ) (c2 := mm + 1) (q := n) (hCM j hjm)
          have hCj : CMJ w j cw a1 a2 a3 a4 := CMJ_k hC0 (by rw [h24, TX_24]) (by rw [h25, TX_25])
          have hexj : exO (vSq t n v j) (coF t n j) = exV (vSq t n v j) cw a1 a2 a3 a4 := by rw [hco]; rfl
          refine lv_aload_n hxe hcd dX9_run_65 rfl (lv_at hl 0 rfl) ?_
          refine lv_aload_n hxe hcd dX9_run_66 rfl (lv_at hl 0 rfl) ?_
          refine gf_X9_16 S hW dX9_run_67 ?_
          refine lv_iload_n hxe hcd dX9_run_70 rfl (lv_at hl 1 rfl) ?_
          refine r_calli0 (r_runV hZ S hW (As := [.ref (A (1, 0)), .int (nI j)]) (rest := []) (t_X9_faultOfCommand l hZ A g w H.size (b0 := 1) sB_1 (vSq t n v j) hVj hRj (w := cw) (a1 := a1) (a2 := a2) (a3 := a3) (a4 := a4) (jc := j) hw12 ha1 ha2 ha3 ha4 (by omega) hCj) k_X9_288 (r_recv hW (x := (0, 14)) (in_r (by decide) (by decide)) rfl rfl) (hl.1) rfl rfl (Nat.le_of_ble_eq_true rfl) ⟨Nat.le_of_ble_eq_true rfl, Nat.le_of_ble_eq_true rfl⟩ ⟨Nat.le_of_ble_eq_true rfl, Nat.le_of_ble_eq_true rfl⟩ dX9_run_71) hW (fun r71 H locs hp71 hW => ?_)
          rcases hp71 with ⟨rfl, hex⟩ | ⟨hr0, hex⟩
          · refine lv_if_eq (tgt := 93) hxe hcd dX9_run_74 (by decide) (fun _ => ?_) (fun h => absurd (by decide) h)
            obtain ⟨v2, hv2⟩ := Option.ne_none_iff_exists'.mp hex
            refine lv_aload_n hxe hcd dX9_run_93 rfl (lv_at hl 0 rfl) ?_
            refine lv_aload_n hxe hcd dX9_run_94 rfl (lv_at hl 0 rfl) ?_
            refine gf_X9_16 S hW dX9_run_95 ?_
            refine lv_iload_n hxe hcd dX9_run_98 rfl (lv_at hl 1 rfl) ?_
            refine r_callv (F := (cE Z A g)) (r_runV hZ S hW (As := [.ref (A (1, 0)), .int (nI j)]) (rest := []) (t_X9_carryOut l hZ A g w H.size (b0 := 1) sB_1 (vSq t n v j) hVj hRj (w := cw) (a1 := a1) (a2 := a2) (a3 := a3) (a4 := a4) (jc := j) hw12 ha1 ha2 ha3 ha4 (by omega) hCj v2 hv2) k_X9_297 (r_recv hW (x := (0, 14)) (in_r (by decide) (by decide)) rfl rfl) (hl.1) rfl rfl (Nat.le_of_ble_eq_true rfl) ⟨Nat.le_of_ble_eq_true rfl, Nat.le_of_ble_eq_true rfl⟩ ⟨Nat.le_of_ble_eq_true rfl, Nat.le_of_ble_eq_true rfl⟩ dX9_run_99) hW (fun u99 H locs hp99 hW => ?_)
            obtain ⟨hRn, hsn⟩ := hp99
            refine lv_iinc (v := (nI (j + 1))) (lv' := [(2, .int (nI (j + 1))), (0, .ref (A (0, 14)))]) hxe hcd dX9_run_102 hl (k := 1) rfl (nI_add j 1) (by decide) rfl (fun ls hl => ?_)
            refine lv_goto (tgt := 54) hxe hcd dX9_run_105 (by decide) ?_
            exact ih54 (j + 1) u99 (by omega) (by omega) (by rw [vSq_s (hexj.trans hv2)]; exact VG_ex hVj hw12 ha1 ha2 ha3 ha4 hv2) (by rw [vSq_s (hexj.trans hv2)]; exact hRn) (SQb_tr hsb hsn) (fun i hi => by rcases Nat.lt_succ_iff_lt_or_eq.mp hi with h | h; exact hok i h; rw [h, hexj]; exact hex) _ _ _ hW (lv_sub hl [1, 0] rfl)
          · refine lv_if_eq (tgt := 93) hxe hcd dX9_run_74 (by decide) (fun c74 => absurd c74 hr0) (fun c74 => ?_)
            refine lv_aload_n hxe hcd dX9_run_77 rfl (lv_at hl 0 rfl) ?_
            refine lv_iload_n hxe hcd dX9_run_78 rfl (lv_at hl 1 rfl) ?_
            refine gp_X9_69 S hW dX9_run_79 (fun H locs hW => ?_)
            exact x_throwSW S hZ hl0 hZX hnt hl.1 hlk hW (ik := 292) (is := 294) (ic := 296) (X := "java/lang/IllegalStateException") (text := "a command fails") (by decide +kernel) g_592 g_41 (by decide) tw_3 ot_3 dX9_run_82 dX9_run_85 dX9_run_86 dX9_run_89 dX9_run_92 (Nat.le_of_ble_eq_true rfl) (Nat.le_of_ble_eq_true rfl) (Nat.le_of_ble_eq_true rfl) (Nat.le_of_ble_eq_true rfl) (Nat.le_of_ble_eq_true rfl) (Nat.le_of_ble_eq_true rfl) (fun tz z1 z2 => ⟨(3, (g, A, up2 w 0 14 (upd (w 0 14) 11 (nI j)))), ⟨⟨rfl, rfl, (fun b o h1 h2 h3 => by simp only []; rw [up2_n (by omega)]; exact hfr b o h1 (by omega) h3), (by simp only []; rw [up2_o (o2 := 22) (o := 14) (by decide), h22, upd_s])⟩, Or.inr ⟨rfl, mm, j, hT, h12, hjm, hok, (by rw [hexj]; exact hex), (by simp only []; rw [up2_s, hfr 0 14 (by decide) (by omega) (by unfold scr; omega)])⟩⟩, ⟨rfl, z1⟩, z2⟩)
    exact loop54 ((mm + 1) + 1) 0 (cpState (up2 (TX μ f24 f25 (mm + 1) n) 0 22 (upd (TX μ f24 f25 (mm + 1) n 0 22) 1 (nI 0))) 1 0) (Nat.lt_succ_self _) (Nat.zero_le _) hVG (cpS_b (b := 1) (b2 := 0) (by decide) (RP_k hR (fun o ho => by rw [up2_n (by omega), TX_o _ _ _ _ _ (by omega)])) hVG) (SQb_rfl _ _) (fun i h => absurd h (Nat.not_lt_zero _)) _ _ _ hW (lv_sub hl [2, 0] rfl)
  · refine lv_istore_n (lv' := [(1, .int (nI 0)), (0, .ref (A (0, 14)))]) hxe hcd dX9_run_7 rfl hl (by decide) rfl (fun ls hl => ?_)
    refine lv_aload_n hxe hcd dX9_run_8 rfl (lv_at hl 1 rfl) ?_
    refine gf_X9_50 S hW dX9_run_9 ?_
    refine r_callv (F := (cE Z A g)) (r_runV hZ S hW (As := []) (rest := []) (t_X1_clear l hZ A g (TX μ f24 f25 c2 (enF t n mm)) H.size ) k_X9_271 (r_recv hW (x := (0, 22)) (in_r (by decide) (by decide)) rfl rfl) (hl.1) rfl rfl (Nat.le_of_ble_eq_true rfl) ⟨Nat.le_of_ble_eq_true rfl, Nat.le_of_ble_eq_true rfl⟩ ⟨Nat.le_of_ble_eq_true rfl, Nat.le_of_ble_eq_true rfl⟩ dX9_run_12) hW (fun u12 H locs hp12 hW => ?_)
    have hp12 := hp12.symm
    subst hp12
    refine lv_iload_n hxe hcd dX9_run_15 rfl (lv_at hl 0 rfl) ?_
    refine lv_if_ne (tgt := 41) hxe hcd dX9_run_16 (by decide) (fun h => absurd h (by decide)) (fun _ => ?_)
    refine lv_aload_n hxe hcd dX9_run_19 rfl (lv_at hl 1 rfl) ?_
    refine lv_aload_n hxe hcd dX9_run_20 rfl (lv_at hl 1 rfl) ?_
    refine gf_X9_50 S hW dX9_run_21 ?_
    refine gf_X9_274 S hW dX9_run_24 ?_
    refine r_as (y := (nI (enF t n mm))) (by rw [up2_s, upd_o (by decide), TX_h]) ?_
    refine gp_X9_65 S hW dX9_run_27 (fun H locs hW => ?_)
    exact x_throwSW S hZ hl0 hZX hnt hl.1 hlk hW (ik := 277) (is := 279) (ic := 281) (X := "java/lang/IllegalArgumentException") (text := "the text is not a command text") (by decide +kernel) g_576 g_49 (by decide) tw_2 ot_2 dX9_run_30 dX9_run_33 dX9_run_34 dX9_run_37 dX9_run_40 (Nat.le_of_ble_eq_true rfl) (Nat.le_of_ble_eq_true rfl) (Nat.le_of_ble_eq_true rfl) (Nat.le_of_ble_eq_true rfl) (Nat.le_of_ble_eq_true rfl) (Nat.le_of_ble_eq_true rfl) (fun tz z1 z2 => ⟨(2, (g, A, up2 (up2 (TX μ f24 f25 c2 (enF t n mm)) 0 22 (upd ((TX μ f24 f25 c2 (enF t n mm)) 0 22) 1 (nI 0))) 0 14 (upd ((up2 (TX μ f24 f25 c2 (enF t n mm)) 0 22 (upd ((TX μ f24 f25 c2 (enF t n mm)) 0 22) 1 (nI 0))) 0 14) 10 (nI (enF t n mm))))), ⟨⟨rfl, rfl, (fun b o h1 h2 h3 => by simp only []; rw [up2_n (by omega), up2_n (by omega), TX_o _ _ _ _ _ (by omega)]), (by simp only []; rw [up2_o (o2 := 22) (o := 14) (by decide), up2_s, upd_s])⟩, Or.inl ⟨rfl, mm, hT, (by simp only []; rw [up2_s, up2_o (o2 := 14) (o := 22) (by decide), TX_o _ _ _ _ _ (by omega)])⟩⟩, ⟨rfl, z1⟩, z2⟩)
