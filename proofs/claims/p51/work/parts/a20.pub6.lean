theorem LK_o {μ : CM} {w : WL} {b o : Nat} (h : ¬ (b = 0 ∧ (o = 26 ∨ o = 27))) : LK μ w b o = μ b o := by
  unfold LK
  rw [up2_n (fun z => h ⟨z.1, Or.inr z.2⟩), up2_n (fun z => h ⟨z.1, Or.inl z.2⟩)]
set_option maxHeartbeats 4000000 in
set_option maxRecDepth 100000 in
theorem t_X9_describeChain (l : Launch) (hl0 : l.stackTraces = false) {Z : ZT} (hZ : zOK Z) (hZX : ZX Z) (A : Nat × Nat → Nat) (g : Nat → Bool) (μ : CM) (sz : Nat) {v : Nat → Int32} (hVG : VG v) (hR : RP (μ 0) v) : XVi l yX9_describeChain cX9_describeChain 3 (some .int) 7 15 1376 [.ref (A (0, 14))] Z (ids g) A (cE Z A g μ) sz (fun r u => r = nI (dcC (kdV v) (psV v) (μ 0 27, 0) (nfV v)).2 ∧ u = (g, A, LK μ (dcC (kdV v) (psV v) (μ 0 27, 0) (nfV v)))) (fun _ _ => False) := by
  refine x_met (E := (cE Z A g μ)) (by decide +kernel) (Nat.le_of_ble_eq_true rfl) ?_
  intro p e s m below meth c ls S hr hlk hnt hsz hW hl
  have hxe := S.1
  have hcd := S.2.1
  subst hsz
  have hl : lv_has ls 3 [(0, .ref (A (0, 14)))] := hl
  refine lv_aload_n hxe hcd dX9_describeChain_0 rfl (lv_at hl 0 rfl) ?_
  refine gf_X9_57 S hW dX9_describeChain_1 ?_
  refine r_callv (F := (cE Z A g)) (r_runV hZ S hW (As := []) (rest := []) (t_X3_clear l hZ A g μ s.heap.size ) k_X9_304 (r_recv hW (x := (0, 26)) (in_r (by decide) (by decide)) rfl rfl) (hl.1) rfl rfl (Nat.le_of_ble_eq_true rfl) ⟨Nat.le_of_ble_eq_true rfl, Nat.le_of_ble_eq_true rfl⟩ ⟨Nat.le_of_ble_eq_true rfl, Nat.le_of_ble_eq_true rfl⟩ dX9_describeChain_4) hW (fun u4 H locs hp4 hW => ?_)
  have hmhp4 : u4 = LK μ (μ 0 27, 0) := by rw [hp4, LK_0]
  subst hmhp4
  refine lv_iconst (v := (nI 0)) hxe hcd dX9_describeChain_7 (by decide) ?_
  refine lv_istore_n (lv' := [(1, .int (nI 0)), (0, .ref (A (0, 14)))]) hxe hcd dX9_describeChain_8 rfl hl (by decide) rfl (fun ls hl => ?_)
  have loop9 : ∀ (n_ : Nat) (f : Nat), nfV v - f < n_ → (f ≤ nfV v) → ∀ (H : Heap) (locs : List Loc) (ls : Array Slot), wX Z (ids g) A (cE Z A g (LK μ (dcC (kdV v) (psV v) (μ 0 27, 0) f))) (fA (ids g) A (cE Z A g μ) s.heap.size) s H locs → lv_has ls 3 [(0, .ref (A (0, 14))), (1, .int (nI f))] → W p l e (rmD 7 15 1376) s m ([.ref (A (0, 14))] : List Value).toArray below meth c H locs 0 0 (vx_MQ below (va_Qi (fun r u => r = nI (dcC (kdV v) (psV v) (μ 0 27, 0) (nfV v)).2 ∧ u = (g, A, LK μ (dcC (kdV v) (psV v) (μ 0 27, 0) (nfV v)))) (fun (u : GM) t => qG Z (fA (ids g) A (cE Z A g μ) s.heap.size) u t) (fA (ids g) A (cE Z A g μ) s.heap.size)) (XCx (fun _ _ => False) Z (fA (ids g) A (cE Z A g μ) s.heap.size)) ([.ref (A (0, 14))] : List Value).toArray s 15 1376 (fA (ids g) A (cE Z A g μ) s.heap.size)) (F0 m 9 ls []) := by
    intro n_
    induction n_ with
    | zero => intro f hm; exact absurd hm (Nat.not_lt_zero _)
    | succ n_ ih9 =>
      intro f hm hf H locs ls hW hl
      have hn8 := hVG.1.2
      have hle : (dcC (kdV v) (psV v) (μ 0 27, 0) f).2 ≤ 0 + 5 * f := dcC_le (fun j hj => (RP_ps hR hVG j (by omega)).2.1)
      refine lv_iload_n hxe hcd dX9_describeChain_9 rfl (lv_at hl 1 rfl) ?_
      refine lv_aload_n hxe hcd dX9_describeChain_10 rfl (lv_at hl 0 rfl) ?_
      refine gf_X9_10 S hW dX9_describeChain_11 ?_
      refine gf_X9_72 S hW sB_0 dX9_describeChain_14 ?_
      refine gf_X9_90 S hW sB_0 dX9_describeChain_17 ?_
      refine r_as (y := (nI (nfV v))) (by rw [LK_o (by decide)]; exact RP_c hR hVG) ?_
      refine n_ge S (a := f) (b := (nfV v)) (by omega) (by omega) dX9_describeChain_20 (tgt := 86) (by decide) (fun c20 => ?_) (fun c20 => ?_)
      · refine lv_aload_n hxe hcd dX9_describeChain_86 rfl (lv_at hl 0 rfl) ?_
        refine gf_X9_57 S hW dX9_describeChain_87 ?_
        refine gf_X9_311 S hW dX9_describeChain_90 ?_
        refine r_as (y := (nI ((dcC (kdV v) (psV v) (μ 0 27, 0) f).2))) (LK_n _ _) ?_
        refine x_iret S hr hlk (Nat.le_of_ble_eq_true rfl) (Nat.le_of_ble_eq_true rfl) (g, A, LK μ (dcC (kdV v) (psV v) (μ 0 27, 0) f)) hW ?_ dX9_describeChain_93
        rw [show f = nfV v by omega]
        exact ⟨rfl, rfl⟩
      · refine lv_iload_n hxe hcd dX9_describeChain_23 rfl (lv_at hl 1 rfl) ?_
        refine n_ifle S (a := f) (by omega) dX9_describeChain_24 (tgt := 36) (by decide) (fun c24 => ?_) (fun c24 => ?_)
        · refine lv_aload_n hxe hcd dX9_describeChain_36 rfl (lv_at hl 0 rfl) ?_
          refine gf_X9_10 S hW dX9_describeChain_37 ?_
          refine gf_X9_72 S hW sB_0 dX9_describeChain_40 ?_
          refine lv_iload_n hxe hcd dX9_describeChain_43 rfl (lv_at hl 1 rfl) ?_
          refine r_calli0 (r_runV hZ S hW (As := [.int (nI f)]) (rest := []) (t_X0_kindAt l hZ A g (LK μ (dcC (kdV v) (psV v) (μ 0 27, 0) f)) H.size sB_0 (nI f)) k_X9_116 (r_recv hW (x := (0, 1)) (in_s sB_0 (by decide)) rfl rfl) (hl.1) rfl rfl (Nat.le_of_ble_eq_true rfl) ⟨Nat.le_of_ble_eq_true rfl, Nat.le_of_ble_eq_true rfl⟩ ⟨Nat.le_of_ble_eq_true rfl, Nat.le_of_ble_eq_true rfl⟩ dX9_describeChain_44) hW (fun r44 H locs hp44 hW => ?_)
          have hp44 := hp44.symm
          subst hp44
          refine r_as (y := (kdV v f)) (by rw [rd_in (n := 8) (k := f) _ (by omega) (by decide), LK_o (by decide)]; exact (hR.1.2 f (by omega)).1) ?_
          refine lv_istore_n (lv' := [(2, .int (kdV v f)), (0, .ref (A (0, 14))), (1, .int (nI f))]) hxe hcd dX9_describeChain_47 rfl hl (by decide) rfl (fun ls hl => ?_)
          refine lv_aload_n hxe hcd dX9_describeChain_48 rfl (lv_at hl 1 rfl) ?_
          refine gf_X9_57 S hW dX9_describeChain_49 ?_
          refine lv_iload_n hxe hcd dX9_describeChain_52 rfl (lv_at hl 0 rfl) ?_
          refine r_callv (F := (cE Z A g)) (r_runV hZ S hW (As := [.int (kdV v f)]) (rest := []) (t_X3_putSign l hZ A g (LK μ (dcC (kdV v) (psV v) (μ 0 27, 0) f)) H.size (lN := (dcC (kdV v) (psV v) (μ 0 27, 0) f).2) (LK_n _ _) (by first | omega | (simp only [wr1, wrn]; omega)) (kdV v f)) k_X9_305 (r_recv hW (x := (0, 26)) (in_r (by decide) (by decide)) rfl rfl) (hl.1) rfl rfl (Nat.le_of_ble_eq_true rfl) ⟨Nat.le_of_ble_eq_true rfl, Nat.le_of_ble_eq_true rfl⟩ ⟨Nat.le_of_ble_eq_true rfl, Nat.le_of_ble_eq_true rfl⟩ dX9_describeChain_53) hW (fun u53 H locs hp53 hW => ?_)
          have hmhp53 : u53 = LK μ (wr1 (dcC (kdV v) (psV v) (μ 0 27, 0) f) (kdV v f)) := by rw [hp53]; exact LK_wr1 _ _ _
          subst hmhp53
          refine lv_iload_n hxe hcd dX9_describeChain_56 rfl (lv_at hl 0 rfl) ?_
          refine lv_bipush (v := (nI 102)) hxe hcd dX9_describeChain_57 (by decide) ?_
          have hpf := RP_ps hR hVG f (by omega)
          have hnd3 := nd_3 (n := psV v f) (by omega)
          refine lv_icmp_eq (tgt := 80) hxe hcd dX9_describeChain_59 (by decide) (fun c59 => ?_) (fun c59 => ?_)
          · refine lv_iinc (v := (nI (f + 1))) (lv' := [(1, .int (nI (f + 1))), (2, .int (kdV v f)), (0, .ref (A (0, 14)))]) hxe hcd dX9_describeChain_80 hl (k := 2) rfl (nI_add f 1) (by decide) rfl (fun ls hl => ?_)
            refine lv_goto (tgt := 9) hxe hcd dX9_describeChain_83 (by decide) ?_
            exact ih9 (f + 1) (by omega) (by omega) _ _ _ (by rw [dcC, if_pos c59, if_pos c24]; exact hW) (lv_sub hl [2, 0] rfl)
          · refine lv_aload_n hxe hcd dX9_describeChain_62 rfl (lv_at hl 1 rfl) ?_
            refine gf_X9_57 S hW dX9_describeChain_63 ?_
            refine lv_aload_n hxe hcd dX9_describeChain_66 rfl (lv_at hl 1 rfl) ?_
            refine gf_X9_10 S hW dX9_describeChain_67 ?_
            refine gf_X9_72 S hW sB_0 dX9_describeChain_70 ?_
            refine lv_iload_n hxe hcd dX9_describeChain_73 rfl (lv_at hl 2 rfl) ?_
            refine r_calli0 (r_runV hZ S hW (As := [.int (nI f)]) (rest := [.ref (A (0, 26))]) (t_X0_parameterAt l hZ A g (LK μ (wr1 (dcC (kdV v) (psV v) (μ 0 27, 0) f) (kdV v f))) H.size sB_0 (nI f)) k_X9_119 (r_recv hW (x := (0, 1)) (in_s sB_0 (by decide)) rfl rfl) (hl.1) rfl rfl (Nat.le_of_ble_eq_true rfl) ⟨Nat.le_of_ble_eq_true rfl, Nat.le_of_ble_eq_true rfl⟩ ⟨Nat.le_of_ble_eq_true rfl, Nat.le_of_ble_eq_true rfl⟩ dX9_describeChain_74) hW (fun r74 H locs hp74 hW => ?_)
            have hp74 := hp74.symm
            subst hp74
            refine r_as (y := (nI (psV v f))) (by rw [rd_in (n := 8) (k := f) _ (by omega) (by decide), LK_o (by decide)]; exact (RP_ps hR hVG f (by omega)).1) ?_
            refine r_callv (F := (cE Z A g)) (r_runV hZ S hW (As := [.int (nI (psV v f))]) (rest := []) (t_X3_putNumber l hZ A g (LK μ (wr1 (dcC (kdV v) (psV v) (μ 0 27, 0) f) (kdV v f))) H.size (n := (psV v f)) (lN := (wr1 (dcC (kdV v) (psV v) (μ 0 27, 0) f) (kdV v f)).2) (by omega) (LK_n _ _) (by first | omega | (simp only [wr1, wrn]; omega))) k_X9_308 (r_recv hW (x := (0, 26)) (in_r (by decide) (by decide)) rfl rfl) (hl.1) rfl rfl (Nat.le_of_ble_eq_true rfl) ⟨Nat.le_of_ble_eq_true rfl, Nat.le_of_ble_eq_true rfl⟩ ⟨Nat.le_of_ble_eq_true rfl, Nat.le_of_ble_eq_true rfl⟩ dX9_describeChain_77) hW (fun u77 H locs hp77 hW => ?_)
            have hmhp77 : u77 = LK μ (wrn (wr1 (dcC (kdV v) (psV v) (μ 0 27, 0) f) (kdV v f)) (psV v f)) := by rw [hp77, LK_r, LK_LK]
            subst hmhp77
            refine lv_iinc (v := (nI (f + 1))) (lv' := [(1, .int (nI (f + 1))), (2, .int (kdV v f)), (0, .ref (A (0, 14)))]) hxe hcd dX9_describeChain_80 hl (k := 2) rfl (nI_add f 1) (by decide) rfl (fun ls hl => ?_)
            refine lv_goto (tgt := 9) hxe hcd dX9_describeChain_83 (by decide) ?_
            exact ih9 (f + 1) (by omega) (by omega) _ _ _ (by rw [dcC, if_neg c59, if_pos c24]; exact hW) (lv_sub hl [2, 0] rfl)
        · refine lv_aload_n hxe hcd dX9_describeChain_27 rfl (lv_at hl 0 rfl) ?_
          refine gf_X9_57 S hW dX9_describeChain_28 ?_
          refine lv_bipush (v := (nI 62)) hxe hcd dX9_describeChain_31 (by decide) ?_
          refine r_callv (F := (cE Z A g)) (r_runV hZ S hW (As := [.int (nI 62)]) (rest := []) (t_X3_putSign l hZ A g (LK μ (dcC (kdV v) (psV v) (μ 0 27, 0) f)) H.size (lN := (dcC (kdV v) (psV v) (μ 0 27, 0) f).2) (LK_n _ _) (by first | omega | (simp only [wr1, wrn]; omega)) (nI 62)) k_X9_305 (r_recv hW (x := (0, 26)) (in_r (by decide) (by decide)) rfl rfl) (hl.1) rfl rfl (Nat.le_of_ble_eq_true rfl) ⟨Nat.le_of_ble_eq_true rfl, Nat.le_of_ble_eq_true rfl⟩ ⟨Nat.le_of_ble_eq_true rfl, Nat.le_of_ble_eq_true rfl⟩ dX9_describeChain_33) hW (fun u33 H locs hp33 hW => ?_)
          have hmhp33 : u33 = LK μ (wr1 (dcC (kdV v) (psV v) (μ 0 27, 0) f) (nI 62)) := by rw [hp33]; exact LK_wr1 _ _ _
          subst hmhp33
          refine lv_aload_n hxe hcd dX9_describeChain_36 rfl (lv_at hl 0 rfl) ?_
          refine gf_X9_10 S hW dX9_describeChain_37 ?_
          refine gf_X9_72 S hW sB_0 dX9_describeChain_40 ?_
          refine lv_iload_n hxe hcd dX9_describeChain_43 rfl (lv_at hl 1 rfl) ?_
          refine r_calli0 (r_runV hZ S hW (As := [.int (nI f)]) (rest := []) (t_X0_kindAt l hZ A g (LK μ (wr1 (dcC (kdV v) (psV v) (μ 0 27, 0) f) (nI 62))) H.size sB_0 (nI f)) k_X9_116 (r_recv hW (x := (0, 1)) (in_s sB_0 (by decide)) rfl rfl) (hl.1) rfl rfl (Nat.le_of_ble_eq_true rfl) ⟨Nat.le_of_ble_eq_true rfl, Nat.le_of_ble_eq_true rfl⟩ ⟨Nat.le_of_ble_eq_true rfl, Nat.le_of_ble_eq_true rfl⟩ dX9_describeChain_44) hW (fun r44 H locs hp44 hW => ?_)
          have hp44 := hp44.symm
          subst hp44
          refine r_as (y := (kdV v f)) (by rw [rd_in (n := 8) (k := f) _ (by omega) (by decide), LK_o (by decide)]; exact (hR.1.2 f (by omega)).1) ?_
          refine lv_istore_n (lv' := [(2, .int (kdV v f)), (0, .ref (A (0, 14))), (1, .int (nI f))]) hxe hcd dX9_describeChain_47 rfl hl (by decide) rfl (fun ls hl => ?_)
          refine lv_aload_n hxe hcd dX9_describeChain_48 rfl (lv_at hl 1 rfl) ?_
          refine gf_X9_57 S hW dX9_describeChain_49 ?_
          refine lv_iload_n hxe hcd dX9_describeChain_52 rfl (lv_at hl 0 rfl) ?_
          refine r_callv (F := (cE Z A g)) (r_runV hZ S hW (As := [.int (kdV v f)]) (rest := []) (t_X3_putSign l hZ A g (LK μ (wr1 (dcC (kdV v) (psV v) (μ 0 27, 0) f) (nI 62))) H.size (lN := (wr1 (dcC (kdV v) (psV v) (μ 0 27, 0) f) (nI 62)).2) (LK_n _ _) (by first | omega | (simp only [wr1, wrn]; omega)) (kdV v f)) k_X9_305 (r_recv hW (x := (0, 26)) (in_r (by decide) (by decide)) rfl rfl) (hl.1) rfl rfl (Nat.le_of_ble_eq_true rfl) ⟨Nat.le_of_ble_eq_true rfl, Nat.le_of_ble_eq_true rfl⟩ ⟨Nat.le_of_ble_eq_true rfl, Nat.le_of_ble_eq_true rfl⟩ dX9_describeChain_53) hW (fun u53 H locs hp53 hW => ?_)
          have hmhp53 : u53 = LK μ (wr1 (wr1 (dcC (kdV v) (psV v) (μ 0 27, 0) f) (nI 62)) (kdV v f)) := by rw [hp53]; exact LK_wr1 _ _ _
          subst hmhp53
          refine lv_iload_n hxe hcd dX9_describeChain_56 rfl (lv_at hl 0 rfl) ?_
          refine lv_bipush (v := (nI 102)) hxe hcd dX9_describeChain_57 (by decide) ?_
          have hpf := RP_ps hR hVG f (by omega)
          have hnd3 := nd_3 (n := psV v f) (by omega)
          refine lv_icmp_eq (tgt := 80) hxe hcd dX9_describeChain_59 (by decide) (fun c59 => ?_) (fun c59 => ?_)
          · refine lv_iinc (v := (nI (f + 1))) (lv' := [(1, .int (nI (f + 1))), (2, .int (kdV v f)), (0, .ref (A (0, 14)))]) hxe hcd dX9_describeChain_80 hl (k := 2) rfl (nI_add f 1) (by decide) rfl (fun ls hl => ?_)
            refine lv_goto (tgt := 9) hxe hcd dX9_describeChain_83 (by decide) ?_
            exact ih9 (f + 1) (by omega) (by omega) _ _ _ (by rw [dcC, if_pos c59, if_neg c24]; exact hW) (lv_sub hl [2, 0] rfl)
          · refine lv_aload_n hxe hcd dX9_describeChain_62 rfl (lv_at hl 1 rfl) ?_
            refine gf_X9_57 S hW dX9_describeChain_63 ?_
            refine lv_aload_n hxe hcd dX9_describeChain_66 rfl (lv_at hl 1 rfl) ?_
            refine gf_X9_10 S hW dX9_describeChain_67 ?_
            refine gf_X9_72 S hW sB_0 dX9_describeChain_70 ?_
            refine lv_iload_n hxe hcd dX9_describeChain_73 rfl (lv_at hl 2 rfl) ?_
            refine r_calli0 (r_runV hZ S hW (As := [.int (nI f)]) (rest := [.ref (A (0, 26))]) (t_X0_parameterAt l hZ A g (LK μ (wr1 (wr1 (dcC (kdV v) (psV v) (μ 0 27, 0) f) (nI 62)) (kdV v f))) H.size sB_0 (nI f)) k_X9_119 (r_recv hW (x := (0, 1)) (in_s sB_0 (by decide)) rfl rfl) (hl.1) rfl rfl (Nat.le_of_ble_eq_true rfl) ⟨Nat.le_of_ble_eq_true rfl, Nat.le_of_ble_eq_true rfl⟩ ⟨Nat.le_of_ble_eq_true rfl, Nat.le_of_ble_eq_true rfl⟩ dX9_describeChain_74) hW (fun r74 H locs hp74 hW => ?_)
            have hp74 := hp74.symm
            subst hp74
            refine r_as (y := (nI (psV v f))) (by rw [rd_in (n := 8) (k := f) _ (by omega) (by decide), LK_o (by decide)]; exact (RP_ps hR hVG f (by omega)).1) ?_
            refine r_callv (F := (cE Z A g)) (r_runV hZ S hW (As := [.int (nI (psV v f))]) (rest := []) (t_X3_putNumber l hZ A g (LK μ (wr1 (wr1 (dcC (kdV v) (psV v) (μ 0 27, 0) f) (nI 62)) (kdV v f))) H.size (n := (psV v f)) (lN := (wr1 (wr1 (dcC (kdV v) (psV v) (μ 0 27, 0) f) (nI 62)) (kdV v f)).2) (by omega) (LK_n _ _) (by first | omega | (simp only [wr1, wrn]; omega))) k_X9_308 (r_recv hW (x := (0, 26)) (in_r (by decide) (by decide)) rfl rfl) (hl.1) rfl rfl (Nat.le_of_ble_eq_true rfl) ⟨Nat.le_of_ble_eq_true rfl, Nat.le_of_ble_eq_true rfl⟩ ⟨Nat.le_of_ble_eq_true rfl, Nat.le_of_ble_eq_true rfl⟩ dX9_describeChain_77) hW (fun u77 H locs hp77 hW => ?_)
            have hmhp77 : u77 = LK μ (wrn (wr1 (wr1 (dcC (kdV v) (psV v) (μ 0 27, 0) f) (nI 62)) (kdV v f)) (psV v f)) := by rw [hp77, LK_r, LK_LK]
            subst hmhp77
            refine lv_iinc (v := (nI (f + 1))) (lv' := [(1, .int (nI (f + 1))), (2, .int (kdV v f)), (0, .ref (A (0, 14)))]) hxe hcd dX9_describeChain_80 hl (k := 2) rfl (nI_add f 1) (by decide) rfl (fun ls hl => ?_)
            refine lv_goto (tgt := 9) hxe hcd dX9_describeChain_83 (by decide) ?_
            exact ih9 (f + 1) (by omega) (by omega) _ _ _ (by rw [dcC, if_neg c59, if_neg c24]; exact hW) (lv_sub hl [2, 0] rfl)
  exact loop9 ((nfV v) + 1) 0 (Nat.lt_succ_self _) (Nat.zero_le _) _ _ _ (by rw [dcC]; exact hW) (lv_sub hl [1, 0] rfl)
set_option maxHeartbeats 4000000 in
set_option maxRecDepth 100000 in
theorem t_X9_describeTank (l : Launch) (hl0 : l.stackTraces = false) {Z : ZT} (hZ : zOK Z) (hZX : ZX Z) (A : Nat × Nat → Nat) (g : Nat → Bool) (μ : CM) (sz : Nat) {v : Nat → Int32} (hVG : VG v) (hR : RP (μ 0) v) (x : Int32) : XVi l yX9_describeTank cX9_describeTank 3 (some .int) 7 15 1376 [.ref (A (0, 14)), .int x] Z (ids g) A (cE Z A g μ) sz (fun r u => ∃ q, q < ntV v ∧ x = nI q ∧ r = nI (dcT (frN v q) (dcH (lvN v q) (cpN v q) (tuN v q) (μ 0 27, 0)) (lvN v q)).2 ∧ u = (g, A, LK μ (dcT (frN v q) (dcH (lvN v q) (cpN v q) (tuN v q) (μ 0 27, 0)) (lvN v q)))) (fun n u => SM g A μ u ∧ ((n = 1 ∧ ¬ IX x (ntV v)))) := by
  refine x_met (E := (cE Z A g μ)) (by decide +kernel) (Nat.le_of_ble_eq_true rfl) ?_
  intro p e s m below meth c ls S hr hlk hnt hsz hW hl
  have hxe := S.1
  have hcd := S.2.1
  subst hsz
  have hl : lv_has ls 3 [(0, .ref (A (0, 14))), (1, .int x)] := hl
  refine lv_aload_n hxe hcd dX9_describeTank_0 rfl (lv_at hl 0 rfl) ?_
  refine gf_X9_10 S hW dX9_describeTank_1 ?_
  refine gf_X9_193 S hW sB_0 dX9_describeTank_4 ?_
  refine lv_iload_n hxe hcd dX9_describeTank_7 rfl (lv_at hl 1 rfl) ?_
  refine r_calli0 (r_runV hZ S hW (As := [.int x]) (rest := []) (t_X7_faultOfTank l hZ A g μ s.heap.size (Or.inl sB_0) (nt := ntV v) (RP_nt hR hVG) hVG.2.1.2 x) k_X9_219 (r_recv hW (x := (0, 9)) (in_s sB_0 (by decide)) rfl rfl) (hl.1) rfl rfl (Nat.le_of_ble_eq_true rfl) ⟨Nat.le_of_ble_eq_true rfl, Nat.le_of_ble_eq_true rfl⟩ ⟨Nat.le_of_ble_eq_true rfl, Nat.le_of_ble_eq_true rfl⟩ dX9_describeTank_8) hW (fun r8 H locs hp8 hW => ?_)
  rcases hp8 with ⟨rfl, hp8⟩ | ⟨rfl, hp8⟩
  · obtain ⟨q, hqq, rfl⟩ := hp8
    have hn4 := hVG.2.1.2
    have hl9 := (RP_alv hR hVG q hqq).2
    have hc9 := (RP_acp hR hVG q hqq).2
    have ht9 := (RP_atu hR hVG hqq).2
    have hd1 := nd_0 (n := lvN v q) (by omega)
    have hd2 := nd_0 (n := cpN v q) (by omega)
    have hd4 := nd_4 (n := tuN v q) (by omega)
    refine r_callv0 (r_runS hZ S hW (As := [.int (nI 0)]) (rest := []) (t_tf0 l hZ (ids g) A (cE Z A g μ) H.size) k_X9_82 hl.1 rfl rfl (Nat.le_of_ble_eq_true rfl) ⟨(Nat.le_of_ble_eq_true rfl), (Nat.le_of_ble_eq_true rfl)⟩ ⟨(Nat.le_of_ble_eq_true rfl), (Nat.le_of_ble_eq_true rfl)⟩ dX9_describeTank_11) hW (fun H locs hW => ?_)
    refine lv_aload_n hxe hcd dX9_describeTank_14 rfl (lv_at hl 0 rfl) ?_
    refine gf_X9_57 S hW dX9_describeTank_15 ?_
    refine r_callv (F := (cE Z A g)) (r_runV hZ S hW (As := []) (rest := []) (t_X3_clear l hZ A g μ H.size ) k_X9_304 (r_recv hW (x := (0, 26)) (in_r (by decide) (by decide)) rfl rfl) (hl.1) rfl rfl (Nat.le_of_ble_eq_true rfl) ⟨Nat.le_of_ble_eq_true rfl, Nat.le_of_ble_eq_true rfl⟩ ⟨Nat.le_of_ble_eq_true rfl, Nat.le_of_ble_eq_true rfl⟩ dX9_describeTank_18) hW (fun u18 H locs hp18 hW => ?_)
    have hmhp18 : u18 = LK μ (μ 0 27, 0) := by rw [hp18, LK_0]
    subst hmhp18
    refine lv_aload_n hxe hcd dX9_describeTank_21 rfl (lv_at hl 0 rfl) ?_
    refine gf_X9_57 S hW dX9_describeTank_22 ?_
    refine lv_aload_n hxe hcd dX9_describeTank_25 rfl (lv_at hl 0 rfl) ?_
    refine gf_X9_10 S hW dX9_describeTank_26 ?_
    refine gf_X9_193 S hW sB_0 dX9_describeTank_29 ?_
    refine lv_iload_n hxe hcd dX9_describeTank_32 rfl (lv_at hl 1 rfl) ?_
    refine r_calli0 (r_runV hZ S hW (As := [.int (nI q)]) (rest := [.ref (A (0, 26))]) (t_X7_levelOf l hZ A g (LK μ (μ 0 27, 0)) H.size (Or.inl sB_0) (nI q)) k_X9_228 (r_recv hW (x := (0, 9)) (in_s sB_0 (by decide)) rfl rfl) (hl.1) rfl rfl (Nat.le_of_ble_eq_true rfl) ⟨Nat.le_of_ble_eq_true rfl, Nat.le_of_ble_eq_true rfl⟩ ⟨Nat.le_of_ble_eq_true rfl, Nat.le_of_ble_eq_true rfl⟩ dX9_describeTank_33) hW (fun r33 H locs hp33 hW => ?_)
    have hp33 := hp33.symm
    subst hp33
    refine r_as (y := (nI (lvN v q))) (by rw [rd_in (n := 4) (k := q) _ (by omega) (by decide), LK_o (by decide)]; exact (RP_alv hR hVG q hqq).1) ?_
    refine r_callv (F := (cE Z A g)) (r_runV hZ S hW (As := [.int (nI (lvN v q))]) (rest := []) (t_X3_putNumber l hZ A g (LK μ (μ 0 27, 0)) H.size (n := (lvN v q)) (lN := (μ 0 27, 0).2) (by omega) (LK_n _ _) (by first | omega | (simp only [wr1, wrn]; omega))) k_X9_308 (r_recv hW (x := (0, 26)) (in_r (by decide) (by decide)) rfl rfl) (hl.1) rfl rfl (Nat.le_of_ble_eq_true rfl) ⟨Nat.le_of_ble_eq_true rfl, Nat.le_of_ble_eq_true rfl⟩ ⟨Nat.le_of_ble_eq_true rfl, Nat.le_of_ble_eq_true rfl⟩ dX9_describeTank_36) hW (fun u36 H locs hp36 hW => ?_)
    have hmhp36 : u36 = LK μ (wrn (μ 0 27, 0) (lvN v q)) := by rw [hp36, LK_r, LK_LK]
    subst hmhp36
    refine lv_aload_n hxe hcd dX9_describeTank_39 rfl (lv_at hl 0 rfl) ?_
    refine gf_X9_57 S hW dX9_describeTank_40 ?_
    refine lv_bipush (v := (nI 47)) hxe hcd dX9_describeTank_43 (by decide) ?_
    refine r_callv (F := (cE Z A g)) (r_runV hZ S hW (As := [.int (nI 47)]) (rest := []) (t_X3_putSign l hZ A g (LK μ (wrn (μ 0 27, 0) (lvN v q))) H.size (lN := (wrn (μ 0 27, 0) (lvN v q)).2) (LK_n _ _) (by first | omega | (simp only [wr1, wrn]; omega)) (nI 47)) k_X9_305 (r_recv hW (x := (0, 26)) (in_r (by decide) (by decide)) rfl rfl) (hl.1) rfl rfl (Nat.le_of_ble_eq_true rfl) ⟨Nat.le_of_ble_eq_true rfl, Nat.le_of_ble_eq_true rfl⟩ ⟨Nat.le_of_ble_eq_true rfl, Nat.le_of_ble_eq_true rfl⟩ dX9_describeTank_45) hW (fun u45 H locs hp45 hW => ?_)
    have hmhp45 : u45 = LK μ (wr1 (wrn (μ 0 27, 0) (lvN v q)) (nI 47)) := by rw [hp45]; exact LK_wr1 _ _ _
    subst hmhp45
    refine lv_aload_n hxe hcd dX9_describeTank_48 rfl (lv_at hl 0 rfl) ?_
    refine gf_X9_57 S hW dX9_describeTank_49 ?_
    refine lv_aload_n hxe hcd dX9_describeTank_52 rfl (lv_at hl 0 rfl) ?_
    refine gf_X9_10 S hW dX9_describeTank_53 ?_
    refine gf_X9_193 S hW sB_0 dX9_describeTank_56 ?_
    refine lv_iload_n hxe hcd dX9_describeTank_59 rfl (lv_at hl 1 rfl) ?_
    refine r_calli0 (r_runV hZ S hW (As := [.int (nI q)]) (rest := [.ref (A (0, 26))]) (t_X7_capacityOf l hZ A g (LK μ (wr1 (wrn (μ 0 27, 0) (lvN v q)) (nI 47))) H.size (Or.inl sB_0) (nI q)) k_X9_222 (r_recv hW (x := (0, 9)) (in_s sB_0 (by decide)) rfl rfl) (hl.1) rfl rfl (Nat.le_of_ble_eq_true rfl) ⟨Nat.le_of_ble_eq_true rfl, Nat.le_of_ble_eq_true rfl⟩ ⟨Nat.le_of_ble_eq_true rfl, Nat.le_of_ble_eq_true rfl⟩ dX9_describeTank_60) hW (fun r60 H locs hp60 hW => ?_)
    have hp60 := hp60.symm
    subst hp60
    refine r_as (y := (nI (cpN v q))) (by rw [rd_in (n := 4) (k := q) _ (by omega) (by decide), LK_o (by decide)]; exact (RP_acp hR hVG q hqq).1) ?_
    refine r_callv (F := (cE Z A g)) (r_runV hZ S hW (As := [.int (nI (cpN v q))]) (rest := []) (t_X3_putNumber l hZ A g (LK μ (wr1 (wrn (μ 0 27, 0) (lvN v q)) (nI 47))) H.size (n := (cpN v q)) (lN := (wr1 (wrn (μ 0 27, 0) (lvN v q)) (nI 47)).2) (by omega) (LK_n _ _) (by first | omega | (simp only [wr1, wrn]; omega))) k_X9_308 (r_recv hW (x := (0, 26)) (in_r (by decide) (by decide)) rfl rfl) (hl.1) rfl rfl (Nat.le_of_ble_eq_true rfl) ⟨Nat.le_of_ble_eq_true rfl, Nat.le_of_ble_eq_true rfl⟩ ⟨Nat.le_of_ble_eq_true rfl, Nat.le_of_ble_eq_true rfl⟩ dX9_describeTank_63) hW (fun u63 H locs hp63 hW => ?_)
    have hmhp63 : u63 = LK μ (wrn (wr1 (wrn (μ 0 27, 0) (lvN v q)) (nI 47)) (cpN v q)) := by rw [hp63, LK_r, LK_LK]
    subst hmhp63
    refine lv_aload_n hxe hcd dX9_describeTank_66 rfl (lv_at hl 0 rfl) ?_
    refine gf_X9_10 S hW dX9_describeTank_67 ?_
    refine gf_X9_193 S hW sB_0 dX9_describeTank_70 ?_
    refine lv_iload_n hxe hcd dX9_describeTank_73 rfl (lv_at hl 1 rfl) ?_
    refine r_calli0 (r_runV hZ S hW (As := [.int (nI q)]) (rest := []) (t_X7_tuningOf l hZ A g (LK μ (wrn (wr1 (wrn (μ 0 27, 0) (lvN v q)) (nI 47)) (cpN v q))) H.size (Or.inl sB_0) (nI q)) k_X9_225 (r_recv hW (x := (0, 9)) (in_s sB_0 (by decide)) rfl rfl) (hl.1) rfl rfl (Nat.le_of_ble_eq_true rfl) ⟨Nat.le_of_ble_eq_true rfl, Nat.le_of_ble_eq_true rfl⟩ ⟨Nat.le_of_ble_eq_true rfl, Nat.le_of_ble_eq_true rfl⟩ dX9_describeTank_74) hW (fun r74 H locs hp74 hW => ?_)
    have hp74 := hp74.symm
    subst hp74
    refine r_as (y := (nI (tuN v q))) (by rw [rd_in (n := 4) (k := q) _ (by omega) (by decide), LK_o (by decide)]; exact (RP_atu hR hVG hqq).1) ?_
    refine lv_sipush (v := (nI 9999)) hxe hcd dX9_describeTank_77 (by decide) ?_
    refine n_eq S (a := (tuN v q)) (b := 9999) (by omega) (by omega) dX9_describeTank_80 (tgt := 110) (by decide) (fun c80 => ?_) (fun c80 => ?_)
    · refine lv_iconst (v := (nI 0)) hxe hcd dX9_describeTank_110 (by decide) ?_
      refine lv_istore_n (lv' := [(2, .int (nI 0)), (0, .ref (A (0, 14))), (1, .int (nI q))]) hxe hcd dX9_describeTank_111 rfl hl (by decide) rfl (fun ls hl => ?_)
      have loop112 : ∀ (n_ : Nat) (k : Nat), lvN v q - k < n_ → (k ≤ lvN v q) → ∀ (H : Heap) (locs : List Loc) (ls : Array Slot), wX Z (ids g) A (cE Z A g (LK μ (dcT (frN v q) (dcH (lvN v q) (cpN v q) (tuN v q) (μ 0 27, 0)) k))) (fA (ids g) A (cE Z A g μ) s.heap.size) s H locs → lv_has ls 3 [(0, .ref (A (0, 14))), (1, .int (nI q)), (2, .int (nI k))] → W p l e (rmD 7 15 1376) s m ([.ref (A (0, 14)), .int (nI q)] : List Value).toArray below meth c H locs 0 0 (vx_MQ below (va_Qi (fun r u => ∃ q_z, q_z < ntV v ∧ (nI q) = nI q_z ∧ r = nI (dcT (frN v q_z) (dcH (lvN v q_z) (cpN v q_z) (tuN v q_z) (μ 0 27, 0)) (lvN v q_z)).2 ∧ u = (g, A, LK μ (dcT (frN v q_z) (dcH (lvN v q_z) (cpN v q_z) (tuN v q_z) (μ 0 27, 0)) (lvN v q_z)))) (fun (u : GM) t => qG Z (fA (ids g) A (cE Z A g μ) s.heap.size) u t) (fA (ids g) A (cE Z A g μ) s.heap.size)) (XCx (fun n u => SM g A μ u ∧ ((n = 1 ∧ ¬ IX (nI q) (ntV v)))) Z (fA (ids g) A (cE Z A g μ) s.heap.size)) ([.ref (A (0, 14)), .int (nI q)] : List Value).toArray s 15 1376 (fA (ids g) A (cE Z A g μ) s.heap.size)) (F0 m 112 ls []) := by
        intro n_
        induction n_ with
        | zero => intro k hm; exact absurd hm (Nat.not_lt_zero _)
        | succ n_ ih112 =>
          intro k hm hk H locs ls hW hl
          have hh : (dcH (lvN v q) (cpN v q) (tuN v q) (μ 0 27, 0)).2 ≤ 0 + 8 := dcH_le (by omega) (by omega) (by omega)
          have hle := dcT_le (fr := frN v q) (w := dcH (lvN v q) (cpN v q) (tuN v q) (μ 0 27, 0)) k
          refine lv_iload_n hxe hcd dX9_describeTank_112 rfl (lv_at hl 2 rfl) ?_
          refine lv_aload_n hxe hcd dX9_describeTank_113 rfl (lv_at hl 0 rfl) ?_
          refine gf_X9_10 S hW dX9_describeTank_114 ?_
          refine gf_X9_193 S hW sB_0 dX9_describeTank_117 ?_
          refine lv_iload_n hxe hcd dX9_describeTank_120 rfl (lv_at hl 1 rfl) ?_
          refine r_calli0 (r_runV hZ S hW (As := [.int (nI q)]) (rest := [.int (nI k)]) (t_X7_levelOf l hZ A g (LK μ (dcT (frN v q) (dcH (lvN v q) (cpN v q) (tuN v q) (μ 0 27, 0)) k)) H.size (Or.inl sB_0) (nI q)) k_X9_228 (r_recv hW (x := (0, 9)) (in_s sB_0 (by decide)) rfl rfl) (hl.1) rfl rfl (Nat.le_of_ble_eq_true rfl) ⟨Nat.le_of_ble_eq_true rfl, Nat.le_of_ble_eq_true rfl⟩ ⟨Nat.le_of_ble_eq_true rfl, Nat.le_of_ble_eq_true rfl⟩ dX9_describeTank_121) hW (fun r121 H locs hp121 hW => ?_)
          have hp121 := hp121.symm
          subst hp121
          refine r_as (y := (nI (lvN v q))) (by rw [rd_in (n := 4) (k := q) _ (by omega) (by decide), LK_o (by decide)]; exact (RP_alv hR hVG q hqq).1) ?_
          refine n_ge S (a := k) (b := (lvN v q)) (by omega) (by omega) dX9_describeTank_124 (tgt := 161) (by decide) (fun c124 => ?_) (fun c124 => ?_)
          · refine lv_aload_n hxe hcd dX9_describeTank_161 rfl (lv_at hl 0 rfl) ?_
            refine gf_X9_57 S hW dX9_describeTank_162 ?_
            refine gf_X9_311 S hW dX9_describeTank_165 ?_
            refine r_as (y := (nI ((dcT (frN v q) (dcH (lvN v q) (cpN v q) (tuN v q) (μ 0 27, 0)) k).2))) (LK_n _ _) ?_
            refine x_iret S hr hlk (Nat.le_of_ble_eq_true rfl) (Nat.le_of_ble_eq_true rfl) (g, A, LK μ (dcT (frN v q) (dcH (lvN v q) (cpN v q) (tuN v q) (μ 0 27, 0)) k)) hW ?_ dX9_describeTank_168
            rw [show k = lvN v q by omega]
            exact ⟨q, hqq, rfl, rfl, rfl⟩
          · have hfk := (RP_afr hR hVG hqq (show k < lvN v q by omega)).2
            have hd6 := nd_6 (frN v q k)
            refine lv_aload_n hxe hcd dX9_describeTank_127 rfl (lv_at hl 0 rfl) ?_
            refine gf_X9_57 S hW dX9_describeTank_128 ?_
            refine lv_bipush (v := (nI 32)) hxe hcd dX9_describeTank_131 (by decide) ?_
            refine r_callv (F := (cE Z A g)) (r_runV hZ S hW (As := [.int (nI 32)]) (rest := []) (t_X3_putSign l hZ A g (LK μ (dcT (frN v q) (dcH (lvN v q) (cpN v q) (tuN v q) (μ 0 27, 0)) k)) H.size (lN := (dcT (frN v q) (dcH (lvN v q) (cpN v q) (tuN v q) (μ 0 27, 0)) k).2) (LK_n _ _) (by first | omega | (simp only [wr1, wrn]; omega)) (nI 32)) k_X9_305 (r_recv hW (x := (0, 26)) (in_r (by decide) (by decide)) rfl rfl) (hl.1) rfl rfl (Nat.le_of_ble_eq_true rfl) ⟨Nat.le_of_ble_eq_true rfl, Nat.le_of_ble_eq_true rfl⟩ ⟨Nat.le_of_ble_eq_true rfl, Nat.le_of_ble_eq_true rfl⟩ dX9_describeTank_133) hW (fun u133 H locs hp133 hW => ?_)
            have hmhp133 : u133 = LK μ (wr1 (dcT (frN v q) (dcH (lvN v q) (cpN v q) (tuN v q) (μ 0 27, 0)) k) (nI 32)) := by rw [hp133]; exact LK_wr1 _ _ _
            subst hmhp133
            refine lv_aload_n hxe hcd dX9_describeTank_136 rfl (lv_at hl 0 rfl) ?_
            refine gf_X9_57 S hW dX9_describeTank_137 ?_
            refine lv_aload_n hxe hcd dX9_describeTank_140 rfl (lv_at hl 0 rfl) ?_
            refine gf_X9_10 S hW dX9_describeTank_141 ?_
            refine gf_X9_193 S hW sB_0 dX9_describeTank_144 ?_
            refine lv_iload_n hxe hcd dX9_describeTank_147 rfl (lv_at hl 1 rfl) ?_
            refine lv_iload_n hxe hcd dX9_describeTank_148 rfl (lv_at hl 2 rfl) ?_
            refine r_calli0 (r_runV hZ S hW (As := [.int (nI q), .int (nI k)]) (rest := [.ref (A (0, 26))]) (t_X7_frameAt l hZ A g (LK μ (wr1 (dcT (frN v q) (dcH (lvN v q) (cpN v q) (tuN v q) (μ 0 27, 0)) k) (nI 32))) H.size (Or.inl sB_0) (q := q) (i := k) (by omega) (by omega)) k_X9_234 (r_recv hW (x := (0, 9)) (in_s sB_0 (by decide)) rfl rfl) (hl.1) rfl rfl (Nat.le_of_ble_eq_true rfl) ⟨Nat.le_of_ble_eq_true rfl, Nat.le_of_ble_eq_true rfl⟩ ⟨Nat.le_of_ble_eq_true rfl, Nat.le_of_ble_eq_true rfl⟩ dX9_describeTank_149) hW (fun r149 H locs hp149 hW => ?_)
            have hp149 := hp149.symm
            subst hp149
            refine r_as (y := (nI (frN v q k))) (by rw [LK_o (by decide)]; exact (RP_afr hR hVG hqq (by omega)).1) ?_
            refine r_callv (F := (cE Z A g)) (r_runV hZ S hW (As := [.int (nI (frN v q k))]) (rest := []) (t_X3_putNumber l hZ A g (LK μ (wr1 (dcT (frN v q) (dcH (lvN v q) (cpN v q) (tuN v q) (μ 0 27, 0)) k) (nI 32))) H.size (n := (frN v q k)) (lN := (wr1 (dcT (frN v q) (dcH (lvN v q) (cpN v q) (tuN v q) (μ 0 27, 0)) k) (nI 32)).2) (by omega) (LK_n _ _) (by first | omega | (simp only [wr1, wrn]; omega))) k_X9_308 (r_recv hW (x := (0, 26)) (in_r (by decide) (by decide)) rfl rfl) (hl.1) rfl rfl (Nat.le_of_ble_eq_true rfl) ⟨Nat.le_of_ble_eq_true rfl, Nat.le_of_ble_eq_true rfl⟩ ⟨Nat.le_of_ble_eq_true rfl, Nat.le_of_ble_eq_true rfl⟩ dX9_describeTank_152) hW (fun u152 H locs hp152 hW => ?_)
            have hmhp152 : u152 = LK μ (wrn (wr1 (dcT (frN v q) (dcH (lvN v q) (cpN v q) (tuN v q) (μ 0 27, 0)) k) (nI 32)) (frN v q k)) := by rw [hp152, LK_r, LK_LK]
            subst hmhp152
            refine lv_iinc (v := (nI (k + 1))) (lv' := [(2, .int (nI (k + 1))), (0, .ref (A (0, 14))), (1, .int (nI q))]) hxe hcd dX9_describeTank_155 hl (k := 2) rfl (nI_add k 1) (by decide) rfl (fun ls hl => ?_)
            refine lv_goto (tgt := 112) hxe hcd dX9_describeTank_158 (by decide) ?_
            exact ih112 (k + 1) (by omega) (by omega) _ _ _ (by rw [dcT]; exact hW) (lv_sub hl [1, 2, 0] rfl)
      exact loop112 ((lvN v q) + 1) 0 (Nat.lt_succ_self _) (Nat.zero_le _) _ _ _ (by rw [dcT, dcH, if_pos c80]; exact hW) (lv_sub hl [1, 2, 0] rfl)
    · refine lv_aload_n hxe hcd dX9_describeTank_83 rfl (lv_at hl 0 rfl) ?_
      refine gf_X9_57 S hW dX9_describeTank_84 ?_
      refine lv_bipush (v := (nI 64)) hxe hcd dX9_describeTank_87 (by decide) ?_
      refine r_callv (F := (cE Z A g)) (r_runV hZ S hW (As := [.int (nI 64)]) (rest := []) (t_X3_putSign l hZ A g (LK μ (wrn (wr1 (wrn (μ 0 27, 0) (lvN v q)) (nI 47)) (cpN v q))) H.size (lN := (wrn (wr1 (wrn (μ 0 27, 0) (lvN v q)) (nI 47)) (cpN v q)).2) (LK_n _ _) (by first | omega | (simp only [wr1, wrn]; omega)) (nI 64)) k_X9_305 (r_recv hW (x := (0, 26)) (in_r (by decide) (by decide)) rfl rfl) (hl.1) rfl rfl (Nat.le_of_ble_eq_true rfl) ⟨Nat.le_of_ble_eq_true rfl, Nat.le_of_ble_eq_true rfl⟩ ⟨Nat.le_of_ble_eq_true rfl, Nat.le_of_ble_eq_true rfl⟩ dX9_describeTank_89) hW (fun u89 H locs hp89 hW => ?_)
      have hmhp89 : u89 = LK μ (wr1 (wrn (wr1 (wrn (μ 0 27, 0) (lvN v q)) (nI 47)) (cpN v q)) (nI 64)) := by rw [hp89]; exact LK_wr1 _ _ _
      subst hmhp89
      refine lv_aload_n hxe hcd dX9_describeTank_92 rfl (lv_at hl 0 rfl) ?_
      refine gf_X9_57 S hW dX9_describeTank_93 ?_
      refine lv_aload_n hxe hcd dX9_describeTank_96 rfl (lv_at hl 0 rfl) ?_
      refine gf_X9_10 S hW dX9_describeTank_97 ?_
      refine gf_X9_193 S hW sB_0 dX9_describeTank_100 ?_
      refine lv_iload_n hxe hcd dX9_describeTank_103 rfl (lv_at hl 1 rfl) ?_
      refine r_calli0 (r_runV hZ S hW (As := [.int (nI q)]) (rest := [.ref (A (0, 26))]) (t_X7_tuningOf l hZ A g (LK μ (wr1 (wrn (wr1 (wrn (μ 0 27, 0) (lvN v q)) (nI 47)) (cpN v q)) (nI 64))) H.size (Or.inl sB_0) (nI q)) k_X9_225 (r_recv hW (x := (0, 9)) (in_s sB_0 (by decide)) rfl rfl) (hl.1) rfl rfl (Nat.le_of_ble_eq_true rfl) ⟨Nat.le_of_ble_eq_true rfl, Nat.le_of_ble_eq_true rfl⟩ ⟨Nat.le_of_ble_eq_true rfl, Nat.le_of_ble_eq_true rfl⟩ dX9_describeTank_104) hW (fun r104 H locs hp104 hW => ?_)
      have hp104 := hp104.symm
      subst hp104
      refine r_as (y := (nI (tuN v q))) (by rw [rd_in (n := 4) (k := q) _ (by omega) (by decide), LK_o (by decide)]; exact (RP_atu hR hVG hqq).1) ?_
      refine r_callv (F := (cE Z A g)) (r_runV hZ S hW (As := [.int (nI (tuN v q))]) (rest := []) (t_X3_putNumber l hZ A g (LK μ (wr1 (wrn (wr1 (wrn (μ 0 27, 0) (lvN v q)) (nI 47)) (cpN v q)) (nI 64))) H.size (n := (tuN v q)) (lN := (wr1 (wrn (wr1 (wrn (μ 0 27, 0) (lvN v q)) (nI 47)) (cpN v q)) (nI 64)).2) (by omega) (LK_n _ _) (by first | omega | (simp only [wr1, wrn]; omega))) k_X9_308 (r_recv hW (x := (0, 26)) (in_r (by decide) (by decide)) rfl rfl) (hl.1) rfl rfl (Nat.le_of_ble_eq_true rfl) ⟨Nat.le_of_ble_eq_true rfl, Nat.le_of_ble_eq_true rfl⟩ ⟨Nat.le_of_ble_eq_true rfl, Nat.le_of_ble_eq_true rfl⟩ dX9_describeTank_107) hW (fun u107 H locs hp107 hW => ?_)
      have hmhp107 : u107 = LK μ (wrn (wr1 (wrn (wr1 (wrn (μ 0 27, 0) (lvN v q)) (nI 47)) (cpN v q)) (nI 64)) (tuN v q)) := by rw [hp107, LK_r, LK_LK]
      subst hmhp107
      refine lv_iconst (v := (nI 0)) hxe hcd dX9_describeTank_110 (by decide) ?_
      refine lv_istore_n (lv' := [(2, .int (nI 0)), (0, .ref (A (0, 14))), (1, .int (nI q))]) hxe hcd dX9_describeTank_111 rfl hl (by decide) rfl (fun ls hl => ?_)
      have loop112 : ∀ (n_ : Nat) (k : Nat), lvN v q - k < n_ → (k ≤ lvN v q) → ∀ (H : Heap) (locs : List Loc) (ls : Array Slot), wX Z (ids g) A (cE Z A g (LK μ (dcT (frN v q) (dcH (lvN v q) (cpN v q) (tuN v q) (μ 0 27, 0)) k))) (fA (ids g) A (cE Z A g μ) s.heap.size) s H locs → lv_has ls 3 [(0, .ref (A (0, 14))), (1, .int (nI q)), (2, .int (nI k))] → W p l e (rmD 7 15 1376) s m ([.ref (A (0, 14)), .int (nI q)] : List Value).toArray below meth c H locs 0 0 (vx_MQ below (va_Qi (fun r u => ∃ q_z, q_z < ntV v ∧ (nI q) = nI q_z ∧ r = nI (dcT (frN v q_z) (dcH (lvN v q_z) (cpN v q_z) (tuN v q_z) (μ 0 27, 0)) (lvN v q_z)).2 ∧ u = (g, A, LK μ (dcT (frN v q_z) (dcH (lvN v q_z) (cpN v q_z) (tuN v q_z) (μ 0 27, 0)) (lvN v q_z)))) (fun (u : GM) t => qG Z (fA (ids g) A (cE Z A g μ) s.heap.size) u t) (fA (ids g) A (cE Z A g μ) s.heap.size)) (XCx (fun n u => SM g A μ u ∧ ((n = 1 ∧ ¬ IX (nI q) (ntV v)))) Z (fA (ids g) A (cE Z A g μ) s.heap.size)) ([.ref (A (0, 14)), .int (nI q)] : List Value).toArray s 15 1376 (fA (ids g) A (cE Z A g μ) s.heap.size)) (F0 m 112 ls []) := by
        intro n_
        induction n_ with
        | zero => intro k hm; exact absurd hm (Nat.not_lt_zero _)
        | succ n_ ih112 =>
          intro k hm hk H locs ls hW hl
          have hh : (dcH (lvN v q) (cpN v q) (tuN v q) (μ 0 27, 0)).2 ≤ 0 + 8 := dcH_le (by omega) (by omega) (by omega)
          have hle := dcT_le (fr := frN v q) (w := dcH (lvN v q) (cpN v q) (tuN v q) (μ 0 27, 0)) k
          refine lv_iload_n hxe hcd dX9_describeTank_112 rfl (lv_at hl 2 rfl) ?_
          refine lv_aload_n hxe hcd dX9_describeTank_113 rfl (lv_at hl 0 rfl) ?_
          refine gf_X9_10 S hW dX9_describeTank_114 ?_
          refine gf_X9_193 S hW sB_0 dX9_describeTank_117 ?_
          refine lv_iload_n hxe hcd dX9_describeTank_120 rfl (lv_at hl 1 rfl) ?_
          refine r_calli0 (r_runV hZ S hW (As := [.int (nI q)]) (rest := [.int (nI k)]) (t_X7_levelOf l hZ A g (LK μ (dcT (frN v q) (dcH (lvN v q) (cpN v q) (tuN v q) (μ 0 27, 0)) k)) H.size (Or.inl sB_0) (nI q)) k_X9_228 (r_recv hW (x := (0, 9)) (in_s sB_0 (by decide)) rfl rfl) (hl.1) rfl rfl (Nat.le_of_ble_eq_true rfl) ⟨Nat.le_of_ble_eq_true rfl, Nat.le_of_ble_eq_true rfl⟩ ⟨Nat.le_of_ble_eq_true rfl, Nat.le_of_ble_eq_true rfl⟩ dX9_describeTank_121) hW (fun r121 H locs hp121 hW => ?_)
          have hp121 := hp121.symm
          subst hp121
          refine r_as (y := (nI (lvN v q))) (by rw [rd_in (n := 4) (k := q) _ (by omega) (by decide), LK_o (by decide)]; exact (RP_alv hR hVG q hqq).1) ?_
          refine n_ge S (a := k) (b := (lvN v q)) (by omega) (by omega) dX9_describeTank_124 (tgt := 161) (by decide) (fun c124 => ?_) (fun c124 => ?_)
          · refine lv_aload_n hxe hcd dX9_describeTank_161 rfl (lv_at hl 0 rfl) ?_
            refine gf_X9_57 S hW dX9_describeTank_162 ?_
            refine gf_X9_311 S hW dX9_describeTank_165 ?_
            refine r_as (y := (nI ((dcT (frN v q) (dcH (lvN v q) (cpN v q) (tuN v q) (μ 0 27, 0)) k).2))) (LK_n _ _) ?_
            refine x_iret S hr hlk (Nat.le_of_ble_eq_true rfl) (Nat.le_of_ble_eq_true rfl) (g, A, LK μ (dcT (frN v q) (dcH (lvN v q) (cpN v q) (tuN v q) (μ 0 27, 0)) k)) hW ?_ dX9_describeTank_168
            rw [show k = lvN v q by omega]
            exact ⟨q, hqq, rfl, rfl, rfl⟩
          · have hfk := (RP_afr hR hVG hqq (show k < lvN v q by omega)).2
            have hd6 := nd_6 (frN v q k)
            refine lv_aload_n hxe hcd dX9_describeTank_127 rfl (lv_at hl 0 rfl) ?_
            refine gf_X9_57 S hW dX9_describeTank_128 ?_
            refine lv_bipush (v := (nI 32)) hxe hcd dX9_describeTank_131 (by decide) ?_
            refine r_callv (F := (cE Z A g)) (r_runV hZ S hW (As := [.int (nI 32)]) (rest := []) (t_X3_putSign l hZ A g (LK μ (dcT (frN v q) (dcH (lvN v q) (cpN v q) (tuN v q) (μ 0 27, 0)) k)) H.size (lN := (dcT (frN v q) (dcH (lvN v q) (cpN v q) (tuN v q) (μ 0 27, 0)) k).2) (LK_n _ _) (by first | omega | (simp only [wr1, wrn]; omega)) (nI 32)) k_X9_305 (r_recv hW (x := (0, 26)) (in_r (by decide) (by decide)) rfl rfl) (hl.1) rfl rfl (Nat.le_of_ble_eq_true rfl) ⟨Nat.le_of_ble_eq_true rfl, Nat.le_of_ble_eq_true rfl⟩ ⟨Nat.le_of_ble_eq_true rfl, Nat.le_of_ble_eq_true rfl⟩ dX9_describeTank_133) hW (fun u133 H locs hp133 hW => ?_)
            have hmhp133 : u133 = LK μ (wr1 (dcT (frN v q) (dcH (lvN v q) (cpN v q) (tuN v q) (μ 0 27, 0)) k) (nI 32)) := by rw [hp133]; exact LK_wr1 _ _ _
            subst hmhp133
            refine lv_aload_n hxe hcd dX9_describeTank_136 rfl (lv_at hl 0 rfl) ?_
            refine gf_X9_57 S hW dX9_describeTank_137 ?_
            refine lv_aload_n hxe hcd dX9_describeTank_140 rfl (lv_at hl 0 rfl) ?_
            refine gf_X9_10 S hW dX9_describeTank_141 ?_
            refine gf_X9_193 S hW sB_0 dX9_describeTank_144 ?_
            refine lv_iload_n hxe hcd dX9_describeTank_147 rfl (lv_at hl 1 rfl) ?_
            refine lv_iload_n hxe hcd dX9_describeTank_148 rfl (lv_at hl 2 rfl) ?_
            refine r_calli0 (r_runV hZ S hW (As := [.int (nI q), .int (nI k)]) (rest := [.ref (A (0, 26))]) (t_X7_frameAt l hZ A g (LK μ (wr1 (dcT (frN v q) (dcH (lvN v q) (cpN v q) (tuN v q) (μ 0 27, 0)) k) (nI 32))) H.size (Or.inl sB_0) (q := q) (i := k) (by omega) (by omega)) k_X9_234 (r_recv hW (x := (0, 9)) (in_s sB_0 (by decide)) rfl rfl) (hl.1) rfl rfl (Nat.le_of_ble_eq_true rfl) ⟨Nat.le_of_ble_eq_true rfl, Nat.le_of_ble_eq_true rfl⟩ ⟨Nat.le_of_ble_eq_true rfl, Nat.le_of_ble_eq_true rfl⟩ dX9_describeTank_149) hW (fun r149 H locs hp149 hW => ?_)
            have hp149 := hp149.symm
            subst hp149
            refine r_as (y := (nI (frN v q k))) (by rw [LK_o (by decide)]; exact (RP_afr hR hVG hqq (by omega)).1) ?_
            refine r_callv (F := (cE Z A g)) (r_runV hZ S hW (As := [.int (nI (frN v q k))]) (rest := []) (t_X3_putNumber l hZ A g (LK μ (wr1 (dcT (frN v q) (dcH (lvN v q) (cpN v q) (tuN v q) (μ 0 27, 0)) k) (nI 32))) H.size (n := (frN v q k)) (lN := (wr1 (dcT (frN v q) (dcH (lvN v q) (cpN v q) (tuN v q) (μ 0 27, 0)) k) (nI 32)).2) (by omega) (LK_n _ _) (by first | omega | (simp only [wr1, wrn]; omega))) k_X9_308 (r_recv hW (x := (0, 26)) (in_r (by decide) (by decide)) rfl rfl) (hl.1) rfl rfl (Nat.le_of_ble_eq_true rfl) ⟨Nat.le_of_ble_eq_true rfl, Nat.le_of_ble_eq_true rfl⟩ ⟨Nat.le_of_ble_eq_true rfl, Nat.le_of_ble_eq_true rfl⟩ dX9_describeTank_152) hW (fun u152 H locs hp152 hW => ?_)
            have hmhp152 : u152 = LK μ (wrn (wr1 (dcT (frN v q) (dcH (lvN v q) (cpN v q) (tuN v q) (μ 0 27, 0)) k) (nI 32)) (frN v q k)) := by rw [hp152, LK_r, LK_LK]
            subst hmhp152
            refine lv_iinc (v := (nI (k + 1))) (lv' := [(2, .int (nI (k + 1))), (0, .ref (A (0, 14))), (1, .int (nI q))]) hxe hcd dX9_describeTank_155 hl (k := 2) rfl (nI_add k 1) (by decide) rfl (fun ls hl => ?_)
            refine lv_goto (tgt := 112) hxe hcd dX9_describeTank_158 (by decide) ?_
            exact ih112 (k + 1) (by omega) (by omega) _ _ _ (by rw [dcT]; exact hW) (lv_sub hl [1, 2, 0] rfl)
      exact loop112 ((lvN v q) + 1) 0 (Nat.lt_succ_self _) (Nat.zero_le _) _ _ _ (by rw [dcT, dcH, if_neg c80]; exact hW) (lv_sub hl [1, 2, 0] rfl)
  · exact x_tf hZ S hnt hl.1 hlk (g, A, μ) hW (n := 1) (t_tf1 l hl0 hZ hZX _ _ _ _) ⟨⟨rfl, rfl, (SQ_rfl _)⟩, ⟨rfl, hp8⟩⟩ (by decide) ⟨(Nat.le_of_ble_eq_true rfl), (Nat.le_of_ble_eq_true rfl)⟩ (Nat.le_of_ble_eq_true rfl) (Nat.le_of_ble_eq_true rfl) (Nat.le_of_ble_eq_true rfl) (Nat.le_of_ble_eq_true rfl) dX9_describeTank_11
