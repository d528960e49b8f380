set_option maxHeartbeats 4000000 in
set_option maxRecDepth 100000 in
theorem t_X10_commandsB (l : Launch) {Z : ZT} (hZ : zOK Z) (B : Nat → Nat) (ν : MM) (sz : Nat) {n : Nat} (hen : ν 0 19 = nI n) (hn60 : n ≤ 60) (t : Nat → Nat) (htx : ∀ j, j < n → ν 8 j = nI (t j) ∧ t j < 128) (hwd : ∀ j, j < 63 → ν 11 j = nI (WD j)) (hwa : ∀ j, j < 13 → ν 12 j = nI (WA j)) (hVG : VG (ν 1)) (hth : ν 0 0 = nI 0) (hdg0 : ν 0 22 = nI 1) {m0 : Nat} (hT : TOK t n m0) : XMi l yX10_commands cX10_commands 2 (some .int) 7 [.ref (B 0)] Z mds B (mE Z B) ν sz (fun r u => (∃ (q : Nat) (f o2 g2 : Nat → Int32), (∀ j, j ≤ m0 → exO (vSq t n (ν 1) j) (coF t n j) ≠ none) ∧ r = nI (m0 + 1) ∧ u = mE6 (PL ν q 0 f) o2 g2 (vSq t n (ν 1) (m0 + 1))) ∨ (∃ (j q : Nat) (f o2 g2 : Nat → Int32) (k : Nat), j ≤ m0 ∧ (∀ i, i < j → exO (vSq t n (ν 1) i) (coF t n i) ≠ none) ∧ exO (vSq t n (ν 1) j) (coF t n j) = none ∧ 1 ≤ k ∧ k ≤ 3 ∧ r = nI (j + 1) ∧ u = up1 (mE6 (PL ν q 0 f) o2 g2 (vSq t n (ν 1) j)) 0 (upd (mE6 (PL ν q 0 f) o2 g2 (vSq t n (ν 1) j) 0) 0 (nI k)))) := by
  refine r_met (E := (mE Z B ν)) (by decide +kernel) (Nat.le_of_ble_eq_true rfl) ?_
  intro p e s m below meth c ls S hr hlk hnm hsz hW hl
  have hxe := S.1
  have hcd := S.2.1
  subst hsz
  have hl : lv_has ls 2 [(0, .ref (B 0))] := hl
  refine lv_aload_n hxe hcd dX10_commands_0 rfl (lv_at hl 0 rfl) ?_
  refine lv_iconst (v := (nI 0)) hxe hcd dX10_commands_1 (by decide) ?_
  refine gp_X10_180 S hW dX10_commands_2 (fun H locs hW => ?_)
  refine lv_aload_n hxe hcd dX10_commands_5 rfl (lv_at hl 0 rfl) ?_
  refine lv_iconst (v := (nI 0)) hxe hcd dX10_commands_6 (by decide) ?_
  refine gp_X10_186 S hW (by decide +kernel) (by decide +kernel) dX10_commands_7 (fun H locs hW => ?_)
  rw [up1_s, up1_2] at hW
  refine lv_iconst (v := (nI 1)) hxe hcd dX10_commands_10 (by decide) ?_
  refine lv_istore_n (lv' := [(1, .int (nI 1)), (0, .ref (B 0))]) hxe hcd dX10_commands_11 rfl hl (by decide) rfl (fun ls hl => ?_)
  refine lv_aload_n hxe hcd dX10_commands_12 rfl (lv_at hl 1 rfl) ?_
  refine r_callv (F := (mE Z B)) (r_runV hZ S hW (As := []) (rest := []) (t_X10_command l hZ B (PM ν 0 0) H.size (pp := 0) (PM_h _ _ _) hen hn60 t htx (by omega) (PM_x _ _ _) (by omega) hwd hwa hVG (dg := 1) hdg0 (by decide)) k_X10_213 (r_recv hW (x := 0) (List.mem_range.mpr (by decide)) rfl rfl) (hl.1) rfl rfl (Nat.le_of_ble_eq_true rfl) ⟨Nat.le_of_ble_eq_true rfl, Nat.le_of_ble_eq_true rfl⟩ ⟨Nat.le_of_ble_eq_true rfl, Nat.le_of_ble_eq_true rfl⟩ dX10_commands_13) hW (fun u13 H locs hp13 hW => ?_)
  rcases hp13 with ⟨f2, q2, hcm, hu⟩ | ⟨f2, q2, w2, b1, b2, b3, b4, hcm, hlt2, hle2, hw2, hb1, hb2, hb3, hb4, ⟨hdz, hu⟩ | ⟨hdn, ⟨o3, g3, v3, hex, hu⟩ | ⟨hex, kf, hk1, hk2, hu⟩⟩⟩
  · exact absurd (congrArg Prod.fst hcm) (TOK_c hT (Nat.zero_le _))
  · exact absurd hdz (by decide)
  · have hco2 : coF t n 0 = some (w2, b1, b2, b3, b4) := congrArg Prod.fst hcm
    have hen2 : enF t n 0 = q2 := congrArg Prod.snd hcm
    have hxo : exO (vSq t n (ν 1) 0) (coF t n 0) = some v3 := by rw [hco2]; exact hex
    have hvs : vSq t n (ν 1) (0 + 1) = v3 := vSq_s hxo
    have hu : u13 = mE6 (PL ν (enF t n 0) 0 f2) o3 g3 (vSq t n (ν 1) (0 + 1)) := by rw [hu, PL_PM, hen2, hvs]
    have hvg2 : VG (vSq t n (ν 1) (0 + 1)) := by rw [hvs]; exact VG_ex hVG hw2 hb1 hb2 hb3 hb4 hex
    rw [← hen2] at hlt2 hle2
    subst hu
    have hl : lv_has ls 2 [(1, .int (nI (0 + 1))), (0, .ref (B 0))] := hl
    have loop16 : ∀ (n_ : Nat) (jc : Nat) (f o2 g2 : Nat → Int32), n - enF t n jc < n_ → (jc ≤ m0) → (∀ i, i ≤ jc → exO (vSq t n (ν 1) i) (coF t n i) ≠ none) → (VG (vSq t n (ν 1) (jc + 1))) → (enF t n jc ≤ n) → ∀ (H : Heap) (locs : List Loc) (ls : Array Slot), wX Z mds B (mE Z B (mE6 (PL ν (enF t n jc) 0 f) o2 g2 (vSq t n (ν 1) (jc + 1)))) (fA mds B (mE Z B ν) s.heap.size) s H locs → lv_has ls 2 [(0, .ref (B 0)), (1, .int (nI (jc + 1)))] → W p l e (rmD 7 0 0) s m ([.ref (B 0)] : List Value).toArray below meth c H locs 0 0 (MQ below (va_Qi (fun r u => (∃ (q : Nat) (f o2 g2 : Nat → Int32), (∀ j, j ≤ m0 → exO (vSq t n (ν 1) j) (coF t n j) ≠ none) ∧ r = nI (m0 + 1) ∧ u = mE6 (PL ν q 0 f) o2 g2 (vSq t n (ν 1) (m0 + 1))) ∨ (∃ (j q : Nat) (f o2 g2 : Nat → Int32) (k : Nat), j ≤ m0 ∧ (∀ i, i < j → exO (vSq t n (ν 1) i) (coF t n i) ≠ none) ∧ exO (vSq t n (ν 1) j) (coF t n j) = none ∧ 1 ≤ k ∧ k ≤ 3 ∧ r = nI (j + 1) ∧ u = up1 (mE6 (PL ν q 0 f) o2 g2 (vSq t n (ν 1) j)) 0 (upd (mE6 (PL ν q 0 f) o2 g2 (vSq t n (ν 1) j) 0) 0 (nI k)))) (fun u t => qB Z mds B ((mE Z B) u) (fA mds B (mE Z B ν) s.heap.size) t) (fA mds B (mE Z B ν) s.heap.size)) ([.ref (B 0)] : List Value).toArray s 0 0 (fA mds B (mE Z B ν) s.heap.size)) (F0 m 16 ls []) := by
      intro n_
      induction n_ with
      | zero => intro jc f o2 g2 hm; exact absurd hm (Nat.not_lt_zero _)
      | succ n_ ih16 =>
        intro jc f o2 g2 hm hj hall hvg hle H locs ls hW hl
        refine lv_aload_n hxe hcd dX10_commands_16 rfl (lv_at hl 0 rfl) ?_
        refine gf_X10_186 S hW dX10_commands_17 ?_
        refine r_as (y := (nI 0)) ((E6_x _ _ _ _ _ _ _)) ?_
        refine lv_if_ne (tgt := 64) hxe hcd dX10_commands_20 (by decide) (fun h => absurd h (by decide)) (fun _ => ?_)
        refine lv_aload_n hxe hcd dX10_commands_23 rfl (lv_at hl 0 rfl) ?_
        refine gf_X10_53 S hW dX10_commands_24 ?_
        refine r_as (y := (nI 0)) (hth) ?_
        refine lv_if_ne (tgt := 64) hxe hcd dX10_commands_27 (by decide) (fun h => absurd h (by decide)) (fun _ => ?_)
        refine lv_aload_n hxe hcd dX10_commands_30 rfl (lv_at hl 0 rfl) ?_
        refine gf_X10_180 S hW dX10_commands_31 ?_
        refine r_as (y := (nI (enF t n jc))) ((E6_h _ _ _ _ _ _ _)) ?_
        refine lv_aload_n hxe hcd dX10_commands_34 rfl (lv_at hl 0 rfl) ?_
        refine gf_X10_183 S hW dX10_commands_35 ?_
        refine r_as (y := (nI n)) (hen) ?_
        refine n_ge S (a := (enF t n jc)) (b := n) (by omega) (by omega) dX10_commands_38 (tgt := 64) (by decide) (fun c38 => ?_) (fun c38 => ?_)
        · refine lv_iload_n hxe hcd dX10_commands_64 rfl (lv_at hl 1 rfl) ?_
          refine r_iret S hr hlk (F := (mE Z B)) (u := (mE6 (PL ν (enF t n jc) 0 f) o2 g2 (vSq t n (ν 1) (jc + 1)))) hW ?_ dX10_commands_65
          have ee := TOK_end hT hj (by omega)
          subst ee
          exact Or.inl ⟨_, f, o2, g2, hall, rfl, rfl⟩
        · have hjm : jc < m0 := TOK_lt hT hj (by omega)
          refine lv_aload_n hxe hcd dX10_commands_41 rfl (lv_at hl 0 rfl) ?_
          refine lv_bipush (v := (nI 59)) hxe hcd dX10_commands_42 (by decide) ?_
          refine r_callv (F := (mE Z B)) (r_runV hZ S hW (As := [.int (nI 59)]) (rest := []) (t_X10_mark l hZ B (mE6 (PL ν (enF t n jc) 0 f) o2 g2 (vSq t n (ν 1) (jc + 1))) H.size (pp := (enF t n jc)) (E6_h _ _ _ _ _ _ _) hen hn60 t htx (by omega) (E6_x _ _ _ _ _ _ _) (nI 59)) k_X10_194 (r_recv hW (x := 0) (List.mem_range.mpr (by decide)) rfl rfl) (hl.1) rfl rfl (Nat.le_of_ble_eq_true rfl) ⟨Nat.le_of_ble_eq_true rfl, Nat.le_of_ble_eq_true rfl⟩ ⟨Nat.le_of_ble_eq_true rfl, Nat.le_of_ble_eq_true rfl⟩ dX10_commands_44) hW (fun u44 H locs hp44 hW => ?_)
          rcases hp44 with ⟨hk, hu⟩ | ⟨hk, hu⟩
          · have hu : u44 = mE6 (PL ν ((enF t n jc) + 1) 0 f) o2 g2 (vSq t n (ν 1) (jc + 1)) := by rw [hu, PM_E6]
            subst hu
            refine lv_aload_n hxe hcd dX10_commands_47 rfl (lv_at hl 0 rfl) ?_
            refine gf_X10_186 S hW dX10_commands_48 ?_
            refine r_as (y := (nI 0)) ((E6_x _ _ _ _ _ _ _)) ?_
            refine lv_if_ne (tgt := 58) hxe hcd dX10_commands_51 (by decide) (fun h => absurd h (by decide)) (fun _ => ?_)
            refine lv_aload_n hxe hcd dX10_commands_54 rfl (lv_at hl 0 rfl) ?_
            refine r_callv (F := (mE Z B)) (r_runV hZ S hW (As := []) (rest := []) (t_X10_command l hZ B (mE6 (PL ν ((enF t n jc) + 1) 0 f) o2 g2 (vSq t n (ν 1) (jc + 1))) H.size (pp := ((enF t n jc) + 1)) (E6_h _ _ _ _ _ _ _) hen hn60 t htx (by omega) (E6_x _ _ _ _ _ _ _) (by omega) hwd hwa hvg (dg := 1) hdg0 (by decide)) k_X10_213 (r_recv hW (x := 0) (List.mem_range.mpr (by decide)) rfl rfl) (hl.1) rfl rfl (Nat.le_of_ble_eq_true rfl) ⟨Nat.le_of_ble_eq_true rfl, Nat.le_of_ble_eq_true rfl⟩ ⟨Nat.le_of_ble_eq_true rfl, Nat.le_of_ble_eq_true rfl⟩ dX10_commands_55) hW (fun u55 H locs hp55 hW => ?_)
            rcases hp55 with ⟨f2, q2, hcm, hu⟩ | ⟨f2, q2, w2, b1, b2, b3, b4, hcm, hlt2, hle2, hw2, hb1, hb2, hb3, hb4, ⟨hdz, hu⟩ | ⟨hdn, ⟨o3, g3, v3, hex, hu⟩ | ⟨hex, kf, hk1, hk2, hu⟩⟩⟩
            · exact absurd (congrArg Prod.fst hcm) (TOK_c hT hjm)
            · exact absurd hdz (by decide)
            · have hco2 : coF t n (jc + 1) = some (w2, b1, b2, b3, b4) := congrArg Prod.fst hcm
              have hen2 : enF t n (jc + 1) = q2 := congrArg Prod.snd hcm
              have hxo : exO (vSq t n (ν 1) (jc + 1)) (coF t n (jc + 1)) = some v3 := by rw [hco2]; exact hex
              have hvs : vSq t n (ν 1) (jc + 1 + 1) = v3 := vSq_s hxo
              have hu : u55 = mE6 (PL ν (enF t n (jc + 1)) 0 f2) o3 g3 (vSq t n (ν 1) (jc + 1 + 1)) := by rw [hu, E6_E6, hen2, hvs]
              have hvg2 : VG (vSq t n (ν 1) (jc + 1 + 1)) := by rw [hvs]; exact VG_ex hvg hw2 hb1 hb2 hb3 hb4 hex
              rw [← hen2] at hlt2 hle2
              subst hu
              refine lv_iinc (v := (nI ((jc + 1) + 1))) (lv' := [(1, .int (nI ((jc + 1) + 1))), (0, .ref (B 0))]) hxe hcd dX10_commands_58 hl (k := 1) rfl (nI_add (jc + 1) 1) (by decide) rfl (fun ls hl => ?_)
              refine lv_goto (tgt := 16) hxe hcd dX10_commands_61 (by decide) ?_
              exact ih16 (jc + 1) f2 o3 g3 (by omega) hjm (fun i hi => by rcases Nat.lt_or_ge i (jc + 1) with h | h; exact hall i (by omega); rw [show i = jc + 1 by omega, hxo]; exact Option.some_ne_none _) hvg2 hle2 _ _ _ hW (lv_sub hl [1, 0] rfl)
            · have hco2 : coF t n (jc + 1) = some (w2, b1, b2, b3, b4) := congrArg Prod.fst hcm
              have hen2 : enF t n (jc + 1) = q2 := congrArg Prod.snd hcm
              have hxo : exO (vSq t n (ν 1) (jc + 1)) (coF t n (jc + 1)) = none := by rw [hco2]; exact hex
              have hu : u55 = up1 (mE6 (PL ν q2 0 f2) o2 g2 (vSq t n (ν 1) (jc + 1))) 0 (upd ((mE6 (PL ν q2 0 f2) o2 g2 (vSq t n (ν 1) (jc + 1))) 0) 0 (nI kf)) := by rw [hu, PL_E6]
              subst hu
              refine lv_iinc (v := (nI ((jc + 1) + 1))) (lv' := [(1, .int (nI ((jc + 1) + 1))), (0, .ref (B 0))]) hxe hcd dX10_commands_58 hl (k := 1) rfl (nI_add (jc + 1) 1) (by decide) rfl (fun ls hl => ?_)
              refine lv_goto (tgt := 16) hxe hcd dX10_commands_61 (by decide) ?_
              refine lv_aload_n hxe hcd dX10_commands_16 rfl (lv_at hl 1 rfl) ?_
              refine gf_X10_186 S hW dX10_commands_17 ?_
              refine r_as (y := (nI 0)) ((FK_x _ _).trans (E6_x _ _ _ _ _ _ _)) ?_
              refine lv_if_ne (tgt := 64) hxe hcd dX10_commands_20 (by decide) (fun h => absurd h (by decide)) (fun _ => ?_)
              refine lv_aload_n hxe hcd dX10_commands_23 rfl (lv_at hl 1 rfl) ?_
              refine gf_X10_53 S hW dX10_commands_24 ?_
              refine r_as (y := (nI kf)) (FK_t _ _) ?_
              refine lv_if_ne (tgt := 64) hxe hcd dX10_commands_27 (by decide) (fun c27 => ?_) (fun c27 => absurd c27 (nI_ne0 (by omega) (by omega)))
              refine lv_iload_n hxe hcd dX10_commands_64 rfl (lv_at hl 0 rfl) ?_
              refine r_iret S hr hlk (F := (mE Z B)) (u := (up1 (mE6 (PL ν q2 0 f2) o2 g2 (vSq t n (ν 1) (jc + 1))) 0 (upd ((mE6 (PL ν q2 0 f2) o2 g2 (vSq t n (ν 1) (jc + 1))) 0) 0 (nI kf)))) hW ?_ dX10_commands_65
              exact Or.inr ⟨jc + 1, q2, f2, o2, g2, kf, hjm, fun i hi => hall i (by omega), hxo, hk1, hk2, rfl, rfl⟩
          · exact absurd (hT.1 jc hjm).2.2 hk
    exact loop16 ((n - enF t n 0) + 1) 0 f2 o3 g3 (Nat.lt_succ_self _) (Nat.zero_le _) (fun i hi => by rw [show i = 0 by omega, hxo]; exact Option.some_ne_none _) hvg2 hle2 _ _ _ hW (lv_sub hl [1, 0] rfl)
  · have hco2 : coF t n 0 = some (w2, b1, b2, b3, b4) := congrArg Prod.fst hcm
    have hen2 : enF t n 0 = q2 := congrArg Prod.snd hcm
    have hxo : exO (vSq t n (ν 1) 0) (coF t n 0) = none := by rw [hco2]; exact hex
    have hu : u13 = up1 (mE6 (PL ν q2 0 f2) (ν 6) (ν 7) (ν 1)) 0 (upd ((mE6 (PL ν q2 0 f2) (ν 6) (ν 7) (ν 1)) 0) 0 (nI kf)) := by rw [hu, FK_0]
    subst hu
    refine lv_aload_n hxe hcd dX10_commands_16 rfl (lv_at hl 1 rfl) ?_
    refine gf_X10_186 S hW dX10_commands_17 ?_
    refine r_as (y := (nI 0)) ((FK_x _ _).trans (E6_x _ _ _ _ _ _ _)) ?_
    refine lv_if_ne (tgt := 64) hxe hcd dX10_commands_20 (by decide) (fun h => absurd h (by decide)) (fun _ => ?_)
    refine lv_aload_n hxe hcd dX10_commands_23 rfl (lv_at hl 1 rfl) ?_
    refine gf_X10_53 S hW dX10_commands_24 ?_
    refine r_as (y := (nI kf)) (FK_t _ _) ?_
    refine lv_if_ne (tgt := 64) hxe hcd dX10_commands_27 (by decide) (fun c27 => ?_) (fun c27 => absurd c27 (nI_ne0 (by omega) (by omega)))
    refine lv_iload_n hxe hcd dX10_commands_64 rfl (lv_at hl 0 rfl) ?_
    refine r_iret S hr hlk (F := (mE Z B)) (u := (up1 (mE6 (PL ν q2 0 f2) (ν 6) (ν 7) (ν 1)) 0 (upd ((mE6 (PL ν q2 0 f2) (ν 6) (ν 7) (ν 1)) 0) 0 (nI kf)))) hW ?_ dX10_commands_65
    exact Or.inr ⟨0, q2, f2, ν 6, ν 7, kf, Nat.zero_le _, fun i h => absurd h (Nat.not_lt_zero _), hxo, hk1, hk2, rfl, rfl⟩
