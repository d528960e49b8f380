set_option maxHeartbeats 4000000 in
set_option maxRecDepth 100000 in
theorem t_X10_commandsA (l : Launch) {Z : ZT} (hZ : zOK Z) (B : Nat → Nat) (ν : MM) (sz : Nat) {n : Nat} (hen : ν 0 19 = nI n) (hn60 : n ≤ 60) (t : Nat → Nat) (htx : ∀ j, j < n → ν 8 j = nI (t j) ∧ t j < 128) (hwd : ∀ j, j < 63 → ν 11 j = nI (WD j)) (hwa : ∀ j, j < 13 → ν 12 j = nI (WA j)) (hVG : VG (ν 1)) (hth : ν 0 0 = nI 0) (hdg0 : ν 0 22 = nI 0) : XMi l yX10_commands cX10_commands 2 (some .int) 7 [.ref (B 0)] Z mds B (mE Z B) ν sz (fun r u => (∃ (m : Nat) (f : Nat → Int32), TOK t n m ∧ r = nI (m + 1) ∧ u = PL ν n 0 f) ∨ (∃ (m : Nat) (f : Nat → Int32), TNO t n m ∧ u = PL ν (enF t n m) 1 f)) := by
  refine r_met (E := (mE Z B ν)) (by decide +kernel) (Nat.le_of_ble_eq_true rfl) ?_
  intro p e s m below meth c ls S hr hlk hnm hsz hW hl
  have hxe := S.1
  have hcd := S.2.1
  subst hsz
  have hl : lv_has ls 2 [(0, .ref (B 0))] := hl
  refine lv_aload_n hxe hcd dX10_commands_0 rfl (lv_at hl 0 rfl) ?_
  refine lv_iconst (v := (nI 0)) hxe hcd dX10_commands_1 (by decide) ?_
  refine gp_X10_180 S hW dX10_commands_2 (fun H locs hW => ?_)
  refine lv_aload_n hxe hcd dX10_commands_5 rfl (lv_at hl 0 rfl) ?_
  refine lv_iconst (v := (nI 0)) hxe hcd dX10_commands_6 (by decide) ?_
  refine gp_X10_186 S hW (by decide +kernel) (by decide +kernel) dX10_commands_7 (fun H locs hW => ?_)
  rw [up1_s, up1_2] at hW
  refine lv_iconst (v := (nI 1)) hxe hcd dX10_commands_10 (by decide) ?_
  refine lv_istore_n (lv' := [(1, .int (nI 1)), (0, .ref (B 0))]) hxe hcd dX10_commands_11 rfl hl (by decide) rfl (fun ls hl => ?_)
  refine lv_aload_n hxe hcd dX10_commands_12 rfl (lv_at hl 1 rfl) ?_
  refine r_callv (F := (mE Z B)) (r_runV hZ S hW (As := []) (rest := []) (t_X10_command l hZ B (PM ν 0 0) H.size (pp := 0) (PM_h _ _ _) hen hn60 t htx (by omega) (PM_x _ _ _) (by omega) hwd hwa hVG (dg := 0) hdg0 (by decide)) k_X10_213 (r_recv hW (x := 0) (List.mem_range.mpr (by decide)) rfl rfl) (hl.1) rfl rfl (Nat.le_of_ble_eq_true rfl) ⟨Nat.le_of_ble_eq_true rfl, Nat.le_of_ble_eq_true rfl⟩ ⟨Nat.le_of_ble_eq_true rfl, Nat.le_of_ble_eq_true rfl⟩ dX10_commands_13) hW (fun u13 H locs hp13 hW => ?_)
  rcases hp13 with ⟨f2, q2, hcm, hu⟩ | ⟨f2, q2, w2, b1, b2, b3, b4, hcm, hlt2, hle2, _, _, _, _, _, ⟨_, hu⟩ | ⟨hdn, _⟩⟩
  · have hco2 : coF t n 0 = none := congrArg Prod.fst hcm
    have hen2 : enF t n 0 = q2 := congrArg Prod.snd hcm
    have hu : u13 = PL ν (enF t n 0) 1 f2 := by rw [hu, PL_PM, hen2]
    subst hu
    refine lv_aload_n hxe hcd dX10_commands_16 rfl (lv_at hl 1 rfl) ?_
    refine gf_X10_186 S hW dX10_commands_17 ?_
    refine r_as (y := (nI 1)) ((PL_x _ _ _ _)) ?_
    refine lv_if_ne (tgt := 64) hxe hcd dX10_commands_20 (by decide) (fun _ => ?_) (fun h => absurd h (by decide))
    refine lv_iload_n hxe hcd dX10_commands_64 rfl (lv_at hl 0 rfl) ?_
    refine r_iret S hr hlk (F := (mE Z B)) (u := (PL ν (enF t n 0) 1 f2)) hW ?_ dX10_commands_65
    exact Or.inr ⟨0, _, ⟨fun j hj => absurd hj (Nat.not_lt_zero _), Or.inl hco2⟩, rfl⟩
  · have hco2 : coF t n 0 ≠ none := by rw [show coF t n 0 = some (w2, b1, b2, b3, b4) from congrArg Prod.fst hcm]; exact Option.some_ne_none _
    have hen2 : enF t n 0 = q2 := congrArg Prod.snd hcm
    have hu : u13 = PL ν (enF t n 0) 0 f2 := by rw [hu, PL_PM, hen2]
    rw [← hen2] at hlt2 hle2
    subst hu
    have hl : lv_has ls 2 [(1, .int (nI (0 + 1))), (0, .ref (B 0))] := hl
    have loop16 : ∀ (n_ : Nat) (jc : Nat) (f : Nat → Int32), n - enF t n jc < n_ → (GP t n jc) → (coF t n jc ≠ none) → (enF t n jc ≤ n) → ∀ (H : Heap) (locs : List Loc) (ls : Array Slot), wX Z mds B (mE Z B (PL ν (enF t n jc) 0 f)) (fA mds B (mE Z B ν) s.heap.size) s H locs → lv_has ls 2 [(0, .ref (B 0)), (1, .int (nI (jc + 1)))] → W p l e (rmD 7 0 0) s m ([.ref (B 0)] : List Value).toArray below meth c H locs 0 0 (MQ below (va_Qi (fun r u => (∃ (m : Nat) (f : Nat → Int32), TOK t n m ∧ r = nI (m + 1) ∧ u = PL ν n 0 f) ∨ (∃ (m : Nat) (f : Nat → Int32), TNO t n m ∧ u = PL ν (enF t n m) 1 f)) (fun u t => qB Z mds B ((mE Z B) u) (fA mds B (mE Z B ν) s.heap.size) t) (fA mds B (mE Z B ν) s.heap.size)) ([.ref (B 0)] : List Value).toArray s 0 0 (fA mds B (mE Z B ν) s.heap.size)) (F0 m 16 ls []) := by
      intro n_
      induction n_ with
      | zero => intro jc f hm; exact absurd hm (Nat.not_lt_zero _)
      | succ n_ ih16 =>
        intro jc f hm hgp hco hle H locs ls hW hl
        refine lv_aload_n hxe hcd dX10_commands_16 rfl (lv_at hl 0 rfl) ?_
        refine gf_X10_186 S hW dX10_commands_17 ?_
        refine r_as (y := (nI 0)) ((PL_x _ _ _ _)) ?_
        refine lv_if_ne (tgt := 64) hxe hcd dX10_commands_20 (by decide) (fun h => absurd h (by decide)) (fun _ => ?_)
        refine lv_aload_n hxe hcd dX10_commands_23 rfl (lv_at hl 0 rfl) ?_
        refine gf_X10_53 S hW dX10_commands_24 ?_
        refine r_as (y := (nI 0)) (hth) ?_
        refine lv_if_ne (tgt := 64) hxe hcd dX10_commands_27 (by decide) (fun h => absurd h (by decide)) (fun _ => ?_)
        refine lv_aload_n hxe hcd dX10_commands_30 rfl (lv_at hl 0 rfl) ?_
        refine gf_X10_180 S hW dX10_commands_31 ?_
        refine r_as (y := (nI (enF t n jc))) ((PL_h _ _ _ _)) ?_
        refine lv_aload_n hxe hcd dX10_commands_34 rfl (lv_at hl 0 rfl) ?_
        refine gf_X10_183 S hW dX10_commands_35 ?_
        refine r_as (y := (nI n)) (hen) ?_
        refine n_ge S (a := (enF t n jc)) (b := n) (by omega) (by omega) dX10_commands_38 (tgt := 64) (by decide) (fun c38 => ?_) (fun c38 => ?_)
        · refine lv_iload_n hxe hcd dX10_commands_64 rfl (lv_at hl 1 rfl) ?_
          refine r_iret S hr hlk (F := (mE Z B)) (u := (PL ν (enF t n jc) 0 f)) hW ?_ dX10_commands_65
          have e : enF t n jc = n := by omega
          refine Or.inl ⟨jc, f, ⟨hgp, hco, e⟩, rfl, ?_⟩
          rw [e]
        · refine lv_aload_n hxe hcd dX10_commands_41 rfl (lv_at hl 0 rfl) ?_
          refine lv_bipush (v := (nI 59)) hxe hcd dX10_commands_42 (by decide) ?_
          refine r_callv (F := (mE Z B)) (r_runV hZ S hW (As := [.int (nI 59)]) (rest := []) (t_X10_mark l hZ B (PL ν (enF t n jc) 0 f) H.size (pp := (enF t n jc)) (PL_h _ _ _ _) hen hn60 t htx (by omega) (PL_x _ _ _ _) (nI 59)) k_X10_194 (r_recv hW (x := 0) (List.mem_range.mpr (by decide)) rfl rfl) (hl.1) rfl rfl (Nat.le_of_ble_eq_true rfl) ⟨Nat.le_of_ble_eq_true rfl, Nat.le_of_ble_eq_true rfl⟩ ⟨Nat.le_of_ble_eq_true rfl, Nat.le_of_ble_eq_true rfl⟩ dX10_commands_44) hW (fun u44 H locs hp44 hW => ?_)
          rcases hp44 with ⟨hk, hu⟩ | ⟨hk, hu⟩
          · have hu : u44 = PL ν ((enF t n jc) + 1) 0 f := by rw [hu, PM_PL]
            subst hu
            refine lv_aload_n hxe hcd dX10_commands_47 rfl (lv_at hl 0 rfl) ?_
            refine gf_X10_186 S hW dX10_commands_48 ?_
            refine r_as (y := (nI 0)) ((PL_x _ _ _ _)) ?_
            refine lv_if_ne (tgt := 58) hxe hcd dX10_commands_51 (by decide) (fun h => absurd h (by decide)) (fun _ => ?_)
            refine lv_aload_n hxe hcd dX10_commands_54 rfl (lv_at hl 0 rfl) ?_
            refine r_callv (F := (mE Z B)) (r_runV hZ S hW (As := []) (rest := []) (t_X10_command l hZ B (PL ν ((enF t n jc) + 1) 0 f) H.size (pp := ((enF t n jc) + 1)) (PL_h _ _ _ _) hen hn60 t htx (by omega) (PL_x _ _ _ _) (by omega) hwd hwa hVG (dg := 0) hdg0 (by decide)) k_X10_213 (r_recv hW (x := 0) (List.mem_range.mpr (by decide)) rfl rfl) (hl.1) rfl rfl (Nat.le_of_ble_eq_true rfl) ⟨Nat.le_of_ble_eq_true rfl, Nat.le_of_ble_eq_true rfl⟩ ⟨Nat.le_of_ble_eq_true rfl, Nat.le_of_ble_eq_true rfl⟩ dX10_commands_55) hW (fun u55 H locs hp55 hW => ?_)
            rcases hp55 with ⟨f2, q2, hcm, hu⟩ | ⟨f2, q2, w2, b1, b2, b3, b4, hcm, hlt2, hle2, _, _, _, _, _, ⟨_, hu⟩ | ⟨hdn, _⟩⟩
            · have hco2 : coF t n (jc + 1) = none := congrArg Prod.fst hcm
              have hen2 : enF t n (jc + 1) = q2 := congrArg Prod.snd hcm
              have hu : u55 = PL ν (enF t n (jc + 1)) 1 f2 := by rw [hu, PL_PL, hen2]
              subst hu
              refine lv_iinc (v := (nI ((jc + 1) + 1))) (lv' := [(1, .int (nI ((jc + 1) + 1))), (0, .ref (B 0))]) hxe hcd dX10_commands_58 hl (k := 1) rfl (nI_add (jc + 1) 1) (by decide) rfl (fun ls hl => ?_)
              refine lv_goto (tgt := 16) hxe hcd dX10_commands_61 (by decide) ?_
              refine lv_aload_n hxe hcd dX10_commands_16 rfl (lv_at hl 1 rfl) ?_
              refine gf_X10_186 S hW dX10_commands_17 ?_
              refine r_as (y := (nI 1)) ((PL_x _ _ _ _)) ?_
              refine lv_if_ne (tgt := 64) hxe hcd dX10_commands_20 (by decide) (fun _ => ?_) (fun h => absurd h (by decide))
              refine lv_iload_n hxe hcd dX10_commands_64 rfl (lv_at hl 0 rfl) ?_
              refine r_iret S hr hlk (F := (mE Z B)) (u := (PL ν (enF t n (jc + 1)) 1 f2)) hW ?_ dX10_commands_65
              exact Or.inr ⟨jc + 1, _, ⟨GP_s hgp hco (by omega) hk, Or.inl hco2⟩, rfl⟩
            · have hco2 : coF t n (jc + 1) ≠ none := by rw [show coF t n (jc + 1) = some (w2, b1, b2, b3, b4) from congrArg Prod.fst hcm]; exact Option.some_ne_none _
              have hen2 : enF t n (jc + 1) = q2 := congrArg Prod.snd hcm
              have hu : u55 = PL ν (enF t n (jc + 1)) 0 f2 := by rw [hu, PL_PL, hen2]
              rw [← hen2] at hlt2 hle2
              subst hu
              refine lv_iinc (v := (nI ((jc + 1) + 1))) (lv' := [(1, .int (nI ((jc + 1) + 1))), (0, .ref (B 0))]) hxe hcd dX10_commands_58 hl (k := 1) rfl (nI_add (jc + 1) 1) (by decide) rfl (fun ls hl => ?_)
              refine lv_goto (tgt := 16) hxe hcd dX10_commands_61 (by decide) ?_
              exact ih16 (jc + 1) f2 (by omega) (GP_s hgp hco (by omega) hk) hco2 hle2 _ _ _ hW (lv_sub hl [1, 0] rfl)
            · exact absurd rfl hdn
          · have hu : u44 = PL ν (enF t n jc) 1 f := by rw [hu, PM_PL]
            subst hu
            refine lv_aload_n hxe hcd dX10_commands_47 rfl (lv_at hl 0 rfl) ?_
            refine gf_X10_186 S hW dX10_commands_48 ?_
            refine r_as (y := (nI 1)) ((PL_x _ _ _ _)) ?_
            refine lv_if_ne (tgt := 58) hxe hcd dX10_commands_51 (by decide) (fun _ => ?_) (fun h => absurd h (by decide))
            refine lv_iinc (v := (nI ((jc + 1) + 1))) (lv' := [(1, .int (nI ((jc + 1) + 1))), (0, .ref (B 0))]) hxe hcd dX10_commands_58 hl (k := 1) rfl (nI_add (jc + 1) 1) (by decide) rfl (fun ls hl => ?_)
            refine lv_goto (tgt := 16) hxe hcd dX10_commands_61 (by decide) ?_
            refine lv_aload_n hxe hcd dX10_commands_16 rfl (lv_at hl 1 rfl) ?_
            refine gf_X10_186 S hW dX10_commands_17 ?_
            refine r_as (y := (nI 1)) ((PL_x _ _ _ _)) ?_
            refine lv_if_ne (tgt := 64) hxe hcd dX10_commands_20 (by decide) (fun _ => ?_) (fun h => absurd h (by decide))
            refine lv_iload_n hxe hcd dX10_commands_64 rfl (lv_at hl 0 rfl) ?_
            refine r_iret S hr hlk (F := (mE Z B)) (u := (PL ν (enF t n jc) 1 f)) hW ?_ dX10_commands_65
            exact Or.inr ⟨jc, _, ⟨hgp, Or.inr ⟨by omega, hk⟩⟩, rfl⟩
    exact loop16 ((n - enF t n 0) + 1) 0 f2 (Nat.lt_succ_self _) (fun j hj => absurd hj (Nat.not_lt_zero _)) hco2 hle2 _ _ _ hW (lv_sub hl [1, 0] rfl)
  · exact absurd rfl hdn
