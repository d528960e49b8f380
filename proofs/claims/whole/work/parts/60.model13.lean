set_option maxHeartbeats 4000000 in
set_option maxRecDepth 100000 in
theorem t_X10_command (l : Launch) {Z : ZT} (hZ : zOK Z) (B : Nat → Nat) (ν : MM) (sz : Nat) {n pp : Nat} (hpp : ν 0 18 = nI pp) (hen : ν 0 19 = nI n) (hn60 : n ≤ 60) (t : Nat → Nat) (htx : ∀ j, j < n → ν 8 j = nI (t j) ∧ t j < 128) (hpn : pp ≤ 60) (hx0 : ν 0 21 = nI 0) (hpn2 : pp ≤ n) (hwd : ∀ j, j < 63 → ν 11 j = nI (WD j)) (hwa : ∀ j, j < 13 → ν 12 j = nI (WA j)) (hVG : VG (ν 1)) {dg : Nat} (hdg : ν 0 22 = nI dg) (hdg1 : dg ≤ 1) : XMv l yX10_command cX10_command 7 6 [.ref (B 0)] Z mds B (mE Z B) ν sz (fun u => (∃ (f : Nat → Int32) (q : Nat), cmF t n pp = (none, q) ∧ u = PL ν q 1 f) ∨ (∃ (f : Nat → Int32) (q w a1 a2 a3 a4 : Nat), cmF t n pp = (some (w, a1, a2, a3, a4), q) ∧ pp < q ∧ q ≤ n ∧ w < 12 ∧ a1 < 1000 ∧ a2 < 1000 ∧ a3 < 1000 ∧ a4 < 1000 ∧ ((dg = 0 ∧ u = PL ν q 0 f) ∨ (¬ dg = 0 ∧ ((∃ o2 g2 v2 : Nat → Int32, exV (ν 1) w a1 a2 a3 a4 = some v2 ∧ u = mE6 (PL ν q 0 f) o2 g2 v2) ∨ (exV (ν 1) w a1 a2 a3 a4 = none ∧ ∃ k : Nat, 1 ≤ k ∧ k ≤ 3 ∧ u = up1 (PL ν q 0 f) 0 (upd (PL ν q 0 f 0) 0 (nI k)))))))) := by
  refine r_met (E := (mE Z B ν)) (by decide +kernel) (Nat.le_of_ble_eq_true rfl) ?_
  intro p e s m below meth c ls S hr hlk hnm hsz hW hl
  have hxe := S.1
  have hcd := S.2.1
  subst hsz
  have hl : lv_has ls 7 [(0, .ref (B 0))] := hl
  refine lv_aload_n hxe hcd dX10_command_0 rfl (lv_at hl 0 rfl) ?_
  refine r_calli (F := (mE Z B)) (r_runV hZ S hW (As := []) (rest := []) (t_X10_word l hZ B ν s.heap.size (pp := pp) hpp hen hn60 t htx (by omega) hx0 (by omega) hwd hwa) k_X10_200 (r_recv hW (x := 0) (List.mem_range.mpr (by decide)) rfl rfl) (hl.1) rfl rfl (Nat.le_of_ble_eq_true rfl) ⟨Nat.le_of_ble_eq_true rfl, Nat.le_of_ble_eq_true rfl⟩ ⟨Nat.le_of_ble_eq_true rfl, Nat.le_of_ble_eq_true rfl⟩ dX10_command_1) hW (fun r1 u1 H locs hp1 hW => ?_)
  obtain ⟨f1, hp1⟩ := hp1
  rcases hp1 with ⟨w, hok, rfl, rfl⟩ | ⟨kw, hkno, rfl, rfl⟩
  · have hww := WA_12 hok.1
    have hin : pp + wl w ≤ n := by rcases PW_in hok.2 with h | h <;> omega
    refine lv_istore_n (lv' := [(1, .int (nI w)), (0, .ref (B 0))]) hxe hcd dX10_command_4 rfl hl (by decide) rfl (fun ls hl => ?_)
    refine lv_iconst (v := (nI 0)) hxe hcd dX10_command_5 (by decide) ?_
    refine lv_istore_n (lv' := [(2, .int (nI 0)), (1, .int (nI w)), (0, .ref (B 0))]) hxe hcd dX10_command_6 rfl hl (by decide) rfl (fun ls hl => ?_)
    refine lv_iconst (v := (nI 0)) hxe hcd dX10_command_7 (by decide) ?_
    refine lv_istore_n (lv' := [(3, .int (nI 0)), (2, .int (nI 0)), (1, .int (nI w)), (0, .ref (B 0))]) hxe hcd dX10_command_8 rfl hl (by decide) rfl (fun ls hl => ?_)
    refine lv_iconst (v := (nI 0)) hxe hcd dX10_command_9 (by decide) ?_
    refine lv_istore (lv' := [(4, .int (nI 0)), (3, .int (nI 0)), (2, .int (nI 0)), (1, .int (nI w)), (0, .ref (B 0))]) hxe hcd dX10_command_10 hl (by decide) rfl (fun ls hl => ?_)
    refine lv_iconst (v := (nI 0)) hxe hcd dX10_command_12 (by decide) ?_
    refine lv_istore (lv' := [(5, .int (nI 0)), (4, .int (nI 0)), (3, .int (nI 0)), (2, .int (nI 0)), (1, .int (nI w)), (0, .ref (B 0))]) hxe hcd dX10_command_13 hl (by decide) rfl (fun ls hl => ?_)
    refine lv_aload_n hxe hcd dX10_command_15 rfl (lv_at hl 5 rfl) ?_
    refine gf_X10_186 S hW dX10_command_16 ?_
    refine r_as (y := (nI 0)) ((PL_x _ _ _ _)) ?_
    refine lv_if_eq (tgt := 23) hxe hcd dX10_command_19 (by decide) (fun _ => ?_) (fun h => absurd (by decide) h)
    rcases (cat6 hok.1) with hc | hc | hc | hc | hc | hc
    · refine lv_iload_n hxe hcd dX10_command_23 rfl (lv_at hl 4 rfl) ?_
      refine lv_iconst (v := (nI 4)) hxe hcd dX10_command_24 (by decide) ?_
      refine n_eq S (a := w) (b := 4) (by omega) (by omega) dX10_command_25 (tgt := 44) (by decide) (fun c25 => ?_) (fun c25 => absurd (by omega) c25)
      refine lv_iload_n hxe hcd dX10_command_44 rfl (lv_at hl 4 rfl) ?_
      refine lv_bipush (v := (nI 7)) hxe hcd dX10_command_45 (by decide) ?_
      refine n_eq S (a := w) (b := 7) (by omega) (by omega) dX10_command_47 (tgt := 56) (by decide) (fun c47 => absurd c47 (by omega)) (fun c47 => ?_)
      refine lv_iload_n hxe hcd dX10_command_50 rfl (lv_at hl 4 rfl) ?_
      refine lv_bipush (v := (nI 9)) hxe hcd dX10_command_51 (by decide) ?_
      refine n_ne S (a := w) (b := 9) (by omega) (by omega) dX10_command_53 (tgt := 69) (by decide) (fun c53 => ?_) (fun c53 => absurd c53 (by omega))
      refine lv_iload_n hxe hcd dX10_command_69 rfl (lv_at hl 4 rfl) ?_
      refine lv_bipush (v := (nI 11)) hxe hcd dX10_command_70 (by decide) ?_
      refine n_ne S (a := w) (b := 11) (by omega) (by omega) dX10_command_72 (tgt := 88) (by decide) (fun c72 => ?_) (fun c72 => absurd c72 (by omega))
      refine lv_iload_n hxe hcd dX10_command_88 rfl (lv_at hl 4 rfl) ?_
      refine lv_bipush (v := (nI 7)) hxe hcd dX10_command_89 (by decide) ?_
      refine n_ne S (a := w) (b := 7) (by omega) (by omega) dX10_command_91 (tgt := 108) (by decide) (fun c91 => ?_) (fun c91 => absurd c91 (by omega))
      refine lv_iload_n hxe hcd dX10_command_108 rfl (lv_at hl 4 rfl) ?_
      refine lv_bipush (v := (nI 7)) hxe hcd dX10_command_109 (by decide) ?_
      refine n_ne S (a := w) (b := 7) (by omega) (by omega) dX10_command_111 (tgt := 128) (by decide) (fun c111 => ?_) (fun c111 => absurd c111 (by omega))
      refine lv_aload_n hxe hcd dX10_command_128 rfl (lv_at hl 5 rfl) ?_
      refine gf_X10_186 S hW dX10_command_129 ?_
      refine r_as (y := (nI 0)) ((PL_x _ _ _ _)) ?_
      refine lv_if_ne (tgt := 142) hxe hcd dX10_command_132 (by decide) (fun h => absurd h (by decide)) (fun _ => ?_)
      refine lv_aload_n hxe hcd dX10_command_135 rfl (lv_at hl 5 rfl) ?_
      refine gf_X10_206 S hW dX10_command_136 ?_
      refine r_as (y := (nI dg)) (hdg) ?_
      refine n_ifne S (a := dg) (by omega) dX10_command_139 (tgt := 143) (by decide) (fun c139 => ?_) (fun c139 => ?_)
      · refine lv_aload_n hxe hcd dX10_command_143 rfl (lv_at hl 5 rfl) ?_
        refine lv_iload_n hxe hcd dX10_command_144 rfl (lv_at hl 4 rfl) ?_
        refine lv_iload_n hxe hcd dX10_command_145 rfl (lv_at hl 3 rfl) ?_
        refine lv_iload_n hxe hcd dX10_command_146 rfl (lv_at hl 2 rfl) ?_
        refine lv_iload hxe hcd dX10_command_147 (lv_at hl 1 rfl) ?_
        refine lv_iload hxe hcd dX10_command_149 (lv_at hl 0 rfl) ?_
        refine r_calli (F := (mE Z B)) (r_runV hZ S hW (As := [.int (nI w), .int (nI 0), .int (nI 0), .int (nI 0), .int (nI 0)]) (rest := []) (t_X10_does l hZ B (PL ν (pp + wl w) 0 f1) H.size (w := w) (a1 := 0) (a2 := 0) (a3 := 0) (a4 := 0) hok.1 (by omega) (by omega) (by omega) (by omega) hVG hwd hwa) k_X10_209 (r_recv hW (x := 0) (List.mem_range.mpr (by decide)) rfl rfl) (hl.1) rfl rfl (Nat.le_of_ble_eq_true rfl) ⟨Nat.le_of_ble_eq_true rfl, Nat.le_of_ble_eq_true rfl⟩ ⟨Nat.le_of_ble_eq_true rfl, Nat.le_of_ble_eq_true rfl⟩ dX10_command_151) hW (fun r151 u151 H locs hp151 hW => ?_)
        rcases hp151 with ⟨o2, g2, v2, hex, rfl⟩ | ⟨hex, kf, hk1, hk2, rfl⟩
        · refine lv_istore (lv' := [(6, .int r151), (5, .int (nI 0)), (4, .int (nI 0)), (3, .int (nI 0)), (2, .int (nI 0)), (1, .int (nI w)), (0, .ref (B 0))]) hxe hcd dX10_command_154 hl (by decide) rfl (fun ls hl => ?_)
          refine r_vret S hr hlk (F := (mE Z B)) (u := (mE6 (PL ν (pp + wl w) 0 f1) o2 g2 v2)) hW ?_ dX10_command_156
          refine Or.inr ⟨f1, _, _, _, _, _, _, (cmF_w hok).trans (c1_4 hc), by omega, by omega, hok.1, by omega, by omega, by omega, by omega, ?_⟩
          exact Or.inr ⟨c139, Or.inl ⟨o2, g2, v2, hex, rfl⟩⟩
        · refine lv_istore (lv' := [(6, .int r151), (5, .int (nI 0)), (4, .int (nI 0)), (3, .int (nI 0)), (2, .int (nI 0)), (1, .int (nI w)), (0, .ref (B 0))]) hxe hcd dX10_command_154 hl (by decide) rfl (fun ls hl => ?_)
          refine r_vret S hr hlk (F := (mE Z B)) (u := (up1 (PL ν (pp + wl w) 0 f1) 0 (upd ((PL ν (pp + wl w) 0 f1) 0) 0 (nI kf)))) hW ?_ dX10_command_156
          refine Or.inr ⟨f1, _, _, _, _, _, _, (cmF_w hok).trans (c1_4 hc), by omega, by omega, hok.1, by omega, by omega, by omega, by omega, ?_⟩
          exact Or.inr ⟨c139, Or.inr ⟨hex, kf, hk1, hk2, rfl⟩⟩
      · refine r_vret S hr hlk (F := (mE Z B)) (u := (PL ν (pp + wl w) 0 f1)) hW ?_ dX10_command_142
        refine Or.inr ⟨f1, _, _, _, _, _, _, (cmF_w hok).trans (c1_4 hc), by omega, by omega, hok.1, by omega, by omega, by omega, by omega, ?_⟩
        exact Or.inl ⟨c139, rfl⟩
    · refine lv_iload_n hxe hcd dX10_command_23 rfl (lv_at hl 4 rfl) ?_
      refine lv_iconst (v := (nI 4)) hxe hcd dX10_command_24 (by decide) ?_
      refine n_eq S (a := w) (b := 4) (by omega) (by omega) dX10_command_25 (tgt := 44) (by decide) (fun c25 => absurd c25 (by omega)) (fun c25 => ?_)
      refine lv_aload_n hxe hcd dX10_command_28 rfl (lv_at hl 5 rfl) ?_
      refine lv_iload_n hxe hcd dX10_command_29 rfl (lv_at hl 4 rfl) ?_
      refine lv_bipush (v := (nI 6)) hxe hcd dX10_command_30 (by decide) ?_
      refine n_ge S (a := w) (b := 6) (by omega) (by omega) dX10_command_32 (tgt := 39) (by decide) (fun c32 => ?_) (fun c32 => absurd (by omega) c32)
      refine lv_iconst (v := (nI 1)) hxe hcd dX10_command_39 (by decide) ?_
      refine r_calli (F := (mE Z B)) (r_runV hZ S hW (As := [.int (nI 1)]) (rest := []) (t_X10_digits l hZ B (PL ν (pp + wl w) 0 f1) H.size (mo := 1) (by omega) (pp := (pp + wl w)) (PL_h _ _ _ _) hen hn60 t htx (by omega) (PL_x _ _ _ _) (by omega)) k_X10_197 (r_recv hW (x := 0) (List.mem_range.mpr (by decide)) rfl rfl) (hl.1) rfl rfl (Nat.le_of_ble_eq_true rfl) ⟨Nat.le_of_ble_eq_true rfl, Nat.le_of_ble_eq_true rfl⟩ ⟨Nat.le_of_ble_eq_true rfl, Nat.le_of_ble_eq_true rfl⟩ dX10_command_40) hW (fun r40 u40 H locs hp40 hW => ?_)
      obtain ⟨d40, hdg40, hp40⟩ := hp40
      rcases hp40 with ⟨hd040, hr, hu⟩ | ⟨hd040, hr, hu⟩
      · have hu : u40 = PL ν (pp + wl w) 1 f1 := by rw [hu, PM_PL]
        subst hu
        subst hr
        refine lv_istore_n (lv' := [(2, .int (nI 0)), (5, .int (nI 0)), (4, .int (nI 0)), (3, .int (nI 0)), (1, .int (nI w)), (0, .ref (B 0))]) hxe hcd dX10_command_43 rfl hl (by decide) rfl (fun ls hl => ?_)
        refine lv_iload_n hxe hcd dX10_command_44 rfl (lv_at hl 4 rfl) ?_
        refine lv_bipush (v := (nI 7)) hxe hcd dX10_command_45 (by decide) ?_
        refine n_eq S (a := w) (b := 7) (by omega) (by omega) dX10_command_47 (tgt := 56) (by decide) (fun c47 => ?_) (fun c47 => absurd (by omega) c47)
        refine lv_aload_n hxe hcd dX10_command_56 rfl (lv_at hl 5 rfl) ?_
        refine gf_X10_186 S hW dX10_command_57 ?_
        refine r_as (y := (nI 1)) ((PL_x _ _ _ _)) ?_
        refine lv_if_ne (tgt := 69) hxe hcd dX10_command_60 (by decide) (fun _ => ?_) (fun h => absurd h (by decide))
        refine lv_iload_n hxe hcd dX10_command_69 rfl (lv_at hl 4 rfl) ?_
        refine lv_bipush (v := (nI 11)) hxe hcd dX10_command_70 (by decide) ?_
        refine n_ne S (a := w) (b := 11) (by omega) (by omega) dX10_command_72 (tgt := 88) (by decide) (fun c72 => ?_) (fun c72 => absurd c72 (by omega))
        refine lv_iload_n hxe hcd dX10_command_88 rfl (lv_at hl 4 rfl) ?_
        refine lv_bipush (v := (nI 7)) hxe hcd dX10_command_89 (by decide) ?_
        refine n_ne S (a := w) (b := 7) (by omega) (by omega) dX10_command_91 (tgt := 108) (by decide) (fun c91 => absurd (by omega) c91) (fun c91 => ?_)
        refine lv_aload_n hxe hcd dX10_command_94 rfl (lv_at hl 5 rfl) ?_
        refine gf_X10_186 S hW dX10_command_95 ?_
        refine r_as (y := (nI 1)) ((PL_x _ _ _ _)) ?_
        refine lv_if_ne (tgt := 108) hxe hcd dX10_command_98 (by decide) (fun _ => ?_) (fun h => absurd h (by decide))
        refine lv_iload_n hxe hcd dX10_command_108 rfl (lv_at hl 4 rfl) ?_
        refine lv_bipush (v := (nI 7)) hxe hcd dX10_command_109 (by decide) ?_
        refine n_ne S (a := w) (b := 7) (by omega) (by omega) dX10_command_111 (tgt := 128) (by decide) (fun c111 => absurd (by omega) c111) (fun c111 => ?_)
        refine lv_aload_n hxe hcd dX10_command_114 rfl (lv_at hl 5 rfl) ?_
        refine gf_X10_186 S hW dX10_command_115 ?_
        refine r_as (y := (nI 1)) ((PL_x _ _ _ _)) ?_
        refine lv_if_ne (tgt := 128) hxe hcd dX10_command_118 (by decide) (fun _ => ?_) (fun h => absurd h (by decide))
        refine lv_aload_n hxe hcd dX10_command_128 rfl (lv_at hl 5 rfl) ?_
        refine gf_X10_186 S hW dX10_command_129 ?_
        refine r_as (y := (nI 1)) ((PL_x _ _ _ _)) ?_
        refine lv_if_ne (tgt := 142) hxe hcd dX10_command_132 (by decide) (fun _ => ?_) (fun h => absurd h (by decide))
        refine r_vret S hr hlk (F := (mE Z B)) (u := (PL ν (pp + wl w) 1 f1)) hW ?_ dX10_command_142
        exact Or.inl ⟨f1, _, (cmF_w hok).trans (c1_0 (by omega) (if_neg (by omega)) hdg40 hd040), rfl⟩
      · have hu : u40 = PL ν ((pp + wl w) + d40) 0 f1 := by rw [hu, PM_PL]
        subst hu
        subst hr
        have hdi40 := DG_in (fun j hj => (htx j hj).2) (by omega) hdg40
        have hdv40 := DG_v (fun j hj => (htx j hj).2) (by decide) hdg40
        refine lv_istore_n (lv' := [(2, .int (nI (dvN t (pp + wl w) d40))), (5, .int (nI 0)), (4, .int (nI 0)), (3, .int (nI 0)), (1, .int (nI w)), (0, .ref (B 0))]) hxe hcd dX10_command_43 rfl hl (by decide) rfl (fun ls hl => ?_)
        refine lv_iload_n hxe hcd dX10_command_44 rfl (lv_at hl 4 rfl) ?_
        refine lv_bipush (v := (nI 7)) hxe hcd dX10_command_45 (by decide) ?_
        refine n_eq S (a := w) (b := 7) (by omega) (by omega) dX10_command_47 (tgt := 56) (by decide) (fun c47 => ?_) (fun c47 => absurd (by omega) c47)
        refine lv_aload_n hxe hcd dX10_command_56 rfl (lv_at hl 5 rfl) ?_
        refine gf_X10_186 S hW dX10_command_57 ?_
        refine r_as (y := (nI 0)) ((PL_x _ _ _ _)) ?_
        refine lv_if_ne (tgt := 69) hxe hcd dX10_command_60 (by decide) (fun h => absurd h (by decide)) (fun _ => ?_)
        refine lv_aload_n hxe hcd dX10_command_63 rfl (lv_at hl 5 rfl) ?_
        refine lv_iconst (v := (nI 3)) hxe hcd dX10_command_64 (by decide) ?_
        refine r_calli (F := (mE Z B)) (r_runV hZ S hW (As := [.int (nI 3)]) (rest := []) (t_X10_behind l hZ B (PL ν ((pp + wl w) + d40) 0 f1) H.size (mo := 3) (by omega) (pp := ((pp + wl w) + d40)) (PL_h _ _ _ _) hen hn60 t htx (by omega) (PL_x _ _ _ _) (by omega)) k_X10_203 (r_recv hW (x := 0) (List.mem_range.mpr (by decide)) rfl rfl) (hl.1) rfl rfl (Nat.le_of_ble_eq_true rfl) ⟨Nat.le_of_ble_eq_true rfl, Nat.le_of_ble_eq_true rfl⟩ ⟨Nat.le_of_ble_eq_true rfl, Nat.le_of_ble_eq_true rfl⟩ dX10_command_65) hW (fun r65 u65 H locs hp65 hW => ?_)
        rcases hp65 with ⟨hk65, hr, hu⟩ | ⟨hk65, d65, hdg65, ⟨hd065, hr, hu⟩ | ⟨hd065, hr, hu⟩⟩
        · have hu : u65 = PL ν ((pp + wl w) + d40) 1 f1 := by rw [hu, PM_PL]
          subst hu
          subst hr
          refine lv_istore_n (lv' := [(3, .int (nI 0)), (2, .int (nI (dvN t (pp + wl w) d40))), (5, .int (nI 0)), (4, .int (nI 0)), (1, .int (nI w)), (0, .ref (B 0))]) hxe hcd dX10_command_68 rfl hl (by decide) rfl (fun ls hl => ?_)
          refine lv_iload_n hxe hcd dX10_command_69 rfl (lv_at hl 4 rfl) ?_
          refine lv_bipush (v := (nI 11)) hxe hcd dX10_command_70 (by decide) ?_
          refine n_ne S (a := w) (b := 11) (by omega) (by omega) dX10_command_72 (tgt := 88) (by decide) (fun c72 => ?_) (fun c72 => absurd c72 (by omega))
          refine lv_iload_n hxe hcd dX10_command_88 rfl (lv_at hl 4 rfl) ?_
          refine lv_bipush (v := (nI 7)) hxe hcd dX10_command_89 (by decide) ?_
          refine n_ne S (a := w) (b := 7) (by omega) (by omega) dX10_command_91 (tgt := 108) (by decide) (fun c91 => absurd (by omega) c91) (fun c91 => ?_)
          refine lv_aload_n hxe hcd dX10_command_94 rfl (lv_at hl 5 rfl) ?_
          refine gf_X10_186 S hW dX10_command_95 ?_
          refine r_as (y := (nI 1)) ((PL_x _ _ _ _)) ?_
          refine lv_if_ne (tgt := 108) hxe hcd dX10_command_98 (by decide) (fun _ => ?_) (fun h => absurd h (by decide))
          refine lv_iload_n hxe hcd dX10_command_108 rfl (lv_at hl 4 rfl) ?_
          refine lv_bipush (v := (nI 7)) hxe hcd dX10_command_109 (by decide) ?_
          refine n_ne S (a := w) (b := 7) (by omega) (by omega) dX10_command_111 (tgt := 128) (by decide) (fun c111 => absurd (by omega) c111) (fun c111 => ?_)
          refine lv_aload_n hxe hcd dX10_command_114 rfl (lv_at hl 5 rfl) ?_
          refine gf_X10_186 S hW dX10_command_115 ?_
          refine r_as (y := (nI 1)) ((PL_x _ _ _ _)) ?_
          refine lv_if_ne (tgt := 128) hxe hcd dX10_command_118 (by decide) (fun _ => ?_) (fun h => absurd h (by decide))
          refine lv_aload_n hxe hcd dX10_command_128 rfl (lv_at hl 5 rfl) ?_
          refine gf_X10_186 S hW dX10_command_129 ?_
          refine r_as (y := (nI 1)) ((PL_x _ _ _ _)) ?_
          refine lv_if_ne (tgt := 142) hxe hcd dX10_command_132 (by decide) (fun _ => ?_) (fun h => absurd h (by decide))
          refine r_vret S hr hlk (F := (mE Z B)) (u := (PL ν ((pp + wl w) + d40) 1 f1)) hW ?_ dX10_command_142
          exact Or.inl ⟨f1, _, (cmF_w hok).trans (c1_d (by omega) (if_neg (by omega)) hdg40 hd040 (rs7_1 hc (bhF_s hk65))), rfl⟩
        · have hu : u65 = PL ν (((pp + wl w) + d40) + 1) 1 f1 := by rw [hu, PM_PL]
          subst hu
          subst hr
          refine lv_istore_n (lv' := [(3, .int (nI 0)), (2, .int (nI (dvN t (pp + wl w) d40))), (5, .int (nI 0)), (4, .int (nI 0)), (1, .int (nI w)), (0, .ref (B 0))]) hxe hcd dX10_command_68 rfl hl (by decide) rfl (fun ls hl => ?_)
          refine lv_iload_n hxe hcd dX10_command_69 rfl (lv_at hl 4 rfl) ?_
          refine lv_bipush (v := (nI 11)) hxe hcd dX10_command_70 (by decide) ?_
          refine n_ne S (a := w) (b := 11) (by omega) (by omega) dX10_command_72 (tgt := 88) (by decide) (fun c72 => ?_) (fun c72 => absurd c72 (by omega))
          refine lv_iload_n hxe hcd dX10_command_88 rfl (lv_at hl 4 rfl) ?_
          refine lv_bipush (v := (nI 7)) hxe hcd dX10_command_89 (by decide) ?_
          refine n_ne S (a := w) (b := 7) (by omega) (by omega) dX10_command_91 (tgt := 108) (by decide) (fun c91 => absurd (by omega) c91) (fun c91 => ?_)
          refine lv_aload_n hxe hcd dX10_command_94 rfl (lv_at hl 5 rfl) ?_
          refine gf_X10_186 S hW dX10_command_95 ?_
          refine r_as (y := (nI 1)) ((PL_x _ _ _ _)) ?_
          refine lv_if_ne (tgt := 108) hxe hcd dX10_command_98 (by decide) (fun _ => ?_) (fun h => absurd h (by decide))
          refine lv_iload_n hxe hcd dX10_command_108 rfl (lv_at hl 4 rfl) ?_
          refine lv_bipush (v := (nI 7)) hxe hcd dX10_command_109 (by decide) ?_
          refine n_ne S (a := w) (b := 7) (by omega) (by omega) dX10_command_111 (tgt := 128) (by decide) (fun c111 => absurd (by omega) c111) (fun c111 => ?_)
          refine lv_aload_n hxe hcd dX10_command_114 rfl (lv_at hl 5 rfl) ?_
          refine gf_X10_186 S hW dX10_command_115 ?_
          refine r_as (y := (nI 1)) ((PL_x _ _ _ _)) ?_
          refine lv_if_ne (tgt := 128) hxe hcd dX10_command_118 (by decide) (fun _ => ?_) (fun h => absurd h (by decide))
          refine lv_aload_n hxe hcd dX10_command_128 rfl (lv_at hl 5 rfl) ?_
          refine gf_X10_186 S hW dX10_command_129 ?_
          refine r_as (y := (nI 1)) ((PL_x _ _ _ _)) ?_
          refine lv_if_ne (tgt := 142) hxe hcd dX10_command_132 (by decide) (fun _ => ?_) (fun h => absurd h (by decide))
          refine r_vret S hr hlk (F := (mE Z B)) (u := (PL ν (((pp + wl w) + d40) + 1) 1 f1)) hW ?_ dX10_command_142
          exact Or.inl ⟨f1, _, (cmF_w hok).trans (c1_d (by omega) (if_neg (by omega)) hdg40 hd040 (rs7_1 hc (bhF_0 hk65 hdg65 hd065))), rfl⟩
        · have hu : u65 = PL ν (((pp + wl w) + d40) + 1 + d65) 0 f1 := by rw [hu, PM_PL]
          subst hu
          subst hr
          have hlt65 := chT_in (by decide) hk65
          have hdi65 := DG_in (fun j hj => (htx j hj).2) (by omega) hdg65
          have hdv65 := DG_v (fun j hj => (htx j hj).2) (by decide) hdg65
          refine lv_istore_n (lv' := [(3, .int (nI (dvN t (((pp + wl w) + d40) + 1) d65))), (2, .int (nI (dvN t (pp + wl w) d40))), (5, .int (nI 0)), (4, .int (nI 0)), (1, .int (nI w)), (0, .ref (B 0))]) hxe hcd dX10_command_68 rfl hl (by decide) rfl (fun ls hl => ?_)
          refine lv_iload_n hxe hcd dX10_command_69 rfl (lv_at hl 4 rfl) ?_
          refine lv_bipush (v := (nI 11)) hxe hcd dX10_command_70 (by decide) ?_
          refine n_ne S (a := w) (b := 11) (by omega) (by omega) dX10_command_72 (tgt := 88) (by decide) (fun c72 => ?_) (fun c72 => absurd c72 (by omega))
          refine lv_iload_n hxe hcd dX10_command_88 rfl (lv_at hl 4 rfl) ?_
          refine lv_bipush (v := (nI 7)) hxe hcd dX10_command_89 (by decide) ?_
          refine n_ne S (a := w) (b := 7) (by omega) (by omega) dX10_command_91 (tgt := 108) (by decide) (fun c91 => absurd (by omega) c91) (fun c91 => ?_)
          refine lv_aload_n hxe hcd dX10_command_94 rfl (lv_at hl 5 rfl) ?_
          refine gf_X10_186 S hW dX10_command_95 ?_
          refine r_as (y := (nI 0)) ((PL_x _ _ _ _)) ?_
          refine lv_if_ne (tgt := 108) hxe hcd dX10_command_98 (by decide) (fun h => absurd h (by decide)) (fun _ => ?_)
          refine lv_aload_n hxe hcd dX10_command_101 rfl (lv_at hl 5 rfl) ?_
          refine lv_iconst (v := (nI 3)) hxe hcd dX10_command_102 (by decide) ?_
          refine r_calli (F := (mE Z B)) (r_runV hZ S hW (As := [.int (nI 3)]) (rest := []) (t_X10_behind l hZ B (PL ν (((pp + wl w) + d40) + 1 + d65) 0 f1) H.size (mo := 3) (by omega) (pp := (((pp + wl w) + d40) + 1 + d65)) (PL_h _ _ _ _) hen hn60 t htx (by omega) (PL_x _ _ _ _) (by omega)) k_X10_203 (r_recv hW (x := 0) (List.mem_range.mpr (by decide)) rfl rfl) (hl.1) rfl rfl (Nat.le_of_ble_eq_true rfl) ⟨Nat.le_of_ble_eq_true rfl, Nat.le_of_ble_eq_true rfl⟩ ⟨Nat.le_of_ble_eq_true rfl, Nat.le_of_ble_eq_true rfl⟩ dX10_command_103) hW (fun r103 u103 H locs hp103 hW => ?_)
          rcases hp103 with ⟨hk103, hr, hu⟩ | ⟨hk103, d103, hdg103, ⟨hd0103, hr, hu⟩ | ⟨hd0103, hr, hu⟩⟩
          · have hu : u103 = PL ν (((pp + wl w) + d40) + 1 + d65) 1 f1 := by rw [hu, PM_PL]
            subst hu
            subst hr
            refine lv_istore (lv' := [(4, .int (nI 0)), (3, .int (nI (dvN t (((pp + wl w) + d40) + 1) d65))), (2, .int (nI (dvN t (pp + wl w) d40))), (5, .int (nI 0)), (1, .int (nI w)), (0, .ref (B 0))]) hxe hcd dX10_command_106 hl (by decide) rfl (fun ls hl => ?_)
            refine lv_iload_n hxe hcd dX10_command_108 rfl (lv_at hl 4 rfl) ?_
            refine lv_bipush (v := (nI 7)) hxe hcd dX10_command_109 (by decide) ?_
            refine n_ne S (a := w) (b := 7) (by omega) (by omega) dX10_command_111 (tgt := 128) (by decide) (fun c111 => absurd (by omega) c111) (fun c111 => ?_)
            refine lv_aload_n hxe hcd dX10_command_114 rfl (lv_at hl 5 rfl) ?_
            refine gf_X10_186 S hW dX10_command_115 ?_
            refine r_as (y := (nI 1)) ((PL_x _ _ _ _)) ?_
            refine lv_if_ne (tgt := 128) hxe hcd dX10_command_118 (by decide) (fun _ => ?_) (fun h => absurd h (by decide))
            refine lv_aload_n hxe hcd dX10_command_128 rfl (lv_at hl 5 rfl) ?_
            refine gf_X10_186 S hW dX10_command_129 ?_
            refine r_as (y := (nI 1)) ((PL_x _ _ _ _)) ?_
            refine lv_if_ne (tgt := 142) hxe hcd dX10_command_132 (by decide) (fun _ => ?_) (fun h => absurd h (by decide))
            refine r_vret S hr hlk (F := (mE Z B)) (u := (PL ν (((pp + wl w) + d40) + 1 + d65) 1 f1)) hW ?_ dX10_command_142
            exact Or.inl ⟨f1, _, (cmF_w hok).trans (c1_d (by omega) (if_neg (by omega)) hdg40 hd040 (rs7_2 hc (bhF_d hk65 hdg65 hd065) (bhF_s hk103))), rfl⟩
          · have hu : u103 = PL ν ((((pp + wl w) + d40) + 1 + d65) + 1) 1 f1 := by rw [hu, PM_PL]
            subst hu
            subst hr
            refine lv_istore (lv' := [(4, .int (nI 0)), (3, .int (nI (dvN t (((pp + wl w) + d40) + 1) d65))), (2, .int (nI (dvN t (pp + wl w) d40))), (5, .int (nI 0)), (1, .int (nI w)), (0, .ref (B 0))]) hxe hcd dX10_command_106 hl (by decide) rfl (fun ls hl => ?_)
            refine lv_iload_n hxe hcd dX10_command_108 rfl (lv_at hl 4 rfl) ?_
            refine lv_bipush (v := (nI 7)) hxe hcd dX10_command_109 (by decide) ?_
            refine n_ne S (a := w) (b := 7) (by omega) (by omega) dX10_command_111 (tgt := 128) (by decide) (fun c111 => absurd (by omega) c111) (fun c111 => ?_)
            refine lv_aload_n hxe hcd dX10_command_114 rfl (lv_at hl 5 rfl) ?_
            refine gf_X10_186 S hW dX10_command_115 ?_
            refine r_as (y := (nI 1)) ((PL_x _ _ _ _)) ?_
            refine lv_if_ne (tgt := 128) hxe hcd dX10_command_118 (by decide) (fun _ => ?_) (fun h => absurd h (by decide))
            refine lv_aload_n hxe hcd dX10_command_128 rfl (lv_at hl 5 rfl) ?_
            refine gf_X10_186 S hW dX10_command_129 ?_
            refine r_as (y := (nI 1)) ((PL_x _ _ _ _)) ?_
            refine lv_if_ne (tgt := 142) hxe hcd dX10_command_132 (by decide) (fun _ => ?_) (fun h => absurd h (by decide))
            refine r_vret S hr hlk (F := (mE Z B)) (u := (PL ν ((((pp + wl w) + d40) + 1 + d65) + 1) 1 f1)) hW ?_ dX10_command_142
            exact Or.inl ⟨f1, _, (cmF_w hok).trans (c1_d (by omega) (if_neg (by omega)) hdg40 hd040 (rs7_2 hc (bhF_d hk65 hdg65 hd065) (bhF_0 hk103 hdg103 hd0103))), rfl⟩
          · have hu : u103 = PL ν ((((pp + wl w) + d40) + 1 + d65) + 1 + d103) 0 f1 := by rw [hu, PM_PL]
            subst hu
            subst hr
            have hlt103 := chT_in (by decide) hk103
            have hdi103 := DG_in (fun j hj => (htx j hj).2) (by omega) hdg103
            have hdv103 := DG_v (fun j hj => (htx j hj).2) (by decide) hdg103
            refine lv_istore (lv' := [(4, .int (nI (dvN t ((((pp + wl w) + d40) + 1 + d65) + 1) d103))), (3, .int (nI (dvN t (((pp + wl w) + d40) + 1) d65))), (2, .int (nI (dvN t (pp + wl w) d40))), (5, .int (nI 0)), (1, .int (nI w)), (0, .ref (B 0))]) hxe hcd dX10_command_106 hl (by decide) rfl (fun ls hl => ?_)
            refine lv_iload_n hxe hcd dX10_command_108 rfl (lv_at hl 4 rfl) ?_
            refine lv_bipush (v := (nI 7)) hxe hcd dX10_command_109 (by decide) ?_
            refine n_ne S (a := w) (b := 7) (by omega) (by omega) dX10_command_111 (tgt := 128) (by decide) (fun c111 => absurd (by omega) c111) (fun c111 => ?_)
            refine lv_aload_n hxe hcd dX10_command_114 rfl (lv_at hl 5 rfl) ?_
            refine gf_X10_186 S hW dX10_command_115 ?_
            refine r_as (y := (nI 0)) ((PL_x _ _ _ _)) ?_
            refine lv_if_ne (tgt := 128) hxe hcd dX10_command_118 (by decide) (fun h => absurd h (by decide)) (fun _ => ?_)
            refine lv_aload_n hxe hcd dX10_command_121 rfl (lv_at hl 5 rfl) ?_
            refine lv_iconst (v := (nI 3)) hxe hcd dX10_command_122 (by decide) ?_
            refine r_calli (F := (mE Z B)) (r_runV hZ S hW (As := [.int (nI 3)]) (rest := []) (t_X10_behind l hZ B (PL ν ((((pp + wl w) + d40) + 1 + d65) + 1 + d103) 0 f1) H.size (mo := 3) (by omega) (pp := ((((pp + wl w) + d40) + 1 + d65) + 1 + d103)) (PL_h _ _ _ _) hen hn60 t htx (by omega) (PL_x _ _ _ _) (by omega)) k_X10_203 (r_recv hW (x := 0) (List.mem_range.mpr (by decide)) rfl rfl) (hl.1) rfl rfl (Nat.le_of_ble_eq_true rfl) ⟨Nat.le_of_ble_eq_true rfl, Nat.le_of_ble_eq_true rfl⟩ ⟨Nat.le_of_ble_eq_true rfl, Nat.le_of_ble_eq_true rfl⟩ dX10_command_123) hW (fun r123 u123 H locs hp123 hW => ?_)
            rcases hp123 with ⟨hk123, hr, hu⟩ | ⟨hk123, d123, hdg123, ⟨hd0123, hr, hu⟩ | ⟨hd0123, hr, hu⟩⟩
            · have hu : u123 = PL ν ((((pp + wl w) + d40) + 1 + d65) + 1 + d103) 1 f1 := by rw [hu, PM_PL]
              subst hu
              subst hr
              refine lv_istore (lv' := [(5, .int (nI 0)), (4, .int (nI (dvN t ((((pp + wl w) + d40) + 1 + d65) + 1) d103))), (3, .int (nI (dvN t (((pp + wl w) + d40) + 1) d65))), (2, .int (nI (dvN t (pp + wl w) d40))), (1, .int (nI w)), (0, .ref (B 0))]) hxe hcd dX10_command_126 hl (by decide) rfl (fun ls hl => ?_)
              refine lv_aload_n hxe hcd dX10_command_128 rfl (lv_at hl 5 rfl) ?_
              refine gf_X10_186 S hW dX10_command_129 ?_
              refine r_as (y := (nI 1)) ((PL_x _ _ _ _)) ?_
              refine lv_if_ne (tgt := 142) hxe hcd dX10_command_132 (by decide) (fun _ => ?_) (fun h => absurd h (by decide))
              refine r_vret S hr hlk (F := (mE Z B)) (u := (PL ν ((((pp + wl w) + d40) + 1 + d65) + 1 + d103) 1 f1)) hW ?_ dX10_command_142
              exact Or.inl ⟨f1, _, (cmF_w hok).trans (c1_d (by omega) (if_neg (by omega)) hdg40 hd040 (rs7_3 hc (bhF_d hk65 hdg65 hd065) (bhF_d hk103 hdg103 hd0103) (bhF_s hk123))), rfl⟩
            · have hu : u123 = PL ν (((((pp + wl w) + d40) + 1 + d65) + 1 + d103) + 1) 1 f1 := by rw [hu, PM_PL]
              subst hu
              subst hr
              refine lv_istore (lv' := [(5, .int (nI 0)), (4, .int (nI (dvN t ((((pp + wl w) + d40) + 1 + d65) + 1) d103))), (3, .int (nI (dvN t (((pp + wl w) + d40) + 1) d65))), (2, .int (nI (dvN t (pp + wl w) d40))), (1, .int (nI w)), (0, .ref (B 0))]) hxe hcd dX10_command_126 hl (by decide) rfl (fun ls hl => ?_)
              refine lv_aload_n hxe hcd dX10_command_128 rfl (lv_at hl 5 rfl) ?_
              refine gf_X10_186 S hW dX10_command_129 ?_
              refine r_as (y := (nI 1)) ((PL_x _ _ _ _)) ?_
              refine lv_if_ne (tgt := 142) hxe hcd dX10_command_132 (by decide) (fun _ => ?_) (fun h => absurd h (by decide))
              refine r_vret S hr hlk (F := (mE Z B)) (u := (PL ν (((((pp + wl w) + d40) + 1 + d65) + 1 + d103) + 1) 1 f1)) hW ?_ dX10_command_142
              exact Or.inl ⟨f1, _, (cmF_w hok).trans (c1_d (by omega) (if_neg (by omega)) hdg40 hd040 (rs7_3 hc (bhF_d hk65 hdg65 hd065) (bhF_d hk103 hdg103 hd0103) (bhF_0 hk123 hdg123 hd0123))), rfl⟩
            · have hu : u123 = PL ν (((((pp + wl w) + d40) + 1 + d65) + 1 + d103) + 1 + d123) 0 f1 := by rw [hu, PM_PL]
              subst hu
              subst hr
              have hlt123 := chT_in (by decide) hk123
              have hdi123 := DG_in (fun j hj => (htx j hj).2) (by omega) hdg123
              have hdv123 := DG_v (fun j hj => (htx j hj).2) (by decide) hdg123
              refine lv_istore (lv' := [(5, .int (nI (dvN t (((((pp + wl w) + d40) + 1 + d65) + 1 + d103) + 1) d123))), (4, .int (nI (dvN t ((((pp + wl w) + d40) + 1 + d65) + 1) d103))), (3, .int (nI (dvN t (((pp + wl w) + d40) + 1) d65))), (2, .int (nI (dvN t (pp + wl w) d40))), (1, .int (nI w)), (0, .ref (B 0))]) hxe hcd dX10_command_126 hl (by decide) rfl (fun ls hl => ?_)
              refine lv_aload_n hxe hcd dX10_command_128 rfl (lv_at hl 5 rfl) ?_
              refine gf_X10_186 S hW dX10_command_129 ?_
              refine r_as (y := (nI 0)) ((PL_x _ _ _ _)) ?_
              refine lv_if_ne (tgt := 142) hxe hcd dX10_command_132 (by decide) (fun h => absurd h (by decide)) (fun _ => ?_)
              refine lv_aload_n hxe hcd dX10_command_135 rfl (lv_at hl 5 rfl) ?_
              refine gf_X10_206 S hW dX10_command_136 ?_
              refine r_as (y := (nI dg)) (hdg) ?_
              refine n_ifne S (a := dg) (by omega) dX10_command_139 (tgt := 143) (by decide) (fun c139 => ?_) (fun c139 => ?_)
              · refine lv_aload_n hxe hcd dX10_command_143 rfl (lv_at hl 5 rfl) ?_
                refine lv_iload_n hxe hcd dX10_command_144 rfl (lv_at hl 4 rfl) ?_
                refine lv_iload_n hxe hcd dX10_command_145 rfl (lv_at hl 3 rfl) ?_
                refine lv_iload_n hxe hcd dX10_command_146 rfl (lv_at hl 2 rfl) ?_
                refine lv_iload hxe hcd dX10_command_147 (lv_at hl 1 rfl) ?_
                refine lv_iload hxe hcd dX10_command_149 (lv_at hl 0 rfl) ?_
                refine r_calli (F := (mE Z B)) (r_runV hZ S hW (As := [.int (nI w), .int (nI (dvN t (pp + wl w) d40)), .int (nI (dvN t (((pp + wl w) + d40) + 1) d65)), .int (nI (dvN t ((((pp + wl w) + d40) + 1 + d65) + 1) d103)), .int (nI (dvN t (((((pp + wl w) + d40) + 1 + d65) + 1 + d103) + 1) d123))]) (rest := []) (t_X10_does l hZ B (PL ν (((((pp + wl w) + d40) + 1 + d65) + 1 + d103) + 1 + d123) 0 f1) H.size (w := w) (a1 := (dvN t (pp + wl w) d40)) (a2 := (dvN t (((pp + wl w) + d40) + 1) d65)) (a3 := (dvN t ((((pp + wl w) + d40) + 1 + d65) + 1) d103)) (a4 := (dvN t (((((pp + wl w) + d40) + 1 + d65) + 1 + d103) + 1) d123)) hok.1 (by omega) (by omega) (by omega) (by omega) hVG hwd hwa) k_X10_209 (r_recv hW (x := 0) (List.mem_range.mpr (by decide)) rfl rfl) (hl.1) rfl rfl (Nat.le_of_ble_eq_true rfl) ⟨Nat.le_of_ble_eq_true rfl, Nat.le_of_ble_eq_true rfl⟩ ⟨Nat.le_of_ble_eq_true rfl, Nat.le_of_ble_eq_true rfl⟩ dX10_command_151) hW (fun r151 u151 H locs hp151 hW => ?_)
                rcases hp151 with ⟨o2, g2, v2, hex, rfl⟩ | ⟨hex, kf, hk1, hk2, rfl⟩
                · refine lv_istore (lv' := [(6, .int r151), (5, .int (nI (dvN t (((((pp + wl w) + d40) + 1 + d65) + 1 + d103) + 1) d123))), (4, .int (nI (dvN t ((((pp + wl w) + d40) + 1 + d65) + 1) d103))), (3, .int (nI (dvN t (((pp + wl w) + d40) + 1) d65))), (2, .int (nI (dvN t (pp + wl w) d40))), (1, .int (nI w)), (0, .ref (B 0))]) hxe hcd dX10_command_154 hl (by decide) rfl (fun ls hl => ?_)
                  refine r_vret S hr hlk (F := (mE Z B)) (u := (mE6 (PL ν (((((pp + wl w) + d40) + 1 + d65) + 1 + d103) + 1 + d123) 0 f1) o2 g2 v2)) hW ?_ dX10_command_156
                  refine Or.inr ⟨f1, _, _, _, _, _, _, (cmF_w hok).trans (c1_d (by omega) (if_neg (by omega)) hdg40 hd040 (rs7_4 hc (bhF_d hk65 hdg65 hd065) (bhF_d hk103 hdg103 hd0103) (bhF_d hk123 hdg123 hd0123))), by omega, by omega, hok.1, by omega, by omega, by omega, by omega, ?_⟩
                  exact Or.inr ⟨c139, Or.inl ⟨o2, g2, v2, hex, rfl⟩⟩
                · refine lv_istore (lv' := [(6, .int r151), (5, .int (nI (dvN t (((((pp + wl w) + d40) + 1 + d65) + 1 + d103) + 1) d123))), (4, .int (nI (dvN t ((((pp + wl w) + d40) + 1 + d65) + 1) d103))), (3, .int (nI (dvN t (((pp + wl w) + d40) + 1) d65))), (2, .int (nI (dvN t (pp + wl w) d40))), (1, .int (nI w)), (0, .ref (B 0))]) hxe hcd dX10_command_154 hl (by decide) rfl (fun ls hl => ?_)
                  refine r_vret S hr hlk (F := (mE Z B)) (u := (up1 (PL ν (((((pp + wl w) + d40) + 1 + d65) + 1 + d103) + 1 + d123) 0 f1) 0 (upd ((PL ν (((((pp + wl w) + d40) + 1 + d65) + 1 + d103) + 1 + d123) 0 f1) 0) 0 (nI kf)))) hW ?_ dX10_command_156
                  refine Or.inr ⟨f1, _, _, _, _, _, _, (cmF_w hok).trans (c1_d (by omega) (if_neg (by omega)) hdg40 hd040 (rs7_4 hc (bhF_d hk65 hdg65 hd065) (bhF_d hk103 hdg103 hd0103) (bhF_d hk123 hdg123 hd0123))), by omega, by omega, hok.1, by omega, by omega, by omega, by omega, ?_⟩
                  exact Or.inr ⟨c139, Or.inr ⟨hex, kf, hk1, hk2, rfl⟩⟩
              · refine r_vret S hr hlk (F := (mE Z B)) (u := (PL ν (((((pp + wl w) + d40) + 1 + d65) + 1 + d103) + 1 + d123) 0 f1)) hW ?_ dX10_command_142
                refine Or.inr ⟨f1, _, _, _, _, _, _, (cmF_w hok).trans (c1_d (by omega) (if_neg (by omega)) hdg40 hd040 (rs7_4 hc (bhF_d hk65 hdg65 hd065) (bhF_d hk103 hdg103 hd0103) (bhF_d hk123 hdg123 hd0123))), by omega, by omega, hok.1, by omega, by omega, by omega, by omega, ?_⟩
                exact Or.inl ⟨c139, rfl⟩
    · refine lv_iload_n hxe hcd dX10_command_23 rfl (lv_at hl 4 rfl) ?_
      refine lv_iconst (v := (nI 4)) hxe hcd dX10_command_24 (by decide) ?_
      refine n_eq S (a := w) (b := 4) (by omega) (by omega) dX10_command_25 (tgt := 44) (by decide) (fun c25 => absurd c25 (by omega)) (fun c25 => ?_)
      refine lv_aload_n hxe hcd dX10_command_28 rfl (lv_at hl 5 rfl) ?_
      refine lv_iload_n hxe hcd dX10_command_29 rfl (lv_at hl 4 rfl) ?_
      refine lv_bipush (v := (nI 6)) hxe hcd dX10_command_30 (by decide) ?_
      refine n_ge S (a := w) (b := 6) (by omega) (by omega) dX10_command_32 (tgt := 39) (by decide) (fun c32 => ?_) (fun c32 => absurd (by omega) c32)
      refine lv_iconst (v := (nI 1)) hxe hcd dX10_command_39 (by decide) ?_
      refine r_calli (F := (mE Z B)) (r_runV hZ S hW (As := [.int (nI 1)]) (rest := []) (t_X10_digits l hZ B (PL ν (pp + wl w) 0 f1) H.size (mo := 1) (by omega) (pp := (pp + wl w)) (PL_h _ _ _ _) hen hn60 t htx (by omega) (PL_x _ _ _ _) (by omega)) k_X10_197 (r_recv hW (x := 0) (List.mem_range.mpr (by decide)) rfl rfl) (hl.1) rfl rfl (Nat.le_of_ble_eq_true rfl) ⟨Nat.le_of_ble_eq_true rfl, Nat.le_of_ble_eq_true rfl⟩ ⟨Nat.le_of_ble_eq_true rfl, Nat.le_of_ble_eq_true rfl⟩ dX10_command_40) hW (fun r40 u40 H locs hp40 hW => ?_)
      obtain ⟨d40, hdg40, hp40⟩ := hp40
      rcases hp40 with ⟨hd040, hr, hu⟩ | ⟨hd040, hr, hu⟩
      · have hu : u40 = PL ν (pp + wl w) 1 f1 := by rw [hu, PM_PL]
        subst hu
        subst hr
        refine lv_istore_n (lv' := [(2, .int (nI 0)), (5, .int (nI 0)), (4, .int (nI 0)), (3, .int (nI 0)), (1, .int (nI w)), (0, .ref (B 0))]) hxe hcd dX10_command_43 rfl hl (by decide) rfl (fun ls hl => ?_)
        refine lv_iload_n hxe hcd dX10_command_44 rfl (lv_at hl 4 rfl) ?_
        refine lv_bipush (v := (nI 7)) hxe hcd dX10_command_45 (by decide) ?_
        refine n_eq S (a := w) (b := 7) (by omega) (by omega) dX10_command_47 (tgt := 56) (by decide) (fun c47 => absurd c47 (by omega)) (fun c47 => ?_)
        refine lv_iload_n hxe hcd dX10_command_50 rfl (lv_at hl 4 rfl) ?_
        refine lv_bipush (v := (nI 9)) hxe hcd dX10_command_51 (by decide) ?_
        refine n_ne S (a := w) (b := 9) (by omega) (by omega) dX10_command_53 (tgt := 69) (by decide) (fun c53 => absurd (by omega) c53) (fun c53 => ?_)
        refine lv_aload_n hxe hcd dX10_command_56 rfl (lv_at hl 5 rfl) ?_
        refine gf_X10_186 S hW dX10_command_57 ?_
        refine r_as (y := (nI 1)) ((PL_x _ _ _ _)) ?_
        refine lv_if_ne (tgt := 69) hxe hcd dX10_command_60 (by decide) (fun _ => ?_) (fun h => absurd h (by decide))
        refine lv_iload_n hxe hcd dX10_command_69 rfl (lv_at hl 4 rfl) ?_
        refine lv_bipush (v := (nI 11)) hxe hcd dX10_command_70 (by decide) ?_
        refine n_ne S (a := w) (b := 11) (by omega) (by omega) dX10_command_72 (tgt := 88) (by decide) (fun c72 => ?_) (fun c72 => absurd c72 (by omega))
        refine lv_iload_n hxe hcd dX10_command_88 rfl (lv_at hl 4 rfl) ?_
        refine lv_bipush (v := (nI 7)) hxe hcd dX10_command_89 (by decide) ?_
        refine n_ne S (a := w) (b := 7) (by omega) (by omega) dX10_command_91 (tgt := 108) (by decide) (fun c91 => ?_) (fun c91 => absurd c91 (by omega))
        refine lv_iload_n hxe hcd dX10_command_108 rfl (lv_at hl 4 rfl) ?_
        refine lv_bipush (v := (nI 7)) hxe hcd dX10_command_109 (by decide) ?_
        refine n_ne S (a := w) (b := 7) (by omega) (by omega) dX10_command_111 (tgt := 128) (by decide) (fun c111 => ?_) (fun c111 => absurd c111 (by omega))
        refine lv_aload_n hxe hcd dX10_command_128 rfl (lv_at hl 5 rfl) ?_
        refine gf_X10_186 S hW dX10_command_129 ?_
        refine r_as (y := (nI 1)) ((PL_x _ _ _ _)) ?_
        refine lv_if_ne (tgt := 142) hxe hcd dX10_command_132 (by decide) (fun _ => ?_) (fun h => absurd h (by decide))
        refine r_vret S hr hlk (F := (mE Z B)) (u := (PL ν (pp + wl w) 1 f1)) hW ?_ dX10_command_142
        exact Or.inl ⟨f1, _, (cmF_w hok).trans (c1_0 (by omega) (if_neg (by omega)) hdg40 hd040), rfl⟩
      · have hu : u40 = PL ν ((pp + wl w) + d40) 0 f1 := by rw [hu, PM_PL]
        subst hu
        subst hr
        have hdi40 := DG_in (fun j hj => (htx j hj).2) (by omega) hdg40
        have hdv40 := DG_v (fun j hj => (htx j hj).2) (by decide) hdg40
        refine lv_istore_n (lv' := [(2, .int (nI (dvN t (pp + wl w) d40))), (5, .int (nI 0)), (4, .int (nI 0)), (3, .int (nI 0)), (1, .int (nI w)), (0, .ref (B 0))]) hxe hcd dX10_command_43 rfl hl (by decide) rfl (fun ls hl => ?_)
        refine lv_iload_n hxe hcd dX10_command_44 rfl (lv_at hl 4 rfl) ?_
        refine lv_bipush (v := (nI 7)) hxe hcd dX10_command_45 (by decide) ?_
        refine n_eq S (a := w) (b := 7) (by omega) (by omega) dX10_command_47 (tgt := 56) (by decide) (fun c47 => absurd c47 (by omega)) (fun c47 => ?_)
        refine lv_iload_n hxe hcd dX10_command_50 rfl (lv_at hl 4 rfl) ?_
        refine lv_bipush (v := (nI 9)) hxe hcd dX10_command_51 (by decide) ?_
        refine n_ne S (a := w) (b := 9) (by omega) (by omega) dX10_command_53 (tgt := 69) (by decide) (fun c53 => absurd (by omega) c53) (fun c53 => ?_)
        refine lv_aload_n hxe hcd dX10_command_56 rfl (lv_at hl 5 rfl) ?_
        refine gf_X10_186 S hW dX10_command_57 ?_
        refine r_as (y := (nI 0)) ((PL_x _ _ _ _)) ?_
        refine lv_if_ne (tgt := 69) hxe hcd dX10_command_60 (by decide) (fun h => absurd h (by decide)) (fun _ => ?_)
        refine lv_aload_n hxe hcd dX10_command_63 rfl (lv_at hl 5 rfl) ?_
        refine lv_iconst (v := (nI 3)) hxe hcd dX10_command_64 (by decide) ?_
        refine r_calli (F := (mE Z B)) (r_runV hZ S hW (As := [.int (nI 3)]) (rest := []) (t_X10_behind l hZ B (PL ν ((pp + wl w) + d40) 0 f1) H.size (mo := 3) (by omega) (pp := ((pp + wl w) + d40)) (PL_h _ _ _ _) hen hn60 t htx (by omega) (PL_x _ _ _ _) (by omega)) k_X10_203 (r_recv hW (x := 0) (List.mem_range.mpr (by decide)) rfl rfl) (hl.1) rfl rfl (Nat.le_of_ble_eq_true rfl) ⟨Nat.le_of_ble_eq_true rfl, Nat.le_of_ble_eq_true rfl⟩ ⟨Nat.le_of_ble_eq_true rfl, Nat.le_of_ble_eq_true rfl⟩ dX10_command_65) hW (fun r65 u65 H locs hp65 hW => ?_)
        rcases hp65 with ⟨hk65, hr, hu⟩ | ⟨hk65, d65, hdg65, ⟨hd065, hr, hu⟩ | ⟨hd065, hr, hu⟩⟩
        · have hu : u65 = PL ν ((pp + wl w) + d40) 1 f1 := by rw [hu, PM_PL]
          subst hu
          subst hr
          refine lv_istore_n (lv' := [(3, .int (nI 0)), (2, .int (nI (dvN t (pp + wl w) d40))), (5, .int (nI 0)), (4, .int (nI 0)), (1, .int (nI w)), (0, .ref (B 0))]) hxe hcd dX10_command_68 rfl hl (by decide) rfl (fun ls hl => ?_)
          refine lv_iload_n hxe hcd dX10_command_69 rfl (lv_at hl 4 rfl) ?_
          refine lv_bipush (v := (nI 11)) hxe hcd dX10_command_70 (by decide) ?_
          refine n_ne S (a := w) (b := 11) (by omega) (by omega) dX10_command_72 (tgt := 88) (by decide) (fun c72 => ?_) (fun c72 => absurd c72 (by omega))
          refine lv_iload_n hxe hcd dX10_command_88 rfl (lv_at hl 4 rfl) ?_
          refine lv_bipush (v := (nI 7)) hxe hcd dX10_command_89 (by decide) ?_
          refine n_ne S (a := w) (b := 7) (by omega) (by omega) dX10_command_91 (tgt := 108) (by decide) (fun c91 => ?_) (fun c91 => absurd c91 (by omega))
          refine lv_iload_n hxe hcd dX10_command_108 rfl (lv_at hl 4 rfl) ?_
          refine lv_bipush (v := (nI 7)) hxe hcd dX10_command_109 (by decide) ?_
          refine n_ne S (a := w) (b := 7) (by omega) (by omega) dX10_command_111 (tgt := 128) (by decide) (fun c111 => ?_) (fun c111 => absurd c111 (by omega))
          refine lv_aload_n hxe hcd dX10_command_128 rfl (lv_at hl 5 rfl) ?_
          refine gf_X10_186 S hW dX10_command_129 ?_
          refine r_as (y := (nI 1)) ((PL_x _ _ _ _)) ?_
          refine lv_if_ne (tgt := 142) hxe hcd dX10_command_132 (by decide) (fun _ => ?_) (fun h => absurd h (by decide))
          refine r_vret S hr hlk (F := (mE Z B)) (u := (PL ν ((pp + wl w) + d40) 1 f1)) hW ?_ dX10_command_142
          exact Or.inl ⟨f1, _, (cmF_w hok).trans (c1_d (by omega) (if_neg (by omega)) hdg40 hd040 (rs9_n hc (bhF_s hk65))), rfl⟩
        · have hu : u65 = PL ν (((pp + wl w) + d40) + 1) 1 f1 := by rw [hu, PM_PL]
          subst hu
          subst hr
          refine lv_istore_n (lv' := [(3, .int (nI 0)), (2, .int (nI (dvN t (pp + wl w) d40))), (5, .int (nI 0)), (4, .int (nI 0)), (1, .int (nI w)), (0, .ref (B 0))]) hxe hcd dX10_command_68 rfl hl (by decide) rfl (fun ls hl => ?_)
          refine lv_iload_n hxe hcd dX10_command_69 rfl (lv_at hl 4 rfl) ?_
          refine lv_bipush (v := (nI 11)) hxe hcd dX10_command_70 (by decide) ?_
          refine n_ne S (a := w) (b := 11) (by omega) (by omega) dX10_command_72 (tgt := 88) (by decide) (fun c72 => ?_) (fun c72 => absurd c72 (by omega))
          refine lv_iload_n hxe hcd dX10_command_88 rfl (lv_at hl 4 rfl) ?_
          refine lv_bipush (v := (nI 7)) hxe hcd dX10_command_89 (by decide) ?_
          refine n_ne S (a := w) (b := 7) (by omega) (by omega) dX10_command_91 (tgt := 108) (by decide) (fun c91 => ?_) (fun c91 => absurd c91 (by omega))
          refine lv_iload_n hxe hcd dX10_command_108 rfl (lv_at hl 4 rfl) ?_
          refine lv_bipush (v := (nI 7)) hxe hcd dX10_command_109 (by decide) ?_
          refine n_ne S (a := w) (b := 7) (by omega) (by omega) dX10_command_111 (tgt := 128) (by decide) (fun c111 => ?_) (fun c111 => absurd c111 (by omega))
          refine lv_aload_n hxe hcd dX10_command_128 rfl (lv_at hl 5 rfl) ?_
          refine gf_X10_186 S hW dX10_command_129 ?_
          refine r_as (y := (nI 1)) ((PL_x _ _ _ _)) ?_
          refine lv_if_ne (tgt := 142) hxe hcd dX10_command_132 (by decide) (fun _ => ?_) (fun h => absurd h (by decide))
          refine r_vret S hr hlk (F := (mE Z B)) (u := (PL ν (((pp + wl w) + d40) + 1) 1 f1)) hW ?_ dX10_command_142
          exact Or.inl ⟨f1, _, (cmF_w hok).trans (c1_d (by omega) (if_neg (by omega)) hdg40 hd040 (rs9_n hc (bhF_0 hk65 hdg65 hd065))), rfl⟩
        · have hu : u65 = PL ν (((pp + wl w) + d40) + 1 + d65) 0 f1 := by rw [hu, PM_PL]
          subst hu
          subst hr
          have hlt65 := chT_in (by decide) hk65
          have hdi65 := DG_in (fun j hj => (htx j hj).2) (by omega) hdg65
          have hdv65 := DG_v (fun j hj => (htx j hj).2) (by decide) hdg65
          refine lv_istore_n (lv' := [(3, .int (nI (dvN t (((pp + wl w) + d40) + 1) d65))), (2, .int (nI (dvN t (pp + wl w) d40))), (5, .int (nI 0)), (4, .int (nI 0)), (1, .int (nI w)), (0, .ref (B 0))]) hxe hcd dX10_command_68 rfl hl (by decide) rfl (fun ls hl => ?_)
          refine lv_iload_n hxe hcd dX10_command_69 rfl (lv_at hl 4 rfl) ?_
          refine lv_bipush (v := (nI 11)) hxe hcd dX10_command_70 (by decide) ?_
          refine n_ne S (a := w) (b := 11) (by omega) (by omega) dX10_command_72 (tgt := 88) (by decide) (fun c72 => ?_) (fun c72 => absurd c72 (by omega))
          refine lv_iload_n hxe hcd dX10_command_88 rfl (lv_at hl 4 rfl) ?_
          refine lv_bipush (v := (nI 7)) hxe hcd dX10_command_89 (by decide) ?_
          refine n_ne S (a := w) (b := 7) (by omega) (by omega) dX10_command_91 (tgt := 108) (by decide) (fun c91 => ?_) (fun c91 => absurd c91 (by omega))
          refine lv_iload_n hxe hcd dX10_command_108 rfl (lv_at hl 4 rfl) ?_
          refine lv_bipush (v := (nI 7)) hxe hcd dX10_command_109 (by decide) ?_
          refine n_ne S (a := w) (b := 7) (by omega) (by omega) dX10_command_111 (tgt := 128) (by decide) (fun c111 => ?_) (fun c111 => absurd c111 (by omega))
          refine lv_aload_n hxe hcd dX10_command_128 rfl (lv_at hl 5 rfl) ?_
          refine gf_X10_186 S hW dX10_command_129 ?_
          refine r_as (y := (nI 0)) ((PL_x _ _ _ _)) ?_
          refine lv_if_ne (tgt := 142) hxe hcd dX10_command_132 (by decide) (fun h => absurd h (by decide)) (fun _ => ?_)
          refine lv_aload_n hxe hcd dX10_command_135 rfl (lv_at hl 5 rfl) ?_
          refine gf_X10_206 S hW dX10_command_136 ?_
          refine r_as (y := (nI dg)) (hdg) ?_
          refine n_ifne S (a := dg) (by omega) dX10_command_139 (tgt := 143) (by decide) (fun c139 => ?_) (fun c139 => ?_)
          · refine lv_aload_n hxe hcd dX10_command_143 rfl (lv_at hl 5 rfl) ?_
            refine lv_iload_n hxe hcd dX10_command_144 rfl (lv_at hl 4 rfl) ?_
            refine lv_iload_n hxe hcd dX10_command_145 rfl (lv_at hl 1 rfl) ?_
            refine lv_iload_n hxe hcd dX10_command_146 rfl (lv_at hl 0 rfl) ?_
            refine lv_iload hxe hcd dX10_command_147 (lv_at hl 3 rfl) ?_
            refine lv_iload hxe hcd dX10_command_149 (lv_at hl 2 rfl) ?_
            refine r_calli (F := (mE Z B)) (r_runV hZ S hW (As := [.int (nI w), .int (nI (dvN t (pp + wl w) d40)), .int (nI (dvN t (((pp + wl w) + d40) + 1) d65)), .int (nI 0), .int (nI 0)]) (rest := []) (t_X10_does l hZ B (PL ν (((pp + wl w) + d40) + 1 + d65) 0 f1) H.size (w := w) (a1 := (dvN t (pp + wl w) d40)) (a2 := (dvN t (((pp + wl w) + d40) + 1) d65)) (a3 := 0) (a4 := 0) hok.1 (by omega) (by omega) (by omega) (by omega) hVG hwd hwa) k_X10_209 (r_recv hW (x := 0) (List.mem_range.mpr (by decide)) rfl rfl) (hl.1) rfl rfl (Nat.le_of_ble_eq_true rfl) ⟨Nat.le_of_ble_eq_true rfl, Nat.le_of_ble_eq_true rfl⟩ ⟨Nat.le_of_ble_eq_true rfl, Nat.le_of_ble_eq_true rfl⟩ dX10_command_151) hW (fun r151 u151 H locs hp151 hW => ?_)
            rcases hp151 with ⟨o2, g2, v2, hex, rfl⟩ | ⟨hex, kf, hk1, hk2, rfl⟩
            · refine lv_istore (lv' := [(6, .int r151), (3, .int (nI (dvN t (((pp + wl w) + d40) + 1) d65))), (2, .int (nI (dvN t (pp + wl w) d40))), (5, .int (nI 0)), (4, .int (nI 0)), (1, .int (nI w)), (0, .ref (B 0))]) hxe hcd dX10_command_154 hl (by decide) rfl (fun ls hl => ?_)
              refine r_vret S hr hlk (F := (mE Z B)) (u := (mE6 (PL ν (((pp + wl w) + d40) + 1 + d65) 0 f1) o2 g2 v2)) hW ?_ dX10_command_156
              refine Or.inr ⟨f1, _, _, _, _, _, _, (cmF_w hok).trans (c1_d (by omega) (if_neg (by omega)) hdg40 hd040 (rs9_s hc (bhF_d hk65 hdg65 hd065))), by omega, by omega, hok.1, by omega, by omega, by omega, by omega, ?_⟩
              exact Or.inr ⟨c139, Or.inl ⟨o2, g2, v2, hex, rfl⟩⟩
            · refine lv_istore (lv' := [(6, .int r151), (3, .int (nI (dvN t (((pp + wl w) + d40) + 1) d65))), (2, .int (nI (dvN t (pp + wl w) d40))), (5, .int (nI 0)), (4, .int (nI 0)), (1, .int (nI w)), (0, .ref (B 0))]) hxe hcd dX10_command_154 hl (by decide) rfl (fun ls hl => ?_)
              refine r_vret S hr hlk (F := (mE Z B)) (u := (up1 (PL ν (((pp + wl w) + d40) + 1 + d65) 0 f1) 0 (upd ((PL ν (((pp + wl w) + d40) + 1 + d65) 0 f1) 0) 0 (nI kf)))) hW ?_ dX10_command_156
              refine Or.inr ⟨f1, _, _, _, _, _, _, (cmF_w hok).trans (c1_d (by omega) (if_neg (by omega)) hdg40 hd040 (rs9_s hc (bhF_d hk65 hdg65 hd065))), by omega, by omega, hok.1, by omega, by omega, by omega, by omega, ?_⟩
              exact Or.inr ⟨c139, Or.inr ⟨hex, kf, hk1, hk2, rfl⟩⟩
          · refine r_vret S hr hlk (F := (mE Z B)) (u := (PL ν (((pp + wl w) + d40) + 1 + d65) 0 f1)) hW ?_ dX10_command_142
            refine Or.inr ⟨f1, _, _, _, _, _, _, (cmF_w hok).trans (c1_d (by omega) (if_neg (by omega)) hdg40 hd040 (rs9_s hc (bhF_d hk65 hdg65 hd065))), by omega, by omega, hok.1, by omega, by omega, by omega, by omega, ?_⟩
            exact Or.inl ⟨c139, rfl⟩
    · refine lv_iload_n hxe hcd dX10_command_23 rfl (lv_at hl 4 rfl) ?_
      refine lv_iconst (v := (nI 4)) hxe hcd dX10_command_24 (by decide) ?_
      refine n_eq S (a := w) (b := 4) (by omega) (by omega) dX10_command_25 (tgt := 44) (by decide) (fun c25 => absurd c25 (by omega)) (fun c25 => ?_)
      refine lv_aload_n hxe hcd dX10_command_28 rfl (lv_at hl 5 rfl) ?_
      refine lv_iload_n hxe hcd dX10_command_29 rfl (lv_at hl 4 rfl) ?_
      refine lv_bipush (v := (nI 6)) hxe hcd dX10_command_30 (by decide) ?_
      refine n_ge S (a := w) (b := 6) (by omega) (by omega) dX10_command_32 (tgt := 39) (by decide) (fun c32 => ?_) (fun c32 => absurd (by omega) c32)
      refine lv_iconst (v := (nI 1)) hxe hcd dX10_command_39 (by decide) ?_
      refine r_calli (F := (mE Z B)) (r_runV hZ S hW (As := [.int (nI 1)]) (rest := []) (t_X10_digits l hZ B (PL ν (pp + wl w) 0 f1) H.size (mo := 1) (by omega) (pp := (pp + wl w)) (PL_h _ _ _ _) hen hn60 t htx (by omega) (PL_x _ _ _ _) (by omega)) k_X10_197 (r_recv hW (x := 0) (List.mem_range.mpr (by decide)) rfl rfl) (hl.1) rfl rfl (Nat.le_of_ble_eq_true rfl) ⟨Nat.le_of_ble_eq_true rfl, Nat.le_of_ble_eq_true rfl⟩ ⟨Nat.le_of_ble_eq_true rfl, Nat.le_of_ble_eq_true rfl⟩ dX10_command_40) hW (fun r40 u40 H locs hp40 hW => ?_)
      obtain ⟨d40, hdg40, hp40⟩ := hp40
      rcases hp40 with ⟨hd040, hr, hu⟩ | ⟨hd040, hr, hu⟩
      · have hu : u40 = PL ν (pp + wl w) 1 f1 := by rw [hu, PM_PL]
        subst hu
        subst hr
        refine lv_istore_n (lv' := [(2, .int (nI 0)), (5, .int (nI 0)), (4, .int (nI 0)), (3, .int (nI 0)), (1, .int (nI w)), (0, .ref (B 0))]) hxe hcd dX10_command_43 rfl hl (by decide) rfl (fun ls hl => ?_)
        refine lv_iload_n hxe hcd dX10_command_44 rfl (lv_at hl 4 rfl) ?_
        refine lv_bipush (v := (nI 7)) hxe hcd dX10_command_45 (by decide) ?_
        refine n_eq S (a := w) (b := 7) (by omega) (by omega) dX10_command_47 (tgt := 56) (by decide) (fun c47 => absurd c47 (by omega)) (fun c47 => ?_)
        refine lv_iload_n hxe hcd dX10_command_50 rfl (lv_at hl 4 rfl) ?_
        refine lv_bipush (v := (nI 9)) hxe hcd dX10_command_51 (by decide) ?_
        refine n_ne S (a := w) (b := 9) (by omega) (by omega) dX10_command_53 (tgt := 69) (by decide) (fun c53 => ?_) (fun c53 => absurd c53 (by omega))
        refine lv_iload_n hxe hcd dX10_command_69 rfl (lv_at hl 4 rfl) ?_
        refine lv_bipush (v := (nI 11)) hxe hcd dX10_command_70 (by decide) ?_
        refine n_ne S (a := w) (b := 11) (by omega) (by omega) dX10_command_72 (tgt := 88) (by decide) (fun c72 => absurd (by omega) c72) (fun c72 => ?_)
        refine lv_aload_n hxe hcd dX10_command_75 rfl (lv_at hl 5 rfl) ?_
        refine gf_X10_186 S hW dX10_command_76 ?_
        refine r_as (y := (nI 1)) ((PL_x _ _ _ _)) ?_
        refine lv_if_ne (tgt := 88) hxe hcd dX10_command_79 (by decide) (fun _ => ?_) (fun h => absurd h (by decide))
        refine lv_iload_n hxe hcd dX10_command_88 rfl (lv_at hl 4 rfl) ?_
        refine lv_bipush (v := (nI 7)) hxe hcd dX10_command_89 (by decide) ?_
        refine n_ne S (a := w) (b := 7) (by omega) (by omega) dX10_command_91 (tgt := 108) (by decide) (fun c91 => ?_) (fun c91 => absurd c91 (by omega))
        refine lv_iload_n hxe hcd dX10_command_108 rfl (lv_at hl 4 rfl) ?_
        refine lv_bipush (v := (nI 7)) hxe hcd dX10_command_109 (by decide) ?_
        refine n_ne S (a := w) (b := 7) (by omega) (by omega) dX10_command_111 (tgt := 128) (by decide) (fun c111 => ?_) (fun c111 => absurd c111 (by omega))
        refine lv_aload_n hxe hcd dX10_command_128 rfl (lv_at hl 5 rfl) ?_
        refine gf_X10_186 S hW dX10_command_129 ?_
        refine r_as (y := (nI 1)) ((PL_x _ _ _ _)) ?_
        refine lv_if_ne (tgt := 142) hxe hcd dX10_command_132 (by decide) (fun _ => ?_) (fun h => absurd h (by decide))
        refine r_vret S hr hlk (F := (mE Z B)) (u := (PL ν (pp + wl w) 1 f1)) hW ?_ dX10_command_142
        exact Or.inl ⟨f1, _, (cmF_w hok).trans (c1_0 (by omega) (if_neg (by omega)) hdg40 hd040), rfl⟩
      · have hu : u40 = PL ν ((pp + wl w) + d40) 0 f1 := by rw [hu, PM_PL]
        subst hu
        subst hr
        have hdi40 := DG_in (fun j hj => (htx j hj).2) (by omega) hdg40
        have hdv40 := DG_v (fun j hj => (htx j hj).2) (by decide) hdg40
        refine lv_istore_n (lv' := [(2, .int (nI (dvN t (pp + wl w) d40))), (5, .int (nI 0)), (4, .int (nI 0)), (3, .int (nI 0)), (1, .int (nI w)), (0, .ref (B 0))]) hxe hcd dX10_command_43 rfl hl (by decide) rfl (fun ls hl => ?_)
        refine lv_iload_n hxe hcd dX10_command_44 rfl (lv_at hl 4 rfl) ?_
        refine lv_bipush (v := (nI 7)) hxe hcd dX10_command_45 (by decide) ?_
        refine n_eq S (a := w) (b := 7) (by omega) (by omega) dX10_command_47 (tgt := 56) (by decide) (fun c47 => absurd c47 (by omega)) (fun c47 => ?_)
        refine lv_iload_n hxe hcd dX10_command_50 rfl (lv_at hl 4 rfl) ?_
        refine lv_bipush (v := (nI 9)) hxe hcd dX10_command_51 (by decide) ?_
        refine n_ne S (a := w) (b := 9) (by omega) (by omega) dX10_command_53 (tgt := 69) (by decide) (fun c53 => ?_) (fun c53 => absurd c53 (by omega))
        refine lv_iload_n hxe hcd dX10_command_69 rfl (lv_at hl 4 rfl) ?_
        refine lv_bipush (v := (nI 11)) hxe hcd dX10_command_70 (by decide) ?_
        refine n_ne S (a := w) (b := 11) (by omega) (by omega) dX10_command_72 (tgt := 88) (by decide) (fun c72 => absurd (by omega) c72) (fun c72 => ?_)
        refine lv_aload_n hxe hcd dX10_command_75 rfl (lv_at hl 5 rfl) ?_
        refine gf_X10_186 S hW dX10_command_76 ?_
        refine r_as (y := (nI 0)) ((PL_x _ _ _ _)) ?_
        refine lv_if_ne (tgt := 88) hxe hcd dX10_command_79 (by decide) (fun h => absurd h (by decide)) (fun _ => ?_)
        refine lv_aload_n hxe hcd dX10_command_82 rfl (lv_at hl 5 rfl) ?_
        refine lv_iconst (v := (nI 1)) hxe hcd dX10_command_83 (by decide) ?_
        refine r_calli (F := (mE Z B)) (r_runV hZ S hW (As := [.int (nI 1)]) (rest := []) (t_X10_behind l hZ B (PL ν ((pp + wl w) + d40) 0 f1) H.size (mo := 1) (by omega) (pp := ((pp + wl w) + d40)) (PL_h _ _ _ _) hen hn60 t htx (by omega) (PL_x _ _ _ _) (by omega)) k_X10_203 (r_recv hW (x := 0) (List.mem_range.mpr (by decide)) rfl rfl) (hl.1) rfl rfl (Nat.le_of_ble_eq_true rfl) ⟨Nat.le_of_ble_eq_true rfl, Nat.le_of_ble_eq_true rfl⟩ ⟨Nat.le_of_ble_eq_true rfl, Nat.le_of_ble_eq_true rfl⟩ dX10_command_84) hW (fun r84 u84 H locs hp84 hW => ?_)
        rcases hp84 with ⟨hk84, hr, hu⟩ | ⟨hk84, d84, hdg84, ⟨hd084, hr, hu⟩ | ⟨hd084, hr, hu⟩⟩
        · have hu : u84 = PL ν ((pp + wl w) + d40) 1 f1 := by rw [hu, PM_PL]
          subst hu
          subst hr
          refine lv_istore_n (lv' := [(3, .int (nI 0)), (2, .int (nI (dvN t (pp + wl w) d40))), (5, .int (nI 0)), (4, .int (nI 0)), (1, .int (nI w)), (0, .ref (B 0))]) hxe hcd dX10_command_87 rfl hl (by decide) rfl (fun ls hl => ?_)
          refine lv_iload_n hxe hcd dX10_command_88 rfl (lv_at hl 4 rfl) ?_
          refine lv_bipush (v := (nI 7)) hxe hcd dX10_command_89 (by decide) ?_
          refine n_ne S (a := w) (b := 7) (by omega) (by omega) dX10_command_91 (tgt := 108) (by decide) (fun c91 => ?_) (fun c91 => absurd c91 (by omega))
          refine lv_iload_n hxe hcd dX10_command_108 rfl (lv_at hl 4 rfl) ?_
          refine lv_bipush (v := (nI 7)) hxe hcd dX10_command_109 (by decide) ?_
          refine n_ne S (a := w) (b := 7) (by omega) (by omega) dX10_command_111 (tgt := 128) (by decide) (fun c111 => ?_) (fun c111 => absurd c111 (by omega))
          refine lv_aload_n hxe hcd dX10_command_128 rfl (lv_at hl 5 rfl) ?_
          refine gf_X10_186 S hW dX10_command_129 ?_
          refine r_as (y := (nI 1)) ((PL_x _ _ _ _)) ?_
          refine lv_if_ne (tgt := 142) hxe hcd dX10_command_132 (by decide) (fun _ => ?_) (fun h => absurd h (by decide))
          refine r_vret S hr hlk (F := (mE Z B)) (u := (PL ν ((pp + wl w) + d40) 1 f1)) hW ?_ dX10_command_142
          exact Or.inl ⟨f1, _, (cmF_w hok).trans (c1_d (by omega) (if_neg (by omega)) hdg40 hd040 (rs11_n hc (bhF_s hk84))), rfl⟩
        · have hu : u84 = PL ν (((pp + wl w) + d40) + 1) 1 f1 := by rw [hu, PM_PL]
          subst hu
          subst hr
          refine lv_istore_n (lv' := [(3, .int (nI 0)), (2, .int (nI (dvN t (pp + wl w) d40))), (5, .int (nI 0)), (4, .int (nI 0)), (1, .int (nI w)), (0, .ref (B 0))]) hxe hcd dX10_command_87 rfl hl (by decide) rfl (fun ls hl => ?_)
          refine lv_iload_n hxe hcd dX10_command_88 rfl (lv_at hl 4 rfl) ?_
          refine lv_bipush (v := (nI 7)) hxe hcd dX10_command_89 (by decide) ?_
          refine n_ne S (a := w) (b := 7) (by omega) (by omega) dX10_command_91 (tgt := 108) (by decide) (fun c91 => ?_) (fun c91 => absurd c91 (by omega))
          refine lv_iload_n hxe hcd dX10_command_108 rfl (lv_at hl 4 rfl) ?_
          refine lv_bipush (v := (nI 7)) hxe hcd dX10_command_109 (by decide) ?_
          refine n_ne S (a := w) (b := 7) (by omega) (by omega) dX10_command_111 (tgt := 128) (by decide) (fun c111 => ?_) (fun c111 => absurd c111 (by omega))
          refine lv_aload_n hxe hcd dX10_command_128 rfl (lv_at hl 5 rfl) ?_
          refine gf_X10_186 S hW dX10_command_129 ?_
          refine r_as (y := (nI 1)) ((PL_x _ _ _ _)) ?_
          refine lv_if_ne (tgt := 142) hxe hcd dX10_command_132 (by decide) (fun _ => ?_) (fun h => absurd h (by decide))
          refine r_vret S hr hlk (F := (mE Z B)) (u := (PL ν (((pp + wl w) + d40) + 1) 1 f1)) hW ?_ dX10_command_142
          exact Or.inl ⟨f1, _, (cmF_w hok).trans (c1_d (by omega) (if_neg (by omega)) hdg40 hd040 (rs11_n hc (bhF_0 hk84 hdg84 hd084))), rfl⟩
        · have hu : u84 = PL ν (((pp + wl w) + d40) + 1 + d84) 0 f1 := by rw [hu, PM_PL]
          subst hu
          subst hr
          have hlt84 := chT_in (by decide) hk84
          have hdi84 := DG_in (fun j hj => (htx j hj).2) (by omega) hdg84
          have hdv84 := DG_v (fun j hj => (htx j hj).2) (by decide) hdg84
          refine lv_istore_n (lv' := [(3, .int (nI (dvN t (((pp + wl w) + d40) + 1) d84))), (2, .int (nI (dvN t (pp + wl w) d40))), (5, .int (nI 0)), (4, .int (nI 0)), (1, .int (nI w)), (0, .ref (B 0))]) hxe hcd dX10_command_87 rfl hl (by decide) rfl (fun ls hl => ?_)
          refine lv_iload_n hxe hcd dX10_command_88 rfl (lv_at hl 4 rfl) ?_
          refine lv_bipush (v := (nI 7)) hxe hcd dX10_command_89 (by decide) ?_
          refine n_ne S (a := w) (b := 7) (by omega) (by omega) dX10_command_91 (tgt := 108) (by decide) (fun c91 => ?_) (fun c91 => absurd c91 (by omega))
          refine lv_iload_n hxe hcd dX10_command_108 rfl (lv_at hl 4 rfl) ?_
          refine lv_bipush (v := (nI 7)) hxe hcd dX10_command_109 (by decide) ?_
          refine n_ne S (a := w) (b := 7) (by omega) (by omega) dX10_command_111 (tgt := 128) (by decide) (fun c111 => ?_) (fun c111 => absurd c111 (by omega))
          refine lv_aload_n hxe hcd dX10_command_128 rfl (lv_at hl 5 rfl) ?_
          refine gf_X10_186 S hW dX10_command_129 ?_
          refine r_as (y := (nI 0)) ((PL_x _ _ _ _)) ?_
          refine lv_if_ne (tgt := 142) hxe hcd dX10_command_132 (by decide) (fun h => absurd h (by decide)) (fun _ => ?_)
          refine lv_aload_n hxe hcd dX10_command_135 rfl (lv_at hl 5 rfl) ?_
          refine gf_X10_206 S hW dX10_command_136 ?_
          refine r_as (y := (nI dg)) (hdg) ?_
          refine n_ifne S (a := dg) (by omega) dX10_command_139 (tgt := 143) (by decide) (fun c139 => ?_) (fun c139 => ?_)
          · refine lv_aload_n hxe hcd dX10_command_143 rfl (lv_at hl 5 rfl) ?_
            refine lv_iload_n hxe hcd dX10_command_144 rfl (lv_at hl 4 rfl) ?_
            refine lv_iload_n hxe hcd dX10_command_145 rfl (lv_at hl 1 rfl) ?_
            refine lv_iload_n hxe hcd dX10_command_146 rfl (lv_at hl 0 rfl) ?_
            refine lv_iload hxe hcd dX10_command_147 (lv_at hl 3 rfl) ?_
            refine lv_iload hxe hcd dX10_command_149 (lv_at hl 2 rfl) ?_
            refine r_calli (F := (mE Z B)) (r_runV hZ S hW (As := [.int (nI w), .int (nI (dvN t (pp + wl w) d40)), .int (nI (dvN t (((pp + wl w) + d40) + 1) d84)), .int (nI 0), .int (nI 0)]) (rest := []) (t_X10_does l hZ B (PL ν (((pp + wl w) + d40) + 1 + d84) 0 f1) H.size (w := w) (a1 := (dvN t (pp + wl w) d40)) (a2 := (dvN t (((pp + wl w) + d40) + 1) d84)) (a3 := 0) (a4 := 0) hok.1 (by omega) (by omega) (by omega) (by omega) hVG hwd hwa) k_X10_209 (r_recv hW (x := 0) (List.mem_range.mpr (by decide)) rfl rfl) (hl.1) rfl rfl (Nat.le_of_ble_eq_true rfl) ⟨Nat.le_of_ble_eq_true rfl, Nat.le_of_ble_eq_true rfl⟩ ⟨Nat.le_of_ble_eq_true rfl, Nat.le_of_ble_eq_true rfl⟩ dX10_command_151) hW (fun r151 u151 H locs hp151 hW => ?_)
            rcases hp151 with ⟨o2, g2, v2, hex, rfl⟩ | ⟨hex, kf, hk1, hk2, rfl⟩
            · refine lv_istore (lv' := [(6, .int r151), (3, .int (nI (dvN t (((pp + wl w) + d40) + 1) d84))), (2, .int (nI (dvN t (pp + wl w) d40))), (5, .int (nI 0)), (4, .int (nI 0)), (1, .int (nI w)), (0, .ref (B 0))]) hxe hcd dX10_command_154 hl (by decide) rfl (fun ls hl => ?_)
              refine r_vret S hr hlk (F := (mE Z B)) (u := (mE6 (PL ν (((pp + wl w) + d40) + 1 + d84) 0 f1) o2 g2 v2)) hW ?_ dX10_command_156
              refine Or.inr ⟨f1, _, _, _, _, _, _, (cmF_w hok).trans (c1_d (by omega) (if_neg (by omega)) hdg40 hd040 (rs11_s hc (bhF_d hk84 hdg84 hd084))), by omega, by omega, hok.1, by omega, by omega, by omega, by omega, ?_⟩
              exact Or.inr ⟨c139, Or.inl ⟨o2, g2, v2, hex, rfl⟩⟩
            · refine lv_istore (lv' := [(6, .int r151), (3, .int (nI (dvN t (((pp + wl w) + d40) + 1) d84))), (2, .int (nI (dvN t (pp + wl w) d40))), (5, .int (nI 0)), (4, .int (nI 0)), (1, .int (nI w)), (0, .ref (B 0))]) hxe hcd dX10_command_154 hl (by decide) rfl (fun ls hl => ?_)
              refine r_vret S hr hlk (F := (mE Z B)) (u := (up1 (PL ν (((pp + wl w) + d40) + 1 + d84) 0 f1) 0 (upd ((PL ν (((pp + wl w) + d40) + 1 + d84) 0 f1) 0) 0 (nI kf)))) hW ?_ dX10_command_156
              refine Or.inr ⟨f1, _, _, _, _, _, _, (cmF_w hok).trans (c1_d (by omega) (if_neg (by omega)) hdg40 hd040 (rs11_s hc (bhF_d hk84 hdg84 hd084))), by omega, by omega, hok.1, by omega, by omega, by omega, by omega, ?_⟩
              exact Or.inr ⟨c139, Or.inr ⟨hex, kf, hk1, hk2, rfl⟩⟩
          · refine r_vret S hr hlk (F := (mE Z B)) (u := (PL ν (((pp + wl w) + d40) + 1 + d84) 0 f1)) hW ?_ dX10_command_142
            refine Or.inr ⟨f1, _, _, _, _, _, _, (cmF_w hok).trans (c1_d (by omega) (if_neg (by omega)) hdg40 hd040 (rs11_s hc (bhF_d hk84 hdg84 hd084))), by omega, by omega, hok.1, by omega, by omega, by omega, by omega, ?_⟩
            exact Or.inl ⟨c139, rfl⟩
    · refine lv_iload_n hxe hcd dX10_command_23 rfl (lv_at hl 4 rfl) ?_
      refine lv_iconst (v := (nI 4)) hxe hcd dX10_command_24 (by decide) ?_
      refine n_eq S (a := w) (b := 4) (by omega) (by omega) dX10_command_25 (tgt := 44) (by decide) (fun c25 => absurd c25 (by omega)) (fun c25 => ?_)
      refine lv_aload_n hxe hcd dX10_command_28 rfl (lv_at hl 5 rfl) ?_
      refine lv_iload_n hxe hcd dX10_command_29 rfl (lv_at hl 4 rfl) ?_
      refine lv_bipush (v := (nI 6)) hxe hcd dX10_command_30 (by decide) ?_
      refine n_ge S (a := w) (b := 6) (by omega) (by omega) dX10_command_32 (tgt := 39) (by decide) (fun c32 => absurd c32 (by omega)) (fun c32 => ?_)
      refine lv_iconst (v := (nI 3)) hxe hcd dX10_command_35 (by decide) ?_
      refine lv_goto (tgt := 40) hxe hcd dX10_command_36 (by decide) ?_
      refine r_calli (F := (mE Z B)) (r_runV hZ S hW (As := [.int (nI 3)]) (rest := []) (t_X10_digits l hZ B (PL ν (pp + wl w) 0 f1) H.size (mo := 3) (by omega) (pp := (pp + wl w)) (PL_h _ _ _ _) hen hn60 t htx (by omega) (PL_x _ _ _ _) (by omega)) k_X10_197 (r_recv hW (x := 0) (List.mem_range.mpr (by decide)) rfl rfl) (hl.1) rfl rfl (Nat.le_of_ble_eq_true rfl) ⟨Nat.le_of_ble_eq_true rfl, Nat.le_of_ble_eq_true rfl⟩ ⟨Nat.le_of_ble_eq_true rfl, Nat.le_of_ble_eq_true rfl⟩ dX10_command_40) hW (fun r40 u40 H locs hp40 hW => ?_)
      obtain ⟨d40, hdg40, hp40⟩ := hp40
      rcases hp40 with ⟨hd040, hr, hu⟩ | ⟨hd040, hr, hu⟩
      · have hu : u40 = PL ν (pp + wl w) 1 f1 := by rw [hu, PM_PL]
        subst hu
        subst hr
        refine lv_istore_n (lv' := [(2, .int (nI 0)), (5, .int (nI 0)), (4, .int (nI 0)), (3, .int (nI 0)), (1, .int (nI w)), (0, .ref (B 0))]) hxe hcd dX10_command_43 rfl hl (by decide) rfl (fun ls hl => ?_)
        refine lv_iload_n hxe hcd dX10_command_44 rfl (lv_at hl 4 rfl) ?_
        refine lv_bipush (v := (nI 7)) hxe hcd dX10_command_45 (by decide) ?_
        refine n_eq S (a := w) (b := 7) (by omega) (by omega) dX10_command_47 (tgt := 56) (by decide) (fun c47 => absurd c47 (by omega)) (fun c47 => ?_)
        refine lv_iload_n hxe hcd dX10_command_50 rfl (lv_at hl 4 rfl) ?_
        refine lv_bipush (v := (nI 9)) hxe hcd dX10_command_51 (by decide) ?_
        refine n_ne S (a := w) (b := 9) (by omega) (by omega) dX10_command_53 (tgt := 69) (by decide) (fun c53 => ?_) (fun c53 => absurd c53 (by omega))
        refine lv_iload_n hxe hcd dX10_command_69 rfl (lv_at hl 4 rfl) ?_
        refine lv_bipush (v := (nI 11)) hxe hcd dX10_command_70 (by decide) ?_
        refine n_ne S (a := w) (b := 11) (by omega) (by omega) dX10_command_72 (tgt := 88) (by decide) (fun c72 => ?_) (fun c72 => absurd c72 (by omega))
        refine lv_iload_n hxe hcd dX10_command_88 rfl (lv_at hl 4 rfl) ?_
        refine lv_bipush (v := (nI 7)) hxe hcd dX10_command_89 (by decide) ?_
        refine n_ne S (a := w) (b := 7) (by omega) (by omega) dX10_command_91 (tgt := 108) (by decide) (fun c91 => ?_) (fun c91 => absurd c91 (by omega))
        refine lv_iload_n hxe hcd dX10_command_108 rfl (lv_at hl 4 rfl) ?_
        refine lv_bipush (v := (nI 7)) hxe hcd dX10_command_109 (by decide) ?_
        refine n_ne S (a := w) (b := 7) (by omega) (by omega) dX10_command_111 (tgt := 128) (by decide) (fun c111 => ?_) (fun c111 => absurd c111 (by omega))
        refine lv_aload_n hxe hcd dX10_command_128 rfl (lv_at hl 5 rfl) ?_
        refine gf_X10_186 S hW dX10_command_129 ?_
        refine r_as (y := (nI 1)) ((PL_x _ _ _ _)) ?_
        refine lv_if_ne (tgt := 142) hxe hcd dX10_command_132 (by decide) (fun _ => ?_) (fun h => absurd h (by decide))
        refine r_vret S hr hlk (F := (mE Z B)) (u := (PL ν (pp + wl w) 1 f1)) hW ?_ dX10_command_142
        exact Or.inl ⟨f1, _, (cmF_w hok).trans (c1_0 (by omega) (if_pos (by omega)) hdg40 hd040), rfl⟩
      · have hu : u40 = PL ν ((pp + wl w) + d40) 0 f1 := by rw [hu, PM_PL]
        subst hu
        subst hr
        have hdi40 := DG_in (fun j hj => (htx j hj).2) (by omega) hdg40
        have hdv40 := DG_v (fun j hj => (htx j hj).2) (by decide) hdg40
        refine lv_istore_n (lv' := [(2, .int (nI (dvN t (pp + wl w) d40))), (5, .int (nI 0)), (4, .int (nI 0)), (3, .int (nI 0)), (1, .int (nI w)), (0, .ref (B 0))]) hxe hcd dX10_command_43 rfl hl (by decide) rfl (fun ls hl => ?_)
        refine lv_iload_n hxe hcd dX10_command_44 rfl (lv_at hl 4 rfl) ?_
        refine lv_bipush (v := (nI 7)) hxe hcd dX10_command_45 (by decide) ?_
        refine n_eq S (a := w) (b := 7) (by omega) (by omega) dX10_command_47 (tgt := 56) (by decide) (fun c47 => absurd c47 (by omega)) (fun c47 => ?_)
        refine lv_iload_n hxe hcd dX10_command_50 rfl (lv_at hl 4 rfl) ?_
        refine lv_bipush (v := (nI 9)) hxe hcd dX10_command_51 (by decide) ?_
        refine n_ne S (a := w) (b := 9) (by omega) (by omega) dX10_command_53 (tgt := 69) (by decide) (fun c53 => ?_) (fun c53 => absurd c53 (by omega))
        refine lv_iload_n hxe hcd dX10_command_69 rfl (lv_at hl 4 rfl) ?_
        refine lv_bipush (v := (nI 11)) hxe hcd dX10_command_70 (by decide) ?_
        refine n_ne S (a := w) (b := 11) (by omega) (by omega) dX10_command_72 (tgt := 88) (by decide) (fun c72 => ?_) (fun c72 => absurd c72 (by omega))
        refine lv_iload_n hxe hcd dX10_command_88 rfl (lv_at hl 4 rfl) ?_
        refine lv_bipush (v := (nI 7)) hxe hcd dX10_command_89 (by decide) ?_
        refine n_ne S (a := w) (b := 7) (by omega) (by omega) dX10_command_91 (tgt := 108) (by decide) (fun c91 => ?_) (fun c91 => absurd c91 (by omega))
        refine lv_iload_n hxe hcd dX10_command_108 rfl (lv_at hl 4 rfl) ?_
        refine lv_bipush (v := (nI 7)) hxe hcd dX10_command_109 (by decide) ?_
        refine n_ne S (a := w) (b := 7) (by omega) (by omega) dX10_command_111 (tgt := 128) (by decide) (fun c111 => ?_) (fun c111 => absurd c111 (by omega))
        refine lv_aload_n hxe hcd dX10_command_128 rfl (lv_at hl 5 rfl) ?_
        refine gf_X10_186 S hW dX10_command_129 ?_
        refine r_as (y := (nI 0)) ((PL_x _ _ _ _)) ?_
        refine lv_if_ne (tgt := 142) hxe hcd dX10_command_132 (by decide) (fun h => absurd h (by decide)) (fun _ => ?_)
        refine lv_aload_n hxe hcd dX10_command_135 rfl (lv_at hl 5 rfl) ?_
        refine gf_X10_206 S hW dX10_command_136 ?_
        refine r_as (y := (nI dg)) (hdg) ?_
        refine n_ifne S (a := dg) (by omega) dX10_command_139 (tgt := 143) (by decide) (fun c139 => ?_) (fun c139 => ?_)
        · refine lv_aload_n hxe hcd dX10_command_143 rfl (lv_at hl 5 rfl) ?_
          refine lv_iload_n hxe hcd dX10_command_144 rfl (lv_at hl 4 rfl) ?_
          refine lv_iload_n hxe hcd dX10_command_145 rfl (lv_at hl 0 rfl) ?_
          refine lv_iload_n hxe hcd dX10_command_146 rfl (lv_at hl 3 rfl) ?_
          refine lv_iload hxe hcd dX10_command_147 (lv_at hl 2 rfl) ?_
          refine lv_iload hxe hcd dX10_command_149 (lv_at hl 1 rfl) ?_
          refine r_calli (F := (mE Z B)) (r_runV hZ S hW (As := [.int (nI w), .int (nI (dvN t (pp + wl w) d40)), .int (nI 0), .int (nI 0), .int (nI 0)]) (rest := []) (t_X10_does l hZ B (PL ν ((pp + wl w) + d40) 0 f1) H.size (w := w) (a1 := (dvN t (pp + wl w) d40)) (a2 := 0) (a3 := 0) (a4 := 0) hok.1 (by omega) (by omega) (by omega) (by omega) hVG hwd hwa) k_X10_209 (r_recv hW (x := 0) (List.mem_range.mpr (by decide)) rfl rfl) (hl.1) rfl rfl (Nat.le_of_ble_eq_true rfl) ⟨Nat.le_of_ble_eq_true rfl, Nat.le_of_ble_eq_true rfl⟩ ⟨Nat.le_of_ble_eq_true rfl, Nat.le_of_ble_eq_true rfl⟩ dX10_command_151) hW (fun r151 u151 H locs hp151 hW => ?_)
          rcases hp151 with ⟨o2, g2, v2, hex, rfl⟩ | ⟨hex, kf, hk1, hk2, rfl⟩
          · refine lv_istore (lv' := [(6, .int r151), (2, .int (nI (dvN t (pp + wl w) d40))), (5, .int (nI 0)), (4, .int (nI 0)), (3, .int (nI 0)), (1, .int (nI w)), (0, .ref (B 0))]) hxe hcd dX10_command_154 hl (by decide) rfl (fun ls hl => ?_)
            refine r_vret S hr hlk (F := (mE Z B)) (u := (mE6 (PL ν ((pp + wl w) + d40) 0 f1) o2 g2 v2)) hW ?_ dX10_command_156
            refine Or.inr ⟨f1, _, _, _, _, _, _, (cmF_w hok).trans (c1_d (by omega) (if_pos (by omega)) hdg40 hd040 (rs_o (by omega) (by omega) (by omega))), by omega, by omega, hok.1, by omega, by omega, by omega, by omega, ?_⟩
            exact Or.inr ⟨c139, Or.inl ⟨o2, g2, v2, hex, rfl⟩⟩
          · refine lv_istore (lv' := [(6, .int r151), (2, .int (nI (dvN t (pp + wl w) d40))), (5, .int (nI 0)), (4, .int (nI 0)), (3, .int (nI 0)), (1, .int (nI w)), (0, .ref (B 0))]) hxe hcd dX10_command_154 hl (by decide) rfl (fun ls hl => ?_)
            refine r_vret S hr hlk (F := (mE Z B)) (u := (up1 (PL ν ((pp + wl w) + d40) 0 f1) 0 (upd ((PL ν ((pp + wl w) + d40) 0 f1) 0) 0 (nI kf)))) hW ?_ dX10_command_156
            refine Or.inr ⟨f1, _, _, _, _, _, _, (cmF_w hok).trans (c1_d (by omega) (if_pos (by omega)) hdg40 hd040 (rs_o (by omega) (by omega) (by omega))), by omega, by omega, hok.1, by omega, by omega, by omega, by omega, ?_⟩
            exact Or.inr ⟨c139, Or.inr ⟨hex, kf, hk1, hk2, rfl⟩⟩
        · refine r_vret S hr hlk (F := (mE Z B)) (u := (PL ν ((pp + wl w) + d40) 0 f1)) hW ?_ dX10_command_142
          refine Or.inr ⟨f1, _, _, _, _, _, _, (cmF_w hok).trans (c1_d (by omega) (if_pos (by omega)) hdg40 hd040 (rs_o (by omega) (by omega) (by omega))), by omega, by omega, hok.1, by omega, by omega, by omega, by omega, ?_⟩
          exact Or.inl ⟨c139, rfl⟩
    · refine lv_iload_n hxe hcd dX10_command_23 rfl (lv_at hl 4 rfl) ?_
      refine lv_iconst (v := (nI 4)) hxe hcd dX10_command_24 (by decide) ?_
      refine n_eq S (a := w) (b := 4) (by omega) (by omega) dX10_command_25 (tgt := 44) (by decide) (fun c25 => absurd c25 (by omega)) (fun c25 => ?_)
      refine lv_aload_n hxe hcd dX10_command_28 rfl (lv_at hl 5 rfl) ?_
      refine lv_iload_n hxe hcd dX10_command_29 rfl (lv_at hl 4 rfl) ?_
      refine lv_bipush (v := (nI 6)) hxe hcd dX10_command_30 (by decide) ?_
      refine n_ge S (a := w) (b := 6) (by omega) (by omega) dX10_command_32 (tgt := 39) (by decide) (fun c32 => ?_) (fun c32 => absurd (by omega) c32)
      refine lv_iconst (v := (nI 1)) hxe hcd dX10_command_39 (by decide) ?_
      refine r_calli (F := (mE Z B)) (r_runV hZ S hW (As := [.int (nI 1)]) (rest := []) (t_X10_digits l hZ B (PL ν (pp + wl w) 0 f1) H.size (mo := 1) (by omega) (pp := (pp + wl w)) (PL_h _ _ _ _) hen hn60 t htx (by omega) (PL_x _ _ _ _) (by omega)) k_X10_197 (r_recv hW (x := 0) (List.mem_range.mpr (by decide)) rfl rfl) (hl.1) rfl rfl (Nat.le_of_ble_eq_true rfl) ⟨Nat.le_of_ble_eq_true rfl, Nat.le_of_ble_eq_true rfl⟩ ⟨Nat.le_of_ble_eq_true rfl, Nat.le_of_ble_eq_true rfl⟩ dX10_command_40) hW (fun r40 u40 H locs hp40 hW => ?_)
      obtain ⟨d40, hdg40, hp40⟩ := hp40
      rcases hp40 with ⟨hd040, hr, hu⟩ | ⟨hd040, hr, hu⟩
      · have hu : u40 = PL ν (pp + wl w) 1 f1 := by rw [hu, PM_PL]
        subst hu
        subst hr
        refine lv_istore_n (lv' := [(2, .int (nI 0)), (5, .int (nI 0)), (4, .int (nI 0)), (3, .int (nI 0)), (1, .int (nI w)), (0, .ref (B 0))]) hxe hcd dX10_command_43 rfl hl (by decide) rfl (fun ls hl => ?_)
        refine lv_iload_n hxe hcd dX10_command_44 rfl (lv_at hl 4 rfl) ?_
        refine lv_bipush (v := (nI 7)) hxe hcd dX10_command_45 (by decide) ?_
        refine n_eq S (a := w) (b := 7) (by omega) (by omega) dX10_command_47 (tgt := 56) (by decide) (fun c47 => absurd c47 (by omega)) (fun c47 => ?_)
        refine lv_iload_n hxe hcd dX10_command_50 rfl (lv_at hl 4 rfl) ?_
        refine lv_bipush (v := (nI 9)) hxe hcd dX10_command_51 (by decide) ?_
        refine n_ne S (a := w) (b := 9) (by omega) (by omega) dX10_command_53 (tgt := 69) (by decide) (fun c53 => ?_) (fun c53 => absurd c53 (by omega))
        refine lv_iload_n hxe hcd dX10_command_69 rfl (lv_at hl 4 rfl) ?_
        refine lv_bipush (v := (nI 11)) hxe hcd dX10_command_70 (by decide) ?_
        refine n_ne S (a := w) (b := 11) (by omega) (by omega) dX10_command_72 (tgt := 88) (by decide) (fun c72 => ?_) (fun c72 => absurd c72 (by omega))
        refine lv_iload_n hxe hcd dX10_command_88 rfl (lv_at hl 4 rfl) ?_
        refine lv_bipush (v := (nI 7)) hxe hcd dX10_command_89 (by decide) ?_
        refine n_ne S (a := w) (b := 7) (by omega) (by omega) dX10_command_91 (tgt := 108) (by decide) (fun c91 => ?_) (fun c91 => absurd c91 (by omega))
        refine lv_iload_n hxe hcd dX10_command_108 rfl (lv_at hl 4 rfl) ?_
        refine lv_bipush (v := (nI 7)) hxe hcd dX10_command_109 (by decide) ?_
        refine n_ne S (a := w) (b := 7) (by omega) (by omega) dX10_command_111 (tgt := 128) (by decide) (fun c111 => ?_) (fun c111 => absurd c111 (by omega))
        refine lv_aload_n hxe hcd dX10_command_128 rfl (lv_at hl 5 rfl) ?_
        refine gf_X10_186 S hW dX10_command_129 ?_
        refine r_as (y := (nI 1)) ((PL_x _ _ _ _)) ?_
        refine lv_if_ne (tgt := 142) hxe hcd dX10_command_132 (by decide) (fun _ => ?_) (fun h => absurd h (by decide))
        refine r_vret S hr hlk (F := (mE Z B)) (u := (PL ν (pp + wl w) 1 f1)) hW ?_ dX10_command_142
        exact Or.inl ⟨f1, _, (cmF_w hok).trans (c1_0 (by omega) (if_neg (by omega)) hdg40 hd040), rfl⟩
      · have hu : u40 = PL ν ((pp + wl w) + d40) 0 f1 := by rw [hu, PM_PL]
        subst hu
        subst hr
        have hdi40 := DG_in (fun j hj => (htx j hj).2) (by omega) hdg40
        have hdv40 := DG_v (fun j hj => (htx j hj).2) (by decide) hdg40
        refine lv_istore_n (lv' := [(2, .int (nI (dvN t (pp + wl w) d40))), (5, .int (nI 0)), (4, .int (nI 0)), (3, .int (nI 0)), (1, .int (nI w)), (0, .ref (B 0))]) hxe hcd dX10_command_43 rfl hl (by decide) rfl (fun ls hl => ?_)
        refine lv_iload_n hxe hcd dX10_command_44 rfl (lv_at hl 4 rfl) ?_
        refine lv_bipush (v := (nI 7)) hxe hcd dX10_command_45 (by decide) ?_
        refine n_eq S (a := w) (b := 7) (by omega) (by omega) dX10_command_47 (tgt := 56) (by decide) (fun c47 => absurd c47 (by omega)) (fun c47 => ?_)
        refine lv_iload_n hxe hcd dX10_command_50 rfl (lv_at hl 4 rfl) ?_
        refine lv_bipush (v := (nI 9)) hxe hcd dX10_command_51 (by decide) ?_
        refine n_ne S (a := w) (b := 9) (by omega) (by omega) dX10_command_53 (tgt := 69) (by decide) (fun c53 => ?_) (fun c53 => absurd c53 (by omega))
        refine lv_iload_n hxe hcd dX10_command_69 rfl (lv_at hl 4 rfl) ?_
        refine lv_bipush (v := (nI 11)) hxe hcd dX10_command_70 (by decide) ?_
        refine n_ne S (a := w) (b := 11) (by omega) (by omega) dX10_command_72 (tgt := 88) (by decide) (fun c72 => ?_) (fun c72 => absurd c72 (by omega))
        refine lv_iload_n hxe hcd dX10_command_88 rfl (lv_at hl 4 rfl) ?_
        refine lv_bipush (v := (nI 7)) hxe hcd dX10_command_89 (by decide) ?_
        refine n_ne S (a := w) (b := 7) (by omega) (by omega) dX10_command_91 (tgt := 108) (by decide) (fun c91 => ?_) (fun c91 => absurd c91 (by omega))
        refine lv_iload_n hxe hcd dX10_command_108 rfl (lv_at hl 4 rfl) ?_
        refine lv_bipush (v := (nI 7)) hxe hcd dX10_command_109 (by decide) ?_
        refine n_ne S (a := w) (b := 7) (by omega) (by omega) dX10_command_111 (tgt := 128) (by decide) (fun c111 => ?_) (fun c111 => absurd c111 (by omega))
        refine lv_aload_n hxe hcd dX10_command_128 rfl (lv_at hl 5 rfl) ?_
        refine gf_X10_186 S hW dX10_command_129 ?_
        refine r_as (y := (nI 0)) ((PL_x _ _ _ _)) ?_
        refine lv_if_ne (tgt := 142) hxe hcd dX10_command_132 (by decide) (fun h => absurd h (by decide)) (fun _ => ?_)
        refine lv_aload_n hxe hcd dX10_command_135 rfl (lv_at hl 5 rfl) ?_
        refine gf_X10_206 S hW dX10_command_136 ?_
        refine r_as (y := (nI dg)) (hdg) ?_
        refine n_ifne S (a := dg) (by omega) dX10_command_139 (tgt := 143) (by decide) (fun c139 => ?_) (fun c139 => ?_)
        · refine lv_aload_n hxe hcd dX10_command_143 rfl (lv_at hl 5 rfl) ?_
          refine lv_iload_n hxe hcd dX10_command_144 rfl (lv_at hl 4 rfl) ?_
          refine lv_iload_n hxe hcd dX10_command_145 rfl (lv_at hl 0 rfl) ?_
          refine lv_iload_n hxe hcd dX10_command_146 rfl (lv_at hl 3 rfl) ?_
          refine lv_iload hxe hcd dX10_command_147 (lv_at hl 2 rfl) ?_
          refine lv_iload hxe hcd dX10_command_149 (lv_at hl 1 rfl) ?_
          refine r_calli (F := (mE Z B)) (r_runV hZ S hW (As := [.int (nI w), .int (nI (dvN t (pp + wl w) d40)), .int (nI 0), .int (nI 0), .int (nI 0)]) (rest := []) (t_X10_does l hZ B (PL ν ((pp + wl w) + d40) 0 f1) H.size (w := w) (a1 := (dvN t (pp + wl w) d40)) (a2 := 0) (a3 := 0) (a4 := 0) hok.1 (by omega) (by omega) (by omega) (by omega) hVG hwd hwa) k_X10_209 (r_recv hW (x := 0) (List.mem_range.mpr (by decide)) rfl rfl) (hl.1) rfl rfl (Nat.le_of_ble_eq_true rfl) ⟨Nat.le_of_ble_eq_true rfl, Nat.le_of_ble_eq_true rfl⟩ ⟨Nat.le_of_ble_eq_true rfl, Nat.le_of_ble_eq_true rfl⟩ dX10_command_151) hW (fun r151 u151 H locs hp151 hW => ?_)
          rcases hp151 with ⟨o2, g2, v2, hex, rfl⟩ | ⟨hex, kf, hk1, hk2, rfl⟩
          · refine lv_istore (lv' := [(6, .int r151), (2, .int (nI (dvN t (pp + wl w) d40))), (5, .int (nI 0)), (4, .int (nI 0)), (3, .int (nI 0)), (1, .int (nI w)), (0, .ref (B 0))]) hxe hcd dX10_command_154 hl (by decide) rfl (fun ls hl => ?_)
            refine r_vret S hr hlk (F := (mE Z B)) (u := (mE6 (PL ν ((pp + wl w) + d40) 0 f1) o2 g2 v2)) hW ?_ dX10_command_156
            refine Or.inr ⟨f1, _, _, _, _, _, _, (cmF_w hok).trans (c1_d (by omega) (if_neg (by omega)) hdg40 hd040 (rs_o (by omega) (by omega) (by omega))), by omega, by omega, hok.1, by omega, by omega, by omega, by omega, ?_⟩
            exact Or.inr ⟨c139, Or.inl ⟨o2, g2, v2, hex, rfl⟩⟩
          · refine lv_istore (lv' := [(6, .int r151), (2, .int (nI (dvN t (pp + wl w) d40))), (5, .int (nI 0)), (4, .int (nI 0)), (3, .int (nI 0)), (1, .int (nI w)), (0, .ref (B 0))]) hxe hcd dX10_command_154 hl (by decide) rfl (fun ls hl => ?_)
            refine r_vret S hr hlk (F := (mE Z B)) (u := (up1 (PL ν ((pp + wl w) + d40) 0 f1) 0 (upd ((PL ν ((pp + wl w) + d40) 0 f1) 0) 0 (nI kf)))) hW ?_ dX10_command_156
            refine Or.inr ⟨f1, _, _, _, _, _, _, (cmF_w hok).trans (c1_d (by omega) (if_neg (by omega)) hdg40 hd040 (rs_o (by omega) (by omega) (by omega))), by omega, by omega, hok.1, by omega, by omega, by omega, by omega, ?_⟩
            exact Or.inr ⟨c139, Or.inr ⟨hex, kf, hk1, hk2, rfl⟩⟩
        · refine r_vret S hr hlk (F := (mE Z B)) (u := (PL ν ((pp + wl w) + d40) 0 f1)) hW ?_ dX10_command_142
          refine Or.inr ⟨f1, _, _, _, _, _, _, (cmF_w hok).trans (c1_d (by omega) (if_neg (by omega)) hdg40 hd040 (rs_o (by omega) (by omega) (by omega))), by omega, by omega, hok.1, by omega, by omega, by omega, by omega, ?_⟩
          exact Or.inl ⟨c139, rfl⟩
  · refine lv_istore_n (lv' := [(1, .int (-1)), (0, .ref (B 0))]) hxe hcd dX10_command_4 rfl hl (by decide) rfl (fun ls hl => ?_)
    refine lv_iconst (v := (nI 0)) hxe hcd dX10_command_5 (by decide) ?_
    refine lv_istore_n (lv' := [(2, .int (nI 0)), (1, .int (-1)), (0, .ref (B 0))]) hxe hcd dX10_command_6 rfl hl (by decide) rfl (fun ls hl => ?_)
    refine lv_iconst (v := (nI 0)) hxe hcd dX10_command_7 (by decide) ?_
    refine lv_istore_n (lv' := [(3, .int (nI 0)), (2, .int (nI 0)), (1, .int (-1)), (0, .ref (B 0))]) hxe hcd dX10_command_8 rfl hl (by decide) rfl (fun ls hl => ?_)
    refine lv_iconst (v := (nI 0)) hxe hcd dX10_command_9 (by decide) ?_
    refine lv_istore (lv' := [(4, .int (nI 0)), (3, .int (nI 0)), (2, .int (nI 0)), (1, .int (-1)), (0, .ref (B 0))]) hxe hcd dX10_command_10 hl (by decide) rfl (fun ls hl => ?_)
    refine lv_iconst (v := (nI 0)) hxe hcd dX10_command_12 (by decide) ?_
    refine lv_istore (lv' := [(5, .int (nI 0)), (4, .int (nI 0)), (3, .int (nI 0)), (2, .int (nI 0)), (1, .int (-1)), (0, .ref (B 0))]) hxe hcd dX10_command_13 hl (by decide) rfl (fun ls hl => ?_)
    refine lv_aload_n hxe hcd dX10_command_15 rfl (lv_at hl 5 rfl) ?_
    refine gf_X10_186 S hW dX10_command_16 ?_
    refine r_as (y := (nI 1)) ((PL_x _ _ _ _)) ?_
    refine lv_if_eq (tgt := 23) hxe hcd dX10_command_19 (by decide) (fun h => absurd h (by decide)) (fun _ => ?_)
    refine r_vret S hr hlk (F := (mE Z B)) (u := (PL ν (pp + kw) 1 f1)) hW ?_ dX10_command_22
    exact Or.inl ⟨f1, _, cmF_k hkno, rfl⟩
