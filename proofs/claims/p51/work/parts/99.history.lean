theorem cpS_oo {μ : CM} {b2 b o : Nat} (h : ¬ (b = 0 ∧ (o < 14 ∨ o = 15))) : cpState μ 0 b2 b o = μ b o := by
  have e : ∀ j, j < 14 → ¬ (b = 0 ∧ o = j) := fun j hj z => h ⟨z.1, Or.inl (by omega)⟩
  simp only [cpState, cpTanks, cpSongs, cpChain, up2_n (e 1 (by decide)), up2_n (e 2 (by decide)), up2_n (e 3 (by decide)), up2_n (e 5 (by decide)), up2_n (e 6 (by decide)), up2_n (e 7 (by decide)), up2_n (e 8 (by decide)), up2_n (e 9 (by decide)), up2_n (e 10 (by decide)), up2_n (e 11 (by decide)), up2_n (e 12 (by decide)), up2_n (e 13 (by decide))]
theorem cpS_o15 {μ : CM} {b b2 b3 o : Nat} (h : 14 ≤ o) : cpState μ b b2 b3 o = μ b3 o := by
  have e : ∀ j, j < 14 → ¬ (b3 = b ∧ o = j) := fun j hj z => by omega
  simp only [cpState, cpTanks, cpSongs, cpChain, up2_n (e 1 (by decide)), up2_n (e 2 (by decide)), up2_n (e 3 (by decide)), up2_n (e 5 (by decide)), up2_n (e 6 (by decide)), up2_n (e 7 (by decide)), up2_n (e 8 (by decide)), up2_n (e 9 (by decide)), up2_n (e 10 (by decide)), up2_n (e 11 (by decide)), up2_n (e 12 (by decide)), up2_n (e 13 (by decide))]
set_option maxHeartbeats 4000000 in
set_option maxRecDepth 100000 in
theorem t_X2_push (l : Launch) {Z : ZT} (hZ : zOK Z) (A : Nat × Nat → Nat) (g : Nat → Bool) (μ : CM) (sz : Nat) {k cn : Nat} (hk : k < 8) (hk1 : μ 0 15 1 = nI k) (hcn : μ 0 15 2 = nI cn) (hc8 : cn ≤ 8) : XGv l yX2_push cX2_push 2 5 14 1370 [.ref (A (0, 15)), .ref (A (0, 0))] Z (ids g) A (cE Z A g μ) sz (fun u => u.1 = gS g k ∧ (∀ x ∈ ids g, u.2.1 x = A x) ∧ (∀ b o, b ≠ k + 3 → ¬ (b = 0 ∧ o = 15) → u.2.2 b o = μ b o) ∧ u.2.2 0 15 1 = nI ((k + 1) % 8) ∧ u.2.2 0 15 2 = nI (min (cn + 1) 8) ∧ ∀ v, VG v → RP (μ 0) v → RP (u.2.2 (k + 3)) v) := by
  refine r_met (E := (cE Z A g μ)) (by decide +kernel) (Nat.le_of_ble_eq_true rfl) ?_
  intro p e s m below meth c ls S hr hlk hnm hsz hW hl
  have hxe := S.1
  have hcd := S.2.1
  subst hsz
  have hl : lv_has ls 2 [(0, .ref (A (0, 15))), (1, .ref (A (0, 0)))] := hl
  refine lv_aload_n hxe hcd dX2_push_0 rfl (lv_at hl 0 rfl) ?_
  refine lv_aload_n hxe hcd dX2_push_1 rfl (lv_at hl 0 rfl) ?_
  refine gf_X2_17 S hW dX2_push_2 ?_
  refine r_as (y := (nI k)) (hk1) ?_
  refine r_callrG (r_runV hZ S hW (As := [.int (nI k)]) (rest := []) (t_X2_stateAt l hZ A g μ s.heap.size hk) k_X2_25 (r_recv hW (x := (0, 15)) (in_r (by decide) (by decide)) rfl rfl) hl.1 rfl rfl (Nat.le_of_ble_eq_true rfl) ⟨(Nat.le_of_ble_eq_true rfl), (Nat.le_of_ble_eq_true rfl)⟩ ⟨(Nat.le_of_ble_eq_true rfl), (Nat.le_of_ble_eq_true rfl)⟩ dX2_push_5) hW (fun u H locs hp hW => ?_)
  obtain ⟨g, A, μ⟩ := u
  obtain ⟨hg1, hA1, hm1⟩ := hp
  simp only at hg1 hA1 hm1
  have hW : wX Z (ids g) A (cE Z A g μ) _ s H locs := hW
  have hl : lv_has ls 2 [(0, .ref (A (0, 15))), (1, .ref (A (0, 0)))] := by
    rw [hA1 _ (in_r (by decide) (by decide)), hA1 _ (in_s sB_0 (by decide))]
    exact hl
  have hbk : sB g (k + 3) := Or.inr ⟨by omega, by omega, by rw [hg1, Nat.add_sub_cancel]; simp [gS]⟩
  have hk1 : μ 0 15 1 = nI k := (by rw [hm1 0 15 (by omega)]; exact hk1)
  have hcn : μ 0 15 2 = nI cn := (by rw [hm1 0 15 (by omega)]; exact hcn)
  obtain ⟨kb, hkb⟩ : ∃ kb, kb = k + 3 := ⟨_, rfl⟩
  refine r_st (st' := [.ref (A (kb, 0))]) (by rw [hkb]) ?_
  rw [← hkb] at hbk
  refine lv_aload_n hxe hcd dX2_push_8 rfl (lv_at hl 1 rfl) ?_
  refine r_callv (F := (cE Z A g)) (r_runV hZ S hW (As := [.ref (A (0, 0))]) (rest := []) (t_X6_copyFrom l hZ A g μ H.size hbk sB_0 (by omega)) k_X2_29 (r_recv hW (x := (kb, 0)) (in_s hbk (by decide)) rfl rfl) (hl.1) rfl rfl (Nat.le_of_ble_eq_true rfl) ⟨Nat.le_of_ble_eq_true rfl, Nat.le_of_ble_eq_true rfl⟩ ⟨Nat.le_of_ble_eq_true rfl, Nat.le_of_ble_eq_true rfl⟩ dX2_push_9) hW (fun u9 H locs hp9 hW => ?_)
  have hp9 := hp9.symm
  subst hp9
  refine lv_aload_n hxe hcd dX2_push_12 rfl (lv_at hl 0 rfl) ?_
  refine lv_aload_n hxe hcd dX2_push_13 rfl (lv_at hl 0 rfl) ?_
  refine gf_X2_17 S hW dX2_push_14 ?_
  refine r_as (y := (nI k)) (by rw [cpS_o (by omega)]; exact hk1) ?_
  refine lv_iconst (v := (nI 1)) hxe hcd dX2_push_17 (by decide) ?_
  refine n_iadd S (a := k) (b := 1) dX2_push_18 ?_
  refine lv_bipush (v := (nI 7)) hxe hcd dX2_push_19 (by decide) ?_
  refine lv_iand hxe hcd dX2_push_21 ?_
  refine r_as (y := (nI ((k + 1) % 8))) (and70 (by omega)) ?_
  refine gp_X2_17 S hW dX2_push_22 (fun H locs hW => ?_)
  refine lv_aload_n hxe hcd dX2_push_25 rfl (lv_at hl 0 rfl) ?_
  refine lv_aload_n hxe hcd dX2_push_26 rfl (lv_at hl 0 rfl) ?_
  refine gf_X2_21 S hW dX2_push_27 ?_
  refine r_as (y := (nI cn)) (by rw [up2_s, upd_o (by decide), cpS_o (by omega)]; exact hcn) ?_
  refine lv_iconst (v := (nI 1)) hxe hcd dX2_push_30 (by decide) ?_
  refine n_iadd S (a := cn) (b := 1) dX2_push_31 ?_
  refine lv_bipush (v := (nI 8)) hxe hcd dX2_push_32 (by decide) ?_
  refine r_min S hl.1 g_648 g_330 (Nat.le_of_ble_eq_true rfl) (Nat.le_of_ble_eq_true rfl) (Nat.le_of_ble_eq_true rfl) (Nat.le_of_ble_eq_true rfl) dX2_push_34 ?_
  refine r_as (y := (nI (min (cn + 1) 8))) (imin_N (by omega) (by omega)) ?_
  refine gp_X2_21 S hW dX2_push_37 (fun H locs hW => ?_)
  exact r_vretG S hr hlk (g, A, (up2 (up2 (cpState μ kb 0) 0 15 (upd ((cpState μ kb 0) 0 15) 1 (nI ((k + 1) % 8)))) 0 15 (upd ((up2 (cpState μ kb 0) 0 15 (upd ((cpState μ kb 0) 0 15) 1 (nI ((k + 1) % 8)))) 0 15) 2 (nI (min (cn + 1) 8))))) hW ⟨hg1, hA1, fun b o h1 h2 => by simp only []; rw [up2_n h2, up2_n h2, cpS_o (by omega)]; exact hm1 b o h1, by simp [up2_rb, upd_rd], by simp [up2_rb, upd_rd], fun v hV hR => by simp only []; rw [← hkb]; exact RP_k (cpS_b (b := kb) (b2 := 0) (by omega) (RP_k hR (fun o ho => hm1 0 o (by omega))) hV) (fun o ho => by rw [up2_b (by omega), up2_b (by omega)])⟩ dX2_push_40
set_option maxHeartbeats 4000000 in
set_option maxRecDepth 100000 in
theorem t_X2_popInto (l : Launch) {Z : ZT} (hZ : zOK Z) (A : Nat × Nat → Nat) (g : Nat → Bool) (μ : CM) (sz : Nat) {k kp cn : Nat} (hk : k < 8) (hkp : (k + 8 - 1) % 8 = kp) (hk1 : μ 0 15 1 = nI k) (hcn : μ 0 15 2 = nI cn) (hc1 : 1 ≤ cn) (hc8 : cn ≤ 8) (hg : g kp = true) : XMv l yX2_popInto cX2_popInto 2 5 [.ref (A (0, 15)), .ref (A (0, 0))] Z (ids g) A (cE Z A g) μ sz (fun u => (∀ b o, ¬ (b = 0 ∧ (o < 14 ∨ o = 15)) → u b o = μ b o) ∧ (∀ v, VG v → RP (μ (kp + 3)) v → RP (u 0) v) ∧ u 0 15 1 = nI kp ∧ u 0 15 2 = nI (cn - 1)) := by
  refine r_met (E := (cE Z A g μ)) (by decide +kernel) (Nat.le_of_ble_eq_true rfl) ?_
  intro p e s m below meth c ls S hr hlk hnm hsz hW hl
  have hxe := S.1
  have hcd := S.2.1
  subst hsz
  have hl : lv_has ls 2 [(0, .ref (A (0, 15))), (1, .ref (A (0, 0)))] := hl
  refine lv_aload_n hxe hcd dX2_popInto_0 rfl (lv_at hl 0 rfl) ?_
  refine lv_aload_n hxe hcd dX2_popInto_1 rfl (lv_at hl 0 rfl) ?_
  refine gf_X2_17 S hW dX2_popInto_2 ?_
  refine r_as (y := (nI k)) (hk1) ?_
  refine lv_iconst (v := (nI 1)) hxe hcd dX2_popInto_5 (by decide) ?_
  refine lv_isub hxe hcd dX2_popInto_6 ?_
  refine lv_bipush (v := (nI 7)) hxe hcd dX2_popInto_7 (by decide) ?_
  refine lv_iand hxe hcd dX2_popInto_9 ?_
  refine r_as (y := (nI kp)) (by rw [and7 (by decide) (by omega), hkp]) ?_
  refine gp_X2_17 S hW dX2_popInto_10 (fun H locs hW => ?_)
  refine lv_aload_n hxe hcd dX2_popInto_13 rfl (lv_at hl 1 rfl) ?_
  refine lv_aload_n hxe hcd dX2_popInto_14 rfl (lv_at hl 0 rfl) ?_
  refine lv_aload_n hxe hcd dX2_popInto_15 rfl (lv_at hl 0 rfl) ?_
  refine gf_X2_17 S hW dX2_popInto_16 ?_
  refine r_as (y := (nI kp)) (by rw [up2_s, upd_s]) ?_
  refine r_callr0 (r_runV hZ S hW (As := [.int (nI kp)]) (rest := [.ref (A (0, 0))]) (t_stateAt_live l hZ A g (up2 μ 0 15 (upd (μ 0 15) 1 (nI kp))) H.size (by omega) hg) k_X2_25 (r_recv hW (x := (0, 15)) (in_r (by decide) (by decide)) rfl rfl) hl.1 rfl rfl (Nat.le_of_ble_eq_true rfl) ⟨(Nat.le_of_ble_eq_true rfl), (Nat.le_of_ble_eq_true rfl)⟩ ⟨(Nat.le_of_ble_eq_true rfl), (Nat.le_of_ble_eq_true rfl)⟩ dX2_popInto_19) hW (fun H locs hW => ?_)
  obtain ⟨kb, hkb⟩ : ∃ kb, kb = kp + 3 := ⟨_, rfl⟩
  refine r_st (st' := [.ref (A (kb, 0)), .ref (A (0, 0))]) (by rw [hkb]) ?_
  have hbk : sB g kb := by rw [hkb]; exact Or.inr ⟨by omega, by omega, by rw [Nat.add_sub_cancel]; exact hg⟩
  refine r_callv (F := (cE Z A g)) (r_runV hZ S hW (As := [.ref (A (kb, 0))]) (rest := []) (t_X6_copyFrom l hZ A g (up2 μ 0 15 (upd (μ 0 15) 1 (nI kp))) H.size sB_0 hbk (by omega)) k_X2_29 (r_recv hW (x := (0, 0)) (in_s sB_0 (by decide)) rfl rfl) (hl.1) rfl rfl (Nat.le_of_ble_eq_true rfl) ⟨Nat.le_of_ble_eq_true rfl, Nat.le_of_ble_eq_true rfl⟩ ⟨Nat.le_of_ble_eq_true rfl, Nat.le_of_ble_eq_true rfl⟩ dX2_popInto_22) hW (fun u22 H locs hp22 hW => ?_)
  have hp22 := hp22.symm
  subst hp22
  refine lv_aload_n hxe hcd dX2_popInto_25 rfl (lv_at hl 0 rfl) ?_
  refine lv_dup hxe hcd dX2_popInto_26 rfl ?_
  refine gf_X2_21 S hW dX2_popInto_27 ?_
  refine r_as (y := (nI cn)) (by rw [cpS_o15 (by decide), up2_s, upd_o (by decide)]; exact hcn) ?_
  refine lv_iconst (v := (nI 1)) hxe hcd dX2_popInto_30 (by decide) ?_
  refine n_isub S (a := cn) (b := 1) (by omega) dX2_popInto_31 ?_
  refine gp_X2_21 S hW dX2_popInto_32 (fun H locs hW => ?_)
  refine r_vret S hr hlk (F := (cE Z A g)) (u := (up2 (cpState (up2 μ 0 15 (upd (μ 0 15) 1 (nI kp))) 0 kb) 0 15 (upd ((cpState (up2 μ 0 15 (upd (μ 0 15) 1 (nI kp))) 0 kb) 0 15) 2 (nI (cn - 1))))) hW ?_ dX2_popInto_35
  refine ⟨fun b o hb => ?_, fun v hV hR => ?_, ?_, ?_⟩
  · rw [up2_n (fun z => hb ⟨z.1, Or.inr z.2⟩)]
    rw [cpS_oo hb, up2_n (fun z => hb ⟨z.1, Or.inr z.2⟩)]
  · refine RP_k (cpS_b (b := 0) (b2 := kb) (v := v) (μ := up2 μ 0 15 (upd (μ 0 15) 1 (nI kp))) (by omega) (RP_k hR (fun o ho => by rw [up2_b (by omega), hkb])) hV) (fun o ho => by rw [up2_o (by omega)])
  · rw [up2_s, upd_o (by decide), cpS_o15 (by decide), up2_s, upd_s]
  · rw [up2_s, upd_s]
set_option maxHeartbeats 4000000 in
set_option maxRecDepth 100000 in
theorem t_X2_clear (l : Launch) {Z : ZT} (hZ : zOK Z) (A : Nat × Nat → Nat) (g : Nat → Bool) (μ : CM) (sz : Nat)  : XMv l yX2_clear cX2_clear 1 0 [.ref (A (0, 15))] Z (ids g) A (cE Z A g) μ sz (fun u => u = up2 μ 0 15 (upd (μ 0 15) 2 (nI 0))) := by
  refine r_met (E := (cE Z A g μ)) (by decide +kernel) (Nat.le_of_ble_eq_true rfl) ?_
  intro p e s m below meth c ls S hr hlk hnm hsz hW hl
  have hxe := S.1
  have hcd := S.2.1
  subst hsz
  have hl : lv_has ls 1 [(0, .ref (A (0, 15)))] := hl
  refine lv_aload_n hxe hcd dX2_clear_0 rfl (lv_at hl 0 rfl) ?_
  refine lv_iconst (v := (nI 0)) hxe hcd dX2_clear_1 (by decide) ?_
  refine gp_X2_21 S hW dX2_clear_2 (fun H locs hW => ?_)
  refine r_vret S hr hlk (F := (cE Z A g)) (u := (up2 μ 0 15 (upd (μ 0 15) 2 (nI 0)))) hW ?_ dX2_clear_5
  rfl
