theorem aS_s (A : Nat × Nat → Nat) (a : Nat → Nat) (k o : Nat) : aS A a k (k + 3, o) = a o := by
  unfold aS
  rw [if_pos rfl]
theorem aS_o {A : Nat × Nat → Nat} {a : Nat → Nat} {k : Nat} {x : Nat × Nat} (h : x.1 ≠ k + 3) : aS A a k x = A x := by
  unfold aS
  rw [if_neg h]
theorem eS_n {Z : ZT} {A : Nat × Nat → Nat} {a : Nat → Nat} {g : Nat → Bool} {k : Nat} (μ : CM) (hk : 0 < k + 3) : eS Z A a g k μ (k + 3, 0) = .inr (8, [.ref (aS A a k (k + 3, 1)), .ref (aS A a k (k + 3, 4)), .ref (aS A a k (k + 3, 9))]) := by
  unfold eS
  rw [if_neg (fun z => by have := congrArg Prod.fst z; simp at this)]
  rfl
set_option maxHeartbeats 4000000 in
set_option maxRecDepth 100000 in
theorem t_stateAt_live (l : Launch) {Z : ZT} (hZ : zOK Z) (A : Nat × Nat → Nat) (g : Nat → Bool) (μ : CM) (sz : Nat) {k : Nat} (hk : k < 8) (hg : g k = true) : XCr l yX2_stateAt cX2_stateAt 4 (some (.object "SongRefinery$State")) 3 [.ref (A (0, 15)), .int (nI k)] Z (ids g) A (cE Z A g μ) sz (A (k + 3, 0)) := by
  refine r_met (E := (cE Z A g μ)) (by decide +kernel) (Nat.le_of_ble_eq_true rfl) ?_
  intro p e s m below meth c ls S hr hlk hnm hsz hW hl
  have hxe := S.1
  have hcd := S.2.1
  subst hsz
  have hl : lv_has ls 4 [(0, .ref (A (0, 15))), (1, .int (nI k))] := hl
  refine lv_iload_n hxe hcd dX2_stateAt_0 rfl (lv_at hl 1 rfl) ?_
  refine lv_bipush (v := (nI 7)) hxe hcd dX2_stateAt_1 (by decide) ?_
  refine lv_iand hxe hcd dX2_stateAt_3 ?_
  refine r_as (y := (nI k)) (by rw [and70 (by omega), Nat.mod_eq_of_lt hk]) ?_
  refine lv_istore_n (lv' := [(2, .int (nI k)), (0, .ref (A (0, 15))), (1, .int (nI k))]) hxe hcd dX2_stateAt_4 rfl hl (by decide) rfl (fun ls hl => ?_)
  refine lv_aload_n hxe hcd dX2_stateAt_5 rfl (lv_at hl 1 rfl) ?_
  refine gf_X2_11 S hW dX2_stateAt_6 ?_
  refine lv_iload_n hxe hcd dX2_stateAt_9 rfl (lv_at hl 0 rfl) ?_
  refine r_aldq S hW (x := (0, 16)) (in_r (by decide) (by decide)) rfl hk (by decide) dX2_stateAt_10 ?_
  refine r_st (st' := [.ref (A (k + 3, 0))]) (by simp [hg, va_rf]) ?_
  refine lv_astore_n (lv' := [(3, .ref (A (k + 3, 0))), (2, .int (nI k)), (0, .ref (A (0, 15))), (1, .int (nI k))]) hxe hcd dX2_stateAt_11 rfl hl (by decide) rfl (fun ls hl => ?_)
  refine lv_aload_n hxe hcd dX2_stateAt_12 rfl (lv_at hl 0 rfl) ?_
  refine lv_ifnonnull hxe hcd dX2_stateAt_13 (tgt := 31) (by decide) ?_
  refine lv_aload_n hxe hcd dX2_stateAt_31 rfl (lv_at hl 0 rfl) ?_
  exact r_aret0 S hr hlk hW rfl dX2_stateAt_32
set_option maxHeartbeats 4000000 in
set_option maxRecDepth 100000 in
theorem t_X2_stateAt (l : Launch) {Z : ZT} (hZ : zOK Z) (A : Nat × Nat → Nat) (g : Nat → Bool) (μ : CM) (sz : Nat) {k : Nat} (hk : k < 8) : XGr l yX2_stateAt cX2_stateAt 4 (some (.object "SongRefinery$State")) 3 14 1370 [.ref (A (0, 15)), .int (nI k)] Z (ids g) A (cE Z A g μ) sz (k + 3, 0) (fun u => u.1 = gS g k ∧ (∀ x ∈ ids g, u.2.1 x = A x) ∧ ∀ b o, b ≠ k + 3 → u.2.2 b o = μ b o) := by
  refine r_met (E := (cE Z A g μ)) (by decide +kernel) (Nat.le_of_ble_eq_true rfl) ?_
  intro p e s m below meth c ls S hr hlk hnm hsz hW hl
  have hxe := S.1
  have hcd := S.2.1
  subst hsz
  have hl : lv_has ls 4 [(0, .ref (A (0, 15))), (1, .int (nI k))] := hl
  refine lv_iload_n hxe hcd dX2_stateAt_0 rfl (lv_at hl 1 rfl) ?_
  refine lv_bipush (v := (nI 7)) hxe hcd dX2_stateAt_1 (by decide) ?_
  refine lv_iand hxe hcd dX2_stateAt_3 ?_
  refine r_as (y := (nI k)) (by rw [and70 (by omega), Nat.mod_eq_of_lt hk]) ?_
  refine lv_istore_n (lv' := [(2, .int (nI k)), (0, .ref (A (0, 15))), (1, .int (nI k))]) hxe hcd dX2_stateAt_4 rfl hl (by decide) rfl (fun ls hl => ?_)
  refine lv_aload_n hxe hcd dX2_stateAt_5 rfl (lv_at hl 1 rfl) ?_
  refine gf_X2_11 S hW dX2_stateAt_6 ?_
  refine lv_iload_n hxe hcd dX2_stateAt_9 rfl (lv_at hl 0 rfl) ?_
  refine r_aldq S hW (x := (0, 16)) (in_r (by decide) (by decide)) rfl hk (by decide) dX2_stateAt_10 ?_
  rcases hg : g k with _ | _
  · refine r_st (st' := [.null]) (by simp [hg, va_rf]) ?_
    refine lv_astore_nN (lv' := [(3, .null), (2, .int (nI k)), (0, .ref (A (0, 15))), (1, .int (nI k))]) hxe hcd dX2_stateAt_11 rfl hl (by decide) rfl (fun ls hl => ?_)
    refine lv_aload_nN hxe hcd dX2_stateAt_12 rfl (lv_at hl 0 rfl) ?_
    refine lv_ifnonnullN hxe hcd dX2_stateAt_13 ?_
    have hW : wW Z (cwl (ids g) A (cE Z A g μ)) _ s _ _ := hW
    refine w_new S hW (T := TX6) (N := 3) (ci := 8) in_RX6 tyX6 tyX6_ok g_169 g_70 g_30 rfl (fs := [.null, .null, .null]) (fun j hj => by rcases (show j = 0 ∨ j = 1 ∨ j = 2 by omega) with e | e | e <;> subst e <;> rfl) (Nat.le_of_ble_eq_true rfl) (Nat.le_of_ble_eq_true rfl) dX2_stateAt_16 (fun q H hW => ?_)
    refine lv_dup hxe hcd dX2_stateAt_19 rfl ?_
    refine w_callv (wr := cwl (ids g) A (cE Z A g μ)) (wc := [(q, .inr (8, [.null, .null, .null]))]) (w_runIN hZ S (wr := cwl (ids g) A (cE Z A g μ)) (wc := [(q, .inr (8, [.null, .null, .null]))]) hW (As := []) (rest := [.ref q]) (t_X6_init l hZ H.size q) k_X2_24 hl.1 rfl rfl (Nat.le_of_ble_eq_true rfl) ⟨(Nat.le_of_ble_eq_true rfl), (Nat.le_of_ble_eq_true rfl)⟩ ⟨(Nat.le_of_ble_eq_true rfl), (Nat.le_of_ble_eq_true rfl)⟩ dX2_stateAt_20) hW (fun u H locs hp20 hW => ?_)
    obtain ⟨a, rfl, rfl⟩ := hp20
    have hW := wX_grow hW hk
    refine lv_astore_n (lv' := [(3, .ref (a 0)), (2, .int (nI k)), (0, .ref (A (0, 15))), (1, .int (nI k))]) hxe hcd dX2_stateAt_23 rfl hl (by decide) rfl (fun ls hl => ?_)
    have hl : lv_has ls 4 [(3, .ref (aS A a k (k + 3, 0))), (2, .int (nI k)), (0, .ref (aS A a k (0, 15))), (1, .int (nI k))] := by
      rw [aS_s, aS_o (show (0, 15).1 ≠ k + 3 by simp only; omega)]
      exact hl
    refine lv_aload_n hxe hcd dX2_stateAt_24 rfl (lv_at hl 2 rfl) ?_
    refine r_get S hW (x := (0, 15)) (in_r (by decide) (by decide)) (ci := 4) (fs := [.ref (aS A a k (0, 16)), .int (mS0 μ k 0 15 1), .int (mS0 μ k 0 15 2)]) rfl rfl in_RX2 0 (by decide) g_171 (v := .ref (aS A a k (0, 16))) rfl dX2_stateAt_25 ?_
    refine lv_iload_n hxe hcd dX2_stateAt_28 rfl (lv_at hl 1 rfl) ?_
    refine lv_aload_n hxe hcd dX2_stateAt_29 rfl (lv_at hl 0 rfl) ?_
    refine r_astq S hW (x := (0, 16)) (y := (k + 3, 0)) (in_r (by decide) (by decide)) (in_s (Or.inr ⟨by omega, by omega, by rw [Nat.add_sub_cancel]; simp [gS]⟩) (by decide)) (f := fun j => if g j then some (A (j + 3, 0)) else none) rfl (vs := [.ref (aS A a k (k + 3, 1)), .ref (aS A a k (k + 3, 4)), .ref (aS A a k (k + 3, 9))]) (eS_n _ (by omega)) hk (by decide) (E' := cE Z (aS A a k) (gS g k) (mS0 μ k)) (eS_up hk) (fun z hz => by unfold eS; rw [if_neg hz]) dX2_stateAt_30 (fun H locs hW => ?_)
    refine lv_aload_n hxe hcd dX2_stateAt_31 rfl (lv_at hl 0 rfl) ?_
    exact r_aretG S hr hlk (gS g k, aS A a k, mS0 μ k) hW ⟨rfl, fun x hx => aS_o (fun e => by have h := (ids_mem (b := x.1) (o := x.2)).mp hx; have h3 := h.2.2; simp [liveB, e, hg] at h3; omega), fun b o hb => by simp [mS0, hb]⟩ rfl dX2_stateAt_32
  · refine r_st (st' := [.ref (A (k + 3, 0))]) (by simp [hg, va_rf]) ?_
    refine lv_astore_n (lv' := [(3, .ref (A (k + 3, 0))), (2, .int (nI k)), (0, .ref (A (0, 15))), (1, .int (nI k))]) hxe hcd dX2_stateAt_11 rfl hl (by decide) rfl (fun ls hl => ?_)
    refine lv_aload_n hxe hcd dX2_stateAt_12 rfl (lv_at hl 0 rfl) ?_
    refine lv_ifnonnull hxe hcd dX2_stateAt_13 (tgt := 31) (by decide) ?_
    refine lv_aload_n hxe hcd dX2_stateAt_31 rfl (lv_at hl 0 rfl) ?_
    exact W.widen (Nat.zero_le _) (Nat.zero_le _) (r_aretG S hr hlk (g, A, μ) hW ⟨(gS_id hg).symm, fun x _ => rfl, fun _ _ _ => rfl⟩ rfl dX2_stateAt_32)
