def nn64 (r : UInt64) : Bool := decide (r &&& 9223372036854775807 ≤ 9218868437227405312)
theorem fd64_all : (List.range 37).all (fun a => (List.range 36).all (fun b => nn64 (FP.f2d (FP.fdiv (FP.i2f (nI a)) (FP.i2f (nI (b + 1))))))) = true := by decide +kernel
theorem fd64 {a n : Nat} (ha : a ≤ 36) (h1 : 0 < n) (h2 : n ≤ 36) : vf_n64 (FP.f2d (FP.fdiv (FP.i2f (nI a)) (FP.i2f (nI n)))) := by
  have h := List.all_eq_true.mp (List.all_eq_true.mp fd64_all a (List.mem_range.mpr (by omega))) (n - 1) (List.mem_range.mpr (by omega))
  rw [show n - 1 + 1 = n by omega] at h
  unfold vf_n64
  exact of_decide_eq_true h
set_option maxHeartbeats 4000000 in
set_option maxRecDepth 100000 in
theorem t_L_filledShare (l : Launch) (hl0 : l.stackTraces = false) {Z : ZT} (hZ : zOK Z) (hZX : ZX Z) (hNC : XNC Z) (ao : Nat) (f : Nat → UInt64) (A : Nat × Nat → Nat) (g : Nat → Bool) (μ : CM) (sz : Nat) {v : Nat → Int32} (hVG : VG v) (hR : RP (μ 0) v) : XW l yL_filledShare cL_filledShare 3 [(0, 8, 11, 136)] [.ref (A (0, 14)), .ref ao] Z ao (oD Z) f (g, A, μ) sz (fun r u => (r = nI 0 ∧ ∃ x9 : UInt32, (fun r u => 0 < ntV v ∧ r = FP.fdiv (FP.i2f (nI (sumN (lvN v) (ntV v)))) (FP.i2f (nI (sumN (cpN v) (ntV v)))) ∧ SM g A μ u) x9 u.1 ∧ u.2 0 = FP.f2d x9) ∨ ∃ n9 : Nat, (fun n u => SM g A μ u ∧ ((n = 5 ∧ ntV v = 0))) n9 u.1 ∧ ((n9 = 5 ∧ r = nI 1))) := by
  refine u_met (ws := uW Z ao (oD Z f) (g, A, μ)) (by decide +kernel) (Nat.le_of_ble_eq_true rfl) ?_
  intro p e s m below meth c ls S hr hlk htab hsz hW hl
  have hxe := S.1
  have hcd := S.2.1
  subst hsz
  have hl : lv_has ls 3 [(0, .ref (A (0, 14))), (1, .ref ao)] := hl
  refine lv_aload_n hxe hcd dL_filledShare_0 rfl (lv_at hl 1 rfl) ?_
  refine lv_iconst (v := (nI 0)) hxe hcd dL_filledShare_1 (by decide) ?_
  refine lv_aload_n hxe hcd dL_filledShare_2 rfl (lv_at hl 0 rfl) ?_
  refine u_callf hZ S (wr := [(ao, oD Z f)]) (v := (g, A, μ)) hW (As := []) (rest := [.int (nI 0), .ref ao]) (t_X9_filledShare l hl0 hZ hZX A g μ s.heap.size hVG hR) k_L_138 (r_recv (u_X (wr := [(ao, oD Z f)]) (v := (g, A, μ)) hW) (x := (0, 14)) (in_r (by decide) (by decide)) rfl rfl) hl.1 rfl rfl (Nat.le_of_ble_eq_true rfl) ⟨(Nat.le_of_ble_eq_true rfl), (Nat.le_of_ble_eq_true rfl)⟩ ⟨(Nat.le_of_ble_eq_true rfl), (Nat.le_of_ble_eq_true rfl)⟩ dL_filledShare_3 (fun n u H locs q9 ce hpx hW h7 h8 h9 => ?_) (fun r u H locs hp hW => ?_)
  · have hpx2 := hpx
    obtain ⟨rfl, hc⟩ := hpx2.2
    refine vx_catch (E := "java/lang/ArithmeticException") (name := "java/lang/ArithmeticException") S.2.2.2.1 [] ⟨0, 8, 11, 136⟩ [] htab (fun _ h => absurd h List.not_mem_nil) (by decide) (by decide) (S.2.2.2.2 _ g_1202) (tw_bef hZ hW.2.2.2.2.2 S.2.2.2.2 (Or.inr n_1214)) h7 h8 h9 ?_
    refine lv_astore_n (lv' := [(2, .ref q9), (0, .ref (A (0, 14))), (1, .ref ao)]) hxe hcd dL_filledShare_11 rfl hl (by decide) rfl (fun ls hl => ?_)
    refine lv_iconst (v := (nI 1)) hxe hcd dL_filledShare_12 (by decide) ?_
    exact u_ret S hr hlk (F := fun (u : GM × (Nat → UInt64)) => uW Z ao (oD Z u.2) u.1) (u, f) hW (Nat.le_of_ble_eq_true rfl) (Nat.le_of_ble_eq_true rfl) (Or.inr ⟨5, hpx, ⟨rfl, rfl⟩⟩) dL_filledShare_13
  · refine lv_f2d hxe hcd dL_filledShare_6 (by rw [hp.2.1]; exact fd64 (cap_36 hVG).2.1 (by have h1 := (cap_36 hVG).2.2; have h2 := hp.1; omega) (cap_36 hVG).1) ?_
    refine u_dst S hW dL_filledShare_7 (fun H locs f2 hf2 hW => ?_)
    refine lv_goto (tgt := 14) hxe hcd dL_filledShare_8 (by decide) ?_
    refine lv_iconst (v := (nI 0)) hxe hcd dL_filledShare_14 (by decide) ?_
    exact u_ret S hr hlk (F := fun (u : GM × (Nat → UInt64)) => uW Z ao (oD Z u.2) u.1) (u, f2) hW (Nat.le_of_ble_eq_true rfl) (Nat.le_of_ble_eq_true rfl) (Or.inl ⟨rfl, r, hp, hf2⟩) dL_filledShare_15
