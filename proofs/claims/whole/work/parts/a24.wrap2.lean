set_option maxHeartbeats 4000000 in
set_option maxRecDepth 100000 in
theorem t_L_pour (l : Launch) (hl0 : l.stackTraces = false) {Z : ZT} (hZ : zOK Z) (hZX : ZX Z) (hNC : XNC Z) (ao : Nat) (f : Nat → Int64) (A : Nat × Nat → Nat) (g : Nat → Bool) (μ : CM) (sz : Nat) {v : Nat → Int32} (hVG : VG v) (hR : RP (μ 0) v) {kr cn : Nat} (hkr : kr < 8) (hk15 : μ 0 15 1 = nI kr) (hcn : μ 0 15 2 = nI cn) (hc8 : cn ≤ 8) (x : Int32) : XW l yL_pour cL_pour 4 [(0, 9, 12, 21), (0, 9, 15, 45)] [.ref (A (0, 14)), .int x, .ref ao] Z ao (oJ Z) f (g, A, μ) sz (fun r u => (r = nI 0 ∧ ∃ x9 : Int32, (fun r u => ∃ q, q < 4 ∧ x = nI q ∧ 0 < nnV v q ∧ r = nI (pourC v (ntV v) (ldV (flV v q (nfV v)) (lnV v q)) ((lnV v q + 7) / 8)) ∧ CHG g A μ kr cn v (pourN v (ntV v) (ldV (flV v q (nfV v)) (lnV v q)) ((lnV v q + 7) / 8)) u) x9 u.1 ∧ u.2 0 = x9.toInt64) ∨ ∃ n9 : Nat, (fun n u => SM g A μ u ∧ ((n = 1 ∧ ¬ IX x 4) ∨ (n = 4 ∧ ∃ q, q < 4 ∧ x = nI q ∧ nnV v q = 0))) n9 u.1 ∧ ((n9 = 1 ∧ r = nI 1) ∨ (n9 = 4 ∧ r = nI 2))) := by
  refine u_met (ws := uW Z ao (oJ Z f) (g, A, μ)) (by decide +kernel) (Nat.le_of_ble_eq_true rfl) ?_
  intro p e s m below meth c ls S hr hlk htab hsz hW hl
  have hxe := S.1
  have hcd := S.2.1
  subst hsz
  have hl : lv_has ls 4 [(0, .ref (A (0, 14))), (1, .int x), (2, .ref ao)] := hl
  refine lv_aload_n hxe hcd dL_pour_0 rfl (lv_at hl 2 rfl) ?_
  refine lv_iconst (v := (nI 0)) hxe hcd dL_pour_1 (by decide) ?_
  refine lv_aload_n hxe hcd dL_pour_2 rfl (lv_at hl 0 rfl) ?_
  refine lv_iload_n hxe hcd dL_pour_3 rfl (lv_at hl 1 rfl) ?_
  refine u_calli hZ S (wr := [(ao, oJ Z f)]) (v := (g, A, μ)) hW (As := [.int x]) (rest := [.int (nI 0), .ref ao]) (t_X9_pour l hl0 hZ hZX A g μ s.heap.size hVG hR hkr hk15 hcn hc8 x) k_L_82 (r_recv (u_X (wr := [(ao, oJ Z f)]) (v := (g, A, μ)) hW) (x := (0, 14)) (in_r (by decide) (by decide)) rfl rfl) hl.1 rfl rfl (Nat.le_of_ble_eq_true rfl) ⟨(Nat.le_of_ble_eq_true rfl), (Nat.le_of_ble_eq_true rfl)⟩ ⟨(Nat.le_of_ble_eq_true rfl), (Nat.le_of_ble_eq_true rfl)⟩ dL_pour_4 (fun n u H locs q9 ce hpx hW h7 h8 h9 => ?_) (fun r u H locs hp hW => ?_)
  · have hpx2 := hpx
    rcases hpx2.2 with ⟨rfl, hc⟩ | ⟨rfl, hc⟩
    · refine vx_catch (E := "java/lang/IndexOutOfBoundsException") (name := "java/lang/IndexOutOfBoundsException") S.2.2.2.1 [] ⟨0, 9, 12, 21⟩ [⟨0, 9, 15, 45⟩] htab (fun _ h => absurd h List.not_mem_nil) (by decide) (by decide) (S.2.2.2.2 _ g_702) (tw_bef hZ hW.2.2.2.2.2 S.2.2.2.2 (Or.inr n_560)) h7 h8 h9 ?_
      refine lv_astore_n (lv' := [(3, .ref q9), (0, .ref (A (0, 14))), (1, .int x), (2, .ref ao)]) hxe hcd dL_pour_12 rfl hl (by decide) rfl (fun ls hl => ?_)
      refine lv_iconst (v := (nI 1)) hxe hcd dL_pour_13 (by decide) ?_
      exact u_ret S hr hlk (F := fun (u : GM × (Nat → Int64)) => uW Z ao (oJ Z u.2) u.1) (u, f) hW (Nat.le_of_ble_eq_true rfl) (Nat.le_of_ble_eq_true rfl) (Or.inr ⟨1, hpx, Or.inl ⟨rfl, rfl⟩⟩) dL_pour_14
    · refine vx_catch (E := "java/util/NoSuchElementException") (name := "java/util/NoSuchElementException") S.2.2.2.1 [⟨0, 9, 12, 21⟩] ⟨0, 9, 15, 45⟩ [] htab (List.forall_mem_cons.mpr ⟨Or.inr ⟨by decide, "java/lang/IndexOutOfBoundsException", S.2.2.2.2 _ g_702, hNC _ _ _ hW.2.2.2.2.2 ("java/util/NoSuchElementException", "java/lang/IndexOutOfBoundsException") (List.mem_of_getElem? (i := 3) rfl)⟩, (fun _ h => absurd h List.not_mem_nil)⟩) (by decide) (by decide) (S.2.2.2.2 _ g_799) (tw_bef hZ hW.2.2.2.2.2 S.2.2.2.2 (Or.inr n_663)) h7 h8 h9 ?_
      refine lv_astore_n (lv' := [(3, .ref q9), (0, .ref (A (0, 14))), (1, .int x), (2, .ref ao)]) hxe hcd dL_pour_15 rfl hl (by decide) rfl (fun ls hl => ?_)
      refine lv_iconst (v := (nI 2)) hxe hcd dL_pour_16 (by decide) ?_
      exact u_ret S hr hlk (F := fun (u : GM × (Nat → Int64)) => uW Z ao (oJ Z u.2) u.1) (u, f) hW (Nat.le_of_ble_eq_true rfl) (Nat.le_of_ble_eq_true rfl) (Or.inr ⟨4, hpx, Or.inr ⟨rfl, rfl⟩⟩) dL_pour_17
  · refine lv_i2l (v := r.toInt64) hxe hcd dL_pour_7 rfl ?_
    refine u_lst S hW dL_pour_8 (fun H locs f2 hf2 hW => ?_)
    refine lv_goto (tgt := 18) hxe hcd dL_pour_9 (by decide) ?_
    refine lv_iconst (v := (nI 0)) hxe hcd dL_pour_18 (by decide) ?_
    exact u_ret S hr hlk (F := fun (u : GM × (Nat → Int64)) => uW Z ao (oJ Z u.2) u.1) (u, f2) hW (Nat.le_of_ble_eq_true rfl) (Nat.le_of_ble_eq_true rfl) (Or.inl ⟨rfl, r, hp, hf2⟩) dL_pour_19
set_option maxHeartbeats 4000000 in
set_option maxRecDepth 100000 in
theorem t_L_drain (l : Launch) (hl0 : l.stackTraces = false) {Z : ZT} (hZ : zOK Z) (hZX : ZX Z) (hNC : XNC Z) (ao : Nat) (f : Nat → Int64) (A : Nat × Nat → Nat) (g : Nat → Bool) (μ : CM) (sz : Nat) {v : Nat → Int32} (hVG : VG v) (hR : RP (μ 0) v) {kr cn : Nat} (hkr : kr < 8) (hk15 : μ 0 15 1 = nI kr) (hcn : μ 0 15 2 = nI cn) (hc8 : cn ≤ 8) (x y : Int32) : XW l yL_drain cL_drain 5 [(0, 10, 13, 21), (0, 10, 17, 13), (0, 10, 21, 45)] [.ref (A (0, 14)), .int x, .int y, .ref ao] Z ao (oJ Z) f (g, A, μ) sz (fun r u => (r = nI 0 ∧ ∃ x9 : Int32, (fun r u => ∃ q j, q < ntV v ∧ x = nI q ∧ 1 ≤ j ∧ j ≤ 9 ∧ y = nI j ∧ j ≤ lvN v q ∧ r = maxR (fun i => v (29 + 12 * q + (3 + i))) j ∧ CHG g A μ kr cn v (drnV v q (lvN v q) j) u) x9 u.1 ∧ u.2 0 = x9.toInt64) ∨ ∃ n9 : Nat, (fun n u => SM g A μ u ∧ ((n = 1 ∧ ¬ IX x (ntV v)) ∨ (n = 2 ∧ IX x (ntV v) ∧ ¬ (nI 1 ≤ y ∧ y ≤ nI 9)) ∨ (n = 4 ∧ ∃ q j, q < ntV v ∧ x = nI q ∧ 1 ≤ j ∧ j ≤ 9 ∧ y = nI j ∧ ¬ j ≤ lvN v q))) n9 u.1 ∧ ((n9 = 1 ∧ r = nI 1) ∨ (n9 = 2 ∧ r = nI 2) ∨ (n9 = 4 ∧ r = nI 3))) := by
  refine u_met (ws := uW Z ao (oJ Z f) (g, A, μ)) (by decide +kernel) (Nat.le_of_ble_eq_true rfl) ?_
  intro p e s m below meth c ls S hr hlk htab hsz hW hl
  have hxe := S.1
  have hcd := S.2.1
  subst hsz
  have hl : lv_has ls 5 [(0, .ref (A (0, 14))), (1, .int x), (2, .int y), (3, .ref ao)] := hl
  refine lv_aload_n hxe hcd dL_drain_0 rfl (lv_at hl 3 rfl) ?_
  refine lv_iconst (v := (nI 0)) hxe hcd dL_drain_1 (by decide) ?_
  refine lv_aload_n hxe hcd dL_drain_2 rfl (lv_at hl 0 rfl) ?_
  refine lv_iload_n hxe hcd dL_drain_3 rfl (lv_at hl 1 rfl) ?_
  refine lv_iload_n hxe hcd dL_drain_4 rfl (lv_at hl 2 rfl) ?_
  refine u_calli hZ S (wr := [(ao, oJ Z f)]) (v := (g, A, μ)) hW (As := [.int x, .int y]) (rest := [.int (nI 0), .ref ao]) (t_X9_drain l hl0 hZ hZX A g μ s.heap.size hVG hR hkr hk15 hcn hc8 x y) k_L_85 (r_recv (u_X (wr := [(ao, oJ Z f)]) (v := (g, A, μ)) hW) (x := (0, 14)) (in_r (by decide) (by decide)) rfl rfl) hl.1 rfl rfl (Nat.le_of_ble_eq_true rfl) ⟨(Nat.le_of_ble_eq_true rfl), (Nat.le_of_ble_eq_true rfl)⟩ ⟨(Nat.le_of_ble_eq_true rfl), (Nat.le_of_ble_eq_true rfl)⟩ dL_drain_5 (fun n u H locs q9 ce hpx hW h7 h8 h9 => ?_) (fun r u H locs hp hW => ?_)
  · have hpx2 := hpx
    rcases hpx2.2 with ⟨rfl, hc⟩ | ⟨rfl, hc⟩ | ⟨rfl, hc⟩
    · refine vx_catch (E := "java/lang/IndexOutOfBoundsException") (name := "java/lang/IndexOutOfBoundsException") S.2.2.2.1 [] ⟨0, 10, 13, 21⟩ [⟨0, 10, 17, 13⟩, ⟨0, 10, 21, 45⟩] htab (fun _ h => absurd h List.not_mem_nil) (by decide) (by decide) (S.2.2.2.2 _ g_702) (tw_bef hZ hW.2.2.2.2.2 S.2.2.2.2 (Or.inr n_560)) h7 h8 h9 ?_
      refine lv_astore (lv' := [(4, .ref q9), (0, .ref (A (0, 14))), (1, .int x), (2, .int y), (3, .ref ao)]) hxe hcd dL_drain_13 hl (by decide) rfl (fun ls hl => ?_)
      refine lv_iconst (v := (nI 1)) hxe hcd dL_drain_15 (by decide) ?_
      exact u_ret S hr hlk (F := fun (u : GM × (Nat → Int64)) => uW Z ao (oJ Z u.2) u.1) (u, f) hW (Nat.le_of_ble_eq_true rfl) (Nat.le_of_ble_eq_true rfl) (Or.inr ⟨1, hpx, Or.inl ⟨rfl, rfl⟩⟩) dL_drain_16
    · refine vx_catch (E := "java/lang/IllegalArgumentException") (name := "java/lang/IllegalArgumentException") S.2.2.2.1 [⟨0, 10, 13, 21⟩] ⟨0, 10, 17, 13⟩ [⟨0, 10, 21, 45⟩] htab (List.forall_mem_cons.mpr ⟨Or.inr ⟨by decide, "java/lang/IndexOutOfBoundsException", S.2.2.2.2 _ g_702, hNC _ _ _ hW.2.2.2.2.2 ("java/lang/IllegalArgumentException", "java/lang/IndexOutOfBoundsException") (List.mem_of_getElem? (i := 1) rfl)⟩, (fun _ h => absurd h List.not_mem_nil)⟩) (by decide) (by decide) (S.2.2.2.2 _ g_539) (tw_bef hZ hW.2.2.2.2.2 S.2.2.2.2 (Or.inr n_631)) h7 h8 h9 ?_
      refine lv_astore (lv' := [(4, .ref q9), (0, .ref (A (0, 14))), (1, .int x), (2, .int y), (3, .ref ao)]) hxe hcd dL_drain_17 hl (by decide) rfl (fun ls hl => ?_)
      refine lv_iconst (v := (nI 2)) hxe hcd dL_drain_19 (by decide) ?_
      exact u_ret S hr hlk (F := fun (u : GM × (Nat → Int64)) => uW Z ao (oJ Z u.2) u.1) (u, f) hW (Nat.le_of_ble_eq_true rfl) (Nat.le_of_ble_eq_true rfl) (Or.inr ⟨2, hpx, Or.inr (Or.inl ⟨rfl, rfl⟩)⟩) dL_drain_20
    · refine vx_catch (E := "java/util/NoSuchElementException") (name := "java/util/NoSuchElementException") S.2.2.2.1 [⟨0, 10, 13, 21⟩, ⟨0, 10, 17, 13⟩] ⟨0, 10, 21, 45⟩ [] htab (List.forall_mem_cons.mpr ⟨Or.inr ⟨by decide, "java/lang/IndexOutOfBoundsException", S.2.2.2.2 _ g_702, hNC _ _ _ hW.2.2.2.2.2 ("java/util/NoSuchElementException", "java/lang/IndexOutOfBoundsException") (List.mem_of_getElem? (i := 3) rfl)⟩, (List.forall_mem_cons.mpr ⟨Or.inr ⟨by decide, "java/lang/IllegalArgumentException", S.2.2.2.2 _ g_539, hNC _ _ _ hW.2.2.2.2.2 ("java/util/NoSuchElementException", "java/lang/IllegalArgumentException") (List.mem_of_getElem? (i := 4) rfl)⟩, (fun _ h => absurd h List.not_mem_nil)⟩)⟩) (by decide) (by decide) (S.2.2.2.2 _ g_799) (tw_bef hZ hW.2.2.2.2.2 S.2.2.2.2 (Or.inr n_663)) h7 h8 h9 ?_
      refine lv_astore (lv' := [(4, .ref q9), (0, .ref (A (0, 14))), (1, .int x), (2, .int y), (3, .ref ao)]) hxe hcd dL_drain_21 hl (by decide) rfl (fun ls hl => ?_)
      refine lv_iconst (v := (nI 3)) hxe hcd dL_drain_23 (by decide) ?_
      exact u_ret S hr hlk (F := fun (u : GM × (Nat → Int64)) => uW Z ao (oJ Z u.2) u.1) (u, f) hW (Nat.le_of_ble_eq_true rfl) (Nat.le_of_ble_eq_true rfl) (Or.inr ⟨4, hpx, Or.inr (Or.inr ⟨rfl, rfl⟩)⟩) dL_drain_24
  · refine lv_i2l (v := r.toInt64) hxe hcd dL_drain_8 rfl ?_
    refine u_lst S hW dL_drain_9 (fun H locs f2 hf2 hW => ?_)
    refine lv_goto (tgt := 25) hxe hcd dL_drain_10 (by decide) ?_
    refine lv_iconst (v := (nI 0)) hxe hcd dL_drain_25 (by decide) ?_
    exact u_ret S hr hlk (F := fun (u : GM × (Nat → Int64)) => uW Z ao (oJ Z u.2) u.1) (u, f2) hW (Nat.le_of_ble_eq_true rfl) (Nat.le_of_ble_eq_true rfl) (Or.inl ⟨rfl, r, hp, hf2⟩) dL_drain_26
set_option maxHeartbeats 4000000 in
set_option maxRecDepth 100000 in
theorem t_L_capacity (l : Launch) (hl0 : l.stackTraces = false) {Z : ZT} (hZ : zOK Z) (hZX : ZX Z) (hNC : XNC Z) (ao : Nat) (f : Nat → Int64) (A : Nat × Nat → Nat) (g : Nat → Bool) (μ : CM) (sz : Nat) {v : Nat → Int32} (hVG : VG v) (hR : RP (μ 0) v) (x : Int32) : XW l yL_capacity cL_capacity 4 [(0, 9, 12, 21)] [.ref (A (0, 14)), .int x, .ref ao] Z ao (oJ Z) f (g, A, μ) sz (fun r u => (r = nI 0 ∧ ∃ x9 : Int32, (fun r u => ∃ q, q < ntV v ∧ x = nI q ∧ r = v (29 + 12 * q + 0) ∧ SM g A μ u) x9 u.1 ∧ u.2 0 = x9.toInt64) ∨ ∃ n9 : Nat, (fun n u => SM g A μ u ∧ ((n = 1 ∧ ¬ IX x (ntV v)))) n9 u.1 ∧ ((n9 = 1 ∧ r = nI 1))) := by
  refine u_met (ws := uW Z ao (oJ Z f) (g, A, μ)) (by decide +kernel) (Nat.le_of_ble_eq_true rfl) ?_
  intro p e s m below meth c ls S hr hlk htab hsz hW hl
  have hxe := S.1
  have hcd := S.2.1
  subst hsz
  have hl : lv_has ls 4 [(0, .ref (A (0, 14))), (1, .int x), (2, .ref ao)] := hl
  refine lv_aload_n hxe hcd dL_capacity_0 rfl (lv_at hl 2 rfl) ?_
  refine lv_iconst (v := (nI 0)) hxe hcd dL_capacity_1 (by decide) ?_
  refine lv_aload_n hxe hcd dL_capacity_2 rfl (lv_at hl 0 rfl) ?_
  refine lv_iload_n hxe hcd dL_capacity_3 rfl (lv_at hl 1 rfl) ?_
  refine u_calli hZ S (wr := [(ao, oJ Z f)]) (v := (g, A, μ)) hW (As := [.int x]) (rest := [.int (nI 0), .ref ao]) (t_X9_capacity l hl0 hZ hZX A g μ s.heap.size hVG hR x) k_L_88 (r_recv (u_X (wr := [(ao, oJ Z f)]) (v := (g, A, μ)) hW) (x := (0, 14)) (in_r (by decide) (by decide)) rfl rfl) hl.1 rfl rfl (Nat.le_of_ble_eq_true rfl) ⟨(Nat.le_of_ble_eq_true rfl), (Nat.le_of_ble_eq_true rfl)⟩ ⟨(Nat.le_of_ble_eq_true rfl), (Nat.le_of_ble_eq_true rfl)⟩ dL_capacity_4 (fun n u H locs q9 ce hpx hW h7 h8 h9 => ?_) (fun r u H locs hp hW => ?_)
  · have hpx2 := hpx
    obtain ⟨rfl, hc⟩ := hpx2.2
    refine vx_catch (E := "java/lang/IndexOutOfBoundsException") (name := "java/lang/IndexOutOfBoundsException") S.2.2.2.1 [] ⟨0, 9, 12, 21⟩ [] htab (fun _ h => absurd h List.not_mem_nil) (by decide) (by decide) (S.2.2.2.2 _ g_702) (tw_bef hZ hW.2.2.2.2.2 S.2.2.2.2 (Or.inr n_560)) h7 h8 h9 ?_
    refine lv_astore_n (lv' := [(3, .ref q9), (0, .ref (A (0, 14))), (1, .int x), (2, .ref ao)]) hxe hcd dL_capacity_12 rfl hl (by decide) rfl (fun ls hl => ?_)
    refine lv_iconst (v := (nI 1)) hxe hcd dL_capacity_13 (by decide) ?_
    exact u_ret S hr hlk (F := fun (u : GM × (Nat → Int64)) => uW Z ao (oJ Z u.2) u.1) (u, f) hW (Nat.le_of_ble_eq_true rfl) (Nat.le_of_ble_eq_true rfl) (Or.inr ⟨1, hpx, ⟨rfl, rfl⟩⟩) dL_capacity_14
  · refine lv_i2l (v := r.toInt64) hxe hcd dL_capacity_7 rfl ?_
    refine u_lst S hW dL_capacity_8 (fun H locs f2 hf2 hW => ?_)
    refine lv_goto (tgt := 15) hxe hcd dL_capacity_9 (by decide) ?_
    refine lv_iconst (v := (nI 0)) hxe hcd dL_capacity_15 (by decide) ?_
    exact u_ret S hr hlk (F := fun (u : GM × (Nat → Int64)) => uW Z ao (oJ Z u.2) u.1) (u, f2) hW (Nat.le_of_ble_eq_true rfl) (Nat.le_of_ble_eq_true rfl) (Or.inl ⟨rfl, r, hp, hf2⟩) dL_capacity_16
set_option maxHeartbeats 4000000 in
set_option maxRecDepth 100000 in
theorem t_L_tuning (l : Launch) (hl0 : l.stackTraces = false) {Z : ZT} (hZ : zOK Z) (hZX : ZX Z) (hNC : XNC Z) (ao : Nat) (f : Nat → Int64) (A : Nat × Nat → Nat) (g : Nat → Bool) (μ : CM) (sz : Nat) {v : Nat → Int32} (hVG : VG v) (hR : RP (μ 0) v) (x : Int32) : XW l yL_tuning cL_tuning 4 [(0, 9, 12, 21)] [.ref (A (0, 14)), .int x, .ref ao] Z ao (oJ Z) f (g, A, μ) sz (fun r u => (r = nI 0 ∧ ∃ x9 : Int32, (fun r u => ∃ q, q < ntV v ∧ x = nI q ∧ r = v (29 + 12 * q + 1) ∧ SM g A μ u) x9 u.1 ∧ u.2 0 = x9.toInt64) ∨ ∃ n9 : Nat, (fun n u => SM g A μ u ∧ ((n = 1 ∧ ¬ IX x (ntV v)))) n9 u.1 ∧ ((n9 = 1 ∧ r = nI 1))) := by
  refine u_met (ws := uW Z ao (oJ Z f) (g, A, μ)) (by decide +kernel) (Nat.le_of_ble_eq_true rfl) ?_
  intro p e s m below meth c ls S hr hlk htab hsz hW hl
  have hxe := S.1
  have hcd := S.2.1
  subst hsz
  have hl : lv_has ls 4 [(0, .ref (A (0, 14))), (1, .int x), (2, .ref ao)] := hl
  refine lv_aload_n hxe hcd dL_tuning_0 rfl (lv_at hl 2 rfl) ?_
  refine lv_iconst (v := (nI 0)) hxe hcd dL_tuning_1 (by decide) ?_
  refine lv_aload_n hxe hcd dL_tuning_2 rfl (lv_at hl 0 rfl) ?_
  refine lv_iload_n hxe hcd dL_tuning_3 rfl (lv_at hl 1 rfl) ?_
  refine u_calli hZ S (wr := [(ao, oJ Z f)]) (v := (g, A, μ)) hW (As := [.int x]) (rest := [.int (nI 0), .ref ao]) (t_X9_tuning l hl0 hZ hZX A g μ s.heap.size hVG hR x) k_L_91 (r_recv (u_X (wr := [(ao, oJ Z f)]) (v := (g, A, μ)) hW) (x := (0, 14)) (in_r (by decide) (by decide)) rfl rfl) hl.1 rfl rfl (Nat.le_of_ble_eq_true rfl) ⟨(Nat.le_of_ble_eq_true rfl), (Nat.le_of_ble_eq_true rfl)⟩ ⟨(Nat.le_of_ble_eq_true rfl), (Nat.le_of_ble_eq_true rfl)⟩ dL_tuning_4 (fun n u H locs q9 ce hpx hW h7 h8 h9 => ?_) (fun r u H locs hp hW => ?_)
  · have hpx2 := hpx
    obtain ⟨rfl, hc⟩ := hpx2.2
    refine vx_catch (E := "java/lang/IndexOutOfBoundsException") (name := "java/lang/IndexOutOfBoundsException") S.2.2.2.1 [] ⟨0, 9, 12, 21⟩ [] htab (fun _ h => absurd h List.not_mem_nil) (by decide) (by decide) (S.2.2.2.2 _ g_702) (tw_bef hZ hW.2.2.2.2.2 S.2.2.2.2 (Or.inr n_560)) h7 h8 h9 ?_
    refine lv_astore_n (lv' := [(3, .ref q9), (0, .ref (A (0, 14))), (1, .int x), (2, .ref ao)]) hxe hcd dL_tuning_12 rfl hl (by decide) rfl (fun ls hl => ?_)
    refine lv_iconst (v := (nI 1)) hxe hcd dL_tuning_13 (by decide) ?_
    exact u_ret S hr hlk (F := fun (u : GM × (Nat → Int64)) => uW Z ao (oJ Z u.2) u.1) (u, f) hW (Nat.le_of_ble_eq_true rfl) (Nat.le_of_ble_eq_true rfl) (Or.inr ⟨1, hpx, ⟨rfl, rfl⟩⟩) dL_tuning_14
  · refine lv_i2l (v := r.toInt64) hxe hcd dL_tuning_7 rfl ?_
    refine u_lst S hW dL_tuning_8 (fun H locs f2 hf2 hW => ?_)
    refine lv_goto (tgt := 15) hxe hcd dL_tuning_9 (by decide) ?_
    refine lv_iconst (v := (nI 0)) hxe hcd dL_tuning_15 (by decide) ?_
    exact u_ret S hr hlk (F := fun (u : GM × (Nat → Int64)) => uW Z ao (oJ Z u.2) u.1) (u, f2) hW (Nat.le_of_ble_eq_true rfl) (Nat.le_of_ble_eq_true rfl) (Or.inl ⟨rfl, r, hp, hf2⟩) dL_tuning_16
set_option maxHeartbeats 4000000 in
set_option maxRecDepth 100000 in
theorem t_L_level (l : Launch) (hl0 : l.stackTraces = false) {Z : ZT} (hZ : zOK Z) (hZX : ZX Z) (hNC : XNC Z) (ao : Nat) (f : Nat → Int64) (A : Nat × Nat → Nat) (g : Nat → Bool) (μ : CM) (sz : Nat) {v : Nat → Int32} (hVG : VG v) (hR : RP (μ 0) v) (x : Int32) : XW l yL_level cL_level 4 [(0, 9, 12, 21)] [.ref (A (0, 14)), .int x, .ref ao] Z ao (oJ Z) f (g, A, μ) sz (fun r u => (r = nI 0 ∧ ∃ x9 : Int32, (fun r u => ∃ q, q < ntV v ∧ x = nI q ∧ r = v (29 + 12 * q + 2) ∧ SM g A μ u) x9 u.1 ∧ u.2 0 = x9.toInt64) ∨ ∃ n9 : Nat, (fun n u => SM g A μ u ∧ ((n = 1 ∧ ¬ IX x (ntV v)))) n9 u.1 ∧ ((n9 = 1 ∧ r = nI 1))) := by
  refine u_met (ws := uW Z ao (oJ Z f) (g, A, μ)) (by decide +kernel) (Nat.le_of_ble_eq_true rfl) ?_
  intro p e s m below meth c ls S hr hlk htab hsz hW hl
  have hxe := S.1
  have hcd := S.2.1
  subst hsz
  have hl : lv_has ls 4 [(0, .ref (A (0, 14))), (1, .int x), (2, .ref ao)] := hl
  refine lv_aload_n hxe hcd dL_level_0 rfl (lv_at hl 2 rfl) ?_
  refine lv_iconst (v := (nI 0)) hxe hcd dL_level_1 (by decide) ?_
  refine lv_aload_n hxe hcd dL_level_2 rfl (lv_at hl 0 rfl) ?_
  refine lv_iload_n hxe hcd dL_level_3 rfl (lv_at hl 1 rfl) ?_
  refine u_calli hZ S (wr := [(ao, oJ Z f)]) (v := (g, A, μ)) hW (As := [.int x]) (rest := [.int (nI 0), .ref ao]) (t_X9_level l hl0 hZ hZX A g μ s.heap.size hVG hR x) k_L_94 (r_recv (u_X (wr := [(ao, oJ Z f)]) (v := (g, A, μ)) hW) (x := (0, 14)) (in_r (by decide) (by decide)) rfl rfl) hl.1 rfl rfl (Nat.le_of_ble_eq_true rfl) ⟨(Nat.le_of_ble_eq_true rfl), (Nat.le_of_ble_eq_true rfl)⟩ ⟨(Nat.le_of_ble_eq_true rfl), (Nat.le_of_ble_eq_true rfl)⟩ dL_level_4 (fun n u H locs q9 ce hpx hW h7 h8 h9 => ?_) (fun r u H locs hp hW => ?_)
  · have hpx2 := hpx
    obtain ⟨rfl, hc⟩ := hpx2.2
    refine vx_catch (E := "java/lang/IndexOutOfBoundsException") (name := "java/lang/IndexOutOfBoundsException") S.2.2.2.1 [] ⟨0, 9, 12, 21⟩ [] htab (fun _ h => absurd h List.not_mem_nil) (by decide) (by decide) (S.2.2.2.2 _ g_702) (tw_bef hZ hW.2.2.2.2.2 S.2.2.2.2 (Or.inr n_560)) h7 h8 h9 ?_
    refine lv_astore_n (lv' := [(3, .ref q9), (0, .ref (A (0, 14))), (1, .int x), (2, .ref ao)]) hxe hcd dL_level_12 rfl hl (by decide) rfl (fun ls hl => ?_)
    refine lv_iconst (v := (nI 1)) hxe hcd dL_level_13 (by decide) ?_
    exact u_ret S hr hlk (F := fun (u : GM × (Nat → Int64)) => uW Z ao (oJ Z u.2) u.1) (u, f) hW (Nat.le_of_ble_eq_true rfl) (Nat.le_of_ble_eq_true rfl) (Or.inr ⟨1, hpx, ⟨rfl, rfl⟩⟩) dL_level_14
  · refine lv_i2l (v := r.toInt64) hxe hcd dL_level_7 rfl ?_
    refine u_lst S hW dL_level_8 (fun H locs f2 hf2 hW => ?_)
    refine lv_goto (tgt := 15) hxe hcd dL_level_9 (by decide) ?_
    refine lv_iconst (v := (nI 0)) hxe hcd dL_level_15 (by decide) ?_
    exact u_ret S hr hlk (F := fun (u : GM × (Nat → Int64)) => uW Z ao (oJ Z u.2) u.1) (u, f2) hW (Nat.le_of_ble_eq_true rfl) (Nat.le_of_ble_eq_true rfl) (Or.inl ⟨rfl, r, hp, hf2⟩) dL_level_16
set_option maxHeartbeats 4000000 in
set_option maxRecDepth 100000 in
theorem t_L_frameLoudness (l : Launch) (hl0 : l.stackTraces = false) {Z : ZT} (hZ : zOK Z) (hZX : ZX Z) (hNC : XNC Z) (ao : Nat) (f : Nat → Int64) (A : Nat × Nat → Nat) (g : Nat → Bool) (μ : CM) (sz : Nat) {v : Nat → Int32} (hVG : VG v) (hR : RP (μ 0) v) (x y : Int32) : XW l yL_frameLoudness cL_frameLoudness 5 [(0, 10, 13, 21), (0, 10, 17, 45)] [.ref (A (0, 14)), .int x, .int y, .ref ao] Z ao (oJ Z) f (g, A, μ) sz (fun r u => (r = nI 0 ∧ ∃ x9 : Int32, (fun r u => ∃ q j, q < ntV v ∧ x = nI q ∧ j < lvN v q ∧ y = nI j ∧ r = v (29 + 12 * q + (3 + j)) ∧ SM g A μ u) x9 u.1 ∧ u.2 0 = x9.toInt64) ∨ ∃ n9 : Nat, (fun n u => SM g A μ u ∧ ((n = 1 ∧ ¬ IX x (ntV v)) ∨ (n = 4 ∧ ∃ q, q < ntV v ∧ x = nI q ∧ ¬ IX y (lvN v q)))) n9 u.1 ∧ ((n9 = 1 ∧ r = nI 1) ∨ (n9 = 4 ∧ r = nI 2))) := by
  refine u_met (ws := uW Z ao (oJ Z f) (g, A, μ)) (by decide +kernel) (Nat.le_of_ble_eq_true rfl) ?_
  intro p e s m below meth c ls S hr hlk htab hsz hW hl
  have hxe := S.1
  have hcd := S.2.1
  subst hsz
  have hl : lv_has ls 5 [(0, .ref (A (0, 14))), (1, .int x), (2, .int y), (3, .ref ao)] := hl
  refine lv_aload_n hxe hcd dL_frameLoudness_0 rfl (lv_at hl 3 rfl) ?_
  refine lv_iconst (v := (nI 0)) hxe hcd dL_frameLoudness_1 (by decide) ?_
  refine lv_aload_n hxe hcd dL_frameLoudness_2 rfl (lv_at hl 0 rfl) ?_
  refine lv_iload_n hxe hcd dL_frameLoudness_3 rfl (lv_at hl 1 rfl) ?_
  refine lv_iload_n hxe hcd dL_frameLoudness_4 rfl (lv_at hl 2 rfl) ?_
  refine u_calli hZ S (wr := [(ao, oJ Z f)]) (v := (g, A, μ)) hW (As := [.int x, .int y]) (rest := [.int (nI 0), .ref ao]) (t_X9_frameLoudness l hl0 hZ hZX A g μ s.heap.size hVG hR x y) k_L_97 (r_recv (u_X (wr := [(ao, oJ Z f)]) (v := (g, A, μ)) hW) (x := (0, 14)) (in_r (by decide) (by decide)) rfl rfl) hl.1 rfl rfl (Nat.le_of_ble_eq_true rfl) ⟨(Nat.le_of_ble_eq_true rfl), (Nat.le_of_ble_eq_true rfl)⟩ ⟨(Nat.le_of_ble_eq_true rfl), (Nat.le_of_ble_eq_true rfl)⟩ dL_frameLoudness_5 (fun n u H locs q9 ce hpx hW h7 h8 h9 => ?_) (fun r u H locs hp hW => ?_)
  · have hpx2 := hpx
    rcases hpx2.2 with ⟨rfl, hc⟩ | ⟨rfl, hc⟩
    · refine vx_catch (E := "java/lang/IndexOutOfBoundsException") (name := "java/lang/IndexOutOfBoundsException") S.2.2.2.1 [] ⟨0, 10, 13, 21⟩ [⟨0, 10, 17, 45⟩] htab (fun _ h => absurd h List.not_mem_nil) (by decide) (by decide) (S.2.2.2.2 _ g_702) (tw_bef hZ hW.2.2.2.2.2 S.2.2.2.2 (Or.inr n_560)) h7 h8 h9 ?_
      refine lv_astore (lv' := [(4, .ref q9), (0, .ref (A (0, 14))), (1, .int x), (2, .int y), (3, .ref ao)]) hxe hcd dL_frameLoudness_13 hl (by decide) rfl (fun ls hl => ?_)
      refine lv_iconst (v := (nI 1)) hxe hcd dL_frameLoudness_15 (by decide) ?_
      exact u_ret S hr hlk (F := fun (u : GM × (Nat → Int64)) => uW Z ao (oJ Z u.2) u.1) (u, f) hW (Nat.le_of_ble_eq_true rfl) (Nat.le_of_ble_eq_true rfl) (Or.inr ⟨1, hpx, Or.inl ⟨rfl, rfl⟩⟩) dL_frameLoudness_16
    · refine vx_catch (E := "java/util/NoSuchElementException") (name := "java/util/NoSuchElementException") S.2.2.2.1 [⟨0, 10, 13, 21⟩] ⟨0, 10, 17, 45⟩ [] htab (List.forall_mem_cons.mpr ⟨Or.inr ⟨by decide, "java/lang/IndexOutOfBoundsException", S.2.2.2.2 _ g_702, hNC _ _ _ hW.2.2.2.2.2 ("java/util/NoSuchElementException", "java/lang/IndexOutOfBoundsException") (List.mem_of_getElem? (i := 3) rfl)⟩, (fun _ h => absurd h List.not_mem_nil)⟩) (by decide) (by decide) (S.2.2.2.2 _ g_799) (tw_bef hZ hW.2.2.2.2.2 S.2.2.2.2 (Or.inr n_663)) h7 h8 h9 ?_
      refine lv_astore (lv' := [(4, .ref q9), (0, .ref (A (0, 14))), (1, .int x), (2, .int y), (3, .ref ao)]) hxe hcd dL_frameLoudness_17 hl (by decide) rfl (fun ls hl => ?_)
      refine lv_iconst (v := (nI 2)) hxe hcd dL_frameLoudness_19 (by decide) ?_
      exact u_ret S hr hlk (F := fun (u : GM × (Nat → Int64)) => uW Z ao (oJ Z u.2) u.1) (u, f) hW (Nat.le_of_ble_eq_true rfl) (Nat.le_of_ble_eq_true rfl) (Or.inr ⟨4, hpx, Or.inr ⟨rfl, rfl⟩⟩) dL_frameLoudness_20
  · refine lv_i2l (v := r.toInt64) hxe hcd dL_frameLoudness_8 rfl ?_
    refine u_lst S hW dL_frameLoudness_9 (fun H locs f2 hf2 hW => ?_)
    refine lv_goto (tgt := 21) hxe hcd dL_frameLoudness_10 (by decide) ?_
    refine lv_iconst (v := (nI 0)) hxe hcd dL_frameLoudness_21 (by decide) ?_
    exact u_ret S hr hlk (F := fun (u : GM × (Nat → Int64)) => uW Z ao (oJ Z u.2) u.1) (u, f2) hW (Nat.le_of_ble_eq_true rfl) (Nat.le_of_ble_eq_true rfl) (Or.inl ⟨rfl, r, hp, hf2⟩) dL_frameLoudness_22
set_option maxHeartbeats 4000000 in
set_option maxRecDepth 100000 in
theorem t_L_frameCount (l : Launch) (hl0 : l.stackTraces = false) {Z : ZT} (hZ : zOK Z) (hZX : ZX Z) (hNC : XNC Z) (ao : Nat) (f : Nat → Int64) (A : Nat × Nat → Nat) (g : Nat → Bool) (μ : CM) (sz : Nat) {v : Nat → Int32} (hVG : VG v) (hR : RP (μ 0) v) (x : Int32) : XW l yL_frameCount cL_frameCount 4 [(0, 9, 12, 21)] [.ref (A (0, 14)), .int x, .ref ao] Z ao (oJ Z) f (g, A, μ) sz (fun r u => (r = nI 0 ∧ ∃ x9 : Int32, (fun r u => ∃ q, q < 4 ∧ x = nI q ∧ r = nI ((lnV v q + 7) / 8) ∧ SM g A μ u) x9 u.1 ∧ u.2 0 = x9.toInt64) ∨ ∃ n9 : Nat, (fun n u => SM g A μ u ∧ ((n = 1 ∧ ¬ IX x 4))) n9 u.1 ∧ ((n9 = 1 ∧ r = nI 1))) := by
  refine u_met (ws := uW Z ao (oJ Z f) (g, A, μ)) (by decide +kernel) (Nat.le_of_ble_eq_true rfl) ?_
  intro p e s m below meth c ls S hr hlk htab hsz hW hl
  have hxe := S.1
  have hcd := S.2.1
  subst hsz
  have hl : lv_has ls 4 [(0, .ref (A (0, 14))), (1, .int x), (2, .ref ao)] := hl
  refine lv_aload_n hxe hcd dL_frameCount_0 rfl (lv_at hl 2 rfl) ?_
  refine lv_iconst (v := (nI 0)) hxe hcd dL_frameCount_1 (by decide) ?_
  refine lv_aload_n hxe hcd dL_frameCount_2 rfl (lv_at hl 0 rfl) ?_
  refine lv_iload_n hxe hcd dL_frameCount_3 rfl (lv_at hl 1 rfl) ?_
  refine u_calli hZ S (wr := [(ao, oJ Z f)]) (v := (g, A, μ)) hW (As := [.int x]) (rest := [.int (nI 0), .ref ao]) (t_X9_frameCount l hl0 hZ hZX A g μ s.heap.size hVG hR x) k_L_100 (r_recv (u_X (wr := [(ao, oJ Z f)]) (v := (g, A, μ)) hW) (x := (0, 14)) (in_r (by decide) (by decide)) rfl rfl) hl.1 rfl rfl (Nat.le_of_ble_eq_true rfl) ⟨(Nat.le_of_ble_eq_true rfl), (Nat.le_of_ble_eq_true rfl)⟩ ⟨(Nat.le_of_ble_eq_true rfl), (Nat.le_of_ble_eq_true rfl)⟩ dL_frameCount_4 (fun n u H locs q9 ce hpx hW h7 h8 h9 => ?_) (fun r u H locs hp hW => ?_)
  · have hpx2 := hpx
    obtain ⟨rfl, hc⟩ := hpx2.2
    refine vx_catch (E := "java/lang/IndexOutOfBoundsException") (name := "java/lang/IndexOutOfBoundsException") S.2.2.2.1 [] ⟨0, 9, 12, 21⟩ [] htab (fun _ h => absurd h List.not_mem_nil) (by decide) (by decide) (S.2.2.2.2 _ g_702) (tw_bef hZ hW.2.2.2.2.2 S.2.2.2.2 (Or.inr n_560)) h7 h8 h9 ?_
    refine lv_astore_n (lv' := [(3, .ref q9), (0, .ref (A (0, 14))), (1, .int x), (2, .ref ao)]) hxe hcd dL_frameCount_12 rfl hl (by decide) rfl (fun ls hl => ?_)
    refine lv_iconst (v := (nI 1)) hxe hcd dL_frameCount_13 (by decide) ?_
    exact u_ret S hr hlk (F := fun (u : GM × (Nat → Int64)) => uW Z ao (oJ Z u.2) u.1) (u, f) hW (Nat.le_of_ble_eq_true rfl) (Nat.le_of_ble_eq_true rfl) (Or.inr ⟨1, hpx, ⟨rfl, rfl⟩⟩) dL_frameCount_14
  · refine lv_i2l (v := r.toInt64) hxe hcd dL_frameCount_7 rfl ?_
    refine u_lst S hW dL_frameCount_8 (fun H locs f2 hf2 hW => ?_)
    refine lv_goto (tgt := 15) hxe hcd dL_frameCount_9 (by decide) ?_
    refine lv_iconst (v := (nI 0)) hxe hcd dL_frameCount_15 (by decide) ?_
    exact u_ret S hr hlk (F := fun (u : GM × (Nat → Int64)) => uW Z ao (oJ Z u.2) u.1) (u, f2) hW (Nat.le_of_ble_eq_true rfl) (Nat.le_of_ble_eq_true rfl) (Or.inl ⟨rfl, r, hp, hf2⟩) dL_frameCount_16
set_option maxHeartbeats 4000000 in
set_option maxRecDepth 100000 in
theorem t_L_dropsFor (l : Launch) (hl0 : l.stackTraces = false) {Z : ZT} (hZ : zOK Z) (hZX : ZX Z) (hNC : XNC Z) (ao : Nat) (f : Nat → Int64) (A : Nat × Nat → Nat) (g : Nat → Bool) (μ : CM) (sz : Nat) {v : Nat → Int32} (hVG : VG v) (hR : RP (μ 0) v) (x : Int32) : XW l yL_dropsFor cL_dropsFor 4 [(0, 9, 12, 21)] [.ref (A (0, 14)), .int x, .ref ao] Z ao (oJ Z) f (g, A, μ) sz (fun r u => (r = nI 0 ∧ ∃ x9 : Int32, (fun r u => ∃ q, q < 4 ∧ x = nI q ∧ r = nI (((lnV v q + 7) / 8) - pourC v (ntV v) (ldV (flV v q (nfV v)) (lnV v q)) ((lnV v q + 7) / 8)) ∧ SM g A μ u) x9 u.1 ∧ u.2 0 = x9.toInt64) ∨ ∃ n9 : Nat, (fun n u => SM g A μ u ∧ ((n = 1 ∧ ¬ IX x 4))) n9 u.1 ∧ ((n9 = 1 ∧ r = nI 1))) := by
  refine u_met (ws := uW Z ao (oJ Z f) (g, A, μ)) (by decide +kernel) (Nat.le_of_ble_eq_true rfl) ?_
  intro p e s m below meth c ls S hr hlk htab hsz hW hl
  have hxe := S.1
  have hcd := S.2.1
  subst hsz
  have hl : lv_has ls 4 [(0, .ref (A (0, 14))), (1, .int x), (2, .ref ao)] := hl
  refine lv_aload_n hxe hcd dL_dropsFor_0 rfl (lv_at hl 2 rfl) ?_
  refine lv_iconst (v := (nI 0)) hxe hcd dL_dropsFor_1 (by decide) ?_
  refine lv_aload_n hxe hcd dL_dropsFor_2 rfl (lv_at hl 0 rfl) ?_
  refine lv_iload_n hxe hcd dL_dropsFor_3 rfl (lv_at hl 1 rfl) ?_
  refine u_calli hZ S (wr := [(ao, oJ Z f)]) (v := (g, A, μ)) hW (As := [.int x]) (rest := [.int (nI 0), .ref ao]) (t_X9_dropsFor l hl0 hZ hZX A g μ s.heap.size hVG hR x) k_L_103 (r_recv (u_X (wr := [(ao, oJ Z f)]) (v := (g, A, μ)) hW) (x := (0, 14)) (in_r (by decide) (by decide)) rfl rfl) hl.1 rfl rfl (Nat.le_of_ble_eq_true rfl) ⟨(Nat.le_of_ble_eq_true rfl), (Nat.le_of_ble_eq_true rfl)⟩ ⟨(Nat.le_of_ble_eq_true rfl), (Nat.le_of_ble_eq_true rfl)⟩ dL_dropsFor_4 (fun n u H locs q9 ce hpx hW h7 h8 h9 => ?_) (fun r u H locs hp hW => ?_)
  · have hpx2 := hpx
    obtain ⟨rfl, hc⟩ := hpx2.2
    refine vx_catch (E := "java/lang/IndexOutOfBoundsException") (name := "java/lang/IndexOutOfBoundsException") S.2.2.2.1 [] ⟨0, 9, 12, 21⟩ [] htab (fun _ h => absurd h List.not_mem_nil) (by decide) (by decide) (S.2.2.2.2 _ g_702) (tw_bef hZ hW.2.2.2.2.2 S.2.2.2.2 (Or.inr n_560)) h7 h8 h9 ?_
    refine lv_astore_n (lv' := [(3, .ref q9), (0, .ref (A (0, 14))), (1, .int x), (2, .ref ao)]) hxe hcd dL_dropsFor_12 rfl hl (by decide) rfl (fun ls hl => ?_)
    refine lv_iconst (v := (nI 1)) hxe hcd dL_dropsFor_13 (by decide) ?_
    exact u_ret S hr hlk (F := fun (u : GM × (Nat → Int64)) => uW Z ao (oJ Z u.2) u.1) (u, f) hW (Nat.le_of_ble_eq_true rfl) (Nat.le_of_ble_eq_true rfl) (Or.inr ⟨1, hpx, ⟨rfl, rfl⟩⟩) dL_dropsFor_14
  · refine lv_i2l (v := r.toInt64) hxe hcd dL_dropsFor_7 rfl ?_
    refine u_lst S hW dL_dropsFor_8 (fun H locs f2 hf2 hW => ?_)
    refine lv_goto (tgt := 15) hxe hcd dL_dropsFor_9 (by decide) ?_
    refine lv_iconst (v := (nI 0)) hxe hcd dL_dropsFor_15 (by decide) ?_
    exact u_ret S hr hlk (F := fun (u : GM × (Nat → Int64)) => uW Z ao (oJ Z u.2) u.1) (u, f2) hW (Nat.le_of_ble_eq_true rfl) (Nat.le_of_ble_eq_true rfl) (Or.inl ⟨rfl, r, hp, hf2⟩) dL_dropsFor_16
set_option maxHeartbeats 4000000 in
set_option maxRecDepth 100000 in
theorem t_L_dropsByLevels (l : Launch) (hl0 : l.stackTraces = false) {Z : ZT} (hZ : zOK Z) (hZX : ZX Z) (hNC : XNC Z) (ao : Nat) (f : Nat → Int64) (A : Nat × Nat → Nat) (g : Nat → Bool) (μ : CM) (sz : Nat) {v : Nat → Int32} (hVG : VG v) (hR : RP (μ 0) v) (x : Int32) : XW l yL_dropsByLevels cL_dropsByLevels 4 [(0, 9, 12, 21)] [.ref (A (0, 14)), .int x, .ref ao] Z ao (oJ Z) f (g, A, μ) sz (fun r u => (r = nI 0 ∧ ∃ x9 : Int32, (fun r u => ∃ q, q < 4 ∧ x = nI q ∧ r = nI (((lnV v q + 7) / 8) - pourC v (ntV v) (ldV (flV v q (nfV v)) (lnV v q)) ((lnV v q + 7) / 8)) ∧ SM g A μ u) x9 u.1 ∧ u.2 0 = x9.toInt64) ∨ ∃ n9 : Nat, (fun n u => SM g A μ u ∧ ((n = 1 ∧ ¬ IX x 4))) n9 u.1 ∧ ((n9 = 1 ∧ r = nI 1))) := by
  refine u_met (ws := uW Z ao (oJ Z f) (g, A, μ)) (by decide +kernel) (Nat.le_of_ble_eq_true rfl) ?_
  intro p e s m below meth c ls S hr hlk htab hsz hW hl
  have hxe := S.1
  have hcd := S.2.1
  subst hsz
  have hl : lv_has ls 4 [(0, .ref (A (0, 14))), (1, .int x), (2, .ref ao)] := hl
  refine lv_aload_n hxe hcd dL_dropsByLevels_0 rfl (lv_at hl 2 rfl) ?_
  refine lv_iconst (v := (nI 0)) hxe hcd dL_dropsByLevels_1 (by decide) ?_
  refine lv_aload_n hxe hcd dL_dropsByLevels_2 rfl (lv_at hl 0 rfl) ?_
  refine lv_iload_n hxe hcd dL_dropsByLevels_3 rfl (lv_at hl 1 rfl) ?_
  refine u_calli hZ S (wr := [(ao, oJ Z f)]) (v := (g, A, μ)) hW (As := [.int x]) (rest := [.int (nI 0), .ref ao]) (t_X9_dropsByLevels l hl0 hZ hZX A g μ s.heap.size hVG hR x) k_L_106 (r_recv (u_X (wr := [(ao, oJ Z f)]) (v := (g, A, μ)) hW) (x := (0, 14)) (in_r (by decide) (by decide)) rfl rfl) hl.1 rfl rfl (Nat.le_of_ble_eq_true rfl) ⟨(Nat.le_of_ble_eq_true rfl), (Nat.le_of_ble_eq_true rfl)⟩ ⟨(Nat.le_of_ble_eq_true rfl), (Nat.le_of_ble_eq_true rfl)⟩ dL_dropsByLevels_4 (fun n u H locs q9 ce hpx hW h7 h8 h9 => ?_) (fun r u H locs hp hW => ?_)
  · have hpx2 := hpx
    obtain ⟨rfl, hc⟩ := hpx2.2
    refine vx_catch (E := "java/lang/IndexOutOfBoundsException") (name := "java/lang/IndexOutOfBoundsException") S.2.2.2.1 [] ⟨0, 9, 12, 21⟩ [] htab (fun _ h => absurd h List.not_mem_nil) (by decide) (by decide) (S.2.2.2.2 _ g_702) (tw_bef hZ hW.2.2.2.2.2 S.2.2.2.2 (Or.inr n_560)) h7 h8 h9 ?_
    refine lv_astore_n (lv' := [(3, .ref q9), (0, .ref (A (0, 14))), (1, .int x), (2, .ref ao)]) hxe hcd dL_dropsByLevels_12 rfl hl (by decide) rfl (fun ls hl => ?_)
    refine lv_iconst (v := (nI 1)) hxe hcd dL_dropsByLevels_13 (by decide) ?_
    exact u_ret S hr hlk (F := fun (u : GM × (Nat → Int64)) => uW Z ao (oJ Z u.2) u.1) (u, f) hW (Nat.le_of_ble_eq_true rfl) (Nat.le_of_ble_eq_true rfl) (Or.inr ⟨1, hpx, ⟨rfl, rfl⟩⟩) dL_dropsByLevels_14
  · refine lv_i2l (v := r.toInt64) hxe hcd dL_dropsByLevels_7 rfl ?_
    refine u_lst S hW dL_dropsByLevels_8 (fun H locs f2 hf2 hW => ?_)
    refine lv_goto (tgt := 15) hxe hcd dL_dropsByLevels_9 (by decide) ?_
    refine lv_iconst (v := (nI 0)) hxe hcd dL_dropsByLevels_15 (by decide) ?_
    exact u_ret S hr hlk (F := fun (u : GM × (Nat → Int64)) => uW Z ao (oJ Z u.2) u.1) (u, f2) hW (Nat.le_of_ble_eq_true rfl) (Nat.le_of_ble_eq_true rfl) (Or.inl ⟨rfl, r, hp, hf2⟩) dL_dropsByLevels_16
set_option maxHeartbeats 4000000 in
set_option maxRecDepth 100000 in
theorem t_L_tankAtRank (l : Launch) (hl0 : l.stackTraces = false) {Z : ZT} (hZ : zOK Z) (hZX : ZX Z) (hNC : XNC Z) (ao : Nat) (f : Nat → Int64) (A : Nat × Nat → Nat) (g : Nat → Bool) (μ : CM) (sz : Nat) {v : Nat → Int32} (hVG : VG v) (hR : RP (μ 0) v) (x : Int32) : XW l yL_tankAtRank cL_tankAtRank 4 [(0, 9, 12, 45)] [.ref (A (0, 14)), .int x, .ref ao] Z ao (oJ Z) f (g, A, μ) sz (fun r u => (r = nI 0 ∧ ∃ x9 : Int32, (fun r u => ∃ t, t < ntV v ∧ nI (rkN v t (ntV v)) = x ∧ (∀ t2, t2 < t → ¬ nI (rkN v t2 (ntV v)) = x) ∧ r = nI t ∧ SM g A μ u) x9 u.1 ∧ u.2 0 = x9.toInt64) ∨ ∃ n9 : Nat, (fun n u => SM g A μ u ∧ ((n = 4 ∧ ∀ t2, t2 < ntV v → ¬ nI (rkN v t2 (ntV v)) = x))) n9 u.1 ∧ ((n9 = 4 ∧ r = nI 1))) := by
  refine u_met (ws := uW Z ao (oJ Z f) (g, A, μ)) (by decide +kernel) (Nat.le_of_ble_eq_true rfl) ?_
  intro p e s m below meth c ls S hr hlk htab hsz hW hl
  have hxe := S.1
  have hcd := S.2.1
  subst hsz
  have hl : lv_has ls 4 [(0, .ref (A (0, 14))), (1, .int x), (2, .ref ao)] := hl
  refine lv_aload_n hxe hcd dL_tankAtRank_0 rfl (lv_at hl 2 rfl) ?_
  refine lv_iconst (v := (nI 0)) hxe hcd dL_tankAtRank_1 (by decide) ?_
  refine lv_aload_n hxe hcd dL_tankAtRank_2 rfl (lv_at hl 0 rfl) ?_
  refine lv_iload_n hxe hcd dL_tankAtRank_3 rfl (lv_at hl 1 rfl) ?_
  refine u_calli hZ S (wr := [(ao, oJ Z f)]) (v := (g, A, μ)) hW (As := [.int x]) (rest := [.int (nI 0), .ref ao]) (t_X9_tankAtRank l hl0 hZ hZX A g μ s.heap.size hVG hR x) k_L_109 (r_recv (u_X (wr := [(ao, oJ Z f)]) (v := (g, A, μ)) hW) (x := (0, 14)) (in_r (by decide) (by decide)) rfl rfl) hl.1 rfl rfl (Nat.le_of_ble_eq_true rfl) ⟨(Nat.le_of_ble_eq_true rfl), (Nat.le_of_ble_eq_true rfl)⟩ ⟨(Nat.le_of_ble_eq_true rfl), (Nat.le_of_ble_eq_true rfl)⟩ dL_tankAtRank_4 (fun n u H locs q9 ce hpx hW h7 h8 h9 => ?_) (fun r u H locs hp hW => ?_)
  · have hpx2 := hpx
    obtain ⟨rfl, hc⟩ := hpx2.2
    refine vx_catch (E := "java/util/NoSuchElementException") (name := "java/util/NoSuchElementException") S.2.2.2.1 [] ⟨0, 9, 12, 45⟩ [] htab (fun _ h => absurd h List.not_mem_nil) (by decide) (by decide) (S.2.2.2.2 _ g_799) (tw_bef hZ hW.2.2.2.2.2 S.2.2.2.2 (Or.inr n_663)) h7 h8 h9 ?_
    refine lv_astore_n (lv' := [(3, .ref q9), (0, .ref (A (0, 14))), (1, .int x), (2, .ref ao)]) hxe hcd dL_tankAtRank_12 rfl hl (by decide) rfl (fun ls hl => ?_)
    refine lv_iconst (v := (nI 1)) hxe hcd dL_tankAtRank_13 (by decide) ?_
    exact u_ret S hr hlk (F := fun (u : GM × (Nat → Int64)) => uW Z ao (oJ Z u.2) u.1) (u, f) hW (Nat.le_of_ble_eq_true rfl) (Nat.le_of_ble_eq_true rfl) (Or.inr ⟨4, hpx, ⟨rfl, rfl⟩⟩) dL_tankAtRank_14
  · refine lv_i2l (v := r.toInt64) hxe hcd dL_tankAtRank_7 rfl ?_
    refine u_lst S hW dL_tankAtRank_8 (fun H locs f2 hf2 hW => ?_)
    refine lv_goto (tgt := 15) hxe hcd dL_tankAtRank_9 (by decide) ?_
    refine lv_iconst (v := (nI 0)) hxe hcd dL_tankAtRank_15 (by decide) ?_
    exact u_ret S hr hlk (F := fun (u : GM × (Nat → Int64)) => uW Z ao (oJ Z u.2) u.1) (u, f2) hW (Nat.le_of_ble_eq_true rfl) (Nat.le_of_ble_eq_true rfl) (Or.inl ⟨rfl, r, hp, hf2⟩) dL_tankAtRank_16
set_option maxHeartbeats 4000000 in
set_option maxRecDepth 100000 in
theorem t_L_append (l : Launch) (hl0 : l.stackTraces = false) {Z : ZT} (hZ : zOK Z) (hZX : ZX Z) (hNC : XNC Z) (ao : Nat) (f : Nat → Int64) (A : Nat × Nat → Nat) (g : Nat → Bool) (μ : CM) (sz : Nat) {tn : Nat} (htn : μ 0 22 1 = nI tn) (htn60 : tn ≤ 60) (x : Int32) : XW l yL_append cL_append 4 [(0, 9, 12, 13), (0, 9, 15, 15)] [.ref (A (0, 14)), .int x, .ref ao] Z ao (oJ Z) f (g, A, μ) sz (fun r u => (r = nI 0 ∧ ∃ x9 : Int32, (fun r u => (nI 32 ≤ x ∧ x ≤ nI 126) ∧ tn < 60 ∧ r = nI (tn + 1) ∧ u = (g, A, up2 (up2 μ 0 23 (upd (μ 0 23) tn x)) 0 22 (upd (μ 0 22) 1 (nI (tn + 1))))) x9 u.1 ∧ u.2 0 = x9.toInt64) ∨ ∃ n9 : Nat, (fun n u => SM g A μ u ∧ ((n = 2 ∧ ¬ (nI 32 ≤ x ∧ x ≤ nI 126)) ∨ (n = 3 ∧ (nI 32 ≤ x ∧ x ≤ nI 126) ∧ ¬ tn < 60))) n9 u.1 ∧ ((n9 = 2 ∧ r = nI 1) ∨ (n9 = 3 ∧ r = nI 2))) := by
  refine u_met (ws := uW Z ao (oJ Z f) (g, A, μ)) (by decide +kernel) (Nat.le_of_ble_eq_true rfl) ?_
  intro p e s m below meth c ls S hr hlk htab hsz hW hl
  have hxe := S.1
  have hcd := S.2.1
  subst hsz
  have hl : lv_has ls 4 [(0, .ref (A (0, 14))), (1, .int x), (2, .ref ao)] := hl
  refine lv_aload_n hxe hcd dL_append_0 rfl (lv_at hl 2 rfl) ?_
  refine lv_iconst (v := (nI 0)) hxe hcd dL_append_1 (by decide) ?_
  refine lv_aload_n hxe hcd dL_append_2 rfl (lv_at hl 0 rfl) ?_
  refine lv_iload_n hxe hcd dL_append_3 rfl (lv_at hl 1 rfl) ?_
  refine u_calli hZ S (wr := [(ao, oJ Z f)]) (v := (g, A, μ)) hW (As := [.int x]) (rest := [.int (nI 0), .ref ao]) (t_X9_append l hl0 hZ hZX A g μ s.heap.size htn htn60 x) k_L_112 (r_recv (u_X (wr := [(ao, oJ Z f)]) (v := (g, A, μ)) hW) (x := (0, 14)) (in_r (by decide) (by decide)) rfl rfl) hl.1 rfl rfl (Nat.le_of_ble_eq_true rfl) ⟨(Nat.le_of_ble_eq_true rfl), (Nat.le_of_ble_eq_true rfl)⟩ ⟨(Nat.le_of_ble_eq_true rfl), (Nat.le_of_ble_eq_true rfl)⟩ dL_append_4 (fun n u H locs q9 ce hpx hW h7 h8 h9 => ?_) (fun r u H locs hp hW => ?_)
  · have hpx2 := hpx
    rcases hpx2.2 with ⟨rfl, hc⟩ | ⟨rfl, hc⟩
    · refine vx_catch (E := "java/lang/IllegalArgumentException") (name := "java/lang/IllegalArgumentException") S.2.2.2.1 [] ⟨0, 9, 12, 13⟩ [⟨0, 9, 15, 15⟩] htab (fun _ h => absurd h List.not_mem_nil) (by decide) (by decide) (S.2.2.2.2 _ g_539) (tw_bef hZ hW.2.2.2.2.2 S.2.2.2.2 (Or.inr n_631)) h7 h8 h9 ?_
      refine lv_astore_n (lv' := [(3, .ref q9), (0, .ref (A (0, 14))), (1, .int x), (2, .ref ao)]) hxe hcd dL_append_12 rfl hl (by decide) rfl (fun ls hl => ?_)
      refine lv_iconst (v := (nI 1)) hxe hcd dL_append_13 (by decide) ?_
      exact u_ret S hr hlk (F := fun (u : GM × (Nat → Int64)) => uW Z ao (oJ Z u.2) u.1) (u, f) hW (Nat.le_of_ble_eq_true rfl) (Nat.le_of_ble_eq_true rfl) (Or.inr ⟨2, hpx, Or.inl ⟨rfl, rfl⟩⟩) dL_append_14
    · refine vx_catch (E := "java/lang/IllegalStateException") (name := "java/lang/IllegalStateException") S.2.2.2.1 [⟨0, 9, 12, 13⟩] ⟨0, 9, 15, 15⟩ [] htab (List.forall_mem_cons.mpr ⟨Or.inr ⟨by decide, "java/lang/IllegalArgumentException", S.2.2.2.2 _ g_539, hNC _ _ _ hW.2.2.2.2.2 ("java/lang/IllegalStateException", "java/lang/IllegalArgumentException") (List.mem_of_getElem? (i := 0) rfl)⟩, (fun _ h => absurd h List.not_mem_nil)⟩) (by decide) (by decide) (S.2.2.2.2 _ g_540) (tw_bef hZ hW.2.2.2.2.2 S.2.2.2.2 (Or.inr n_647)) h7 h8 h9 ?_
      refine lv_astore_n (lv' := [(3, .ref q9), (0, .ref (A (0, 14))), (1, .int x), (2, .ref ao)]) hxe hcd dL_append_15 rfl hl (by decide) rfl (fun ls hl => ?_)
      refine lv_iconst (v := (nI 2)) hxe hcd dL_append_16 (by decide) ?_
      exact u_ret S hr hlk (F := fun (u : GM × (Nat → Int64)) => uW Z ao (oJ Z u.2) u.1) (u, f) hW (Nat.le_of_ble_eq_true rfl) (Nat.le_of_ble_eq_true rfl) (Or.inr ⟨3, hpx, Or.inr ⟨rfl, rfl⟩⟩) dL_append_17
  · refine lv_i2l (v := r.toInt64) hxe hcd dL_append_7 rfl ?_
    refine u_lst S hW dL_append_8 (fun H locs f2 hf2 hW => ?_)
    refine lv_goto (tgt := 18) hxe hcd dL_append_9 (by decide) ?_
    refine lv_iconst (v := (nI 0)) hxe hcd dL_append_18 (by decide) ?_
    exact u_ret S hr hlk (F := fun (u : GM × (Nat → Int64)) => uW Z ao (oJ Z u.2) u.1) (u, f2) hW (Nat.le_of_ble_eq_true rfl) (Nat.le_of_ble_eq_true rfl) (Or.inl ⟨rfl, r, hp, hf2⟩) dL_append_19
set_option maxHeartbeats 4000000 in
set_option maxRecDepth 100000 in
theorem t_L_run (l : Launch) (hl0 : l.stackTraces = false) {Z : ZT} (hZ : zOK Z) (hZX : ZX Z) (hNC : XNC Z) (ao : Nat) (f : Nat → Int64) (A : Nat × Nat → Nat) (g : Nat → Bool) (μ : CM) (sz : Nat) {v : Nat → Int32} (hVG : VG v) (hR : RP (μ 0) v) {kr cn : Nat} (hkr : kr < 8) (hk15 : μ 0 15 1 = nI kr) (hcn : μ 0 15 2 = nI cn) (hc8 : cn ≤ 8) {n : Nat} (hen : μ 0 22 1 = nI n) (hn60 : n ≤ 60) (t : Nat → Nat) (htx : ∀ j, j < n → μ 0 23 j = nI (t j) ∧ t j < 128) {wd : WDT} (hw : ZW Z wd) : XW l yL_run cL_run 3 [(0, 8, 11, 13), (0, 8, 14, 15)] [.ref (A (0, 14)), .ref ao] Z ao (oJ Z) f (g, A, μ) sz (fun r u => (r = nI 0 ∧ ∃ x9 : Int32, (fun r u => ∃ mt, TOK t n mt ∧ mt < 12 ∧ (∀ i, i ≤ mt → exO (vSq t n v i) (coF t n i) ≠ none) ∧ r = nI (mt + 1) ∧ u.1 = gS g kr ∧ (∀ x ∈ ids g, u.2.1 x = A x) ∧ RP (u.2.2 0) (vSq t n v (mt + 1)) ∧ RP (u.2.2 (kr + 3)) v ∧ (∀ b o, b ≠ kr + 3 → b ≠ 1 → ¬ (b = 0 ∧ (o < 14 ∨ o = 15 ∨ o = 22 ∨ o = 24 ∨ o = 25)) → ¬ scr b o → u.2.2 b o = μ b o) ∧ u.2.2 0 22 1 = nI 0 ∧ u.2.2 0 15 1 = nI ((kr + 1) % 8) ∧ u.2.2 0 15 2 = nI (min (cn + 1) 8) ∧ VG (vSq t n v (mt + 1))) x9 u.1 ∧ u.2 0 = x9.toInt64) ∨ ∃ n9 : Nat, (fun nx u => RUF g A μ u ∧ ((nx = 2 ∧ ∃ mt, TNO t n mt ∧ u.2.2 0 14 = upd (μ 0 14) 10 (nI (enF t n mt))) ∨ (nx = 3 ∧ ∃ mt jf, TOK t n mt ∧ mt < 12 ∧ jf ≤ mt ∧ (∀ i, i < jf → exO (vSq t n v i) (coF t n i) ≠ none) ∧ exO (vSq t n v jf) (coF t n jf) = none ∧ u.2.2 0 14 = upd (μ 0 14) 11 (nI jf)))) n9 u.1 ∧ ((n9 = 2 ∧ r = nI 1) ∨ (n9 = 3 ∧ r = nI 2))) := by
  refine u_met (ws := uW Z ao (oJ Z f) (g, A, μ)) (by decide +kernel) (Nat.le_of_ble_eq_true rfl) ?_
  intro p e s m below meth c ls S hr hlk htab hsz hW hl
  have hxe := S.1
  have hcd := S.2.1
  subst hsz
  have hl : lv_has ls 3 [(0, .ref (A (0, 14))), (1, .ref ao)] := hl
  refine lv_aload_n hxe hcd dL_run_0 rfl (lv_at hl 1 rfl) ?_
  refine lv_iconst (v := (nI 0)) hxe hcd dL_run_1 (by decide) ?_
  refine lv_aload_n hxe hcd dL_run_2 rfl (lv_at hl 0 rfl) ?_
  refine u_calli hZ S (wr := [(ao, oJ Z f)]) (v := (g, A, μ)) hW (As := []) (rest := [.int (nI 0), .ref ao]) (t_X9_run l hl0 hZ hZX A g μ s.heap.size hVG hR hkr hk15 hcn hc8 hen hn60 t htx hw) k_L_116 (r_recv (u_X (wr := [(ao, oJ Z f)]) (v := (g, A, μ)) hW) (x := (0, 14)) (in_r (by decide) (by decide)) rfl rfl) hl.1 rfl rfl (Nat.le_of_ble_eq_true rfl) ⟨(Nat.le_of_ble_eq_true rfl), (Nat.le_of_ble_eq_true rfl)⟩ ⟨(Nat.le_of_ble_eq_true rfl), (Nat.le_of_ble_eq_true rfl)⟩ dL_run_3 (fun n u H locs q9 ce hpx hW h7 h8 h9 => ?_) (fun r u H locs hp hW => ?_)
  · have hpx2 := hpx
    rcases hpx2.2 with ⟨rfl, hc⟩ | ⟨rfl, hc⟩
    · refine vx_catch (E := "java/lang/IllegalArgumentException") (name := "java/lang/IllegalArgumentException") S.2.2.2.1 [] ⟨0, 8, 11, 13⟩ [⟨0, 8, 14, 15⟩] htab (fun _ h => absurd h List.not_mem_nil) (by decide) (by decide) (S.2.2.2.2 _ g_539) (tw_bef hZ hW.2.2.2.2.2 S.2.2.2.2 (Or.inr n_631)) h7 h8 h9 ?_
      refine lv_astore_n (lv' := [(2, .ref q9), (0, .ref (A (0, 14))), (1, .ref ao)]) hxe hcd dL_run_11 rfl hl (by decide) rfl (fun ls hl => ?_)
      refine lv_iconst (v := (nI 1)) hxe hcd dL_run_12 (by decide) ?_
      exact u_ret S hr hlk (F := fun (u : GM × (Nat → Int64)) => uW Z ao (oJ Z u.2) u.1) (u, f) hW (Nat.le_of_ble_eq_true rfl) (Nat.le_of_ble_eq_true rfl) (Or.inr ⟨2, hpx, Or.inl ⟨rfl, rfl⟩⟩) dL_run_13
    · refine vx_catch (E := "java/lang/IllegalStateException") (name := "java/lang/IllegalStateException") S.2.2.2.1 [⟨0, 8, 11, 13⟩] ⟨0, 8, 14, 15⟩ [] htab (List.forall_mem_cons.mpr ⟨Or.inr ⟨by decide, "java/lang/IllegalArgumentException", S.2.2.2.2 _ g_539, hNC _ _ _ hW.2.2.2.2.2 ("java/lang/IllegalStateException", "java/lang/IllegalArgumentException") (List.mem_of_getElem? (i := 0) rfl)⟩, (fun _ h => absurd h List.not_mem_nil)⟩) (by decide) (by decide) (S.2.2.2.2 _ g_540) (tw_bef hZ hW.2.2.2.2.2 S.2.2.2.2 (Or.inr n_647)) h7 h8 h9 ?_
      refine lv_astore_n (lv' := [(2, .ref q9), (0, .ref (A (0, 14))), (1, .ref ao)]) hxe hcd dL_run_14 rfl hl (by decide) rfl (fun ls hl => ?_)
      refine lv_iconst (v := (nI 2)) hxe hcd dL_run_15 (by decide) ?_
      exact u_ret S hr hlk (F := fun (u : GM × (Nat → Int64)) => uW Z ao (oJ Z u.2) u.1) (u, f) hW (Nat.le_of_ble_eq_true rfl) (Nat.le_of_ble_eq_true rfl) (Or.inr ⟨3, hpx, Or.inr ⟨rfl, rfl⟩⟩) dL_run_16
  · refine lv_i2l (v := r.toInt64) hxe hcd dL_run_6 rfl ?_
    refine u_lst S hW dL_run_7 (fun H locs f2 hf2 hW => ?_)
    refine lv_goto (tgt := 17) hxe hcd dL_run_8 (by decide) ?_
    refine lv_iconst (v := (nI 0)) hxe hcd dL_run_17 (by decide) ?_
    exact u_ret S hr hlk (F := fun (u : GM × (Nat → Int64)) => uW Z ao (oJ Z u.2) u.1) (u, f2) hW (Nat.le_of_ble_eq_true rfl) (Nat.le_of_ble_eq_true rfl) (Or.inl ⟨rfl, r, hp, hf2⟩) dL_run_18
set_option maxHeartbeats 4000000 in
set_option maxRecDepth 100000 in
theorem t_L_errorPosition (l : Launch) (hl0 : l.stackTraces = false) {Z : ZT} (hZ : zOK Z) (hZX : ZX Z) (hNC : XNC Z) (ao : Nat) (f : Nat → Int64) (A : Nat × Nat → Nat) (g : Nat → Bool) (μ : CM) (sz : Nat)  : XW l yL_errorPosition cL_errorPosition 3 [(0, 8, 11, 45)] [.ref (A (0, 14)), .ref ao] Z ao (oJ Z) f (g, A, μ) sz (fun r u => (r = nI 0 ∧ ∃ x9 : Int32, (fun r u => ¬ μ 0 14 10 = -1 ∧ r = μ 0 14 10 ∧ SM g A μ u) x9 u.1 ∧ u.2 0 = x9.toInt64) ∨ ∃ n9 : Nat, (fun n u => SM g A μ u ∧ ((n = 4 ∧ μ 0 14 10 = -1))) n9 u.1 ∧ ((n9 = 4 ∧ r = nI 1))) := by
  refine u_met (ws := uW Z ao (oJ Z f) (g, A, μ)) (by decide +kernel) (Nat.le_of_ble_eq_true rfl) ?_
  intro p e s m below meth c ls S hr hlk htab hsz hW hl
  have hxe := S.1
  have hcd := S.2.1
  subst hsz
  have hl : lv_has ls 3 [(0, .ref (A (0, 14))), (1, .ref ao)] := hl
  refine lv_aload_n hxe hcd dL_errorPosition_0 rfl (lv_at hl 1 rfl) ?_
  refine lv_iconst (v := (nI 0)) hxe hcd dL_errorPosition_1 (by decide) ?_
  refine lv_aload_n hxe hcd dL_errorPosition_2 rfl (lv_at hl 0 rfl) ?_
  refine u_calli hZ S (wr := [(ao, oJ Z f)]) (v := (g, A, μ)) hW (As := []) (rest := [.int (nI 0), .ref ao]) (t_X9_errorPosition l hl0 hZ hZX A g μ s.heap.size ) k_L_120 (r_recv (u_X (wr := [(ao, oJ Z f)]) (v := (g, A, μ)) hW) (x := (0, 14)) (in_r (by decide) (by decide)) rfl rfl) hl.1 rfl rfl (Nat.le_of_ble_eq_true rfl) ⟨(Nat.le_of_ble_eq_true rfl), (Nat.le_of_ble_eq_true rfl)⟩ ⟨(Nat.le_of_ble_eq_true rfl), (Nat.le_of_ble_eq_true rfl)⟩ dL_errorPosition_3 (fun n u H locs q9 ce hpx hW h7 h8 h9 => ?_) (fun r u H locs hp hW => ?_)
  · have hpx2 := hpx
    obtain ⟨rfl, hc⟩ := hpx2.2
    refine vx_catch (E := "java/util/NoSuchElementException") (name := "java/util/NoSuchElementException") S.2.2.2.1 [] ⟨0, 8, 11, 45⟩ [] htab (fun _ h => absurd h List.not_mem_nil) (by decide) (by decide) (S.2.2.2.2 _ g_799) (tw_bef hZ hW.2.2.2.2.2 S.2.2.2.2 (Or.inr n_663)) h7 h8 h9 ?_
    refine lv_astore_n (lv' := [(2, .ref q9), (0, .ref (A (0, 14))), (1, .ref ao)]) hxe hcd dL_errorPosition_11 rfl hl (by decide) rfl (fun ls hl => ?_)
    refine lv_iconst (v := (nI 1)) hxe hcd dL_errorPosition_12 (by decide) ?_
    exact u_ret S hr hlk (F := fun (u : GM × (Nat → Int64)) => uW Z ao (oJ Z u.2) u.1) (u, f) hW (Nat.le_of_ble_eq_true rfl) (Nat.le_of_ble_eq_true rfl) (Or.inr ⟨4, hpx, ⟨rfl, rfl⟩⟩) dL_errorPosition_13
  · refine lv_i2l (v := r.toInt64) hxe hcd dL_errorPosition_6 rfl ?_
    refine u_lst S hW dL_errorPosition_7 (fun H locs f2 hf2 hW => ?_)
    refine lv_goto (tgt := 14) hxe hcd dL_errorPosition_8 (by decide) ?_
    refine lv_iconst (v := (nI 0)) hxe hcd dL_errorPosition_14 (by decide) ?_
    exact u_ret S hr hlk (F := fun (u : GM × (Nat → Int64)) => uW Z ao (oJ Z u.2) u.1) (u, f2) hW (Nat.le_of_ble_eq_true rfl) (Nat.le_of_ble_eq_true rfl) (Or.inl ⟨rfl, r, hp, hf2⟩) dL_errorPosition_15
set_option maxHeartbeats 4000000 in
set_option maxRecDepth 100000 in
theorem t_L_failedCommand (l : Launch) (hl0 : l.stackTraces = false) {Z : ZT} (hZ : zOK Z) (hZX : ZX Z) (hNC : XNC Z) (ao : Nat) (f : Nat → Int64) (A : Nat × Nat → Nat) (g : Nat → Bool) (μ : CM) (sz : Nat)  : XW l yL_failedCommand cL_failedCommand 3 [(0, 8, 11, 45)] [.ref (A (0, 14)), .ref ao] Z ao (oJ Z) f (g, A, μ) sz (fun r u => (r = nI 0 ∧ ∃ x9 : Int32, (fun r u => ¬ μ 0 14 11 = -1 ∧ r = μ 0 14 11 ∧ SM g A μ u) x9 u.1 ∧ u.2 0 = x9.toInt64) ∨ ∃ n9 : Nat, (fun n u => SM g A μ u ∧ ((n = 4 ∧ μ 0 14 11 = -1))) n9 u.1 ∧ ((n9 = 4 ∧ r = nI 1))) := by
  refine u_met (ws := uW Z ao (oJ Z f) (g, A, μ)) (by decide +kernel) (Nat.le_of_ble_eq_true rfl) ?_
  intro p e s m below meth c ls S hr hlk htab hsz hW hl
  have hxe := S.1
  have hcd := S.2.1
  subst hsz
  have hl : lv_has ls 3 [(0, .ref (A (0, 14))), (1, .ref ao)] := hl
  refine lv_aload_n hxe hcd dL_failedCommand_0 rfl (lv_at hl 1 rfl) ?_
  refine lv_iconst (v := (nI 0)) hxe hcd dL_failedCommand_1 (by decide) ?_
  refine lv_aload_n hxe hcd dL_failedCommand_2 rfl (lv_at hl 0 rfl) ?_
  refine u_calli hZ S (wr := [(ao, oJ Z f)]) (v := (g, A, μ)) hW (As := []) (rest := [.int (nI 0), .ref ao]) (t_X9_failedCommand l hl0 hZ hZX A g μ s.heap.size ) k_L_123 (r_recv (u_X (wr := [(ao, oJ Z f)]) (v := (g, A, μ)) hW) (x := (0, 14)) (in_r (by decide) (by decide)) rfl rfl) hl.1 rfl rfl (Nat.le_of_ble_eq_true rfl) ⟨(Nat.le_of_ble_eq_true rfl), (Nat.le_of_ble_eq_true rfl)⟩ ⟨(Nat.le_of_ble_eq_true rfl), (Nat.le_of_ble_eq_true rfl)⟩ dL_failedCommand_3 (fun n u H locs q9 ce hpx hW h7 h8 h9 => ?_) (fun r u H locs hp hW => ?_)
  · have hpx2 := hpx
    obtain ⟨rfl, hc⟩ := hpx2.2
    refine vx_catch (E := "java/util/NoSuchElementException") (name := "java/util/NoSuchElementException") S.2.2.2.1 [] ⟨0, 8, 11, 45⟩ [] htab (fun _ h => absurd h List.not_mem_nil) (by decide) (by decide) (S.2.2.2.2 _ g_799) (tw_bef hZ hW.2.2.2.2.2 S.2.2.2.2 (Or.inr n_663)) h7 h8 h9 ?_
    refine lv_astore_n (lv' := [(2, .ref q9), (0, .ref (A (0, 14))), (1, .ref ao)]) hxe hcd dL_failedCommand_11 rfl hl (by decide) rfl (fun ls hl => ?_)
    refine lv_iconst (v := (nI 1)) hxe hcd dL_failedCommand_12 (by decide) ?_
    exact u_ret S hr hlk (F := fun (u : GM × (Nat → Int64)) => uW Z ao (oJ Z u.2) u.1) (u, f) hW (Nat.le_of_ble_eq_true rfl) (Nat.le_of_ble_eq_true rfl) (Or.inr ⟨4, hpx, ⟨rfl, rfl⟩⟩) dL_failedCommand_13
  · refine lv_i2l (v := r.toInt64) hxe hcd dL_failedCommand_6 rfl ?_
    refine u_lst S hW dL_failedCommand_7 (fun H locs f2 hf2 hW => ?_)
    refine lv_goto (tgt := 14) hxe hcd dL_failedCommand_8 (by decide) ?_
    refine lv_iconst (v := (nI 0)) hxe hcd dL_failedCommand_14 (by decide) ?_
    exact u_ret S hr hlk (F := fun (u : GM × (Nat → Int64)) => uW Z ao (oJ Z u.2) u.1) (u, f2) hW (Nat.le_of_ble_eq_true rfl) (Nat.le_of_ble_eq_true rfl) (Or.inl ⟨rfl, r, hp, hf2⟩) dL_failedCommand_15
set_option maxHeartbeats 4000000 in
set_option maxRecDepth 100000 in
theorem t_L_describeTank (l : Launch) (hl0 : l.stackTraces = false) {Z : ZT} (hZ : zOK Z) (hZX : ZX Z) (hNC : XNC Z) (ao : Nat) (f : Nat → Int64) (A : Nat × Nat → Nat) (g : Nat → Bool) (μ : CM) (sz : Nat) {v : Nat → Int32} (hVG : VG v) (hR : RP (μ 0) v) (x : Int32) : XW l yL_describeTank cL_describeTank 4 [(0, 9, 12, 21)] [.ref (A (0, 14)), .int x, .ref ao] Z ao (oJ Z) f (g, A, μ) sz (fun r u => (r = nI 0 ∧ ∃ x9 : Int32, (fun r u => ∃ q, q < ntV v ∧ x = nI q ∧ r = nI (dcT (frN v q) (dcH (lvN v q) (cpN v q) (tuN v q) (μ 0 27, 0)) (lvN v q)).2 ∧ u = (g, A, LK μ (dcT (frN v q) (dcH (lvN v q) (cpN v q) (tuN v q) (μ 0 27, 0)) (lvN v q)))) x9 u.1 ∧ u.2 0 = x9.toInt64) ∨ ∃ n9 : Nat, (fun n u => SM g A μ u ∧ ((n = 1 ∧ ¬ IX x (ntV v)))) n9 u.1 ∧ ((n9 = 1 ∧ r = nI 1))) := by
  refine u_met (ws := uW Z ao (oJ Z f) (g, A, μ)) (by decide +kernel) (Nat.le_of_ble_eq_true rfl) ?_
  intro p e s m below meth c ls S hr hlk htab hsz hW hl
  have hxe := S.1
  have hcd := S.2.1
  subst hsz
  have hl : lv_has ls 4 [(0, .ref (A (0, 14))), (1, .int x), (2, .ref ao)] := hl
  refine lv_aload_n hxe hcd dL_describeTank_0 rfl (lv_at hl 2 rfl) ?_
  refine lv_iconst (v := (nI 0)) hxe hcd dL_describeTank_1 (by decide) ?_
  refine lv_aload_n hxe hcd dL_describeTank_2 rfl (lv_at hl 0 rfl) ?_
  refine lv_iload_n hxe hcd dL_describeTank_3 rfl (lv_at hl 1 rfl) ?_
  refine u_calli hZ S (wr := [(ao, oJ Z f)]) (v := (g, A, μ)) hW (As := [.int x]) (rest := [.int (nI 0), .ref ao]) (t_X9_describeTank l hl0 hZ hZX A g μ s.heap.size hVG hR x) k_L_126 (r_recv (u_X (wr := [(ao, oJ Z f)]) (v := (g, A, μ)) hW) (x := (0, 14)) (in_r (by decide) (by decide)) rfl rfl) hl.1 rfl rfl (Nat.le_of_ble_eq_true rfl) ⟨(Nat.le_of_ble_eq_true rfl), (Nat.le_of_ble_eq_true rfl)⟩ ⟨(Nat.le_of_ble_eq_true rfl), (Nat.le_of_ble_eq_true rfl)⟩ dL_describeTank_4 (fun n u H locs q9 ce hpx hW h7 h8 h9 => ?_) (fun r u H locs hp hW => ?_)
  · have hpx2 := hpx
    obtain ⟨rfl, hc⟩ := hpx2.2
    refine vx_catch (E := "java/lang/IndexOutOfBoundsException") (name := "java/lang/IndexOutOfBoundsException") S.2.2.2.1 [] ⟨0, 9, 12, 21⟩ [] htab (fun _ h => absurd h List.not_mem_nil) (by decide) (by decide) (S.2.2.2.2 _ g_702) (tw_bef hZ hW.2.2.2.2.2 S.2.2.2.2 (Or.inr n_560)) h7 h8 h9 ?_
    refine lv_astore_n (lv' := [(3, .ref q9), (0, .ref (A (0, 14))), (1, .int x), (2, .ref ao)]) hxe hcd dL_describeTank_12 rfl hl (by decide) rfl (fun ls hl => ?_)
    refine lv_iconst (v := (nI 1)) hxe hcd dL_describeTank_13 (by decide) ?_
    exact u_ret S hr hlk (F := fun (u : GM × (Nat → Int64)) => uW Z ao (oJ Z u.2) u.1) (u, f) hW (Nat.le_of_ble_eq_true rfl) (Nat.le_of_ble_eq_true rfl) (Or.inr ⟨1, hpx, ⟨rfl, rfl⟩⟩) dL_describeTank_14
  · refine lv_i2l (v := r.toInt64) hxe hcd dL_describeTank_7 rfl ?_
    refine u_lst S hW dL_describeTank_8 (fun H locs f2 hf2 hW => ?_)
    refine lv_goto (tgt := 15) hxe hcd dL_describeTank_9 (by decide) ?_
    refine lv_iconst (v := (nI 0)) hxe hcd dL_describeTank_15 (by decide) ?_
    exact u_ret S hr hlk (F := fun (u : GM × (Nat → Int64)) => uW Z ao (oJ Z u.2) u.1) (u, f2) hW (Nat.le_of_ble_eq_true rfl) (Nat.le_of_ble_eq_true rfl) (Or.inl ⟨rfl, r, hp, hf2⟩) dL_describeTank_16
set_option maxHeartbeats 4000000 in
set_option maxRecDepth 100000 in
theorem t_L_lineAt (l : Launch) (hl0 : l.stackTraces = false) {Z : ZT} (hZ : zOK Z) (hZX : ZX Z) (hNC : XNC Z) (ao : Nat) (f : Nat → Int64) (A : Nat × Nat → Nat) (g : Nat → Bool) (μ : CM) (sz : Nat) {lN : Nat} (hlN : μ 0 26 1 = nI lN) (hlN80 : lN ≤ 80) (hlc : ∀ j, j < lN → CH (μ 0 27 j)) (x : Int32) : XW l yL_lineAt cL_lineAt 4 [(0, 9, 12, 21)] [.ref (A (0, 14)), .int x, .ref ao] Z ao (oJ Z) f (g, A, μ) sz (fun r u => (r = nI 0 ∧ ∃ x9 : Int32, (fun r u => ∃ j, j < lN ∧ x = nI j ∧ r = μ 0 27 j ∧ SM g A μ u) x9 u.1 ∧ u.2 0 = x9.toInt64) ∨ ∃ n9 : Nat, (fun n u => SM g A μ u ∧ ((n = 1 ∧ ¬ IX x lN))) n9 u.1 ∧ ((n9 = 1 ∧ r = nI 1))) := by
  refine u_met (ws := uW Z ao (oJ Z f) (g, A, μ)) (by decide +kernel) (Nat.le_of_ble_eq_true rfl) ?_
  intro p e s m below meth c ls S hr hlk htab hsz hW hl
  have hxe := S.1
  have hcd := S.2.1
  subst hsz
  have hl : lv_has ls 4 [(0, .ref (A (0, 14))), (1, .int x), (2, .ref ao)] := hl
  refine lv_aload_n hxe hcd dL_lineAt_0 rfl (lv_at hl 2 rfl) ?_
  refine lv_iconst (v := (nI 0)) hxe hcd dL_lineAt_1 (by decide) ?_
  refine lv_aload_n hxe hcd dL_lineAt_2 rfl (lv_at hl 0 rfl) ?_
  refine lv_iload_n hxe hcd dL_lineAt_3 rfl (lv_at hl 1 rfl) ?_
  refine u_calli hZ S (wr := [(ao, oJ Z f)]) (v := (g, A, μ)) hW (As := [.int x]) (rest := [.int (nI 0), .ref ao]) (t_X9_lineAt l hl0 hZ hZX A g μ s.heap.size hlN hlN80 hlc x) k_L_129 (r_recv (u_X (wr := [(ao, oJ Z f)]) (v := (g, A, μ)) hW) (x := (0, 14)) (in_r (by decide) (by decide)) rfl rfl) hl.1 rfl rfl (Nat.le_of_ble_eq_true rfl) ⟨(Nat.le_of_ble_eq_true rfl), (Nat.le_of_ble_eq_true rfl)⟩ ⟨(Nat.le_of_ble_eq_true rfl), (Nat.le_of_ble_eq_true rfl)⟩ dL_lineAt_4 (fun n u H locs q9 ce hpx hW h7 h8 h9 => ?_) (fun r u H locs hp hW => ?_)
  · have hpx2 := hpx
    obtain ⟨rfl, hc⟩ := hpx2.2
    refine vx_catch (E := "java/lang/IndexOutOfBoundsException") (name := "java/lang/IndexOutOfBoundsException") S.2.2.2.1 [] ⟨0, 9, 12, 21⟩ [] htab (fun _ h => absurd h List.not_mem_nil) (by decide) (by decide) (S.2.2.2.2 _ g_702) (tw_bef hZ hW.2.2.2.2.2 S.2.2.2.2 (Or.inr n_560)) h7 h8 h9 ?_
    refine lv_astore_n (lv' := [(3, .ref q9), (0, .ref (A (0, 14))), (1, .int x), (2, .ref ao)]) hxe hcd dL_lineAt_12 rfl hl (by decide) rfl (fun ls hl => ?_)
    refine lv_iconst (v := (nI 1)) hxe hcd dL_lineAt_13 (by decide) ?_
    exact u_ret S hr hlk (F := fun (u : GM × (Nat → Int64)) => uW Z ao (oJ Z u.2) u.1) (u, f) hW (Nat.le_of_ble_eq_true rfl) (Nat.le_of_ble_eq_true rfl) (Or.inr ⟨1, hpx, ⟨rfl, rfl⟩⟩) dL_lineAt_14
  · refine lv_i2l (v := r.toInt64) hxe hcd dL_lineAt_7 rfl ?_
    refine u_lst S hW dL_lineAt_8 (fun H locs f2 hf2 hW => ?_)
    refine lv_goto (tgt := 15) hxe hcd dL_lineAt_9 (by decide) ?_
    refine lv_iconst (v := (nI 0)) hxe hcd dL_lineAt_15 (by decide) ?_
    exact u_ret S hr hlk (F := fun (u : GM × (Nat → Int64)) => uW Z ao (oJ Z u.2) u.1) (u, f2) hW (Nat.le_of_ble_eq_true rfl) (Nat.le_of_ble_eq_true rfl) (Or.inl ⟨rfl, r, hp, hf2⟩) dL_lineAt_16
set_option maxHeartbeats 4000000 in
set_option maxRecDepth 100000 in
theorem t_L_meanLevel (l : Launch) (hl0 : l.stackTraces = false) {Z : ZT} (hZ : zOK Z) (hZX : ZX Z) (hNC : XNC Z) (ao : Nat) (f : Nat → UInt64) (A : Nat × Nat → Nat) (g : Nat → Bool) (μ : CM) (sz : Nat) {v : Nat → Int32} (hVG : VG v) (hR : RP (μ 0) v) (x : Int32) : XW l yL_meanLevel cL_meanLevel 4 [(0, 8, 11, 21), (0, 8, 14, 136)] [.ref (A (0, 14)), .int x, .ref ao] Z ao (oD Z) f (g, A, μ) sz (fun r u => (r = nI 0 ∧ ∃ x9 : UInt64, (fun r u => ∃ q, q < 4 ∧ x = nI q ∧ 0 < lnV v q ∧ r = FP.ddiv (FP.i2d (isum (fun k => iabs ((flV v q (nfV v)) k)) (lnV v q))) (FP.i2d (nI (lnV v q))) ∧ SM g A μ u) x9 u.1 ∧ u.2 0 = x9) ∨ ∃ n9 : Nat, (fun n u => SM g A μ u ∧ ((n = 1 ∧ ¬ IX x 4) ∨ (n = 5 ∧ ∃ q, q < 4 ∧ x = nI q ∧ lnV v q = 0))) n9 u.1 ∧ ((n9 = 1 ∧ r = nI 1) ∨ (n9 = 5 ∧ r = nI 2))) := by
  refine u_met (ws := uW Z ao (oD Z f) (g, A, μ)) (by decide +kernel) (Nat.le_of_ble_eq_true rfl) ?_
  intro p e s m below meth c ls S hr hlk htab hsz hW hl
  have hxe := S.1
  have hcd := S.2.1
  subst hsz
  have hl : lv_has ls 4 [(0, .ref (A (0, 14))), (1, .int x), (2, .ref ao)] := hl
  refine lv_aload_n hxe hcd dL_meanLevel_0 rfl (lv_at hl 2 rfl) ?_
  refine lv_iconst (v := (nI 0)) hxe hcd dL_meanLevel_1 (by decide) ?_
  refine lv_aload_n hxe hcd dL_meanLevel_2 rfl (lv_at hl 0 rfl) ?_
  refine lv_iload_n hxe hcd dL_meanLevel_3 rfl (lv_at hl 1 rfl) ?_
  refine u_calld hZ S (wr := [(ao, oD Z f)]) (v := (g, A, μ)) hW (As := [.int x]) (rest := [.int (nI 0), .ref ao]) (t_X9_meanLevel l hl0 hZ hZX A g μ s.heap.size hVG hR x) k_L_132 (r_recv (u_X (wr := [(ao, oD Z f)]) (v := (g, A, μ)) hW) (x := (0, 14)) (in_r (by decide) (by decide)) rfl rfl) hl.1 rfl rfl (Nat.le_of_ble_eq_true rfl) ⟨(Nat.le_of_ble_eq_true rfl), (Nat.le_of_ble_eq_true rfl)⟩ ⟨(Nat.le_of_ble_eq_true rfl), (Nat.le_of_ble_eq_true rfl)⟩ dL_meanLevel_4 (fun n u H locs q9 ce hpx hW h7 h8 h9 => ?_) (fun r u H locs hp hW => ?_)
  · have hpx2 := hpx
    rcases hpx2.2 with ⟨rfl, hc⟩ | ⟨rfl, hc⟩
    · refine vx_catch (E := "java/lang/IndexOutOfBoundsException") (name := "java/lang/IndexOutOfBoundsException") S.2.2.2.1 [] ⟨0, 8, 11, 21⟩ [⟨0, 8, 14, 136⟩] htab (fun _ h => absurd h List.not_mem_nil) (by decide) (by decide) (S.2.2.2.2 _ g_702) (tw_bef hZ hW.2.2.2.2.2 S.2.2.2.2 (Or.inr n_560)) h7 h8 h9 ?_
      refine lv_astore_n (lv' := [(3, .ref q9), (0, .ref (A (0, 14))), (1, .int x), (2, .ref ao)]) hxe hcd dL_meanLevel_11 rfl hl (by decide) rfl (fun ls hl => ?_)
      refine lv_iconst (v := (nI 1)) hxe hcd dL_meanLevel_12 (by decide) ?_
      exact u_ret S hr hlk (F := fun (u : GM × (Nat → UInt64)) => uW Z ao (oD Z u.2) u.1) (u, f) hW (Nat.le_of_ble_eq_true rfl) (Nat.le_of_ble_eq_true rfl) (Or.inr ⟨1, hpx, Or.inl ⟨rfl, rfl⟩⟩) dL_meanLevel_13
    · refine vx_catch (E := "java/lang/ArithmeticException") (name := "java/lang/ArithmeticException") S.2.2.2.1 [⟨0, 8, 11, 21⟩] ⟨0, 8, 14, 136⟩ [] htab (List.forall_mem_cons.mpr ⟨Or.inr ⟨by decide, "java/lang/IndexOutOfBoundsException", S.2.2.2.2 _ g_702, hNC _ _ _ hW.2.2.2.2.2 ("java/lang/ArithmeticException", "java/lang/IndexOutOfBoundsException") (List.mem_of_getElem? (i := 5) rfl)⟩, (fun _ h => absurd h List.not_mem_nil)⟩) (by decide) (by decide) (S.2.2.2.2 _ g_1202) (tw_bef hZ hW.2.2.2.2.2 S.2.2.2.2 (Or.inr n_1214)) h7 h8 h9 ?_
      refine lv_astore_n (lv' := [(3, .ref q9), (0, .ref (A (0, 14))), (1, .int x), (2, .ref ao)]) hxe hcd dL_meanLevel_14 rfl hl (by decide) rfl (fun ls hl => ?_)
      refine lv_iconst (v := (nI 2)) hxe hcd dL_meanLevel_15 (by decide) ?_
      exact u_ret S hr hlk (F := fun (u : GM × (Nat → UInt64)) => uW Z ao (oD Z u.2) u.1) (u, f) hW (Nat.le_of_ble_eq_true rfl) (Nat.le_of_ble_eq_true rfl) (Or.inr ⟨5, hpx, Or.inr ⟨rfl, rfl⟩⟩) dL_meanLevel_16
  · refine u_dst S hW dL_meanLevel_7 (fun H locs f2 hf2 hW => ?_)
    refine lv_goto (tgt := 17) hxe hcd dL_meanLevel_8 (by decide) ?_
    refine lv_iconst (v := (nI 0)) hxe hcd dL_meanLevel_17 (by decide) ?_
    exact u_ret S hr hlk (F := fun (u : GM × (Nat → UInt64)) => uW Z ao (oD Z u.2) u.1) (u, f2) hW (Nat.le_of_ble_eq_true rfl) (Nat.le_of_ble_eq_true rfl) (Or.inl ⟨rfl, r, hp, hf2⟩) dL_meanLevel_18
set_option maxHeartbeats 4000000 in
set_option maxRecDepth 100000 in
theorem t_L_undo (l : Launch) (hl0 : l.stackTraces = false) {Z : ZT} (hZ : zOK Z) (hZX : ZX Z) (hNC : XNC Z) (ao : Nat) (f : Nat → Int64) (A : Nat × Nat → Nat) (g : Nat → Bool) (μ : CM) (sz : Nat) {kr kp cn : Nat} (hkr : kr < 8) (hkp : (kr + 8 - 1) % 8 = kp) (hk15 : μ 0 15 1 = nI kr) (hcn : μ 0 15 2 = nI cn) (hc8 : cn ≤ 8) {v2 : Nat → Int32} (hpast : 1 ≤ cn → g kp = true ∧ VG v2 ∧ RP (μ (kp + 3)) v2) : XW l yL_undo cL_undo 3 [(0, 8, 11, 15)] [.ref (A (0, 14)), .ref ao] Z ao (oJ Z) f (g, A, μ) sz (fun r u => (r = nI 0 ∧ ∃ x9 : Int32, (fun r u => 1 ≤ cn ∧ r = nI (cn - 1) ∧ u.1 = g ∧ u.2.1 = A ∧ (∀ b o, ¬ (b = 0 ∧ (o < 14 ∨ o = 15)) → u.2.2 b o = μ b o) ∧ RP (u.2.2 0) v2 ∧ u.2.2 0 15 1 = nI kp ∧ u.2.2 0 15 2 = nI (cn - 1)) x9 u.1 ∧ u.2 0 = x9.toInt64) ∨ ∃ n9 : Nat, (fun n u => SM g A μ u ∧ ((n = 3 ∧ cn = 0))) n9 u.1 ∧ ((n9 = 3 ∧ r = nI 1))) := by
  refine u_met (ws := uW Z ao (oJ Z f) (g, A, μ)) (by decide +kernel) (Nat.le_of_ble_eq_true rfl) ?_
  intro p e s m below meth c ls S hr hlk htab hsz hW hl
  have hxe := S.1
  have hcd := S.2.1
  subst hsz
  have hl : lv_has ls 3 [(0, .ref (A (0, 14))), (1, .ref ao)] := hl
  refine lv_aload_n hxe hcd dL_undo_0 rfl (lv_at hl 1 rfl) ?_
  refine lv_iconst (v := (nI 0)) hxe hcd dL_undo_1 (by decide) ?_
  refine lv_aload_n hxe hcd dL_undo_2 rfl (lv_at hl 0 rfl) ?_
  refine u_calli hZ S (wr := [(ao, oJ Z f)]) (v := (g, A, μ)) hW (As := []) (rest := [.int (nI 0), .ref ao]) (t_X9_undo l hl0 hZ hZX A g μ s.heap.size hkr hkp hk15 hcn hc8 hpast) k_L_142 (r_recv (u_X (wr := [(ao, oJ Z f)]) (v := (g, A, μ)) hW) (x := (0, 14)) (in_r (by decide) (by decide)) rfl rfl) hl.1 rfl rfl (Nat.le_of_ble_eq_true rfl) ⟨(Nat.le_of_ble_eq_true rfl), (Nat.le_of_ble_eq_true rfl)⟩ ⟨(Nat.le_of_ble_eq_true rfl), (Nat.le_of_ble_eq_true rfl)⟩ dL_undo_3 (fun n u H locs q9 ce hpx hW h7 h8 h9 => ?_) (fun r u H locs hp hW => ?_)
  · have hpx2 := hpx
    obtain ⟨rfl, hc⟩ := hpx2.2
    refine vx_catch (E := "java/lang/IllegalStateException") (name := "java/lang/IllegalStateException") S.2.2.2.1 [] ⟨0, 8, 11, 15⟩ [] htab (fun _ h => absurd h List.not_mem_nil) (by decide) (by decide) (S.2.2.2.2 _ g_540) (tw_bef hZ hW.2.2.2.2.2 S.2.2.2.2 (Or.inr n_647)) h7 h8 h9 ?_
    refine lv_astore_n (lv' := [(2, .ref q9), (0, .ref (A (0, 14))), (1, .ref ao)]) hxe hcd dL_undo_11 rfl hl (by decide) rfl (fun ls hl => ?_)
    refine lv_iconst (v := (nI 1)) hxe hcd dL_undo_12 (by decide) ?_
    exact u_ret S hr hlk (F := fun (u : GM × (Nat → Int64)) => uW Z ao (oJ Z u.2) u.1) (u, f) hW (Nat.le_of_ble_eq_true rfl) (Nat.le_of_ble_eq_true rfl) (Or.inr ⟨3, hpx, ⟨rfl, rfl⟩⟩) dL_undo_13
  · refine lv_i2l (v := r.toInt64) hxe hcd dL_undo_6 rfl ?_
    refine u_lst S hW dL_undo_7 (fun H locs f2 hf2 hW => ?_)
    refine lv_goto (tgt := 14) hxe hcd dL_undo_8 (by decide) ?_
    refine lv_iconst (v := (nI 0)) hxe hcd dL_undo_14 (by decide) ?_
    exact u_ret S hr hlk (F := fun (u : GM × (Nat → Int64)) => uW Z ao (oJ Z u.2) u.1) (u, f2) hW (Nat.le_of_ble_eq_true rfl) (Nat.le_of_ble_eq_true rfl) (Or.inl ⟨rfl, r, hp, hf2⟩) dL_undo_15
set_option maxHeartbeats 4000000 in
set_option maxRecDepth 100000 in
theorem t_L_restore (l : Launch) (hl0 : l.stackTraces = false) {Z : ZT} (hZ : zOK Z) (hZX : ZX Z) (hNC : XNC Z) (ao : Nat) (f : Nat → Int64) (A : Nat × Nat → Nat) (g : Nat → Bool) (μ : CM) (sz : Nat) {sv : Nat} (hsv : μ 0 14 9 = nI sv) (hsv1 : sv ≤ 1) {v2 : Nat → Int32} (hsn : sv = 1 → VG v2 ∧ RP (μ 2) v2) : XW l yL_restore cL_restore 3 [(0, 8, 11, 15)] [.ref (A (0, 14)), .ref ao] Z ao (oJ Z) f (g, A, μ) sz (fun r u => (r = nI 0 ∧ ∃ x9 : Int32, (fun r u => sv = 1 ∧ r = v2 0 ∧ u.1 = g ∧ u.2.1 = A ∧ RP (u.2.2 0) v2 ∧ (∀ b o, ¬ (b = 0 ∧ (o < 14 ∨ o = 15)) → u.2.2 b o = μ b o) ∧ u.2.2 0 15 = upd (μ 0 15) 2 (nI 0)) x9 u.1 ∧ u.2 0 = x9.toInt64) ∨ ∃ n9 : Nat, (fun n u => SM g A μ u ∧ ((n = 3 ∧ sv = 0))) n9 u.1 ∧ ((n9 = 3 ∧ r = nI 1))) := by
  refine u_met (ws := uW Z ao (oJ Z f) (g, A, μ)) (by decide +kernel) (Nat.le_of_ble_eq_true rfl) ?_
  intro p e s m below meth c ls S hr hlk htab hsz hW hl
  have hxe := S.1
  have hcd := S.2.1
  subst hsz
  have hl : lv_has ls 3 [(0, .ref (A (0, 14))), (1, .ref ao)] := hl
  refine lv_aload_n hxe hcd dL_restore_0 rfl (lv_at hl 1 rfl) ?_
  refine lv_iconst (v := (nI 0)) hxe hcd dL_restore_1 (by decide) ?_
  refine lv_aload_n hxe hcd dL_restore_2 rfl (lv_at hl 0 rfl) ?_
  refine u_calli hZ S (wr := [(ao, oJ Z f)]) (v := (g, A, μ)) hW (As := []) (rest := [.int (nI 0), .ref ao]) (t_X9_restore l hl0 hZ hZX A g μ s.heap.size hsv hsv1 hsn) k_L_145 (r_recv (u_X (wr := [(ao, oJ Z f)]) (v := (g, A, μ)) hW) (x := (0, 14)) (in_r (by decide) (by decide)) rfl rfl) hl.1 rfl rfl (Nat.le_of_ble_eq_true rfl) ⟨(Nat.le_of_ble_eq_true rfl), (Nat.le_of_ble_eq_true rfl)⟩ ⟨(Nat.le_of_ble_eq_true rfl), (Nat.le_of_ble_eq_true rfl)⟩ dL_restore_3 (fun n u H locs q9 ce hpx hW h7 h8 h9 => ?_) (fun r u H locs hp hW => ?_)
  · have hpx2 := hpx
    obtain ⟨rfl, hc⟩ := hpx2.2
    refine vx_catch (E := "java/lang/IllegalStateException") (name := "java/lang/IllegalStateException") S.2.2.2.1 [] ⟨0, 8, 11, 15⟩ [] htab (fun _ h => absurd h List.not_mem_nil) (by decide) (by decide) (S.2.2.2.2 _ g_540) (tw_bef hZ hW.2.2.2.2.2 S.2.2.2.2 (Or.inr n_647)) h7 h8 h9 ?_
    refine lv_astore_n (lv' := [(2, .ref q9), (0, .ref (A (0, 14))), (1, .ref ao)]) hxe hcd dL_restore_11 rfl hl (by decide) rfl (fun ls hl => ?_)
    refine lv_iconst (v := (nI 1)) hxe hcd dL_restore_12 (by decide) ?_
    exact u_ret S hr hlk (F := fun (u : GM × (Nat → Int64)) => uW Z ao (oJ Z u.2) u.1) (u, f) hW (Nat.le_of_ble_eq_true rfl) (Nat.le_of_ble_eq_true rfl) (Or.inr ⟨3, hpx, ⟨rfl, rfl⟩⟩) dL_restore_13
  · refine lv_i2l (v := r.toInt64) hxe hcd dL_restore_6 rfl ?_
    refine u_lst S hW dL_restore_7 (fun H locs f2 hf2 hW => ?_)
    refine lv_goto (tgt := 14) hxe hcd dL_restore_8 (by decide) ?_
    refine lv_iconst (v := (nI 0)) hxe hcd dL_restore_14 (by decide) ?_
    exact u_ret S hr hlk (F := fun (u : GM × (Nat → Int64)) => uW Z ao (oJ Z u.2) u.1) (u, f2) hW (Nat.le_of_ble_eq_true rfl) (Nat.le_of_ble_eq_true rfl) (Or.inl ⟨rfl, r, hp, hf2⟩) dL_restore_15
