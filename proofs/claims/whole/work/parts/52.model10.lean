set_option maxHeartbeats 4000000 in
set_option maxRecDepth 100000 in
theorem t_X10_addFilter (l : Launch) {Z : ZT} (hZ : zOK Z) (B : Nat → Nat) (ν : MM) (sz : Nat) {nf : Nat} (hnf : ν 1 0 = nI nf) (hnf8 : nf ≤ 8) (k x : Int32) {ch : Nat} (hch : ν 0 1 = nI ch) (hch8 : ch ≤ 8) : XMi l yX10_addFilter cX10_addFilter 3 (some .int) 4 [.ref (B 0), .int k, .int x] Z mds B (mE Z B) ν sz (fun r u => (¬ KP k x ∧ r = nI 0 ∧ u = mF ν 1) ∨ (KP k x ∧ nf = 8 ∧ r = nI 0 ∧ u = mF ν 2) ∨ (KP k x ∧ nf < 8 ∧ r = nI (nf + 1) ∧ u = mS ν ch (insV (ν 1) nf nf k x))) := by
  refine r_met (E := (mE Z B ν)) (by decide +kernel) (Nat.le_of_ble_eq_true rfl) ?_
  intro p e s m below meth c ls S hr hlk hnm hsz hW hl
  have hxe := S.1
  have hcd := S.2.1
  subst hsz
  have hl : lv_has ls 3 [(0, .ref (B 0)), (1, .int k), (2, .int x)] := hl
  refine lv_aload_n hxe hcd dX10_addFilter_0 rfl (lv_at hl 0 rfl) ?_
  refine r_callv (F := (mE Z B)) (r_runV hZ S hW (As := []) (rest := []) (t_X10_begins l hZ B ν s.heap.size ) k_X10_79 (r_recv hW (x := 0) (List.mem_range.mpr (by decide)) rfl rfl) (hl.1) rfl rfl (Nat.le_of_ble_eq_true rfl) ⟨Nat.le_of_ble_eq_true rfl, Nat.le_of_ble_eq_true rfl⟩ ⟨Nat.le_of_ble_eq_true rfl, Nat.le_of_ble_eq_true rfl⟩ dX10_addFilter_1) hW (fun u1 H locs hp1 hW => ?_)
  have hmhp1 : u1 = mN ν := hp1
  subst hmhp1
  refine lv_aload_n hxe hcd dX10_addFilter_4 rfl (lv_at hl 0 rfl) ?_
  refine lv_aload_n hxe hcd dX10_addFilter_5 rfl (lv_at hl 0 rfl) ?_
  refine lv_iload_n hxe hcd dX10_addFilter_6 rfl (lv_at hl 1 rfl) ?_
  refine lv_iload_n hxe hcd dX10_addFilter_7 rfl (lv_at hl 2 rfl) ?_
  refine r_calli (F := (mE Z B)) (r_runV hZ S hW (As := [.int k, .int x]) (rest := [.ref (B 0)]) (t_X10_adds l hZ B (mN ν) H.size hnf hnf8 k x) k_X10_82 (r_recv hW (x := 0) (List.mem_range.mpr (by decide)) rfl rfl) (hl.1) rfl rfl (Nat.le_of_ble_eq_true rfl) ⟨Nat.le_of_ble_eq_true rfl, Nat.le_of_ble_eq_true rfl⟩ ⟨Nat.le_of_ble_eq_true rfl, Nat.le_of_ble_eq_true rfl⟩ dX10_addFilter_8) hW (fun r8 u8 H locs hp8 hW => ?_)
  rcases hp8 with ⟨h1, rfl, rfl⟩ | ⟨h1, h2, rfl, rfl⟩ | ⟨h1, h2, rfl, rfl⟩
  · refine r_calli (F := (mE Z B)) (r_runV hZ S hW (As := [.int (nI 0)]) (rest := []) (t_X10_ends l hZ B (up1 (mN ν) 0 (upd ((mN ν) 0) 0 (nI 1))) H.size (nI 0) (t := 1) (ch := ch) rfl (by decide) hch hch8) k_X10_86 (r_recv hW (x := 0) (List.mem_range.mpr (by decide)) rfl rfl) (hl.1) rfl rfl (Nat.le_of_ble_eq_true rfl) ⟨Nat.le_of_ble_eq_true rfl, Nat.le_of_ble_eq_true rfl⟩ ⟨Nat.le_of_ble_eq_true rfl, Nat.le_of_ble_eq_true rfl⟩ dX10_addFilter_11) hW (fun r11 u11 H locs hp11 hW => ?_)
    rcases hp11 with ⟨_, rfl, rfl⟩ | ⟨hz, _, _⟩
    · refine r_iret S hr hlk (F := (mE Z B)) (u := (up1 (up1 (mN ν) 0 (upd ((mN ν) 0) 0 (nI 1))) 1 ((up1 (mN ν) 0 (upd ((mN ν) 0) 0 (nI 1))) 2))) hW ?_ dX10_addFilter_14
      exact Or.inl ⟨h1, rfl, mF_e _ _⟩
    · exact absurd hz (by decide)
  · refine r_calli (F := (mE Z B)) (r_runV hZ S hW (As := [.int (nI 0)]) (rest := []) (t_X10_ends l hZ B (up1 (mN ν) 0 (upd ((mN ν) 0) 0 (nI 2))) H.size (nI 0) (t := 2) (ch := ch) rfl (by decide) hch hch8) k_X10_86 (r_recv hW (x := 0) (List.mem_range.mpr (by decide)) rfl rfl) (hl.1) rfl rfl (Nat.le_of_ble_eq_true rfl) ⟨Nat.le_of_ble_eq_true rfl, Nat.le_of_ble_eq_true rfl⟩ ⟨Nat.le_of_ble_eq_true rfl, Nat.le_of_ble_eq_true rfl⟩ dX10_addFilter_11) hW (fun r11 u11 H locs hp11 hW => ?_)
    rcases hp11 with ⟨_, rfl, rfl⟩ | ⟨hz, _, _⟩
    · refine r_iret S hr hlk (F := (mE Z B)) (u := (up1 (up1 (mN ν) 0 (upd ((mN ν) 0) 0 (nI 2))) 1 ((up1 (mN ν) 0 (upd ((mN ν) 0) 0 (nI 2))) 2))) hW ?_ dX10_addFilter_14
      exact Or.inr (Or.inl ⟨h1, h2, rfl, mF_e _ _⟩)
    · exact absurd hz (by decide)
  · refine r_calli (F := (mE Z B)) (r_runV hZ S hW (As := [.int (nI (nf + 1))]) (rest := []) (t_X10_ends l hZ B (up1 (mN ν) 1 (insV (ν 1) nf nf k x)) H.size (nI (nf + 1)) (t := 0) (ch := ch) rfl (by decide) hch hch8) k_X10_86 (r_recv hW (x := 0) (List.mem_range.mpr (by decide)) rfl rfl) (hl.1) rfl rfl (Nat.le_of_ble_eq_true rfl) ⟨Nat.le_of_ble_eq_true rfl, Nat.le_of_ble_eq_true rfl⟩ ⟨Nat.le_of_ble_eq_true rfl, Nat.le_of_ble_eq_true rfl⟩ dX10_addFilter_11) hW (fun r11 u11 H locs hp11 hW => ?_)
    rcases hp11 with ⟨hz, _, _⟩ | ⟨_, rfl, rfl⟩
    · exact absurd rfl hz
    · refine r_iret S hr hlk (F := (mE Z B)) (u := (up1 (up1 (up1 (mN ν) 1 (insV (ν 1) nf nf k x)) 5 (pushP ((up1 (mN ν) 1 (insV (ν 1) nf nf k x)) 5) ch ((up1 (mN ν) 1 (insV (ν 1) nf nf k x)) 2))) 0 (upd ((up1 (mN ν) 1 (insV (ν 1) nf nf k x)) 0) 1 (nI (pushC ch))))) hW ?_ dX10_addFilter_14
      exact Or.inr (Or.inr (⟨h1, h2, rfl, mS_e _ _ _⟩))
set_option maxHeartbeats 4000000 in
set_option maxRecDepth 100000 in
theorem t_X10_insertFilter (l : Launch) {Z : ZT} (hZ : zOK Z) (B : Nat → Nat) (ν : MM) (sz : Nat) {nf : Nat} (hnf : ν 1 0 = nI nf) (hnf8 : nf ≤ 8) (at_ k x : Int32) {ch : Nat} (hch : ν 0 1 = nI ch) (hch8 : ch ≤ 8) : XMi l yX10_insertFilter cX10_insertFilter 4 (some .int) 4 [.ref (B 0), .int at_, .int k, .int x] Z mds B (mE Z B) ν sz (fun r u => (¬ IX at_ (nf + 1) ∧ r = nI 0 ∧ u = mF ν 1) ∨ (IX at_ (nf + 1) ∧ ¬ KP k x ∧ r = nI 0 ∧ u = mF ν 2) ∨ (IX at_ (nf + 1) ∧ KP k x ∧ nf = 8 ∧ r = nI 0 ∧ u = mF ν 3) ∨ (∃ q, q < nf + 1 ∧ at_ = nI q ∧ KP k x ∧ nf < 8 ∧ r = nI (nf + 1) ∧ u = mS ν ch (insV (ν 1) q nf k x))) := by
  refine r_met (E := (mE Z B ν)) (by decide +kernel) (Nat.le_of_ble_eq_true rfl) ?_
  intro p e s m below meth c ls S hr hlk hnm hsz hW hl
  have hxe := S.1
  have hcd := S.2.1
  subst hsz
  have hl : lv_has ls 4 [(0, .ref (B 0)), (1, .int at_), (2, .int k), (3, .int x)] := hl
  refine lv_aload_n hxe hcd dX10_insertFilter_0 rfl (lv_at hl 0 rfl) ?_
  refine r_callv (F := (mE Z B)) (r_runV hZ S hW (As := []) (rest := []) (t_X10_begins l hZ B ν s.heap.size ) k_X10_79 (r_recv hW (x := 0) (List.mem_range.mpr (by decide)) rfl rfl) (hl.1) rfl rfl (Nat.le_of_ble_eq_true rfl) ⟨Nat.le_of_ble_eq_true rfl, Nat.le_of_ble_eq_true rfl⟩ ⟨Nat.le_of_ble_eq_true rfl, Nat.le_of_ble_eq_true rfl⟩ dX10_insertFilter_1) hW (fun u1 H locs hp1 hW => ?_)
  have hmhp1 : u1 = mN ν := hp1
  subst hmhp1
  refine lv_aload_n hxe hcd dX10_insertFilter_4 rfl (lv_at hl 0 rfl) ?_
  refine lv_aload_n hxe hcd dX10_insertFilter_5 rfl (lv_at hl 0 rfl) ?_
  refine lv_iload_n hxe hcd dX10_insertFilter_6 rfl (lv_at hl 1 rfl) ?_
  refine lv_iload_n hxe hcd dX10_insertFilter_7 rfl (lv_at hl 2 rfl) ?_
  refine lv_iload_n hxe hcd dX10_insertFilter_8 rfl (lv_at hl 3 rfl) ?_
  refine r_calli (F := (mE Z B)) (r_runV hZ S hW (As := [.int at_, .int k, .int x]) (rest := [.ref (B 0)]) (t_X10_puts l hZ B (mN ν) H.size hnf hnf8 at_ k x) k_X10_89 (r_recv hW (x := 0) (List.mem_range.mpr (by decide)) rfl rfl) (hl.1) rfl rfl (Nat.le_of_ble_eq_true rfl) ⟨Nat.le_of_ble_eq_true rfl, Nat.le_of_ble_eq_true rfl⟩ ⟨Nat.le_of_ble_eq_true rfl, Nat.le_of_ble_eq_true rfl⟩ dX10_insertFilter_9) hW (fun r9 u9 H locs hp9 hW => ?_)
  rcases hp9 with ⟨h1, rfl, rfl⟩ | ⟨h1, h2, rfl, rfl⟩ | ⟨h1, h2, h3, rfl, rfl⟩ | ⟨q, hq, hx, h2, h3, rfl, rfl⟩
  · refine r_calli (F := (mE Z B)) (r_runV hZ S hW (As := [.int (nI 0)]) (rest := []) (t_X10_ends l hZ B (up1 (mN ν) 0 (upd ((mN ν) 0) 0 (nI 1))) H.size (nI 0) (t := 1) (ch := ch) rfl (by decide) hch hch8) k_X10_86 (r_recv hW (x := 0) (List.mem_range.mpr (by decide)) rfl rfl) (hl.1) rfl rfl (Nat.le_of_ble_eq_true rfl) ⟨Nat.le_of_ble_eq_true rfl, Nat.le_of_ble_eq_true rfl⟩ ⟨Nat.le_of_ble_eq_true rfl, Nat.le_of_ble_eq_true rfl⟩ dX10_insertFilter_12) hW (fun r12 u12 H locs hp12 hW => ?_)
    rcases hp12 with ⟨_, rfl, rfl⟩ | ⟨hz, _, _⟩
    · refine r_iret S hr hlk (F := (mE Z B)) (u := (up1 (up1 (mN ν) 0 (upd ((mN ν) 0) 0 (nI 1))) 1 ((up1 (mN ν) 0 (upd ((mN ν) 0) 0 (nI 1))) 2))) hW ?_ dX10_insertFilter_15
      exact Or.inl ⟨h1, rfl, mF_e _ _⟩
    · exact absurd hz (by decide)
  · refine r_calli (F := (mE Z B)) (r_runV hZ S hW (As := [.int (nI 0)]) (rest := []) (t_X10_ends l hZ B (up1 (mN ν) 0 (upd ((mN ν) 0) 0 (nI 2))) H.size (nI 0) (t := 2) (ch := ch) rfl (by decide) hch hch8) k_X10_86 (r_recv hW (x := 0) (List.mem_range.mpr (by decide)) rfl rfl) (hl.1) rfl rfl (Nat.le_of_ble_eq_true rfl) ⟨Nat.le_of_ble_eq_true rfl, Nat.le_of_ble_eq_true rfl⟩ ⟨Nat.le_of_ble_eq_true rfl, Nat.le_of_ble_eq_true rfl⟩ dX10_insertFilter_12) hW (fun r12 u12 H locs hp12 hW => ?_)
    rcases hp12 with ⟨_, rfl, rfl⟩ | ⟨hz, _, _⟩
    · refine r_iret S hr hlk (F := (mE Z B)) (u := (up1 (up1 (mN ν) 0 (upd ((mN ν) 0) 0 (nI 2))) 1 ((up1 (mN ν) 0 (upd ((mN ν) 0) 0 (nI 2))) 2))) hW ?_ dX10_insertFilter_15
      exact Or.inr (Or.inl ⟨h1, h2, rfl, mF_e _ _⟩)
    · exact absurd hz (by decide)
  · refine r_calli (F := (mE Z B)) (r_runV hZ S hW (As := [.int (nI 0)]) (rest := []) (t_X10_ends l hZ B (up1 (mN ν) 0 (upd ((mN ν) 0) 0 (nI 3))) H.size (nI 0) (t := 3) (ch := ch) rfl (by decide) hch hch8) k_X10_86 (r_recv hW (x := 0) (List.mem_range.mpr (by decide)) rfl rfl) (hl.1) rfl rfl (Nat.le_of_ble_eq_true rfl) ⟨Nat.le_of_ble_eq_true rfl, Nat.le_of_ble_eq_true rfl⟩ ⟨Nat.le_of_ble_eq_true rfl, Nat.le_of_ble_eq_true rfl⟩ dX10_insertFilter_12) hW (fun r12 u12 H locs hp12 hW => ?_)
    rcases hp12 with ⟨_, rfl, rfl⟩ | ⟨hz, _, _⟩
    · refine r_iret S hr hlk (F := (mE Z B)) (u := (up1 (up1 (mN ν) 0 (upd ((mN ν) 0) 0 (nI 3))) 1 ((up1 (mN ν) 0 (upd ((mN ν) 0) 0 (nI 3))) 2))) hW ?_ dX10_insertFilter_15
      exact Or.inr (Or.inr (Or.inl ⟨h1, h2, h3, rfl, mF_e _ _⟩))
    · exact absurd hz (by decide)
  · refine r_calli (F := (mE Z B)) (r_runV hZ S hW (As := [.int (nI (nf + 1))]) (rest := []) (t_X10_ends l hZ B (up1 (mN ν) 1 (insV (ν 1) q nf k x)) H.size (nI (nf + 1)) (t := 0) (ch := ch) rfl (by decide) hch hch8) k_X10_86 (r_recv hW (x := 0) (List.mem_range.mpr (by decide)) rfl rfl) (hl.1) rfl rfl (Nat.le_of_ble_eq_true rfl) ⟨Nat.le_of_ble_eq_true rfl, Nat.le_of_ble_eq_true rfl⟩ ⟨Nat.le_of_ble_eq_true rfl, Nat.le_of_ble_eq_true rfl⟩ dX10_insertFilter_12) hW (fun r12 u12 H locs hp12 hW => ?_)
    rcases hp12 with ⟨hz, _, _⟩ | ⟨_, rfl, rfl⟩
    · exact absurd rfl hz
    · refine r_iret S hr hlk (F := (mE Z B)) (u := (up1 (up1 (up1 (mN ν) 1 (insV (ν 1) q nf k x)) 5 (pushP ((up1 (mN ν) 1 (insV (ν 1) q nf k x)) 5) ch ((up1 (mN ν) 1 (insV (ν 1) q nf k x)) 2))) 0 (upd ((up1 (mN ν) 1 (insV (ν 1) q nf k x)) 0) 1 (nI (pushC ch))))) hW ?_ dX10_insertFilter_15
      exact Or.inr (Or.inr (Or.inr (⟨q, hq, hx, h2, h3, rfl, mS_e _ _ _⟩)))
set_option maxHeartbeats 4000000 in
set_option maxRecDepth 100000 in
theorem t_X10_removeFilter (l : Launch) {Z : ZT} (hZ : zOK Z) (B : Nat → Nat) (ν : MM) (sz : Nat) {nf : Nat} (hnf : ν 1 0 = nI nf) (hnf8 : nf ≤ 8) (x : Int32) {ch : Nat} (hch : ν 0 1 = nI ch) (hch8 : ch ≤ 8) : XMi l yX10_removeFilter cX10_removeFilter 2 (some .int) 4 [.ref (B 0), .int x] Z mds B (mE Z B) ν sz (fun r u => (¬ IX x nf ∧ r = nI 0 ∧ u = mF ν 1) ∨ (∃ q, q < nf ∧ x = nI q ∧ r = ν 1 (13 + q) ∧ u = mS ν ch (delV (ν 1) q nf))) := by
  refine r_met (E := (mE Z B ν)) (by decide +kernel) (Nat.le_of_ble_eq_true rfl) ?_
  intro p e s m below meth c ls S hr hlk hnm hsz hW hl
  have hxe := S.1
  have hcd := S.2.1
  subst hsz
  have hl : lv_has ls 2 [(0, .ref (B 0)), (1, .int x)] := hl
  refine lv_aload_n hxe hcd dX10_removeFilter_0 rfl (lv_at hl 0 rfl) ?_
  refine r_callv (F := (mE Z B)) (r_runV hZ S hW (As := []) (rest := []) (t_X10_begins l hZ B ν s.heap.size ) k_X10_79 (r_recv hW (x := 0) (List.mem_range.mpr (by decide)) rfl rfl) (hl.1) rfl rfl (Nat.le_of_ble_eq_true rfl) ⟨Nat.le_of_ble_eq_true rfl, Nat.le_of_ble_eq_true rfl⟩ ⟨Nat.le_of_ble_eq_true rfl, Nat.le_of_ble_eq_true rfl⟩ dX10_removeFilter_1) hW (fun u1 H locs hp1 hW => ?_)
  have hmhp1 : u1 = mN ν := hp1
  subst hmhp1
  refine lv_aload_n hxe hcd dX10_removeFilter_4 rfl (lv_at hl 0 rfl) ?_
  refine lv_aload_n hxe hcd dX10_removeFilter_5 rfl (lv_at hl 0 rfl) ?_
  refine lv_iload_n hxe hcd dX10_removeFilter_6 rfl (lv_at hl 1 rfl) ?_
  refine r_calli (F := (mE Z B)) (r_runV hZ S hW (As := [.int x]) (rest := [.ref (B 0)]) (t_X10_takes l hZ B (mN ν) H.size hnf hnf8 x) k_X10_96 (r_recv hW (x := 0) (List.mem_range.mpr (by decide)) rfl rfl) (hl.1) rfl rfl (Nat.le_of_ble_eq_true rfl) ⟨Nat.le_of_ble_eq_true rfl, Nat.le_of_ble_eq_true rfl⟩ ⟨Nat.le_of_ble_eq_true rfl, Nat.le_of_ble_eq_true rfl⟩ dX10_removeFilter_7) hW (fun r7 u7 H locs hp7 hW => ?_)
  rcases hp7 with ⟨h1, rfl, rfl⟩ | ⟨q, hq, hx, rfl, rfl⟩
  · refine r_calli (F := (mE Z B)) (r_runV hZ S hW (As := [.int (nI 0)]) (rest := []) (t_X10_ends l hZ B (up1 (mN ν) 0 (upd ((mN ν) 0) 0 (nI 1))) H.size (nI 0) (t := 1) (ch := ch) rfl (by decide) hch hch8) k_X10_86 (r_recv hW (x := 0) (List.mem_range.mpr (by decide)) rfl rfl) (hl.1) rfl rfl (Nat.le_of_ble_eq_true rfl) ⟨Nat.le_of_ble_eq_true rfl, Nat.le_of_ble_eq_true rfl⟩ ⟨Nat.le_of_ble_eq_true rfl, Nat.le_of_ble_eq_true rfl⟩ dX10_removeFilter_10) hW (fun r10 u10 H locs hp10 hW => ?_)
    rcases hp10 with ⟨_, rfl, rfl⟩ | ⟨hz, _, _⟩
    · refine r_iret S hr hlk (F := (mE Z B)) (u := (up1 (up1 (mN ν) 0 (upd ((mN ν) 0) 0 (nI 1))) 1 ((up1 (mN ν) 0 (upd ((mN ν) 0) 0 (nI 1))) 2))) hW ?_ dX10_removeFilter_13
      exact Or.inl ⟨h1, rfl, mF_e _ _⟩
    · exact absurd hz (by decide)
  · refine r_calli (F := (mE Z B)) (r_runV hZ S hW (As := [.int (ν 1 (13 + q))]) (rest := []) (t_X10_ends l hZ B (up1 (mN ν) 1 (delV (ν 1) q nf)) H.size (ν 1 (13 + q)) (t := 0) (ch := ch) rfl (by decide) hch hch8) k_X10_86 (r_recv hW (x := 0) (List.mem_range.mpr (by decide)) rfl rfl) (hl.1) rfl rfl (Nat.le_of_ble_eq_true rfl) ⟨Nat.le_of_ble_eq_true rfl, Nat.le_of_ble_eq_true rfl⟩ ⟨Nat.le_of_ble_eq_true rfl, Nat.le_of_ble_eq_true rfl⟩ dX10_removeFilter_10) hW (fun r10 u10 H locs hp10 hW => ?_)
    rcases hp10 with ⟨hz, _, _⟩ | ⟨_, rfl, rfl⟩
    · exact absurd rfl hz
    · refine r_iret S hr hlk (F := (mE Z B)) (u := (up1 (up1 (up1 (mN ν) 1 (delV (ν 1) q nf)) 5 (pushP ((up1 (mN ν) 1 (delV (ν 1) q nf)) 5) ch ((up1 (mN ν) 1 (delV (ν 1) q nf)) 2))) 0 (upd ((up1 (mN ν) 1 (delV (ν 1) q nf)) 0) 1 (nI (pushC ch))))) hW ?_ dX10_removeFilter_13
      exact Or.inr (⟨q, hq, hx, rfl, mS_e _ _ _⟩)
set_option maxHeartbeats 4000000 in
set_option maxRecDepth 100000 in
theorem t_X10_swapFilters (l : Launch) {Z : ZT} (hZ : zOK Z) (B : Nat → Nat) (ν : MM) (sz : Nat) {nf : Nat} (hnf : ν 1 0 = nI nf) (hnf8 : nf ≤ 8) (x y : Int32) {ch : Nat} (hch : ν 0 1 = nI ch) (hch8 : ch ≤ 8) : XMi l yX10_swapFilters cX10_swapFilters 3 (some .int) 4 [.ref (B 0), .int x, .int y] Z mds B (mE Z B) ν sz (fun r u => (¬ (IX x nf ∧ IX y nf) ∧ r = nI 0 ∧ u = mF ν 1) ∨ (∃ a b, a < nf ∧ b < nf ∧ x = nI a ∧ y = nI b ∧ r = nI (dsN a b) ∧ u = mS ν ch (swV (ν 1) a b))) := by
  refine r_met (E := (mE Z B ν)) (by decide +kernel) (Nat.le_of_ble_eq_true rfl) ?_
  intro p e s m below meth c ls S hr hlk hnm hsz hW hl
  have hxe := S.1
  have hcd := S.2.1
  subst hsz
  have hl : lv_has ls 3 [(0, .ref (B 0)), (1, .int x), (2, .int y)] := hl
  refine lv_aload_n hxe hcd dX10_swapFilters_0 rfl (lv_at hl 0 rfl) ?_
  refine r_callv (F := (mE Z B)) (r_runV hZ S hW (As := []) (rest := []) (t_X10_begins l hZ B ν s.heap.size ) k_X10_79 (r_recv hW (x := 0) (List.mem_range.mpr (by decide)) rfl rfl) (hl.1) rfl rfl (Nat.le_of_ble_eq_true rfl) ⟨Nat.le_of_ble_eq_true rfl, Nat.le_of_ble_eq_true rfl⟩ ⟨Nat.le_of_ble_eq_true rfl, Nat.le_of_ble_eq_true rfl⟩ dX10_swapFilters_1) hW (fun u1 H locs hp1 hW => ?_)
  have hmhp1 : u1 = mN ν := hp1
  subst hmhp1
  refine lv_aload_n hxe hcd dX10_swapFilters_4 rfl (lv_at hl 0 rfl) ?_
  refine lv_aload_n hxe hcd dX10_swapFilters_5 rfl (lv_at hl 0 rfl) ?_
  refine lv_iload_n hxe hcd dX10_swapFilters_6 rfl (lv_at hl 1 rfl) ?_
  refine lv_iload_n hxe hcd dX10_swapFilters_7 rfl (lv_at hl 2 rfl) ?_
  refine r_calli (F := (mE Z B)) (r_runV hZ S hW (As := [.int x, .int y]) (rest := [.ref (B 0)]) (t_X10_swaps l hZ B (mN ν) H.size hnf hnf8 x y) k_X10_102 (r_recv hW (x := 0) (List.mem_range.mpr (by decide)) rfl rfl) (hl.1) rfl rfl (Nat.le_of_ble_eq_true rfl) ⟨Nat.le_of_ble_eq_true rfl, Nat.le_of_ble_eq_true rfl⟩ ⟨Nat.le_of_ble_eq_true rfl, Nat.le_of_ble_eq_true rfl⟩ dX10_swapFilters_8) hW (fun r8 u8 H locs hp8 hW => ?_)
  rcases hp8 with ⟨h1, rfl, rfl⟩ | ⟨a, b, ha, hb, hx, hy, rfl, rfl⟩
  · refine r_calli (F := (mE Z B)) (r_runV hZ S hW (As := [.int (nI 0)]) (rest := []) (t_X10_ends l hZ B (up1 (mN ν) 0 (upd ((mN ν) 0) 0 (nI 1))) H.size (nI 0) (t := 1) (ch := ch) rfl (by decide) hch hch8) k_X10_86 (r_recv hW (x := 0) (List.mem_range.mpr (by decide)) rfl rfl) (hl.1) rfl rfl (Nat.le_of_ble_eq_true rfl) ⟨Nat.le_of_ble_eq_true rfl, Nat.le_of_ble_eq_true rfl⟩ ⟨Nat.le_of_ble_eq_true rfl, Nat.le_of_ble_eq_true rfl⟩ dX10_swapFilters_11) hW (fun r11 u11 H locs hp11 hW => ?_)
    rcases hp11 with ⟨_, rfl, rfl⟩ | ⟨hz, _, _⟩
    · refine r_iret S hr hlk (F := (mE Z B)) (u := (up1 (up1 (mN ν) 0 (upd ((mN ν) 0) 0 (nI 1))) 1 ((up1 (mN ν) 0 (upd ((mN ν) 0) 0 (nI 1))) 2))) hW ?_ dX10_swapFilters_14
      exact Or.inl ⟨h1, rfl, mF_e _ _⟩
    · exact absurd hz (by decide)
  · refine r_calli (F := (mE Z B)) (r_runV hZ S hW (As := [.int (nI (dsN a b))]) (rest := []) (t_X10_ends l hZ B (up1 (mN ν) 1 (swV (ν 1) a b)) H.size (nI (dsN a b)) (t := 0) (ch := ch) rfl (by decide) hch hch8) k_X10_86 (r_recv hW (x := 0) (List.mem_range.mpr (by decide)) rfl rfl) (hl.1) rfl rfl (Nat.le_of_ble_eq_true rfl) ⟨Nat.le_of_ble_eq_true rfl, Nat.le_of_ble_eq_true rfl⟩ ⟨Nat.le_of_ble_eq_true rfl, Nat.le_of_ble_eq_true rfl⟩ dX10_swapFilters_11) hW (fun r11 u11 H locs hp11 hW => ?_)
    rcases hp11 with ⟨hz, _, _⟩ | ⟨_, rfl, rfl⟩
    · exact absurd rfl hz
    · refine r_iret S hr hlk (F := (mE Z B)) (u := (up1 (up1 (up1 (mN ν) 1 (swV (ν 1) a b)) 5 (pushP ((up1 (mN ν) 1 (swV (ν 1) a b)) 5) ch ((up1 (mN ν) 1 (swV (ν 1) a b)) 2))) 0 (upd ((up1 (mN ν) 1 (swV (ν 1) a b)) 0) 1 (nI (pushC ch))))) hW ?_ dX10_swapFilters_14
      exact Or.inr (⟨a, b, ha, hb, hx, hy, rfl, mS_e _ _ _⟩)
set_option maxHeartbeats 4000000 in
set_option maxRecDepth 100000 in
theorem t_X10_addNote (l : Launch) {Z : ZT} (hZ : zOK Z) (B : Nat → Nat) (ν : MM) (sz : Nat) (ln : Nat → Nat) (hln : ∀ q, q < 4 → ν 1 (25 + q) = nI (ln q) ∧ ln q ≤ 160) (nn : Nat → Nat) (hnn : ∀ q, q < 4 → ν 1 (21 + q) = nI (nn q) ∧ nn q ≤ ln q) (x Pv am le : Int32) {ch : Nat} (hch : ν 0 1 = nI ch) (hch8 : ch ≤ 8) : XMi l yX10_addNote cX10_addNote 5 (some .int) 4 [.ref (B 0), .int x, .int Pv, .int am, .int le] Z mds B (mE Z B) ν sz (fun r u => (¬ IX x 4 ∧ r = nI 0 ∧ u = mF ν 1) ∨ (IX x 4 ∧ ¬ NV Pv am le ∧ r = nI 0 ∧ u = mF ν 2) ∨ (∃ q k, q < 4 ∧ x = nI q ∧ NV Pv am le ∧ 1 ≤ k ∧ k ≤ 40 ∧ le = nI k ∧ ¬ ln q + k ≤ 160 ∧ r = nI 0 ∧ u = mF ν 3) ∨ (∃ q k P, q < 4 ∧ x = nI q ∧ NV Pv am le ∧ 1 ≤ k ∧ k ≤ 40 ∧ le = nI k ∧ 2 ≤ P ∧ P ≤ 20 ∧ Pv = nI P ∧ ln q + k ≤ 160 ∧ r = nI (ln q + k) ∧ u = mS ν ch (noteV (ν 1) q (ln q) (nn q) P am k))) := by
  refine r_met (E := (mE Z B ν)) (by decide +kernel) (Nat.le_of_ble_eq_true rfl) ?_
  intro p e s m below meth c ls S hr hlk hnm hsz hW hl
  have hxe := S.1
  have hcd := S.2.1
  subst hsz
  have hl : lv_has ls 5 [(0, .ref (B 0)), (1, .int x), (2, .int Pv), (3, .int am), (4, .int le)] := hl
  refine lv_aload_n hxe hcd dX10_addNote_0 rfl (lv_at hl 0 rfl) ?_
  refine r_callv (F := (mE Z B)) (r_runV hZ S hW (As := []) (rest := []) (t_X10_begins l hZ B ν s.heap.size ) k_X10_79 (r_recv hW (x := 0) (List.mem_range.mpr (by decide)) rfl rfl) (hl.1) rfl rfl (Nat.le_of_ble_eq_true rfl) ⟨Nat.le_of_ble_eq_true rfl, Nat.le_of_ble_eq_true rfl⟩ ⟨Nat.le_of_ble_eq_true rfl, Nat.le_of_ble_eq_true rfl⟩ dX10_addNote_1) hW (fun u1 H locs hp1 hW => ?_)
  have hmhp1 : u1 = mN ν := hp1
  subst hmhp1
  refine lv_aload_n hxe hcd dX10_addNote_4 rfl (lv_at hl 0 rfl) ?_
  refine lv_aload_n hxe hcd dX10_addNote_5 rfl (lv_at hl 0 rfl) ?_
  refine lv_iload_n hxe hcd dX10_addNote_6 rfl (lv_at hl 1 rfl) ?_
  refine lv_iload_n hxe hcd dX10_addNote_7 rfl (lv_at hl 2 rfl) ?_
  refine lv_iload_n hxe hcd dX10_addNote_8 rfl (lv_at hl 3 rfl) ?_
  refine lv_iload hxe hcd dX10_addNote_9 (lv_at hl 4 rfl) ?_
  refine r_calli (F := (mE Z B)) (r_runV hZ S hW (As := [.int x, .int Pv, .int am, .int le]) (rest := [.ref (B 0)]) (t_X10_notes l hZ B (mN ν) H.size ln hln nn hnn x Pv am le) k_X10_108 (r_recv hW (x := 0) (List.mem_range.mpr (by decide)) rfl rfl) (hl.1) rfl rfl (Nat.le_of_ble_eq_true rfl) ⟨Nat.le_of_ble_eq_true rfl, Nat.le_of_ble_eq_true rfl⟩ ⟨Nat.le_of_ble_eq_true rfl, Nat.le_of_ble_eq_true rfl⟩ dX10_addNote_11) hW (fun r11 u11 H locs hp11 hW => ?_)
  rcases hp11 with ⟨h1, rfl, rfl⟩ | ⟨h1, h2, rfl, rfl⟩ | ⟨q, k, hq, hx, nv, hk1, hk2, hk, h3, rfl, rfl⟩ | ⟨q, k, P, hq, hx, nv, hk1, hk2, hk, hP1, hP2, hP, h3, rfl, rfl⟩
  · refine r_calli (F := (mE Z B)) (r_runV hZ S hW (As := [.int (nI 0)]) (rest := []) (t_X10_ends l hZ B (up1 (mN ν) 0 (upd ((mN ν) 0) 0 (nI 1))) H.size (nI 0) (t := 1) (ch := ch) rfl (by decide) hch hch8) k_X10_86 (r_recv hW (x := 0) (List.mem_range.mpr (by decide)) rfl rfl) (hl.1) rfl rfl (Nat.le_of_ble_eq_true rfl) ⟨Nat.le_of_ble_eq_true rfl, Nat.le_of_ble_eq_true rfl⟩ ⟨Nat.le_of_ble_eq_true rfl, Nat.le_of_ble_eq_true rfl⟩ dX10_addNote_14) hW (fun r14 u14 H locs hp14 hW => ?_)
    rcases hp14 with ⟨_, rfl, rfl⟩ | ⟨hz, _, _⟩
    · refine r_iret S hr hlk (F := (mE Z B)) (u := (up1 (up1 (mN ν) 0 (upd ((mN ν) 0) 0 (nI 1))) 1 ((up1 (mN ν) 0 (upd ((mN ν) 0) 0 (nI 1))) 2))) hW ?_ dX10_addNote_17
      exact Or.inl ⟨h1, rfl, mF_e _ _⟩
    · exact absurd hz (by decide)
  · refine r_calli (F := (mE Z B)) (r_runV hZ S hW (As := [.int (nI 0)]) (rest := []) (t_X10_ends l hZ B (up1 (mN ν) 0 (upd ((mN ν) 0) 0 (nI 2))) H.size (nI 0) (t := 2) (ch := ch) rfl (by decide) hch hch8) k_X10_86 (r_recv hW (x := 0) (List.mem_range.mpr (by decide)) rfl rfl) (hl.1) rfl rfl (Nat.le_of_ble_eq_true rfl) ⟨Nat.le_of_ble_eq_true rfl, Nat.le_of_ble_eq_true rfl⟩ ⟨Nat.le_of_ble_eq_true rfl, Nat.le_of_ble_eq_true rfl⟩ dX10_addNote_14) hW (fun r14 u14 H locs hp14 hW => ?_)
    rcases hp14 with ⟨_, rfl, rfl⟩ | ⟨hz, _, _⟩
    · refine r_iret S hr hlk (F := (mE Z B)) (u := (up1 (up1 (mN ν) 0 (upd ((mN ν) 0) 0 (nI 2))) 1 ((up1 (mN ν) 0 (upd ((mN ν) 0) 0 (nI 2))) 2))) hW ?_ dX10_addNote_17
      exact Or.inr (Or.inl ⟨h1, h2, rfl, mF_e _ _⟩)
    · exact absurd hz (by decide)
  · refine r_calli (F := (mE Z B)) (r_runV hZ S hW (As := [.int (nI 0)]) (rest := []) (t_X10_ends l hZ B (up1 (mN ν) 0 (upd ((mN ν) 0) 0 (nI 3))) H.size (nI 0) (t := 3) (ch := ch) rfl (by decide) hch hch8) k_X10_86 (r_recv hW (x := 0) (List.mem_range.mpr (by decide)) rfl rfl) (hl.1) rfl rfl (Nat.le_of_ble_eq_true rfl) ⟨Nat.le_of_ble_eq_true rfl, Nat.le_of_ble_eq_true rfl⟩ ⟨Nat.le_of_ble_eq_true rfl, Nat.le_of_ble_eq_true rfl⟩ dX10_addNote_14) hW (fun r14 u14 H locs hp14 hW => ?_)
    rcases hp14 with ⟨_, rfl, rfl⟩ | ⟨hz, _, _⟩
    · refine r_iret S hr hlk (F := (mE Z B)) (u := (up1 (up1 (mN ν) 0 (upd ((mN ν) 0) 0 (nI 3))) 1 ((up1 (mN ν) 0 (upd ((mN ν) 0) 0 (nI 3))) 2))) hW ?_ dX10_addNote_17
      exact Or.inr (Or.inr (Or.inl ⟨q, k, hq, hx, nv, hk1, hk2, hk, h3, rfl, mF_e _ _⟩))
    · exact absurd hz (by decide)
  · refine r_calli (F := (mE Z B)) (r_runV hZ S hW (As := [.int (nI (ln q + k))]) (rest := []) (t_X10_ends l hZ B (up1 (mN ν) 1 (noteV (ν 1) q (ln q) (nn q) P am k)) H.size (nI (ln q + k)) (t := 0) (ch := ch) rfl (by decide) hch hch8) k_X10_86 (r_recv hW (x := 0) (List.mem_range.mpr (by decide)) rfl rfl) (hl.1) rfl rfl (Nat.le_of_ble_eq_true rfl) ⟨Nat.le_of_ble_eq_true rfl, Nat.le_of_ble_eq_true rfl⟩ ⟨Nat.le_of_ble_eq_true rfl, Nat.le_of_ble_eq_true rfl⟩ dX10_addNote_14) hW (fun r14 u14 H locs hp14 hW => ?_)
    rcases hp14 with ⟨hz, _, _⟩ | ⟨_, rfl, rfl⟩
    · exact absurd rfl hz
    · refine r_iret S hr hlk (F := (mE Z B)) (u := (up1 (up1 (up1 (mN ν) 1 (noteV (ν 1) q (ln q) (nn q) P am k)) 5 (pushP ((up1 (mN ν) 1 (noteV (ν 1) q (ln q) (nn q) P am k)) 5) ch ((up1 (mN ν) 1 (noteV (ν 1) q (ln q) (nn q) P am k)) 2))) 0 (upd ((up1 (mN ν) 1 (noteV (ν 1) q (ln q) (nn q) P am k)) 0) 1 (nI (pushC ch))))) hW ?_ dX10_addNote_17
      exact Or.inr (Or.inr (Or.inr (⟨q, k, P, hq, hx, nv, hk1, hk2, hk, hP1, hP2, hP, h3, rfl, mS_e _ _ _⟩)))
set_option maxHeartbeats 4000000 in
set_option maxRecDepth 100000 in
theorem t_X10_removeNote (l : Launch) {Z : ZT} (hZ : zOK Z) (B : Nat → Nat) (ν : MM) (sz : Nat) (ln : Nat → Nat) (hln : ∀ q, q < 4 → ν 1 (25 + q) = nI (ln q) ∧ ln q ≤ 160) (nn : Nat → Nat) (hnn : ∀ q, q < 4 → ν 1 (21 + q) = nI (nn q) ∧ nn q ≤ ln q) (nl : Nat → Nat → Nat) (hnl : ∀ q j, q < 4 → j < nn q → ν 1 (717 + 160 * q + j) = nI (nl q j) ∧ nl q j ≤ ln q) (x : Int32) {ch : Nat} (hch : ν 0 1 = nI ch) (hch8 : ch ≤ 8) : XMi l yX10_removeNote cX10_removeNote 2 (some .int) 4 [.ref (B 0), .int x] Z mds B (mE Z B) ν sz (fun r u => (¬ IX x 4 ∧ r = nI 0 ∧ u = mF ν 1) ∨ (∃ q, q < 4 ∧ x = nI q ∧ nn q = 0 ∧ r = nI 0 ∧ u = mF ν 2) ∨ (∃ q, q < 4 ∧ x = nI q ∧ 0 < nn q ∧ r = nI (ln q - nl q (nn q - 1)) ∧ u = mS ν ch (untV (ν 1) q (nn q) (ln q) (nl q (nn q - 1))))) := by
  refine r_met (E := (mE Z B ν)) (by decide +kernel) (Nat.le_of_ble_eq_true rfl) ?_
  intro p e s m below meth c ls S hr hlk hnm hsz hW hl
  have hxe := S.1
  have hcd := S.2.1
  subst hsz
  have hl : lv_has ls 2 [(0, .ref (B 0)), (1, .int x)] := hl
  refine lv_aload_n hxe hcd dX10_removeNote_0 rfl (lv_at hl 0 rfl) ?_
  refine r_callv (F := (mE Z B)) (r_runV hZ S hW (As := []) (rest := []) (t_X10_begins l hZ B ν s.heap.size ) k_X10_79 (r_recv hW (x := 0) (List.mem_range.mpr (by decide)) rfl rfl) (hl.1) rfl rfl (Nat.le_of_ble_eq_true rfl) ⟨Nat.le_of_ble_eq_true rfl, Nat.le_of_ble_eq_true rfl⟩ ⟨Nat.le_of_ble_eq_true rfl, Nat.le_of_ble_eq_true rfl⟩ dX10_removeNote_1) hW (fun u1 H locs hp1 hW => ?_)
  have hmhp1 : u1 = mN ν := hp1
  subst hmhp1
  refine lv_aload_n hxe hcd dX10_removeNote_4 rfl (lv_at hl 0 rfl) ?_
  refine lv_aload_n hxe hcd dX10_removeNote_5 rfl (lv_at hl 0 rfl) ?_
  refine lv_iload_n hxe hcd dX10_removeNote_6 rfl (lv_at hl 1 rfl) ?_
  refine r_calli (F := (mE Z B)) (r_runV hZ S hW (As := [.int x]) (rest := [.ref (B 0)]) (t_X10_takesNote l hZ B (mN ν) H.size ln hln nn hnn nl hnl x) k_X10_112 (r_recv hW (x := 0) (List.mem_range.mpr (by decide)) rfl rfl) (hl.1) rfl rfl (Nat.le_of_ble_eq_true rfl) ⟨Nat.le_of_ble_eq_true rfl, Nat.le_of_ble_eq_true rfl⟩ ⟨Nat.le_of_ble_eq_true rfl, Nat.le_of_ble_eq_true rfl⟩ dX10_removeNote_7) hW (fun r7 u7 H locs hp7 hW => ?_)
  rcases hp7 with ⟨h1, rfl, rfl⟩ | ⟨q, hq, hx, h0, rfl, rfl⟩ | ⟨q, hq, hx, h0, rfl, rfl⟩
  · refine r_calli (F := (mE Z B)) (r_runV hZ S hW (As := [.int (nI 0)]) (rest := []) (t_X10_ends l hZ B (up1 (mN ν) 0 (upd ((mN ν) 0) 0 (nI 1))) H.size (nI 0) (t := 1) (ch := ch) rfl (by decide) hch hch8) k_X10_86 (r_recv hW (x := 0) (List.mem_range.mpr (by decide)) rfl rfl) (hl.1) rfl rfl (Nat.le_of_ble_eq_true rfl) ⟨Nat.le_of_ble_eq_true rfl, Nat.le_of_ble_eq_true rfl⟩ ⟨Nat.le_of_ble_eq_true rfl, Nat.le_of_ble_eq_true rfl⟩ dX10_removeNote_10) hW (fun r10 u10 H locs hp10 hW => ?_)
    rcases hp10 with ⟨_, rfl, rfl⟩ | ⟨hz, _, _⟩
    · refine r_iret S hr hlk (F := (mE Z B)) (u := (up1 (up1 (mN ν) 0 (upd ((mN ν) 0) 0 (nI 1))) 1 ((up1 (mN ν) 0 (upd ((mN ν) 0) 0 (nI 1))) 2))) hW ?_ dX10_removeNote_13
      exact Or.inl ⟨h1, rfl, mF_e _ _⟩
    · exact absurd hz (by decide)
  · refine r_calli (F := (mE Z B)) (r_runV hZ S hW (As := [.int (nI 0)]) (rest := []) (t_X10_ends l hZ B (up1 (mN ν) 0 (upd ((mN ν) 0) 0 (nI 2))) H.size (nI 0) (t := 2) (ch := ch) rfl (by decide) hch hch8) k_X10_86 (r_recv hW (x := 0) (List.mem_range.mpr (by decide)) rfl rfl) (hl.1) rfl rfl (Nat.le_of_ble_eq_true rfl) ⟨Nat.le_of_ble_eq_true rfl, Nat.le_of_ble_eq_true rfl⟩ ⟨Nat.le_of_ble_eq_true rfl, Nat.le_of_ble_eq_true rfl⟩ dX10_removeNote_10) hW (fun r10 u10 H locs hp10 hW => ?_)
    rcases hp10 with ⟨_, rfl, rfl⟩ | ⟨hz, _, _⟩
    · refine r_iret S hr hlk (F := (mE Z B)) (u := (up1 (up1 (mN ν) 0 (upd ((mN ν) 0) 0 (nI 2))) 1 ((up1 (mN ν) 0 (upd ((mN ν) 0) 0 (nI 2))) 2))) hW ?_ dX10_removeNote_13
      exact Or.inr (Or.inl ⟨q, hq, hx, h0, rfl, mF_e _ _⟩)
    · exact absurd hz (by decide)
  · refine r_calli (F := (mE Z B)) (r_runV hZ S hW (As := [.int (nI (ln q - nl q (nn q - 1)))]) (rest := []) (t_X10_ends l hZ B (up1 (mN ν) 1 (untV (ν 1) q (nn q) (ln q) (nl q (nn q - 1)))) H.size (nI (ln q - nl q (nn q - 1))) (t := 0) (ch := ch) rfl (by decide) hch hch8) k_X10_86 (r_recv hW (x := 0) (List.mem_range.mpr (by decide)) rfl rfl) (hl.1) rfl rfl (Nat.le_of_ble_eq_true rfl) ⟨Nat.le_of_ble_eq_true rfl, Nat.le_of_ble_eq_true rfl⟩ ⟨Nat.le_of_ble_eq_true rfl, Nat.le_of_ble_eq_true rfl⟩ dX10_removeNote_10) hW (fun r10 u10 H locs hp10 hW => ?_)
    rcases hp10 with ⟨hz, _, _⟩ | ⟨_, rfl, rfl⟩
    · exact absurd rfl hz
    · refine r_iret S hr hlk (F := (mE Z B)) (u := (up1 (up1 (up1 (mN ν) 1 (untV (ν 1) q (nn q) (ln q) (nl q (nn q - 1)))) 5 (pushP ((up1 (mN ν) 1 (untV (ν 1) q (nn q) (ln q) (nl q (nn q - 1)))) 5) ch ((up1 (mN ν) 1 (untV (ν 1) q (nn q) (ln q) (nl q (nn q - 1)))) 2))) 0 (upd ((up1 (mN ν) 1 (untV (ν 1) q (nn q) (ln q) (nl q (nn q - 1)))) 0) 1 (nI (pushC ch))))) hW ?_ dX10_removeNote_13
      exact Or.inr (Or.inr (⟨q, hq, hx, h0, rfl, mS_e _ _ _⟩))
set_option maxHeartbeats 4000000 in
set_option maxRecDepth 100000 in
theorem t_X10_addTank (l : Launch) {Z : ZT} (hZ : zOK Z) (B : Nat → Nat) (ν : MM) (sz : Nat) {nt : Nat} (hnt : ν 1 1 = nI nt) (hnt4 : nt ≤ 4) (x : Int32) {ch : Nat} (hch : ν 0 1 = nI ch) (hch8 : ch ≤ 8) : XMi l yX10_addTank cX10_addTank 2 (some .int) 4 [.ref (B 0), .int x] Z mds B (mE Z B) ν sz (fun r u => (¬ (nI 1 ≤ x ∧ x ≤ nI 9) ∧ r = nI 0 ∧ u = mF ν 1) ∨ ((nI 1 ≤ x ∧ x ≤ nI 9) ∧ nt = 4 ∧ r = nI 0 ∧ u = mF ν 2) ∨ ((nI 1 ≤ x ∧ x ≤ nI 9) ∧ nt < 4 ∧ r = nI nt ∧ u = mS ν ch (upd (upd (upd (ν 1) (29 + 12 * nt + 0) x) (29 + 12 * nt + 1) (nI 9999)) 1 (nI (nt + 1))))) := by
  refine r_met (E := (mE Z B ν)) (by decide +kernel) (Nat.le_of_ble_eq_true rfl) ?_
  intro p e s m below meth c ls S hr hlk hnm hsz hW hl
  have hxe := S.1
  have hcd := S.2.1
  subst hsz
  have hl : lv_has ls 2 [(0, .ref (B 0)), (1, .int x)] := hl
  refine lv_aload_n hxe hcd dX10_addTank_0 rfl (lv_at hl 0 rfl) ?_
  refine r_callv (F := (mE Z B)) (r_runV hZ S hW (As := []) (rest := []) (t_X10_begins l hZ B ν s.heap.size ) k_X10_79 (r_recv hW (x := 0) (List.mem_range.mpr (by decide)) rfl rfl) (hl.1) rfl rfl (Nat.le_of_ble_eq_true rfl) ⟨Nat.le_of_ble_eq_true rfl, Nat.le_of_ble_eq_true rfl⟩ ⟨Nat.le_of_ble_eq_true rfl, Nat.le_of_ble_eq_true rfl⟩ dX10_addTank_1) hW (fun u1 H locs hp1 hW => ?_)
  have hmhp1 : u1 = mN ν := hp1
  subst hmhp1
  refine lv_aload_n hxe hcd dX10_addTank_4 rfl (lv_at hl 0 rfl) ?_
  refine lv_aload_n hxe hcd dX10_addTank_5 rfl (lv_at hl 0 rfl) ?_
  refine lv_iload_n hxe hcd dX10_addTank_6 rfl (lv_at hl 1 rfl) ?_
  refine r_calli (F := (mE Z B)) (r_runV hZ S hW (As := [.int x]) (rest := [.ref (B 0)]) (t_X10_addsTank l hZ B (mN ν) H.size hnt hnt4 x) k_X10_147 (r_recv hW (x := 0) (List.mem_range.mpr (by decide)) rfl rfl) (hl.1) rfl rfl (Nat.le_of_ble_eq_true rfl) ⟨Nat.le_of_ble_eq_true rfl, Nat.le_of_ble_eq_true rfl⟩ ⟨Nat.le_of_ble_eq_true rfl, Nat.le_of_ble_eq_true rfl⟩ dX10_addTank_7) hW (fun r7 u7 H locs hp7 hW => ?_)
  rcases hp7 with ⟨h1, rfl, rfl⟩ | ⟨h1, h2, rfl, rfl⟩ | ⟨h1, h2, rfl, rfl⟩
  · refine r_calli (F := (mE Z B)) (r_runV hZ S hW (As := [.int (nI 0)]) (rest := []) (t_X10_ends l hZ B (up1 (mN ν) 0 (upd ((mN ν) 0) 0 (nI 1))) H.size (nI 0) (t := 1) (ch := ch) rfl (by decide) hch hch8) k_X10_86 (r_recv hW (x := 0) (List.mem_range.mpr (by decide)) rfl rfl) (hl.1) rfl rfl (Nat.le_of_ble_eq_true rfl) ⟨Nat.le_of_ble_eq_true rfl, Nat.le_of_ble_eq_true rfl⟩ ⟨Nat.le_of_ble_eq_true rfl, Nat.le_of_ble_eq_true rfl⟩ dX10_addTank_10) hW (fun r10 u10 H locs hp10 hW => ?_)
    rcases hp10 with ⟨_, rfl, rfl⟩ | ⟨hz, _, _⟩
    · refine r_iret S hr hlk (F := (mE Z B)) (u := (up1 (up1 (mN ν) 0 (upd ((mN ν) 0) 0 (nI 1))) 1 ((up1 (mN ν) 0 (upd ((mN ν) 0) 0 (nI 1))) 2))) hW ?_ dX10_addTank_13
      exact Or.inl ⟨h1, rfl, mF_e _ _⟩
    · exact absurd hz (by decide)
  · refine r_calli (F := (mE Z B)) (r_runV hZ S hW (As := [.int (nI 0)]) (rest := []) (t_X10_ends l hZ B (up1 (mN ν) 0 (upd ((mN ν) 0) 0 (nI 2))) H.size (nI 0) (t := 2) (ch := ch) rfl (by decide) hch hch8) k_X10_86 (r_recv hW (x := 0) (List.mem_range.mpr (by decide)) rfl rfl) (hl.1) rfl rfl (Nat.le_of_ble_eq_true rfl) ⟨Nat.le_of_ble_eq_true rfl, Nat.le_of_ble_eq_true rfl⟩ ⟨Nat.le_of_ble_eq_true rfl, Nat.le_of_ble_eq_true rfl⟩ dX10_addTank_10) hW (fun r10 u10 H locs hp10 hW => ?_)
    rcases hp10 with ⟨_, rfl, rfl⟩ | ⟨hz, _, _⟩
    · refine r_iret S hr hlk (F := (mE Z B)) (u := (up1 (up1 (mN ν) 0 (upd ((mN ν) 0) 0 (nI 2))) 1 ((up1 (mN ν) 0 (upd ((mN ν) 0) 0 (nI 2))) 2))) hW ?_ dX10_addTank_13
      exact Or.inr (Or.inl ⟨h1, h2, rfl, mF_e _ _⟩)
    · exact absurd hz (by decide)
  · refine r_calli (F := (mE Z B)) (r_runV hZ S hW (As := [.int (nI nt)]) (rest := []) (t_X10_ends l hZ B (up1 (mN ν) 1 (upd (upd (upd (ν 1) (29 + 12 * nt + 0) x) (29 + 12 * nt + 1) (nI 9999)) 1 (nI (nt + 1)))) H.size (nI nt) (t := 0) (ch := ch) rfl (by decide) hch hch8) k_X10_86 (r_recv hW (x := 0) (List.mem_range.mpr (by decide)) rfl rfl) (hl.1) rfl rfl (Nat.le_of_ble_eq_true rfl) ⟨Nat.le_of_ble_eq_true rfl, Nat.le_of_ble_eq_true rfl⟩ ⟨Nat.le_of_ble_eq_true rfl, Nat.le_of_ble_eq_true rfl⟩ dX10_addTank_10) hW (fun r10 u10 H locs hp10 hW => ?_)
    rcases hp10 with ⟨hz, _, _⟩ | ⟨_, rfl, rfl⟩
    · exact absurd rfl hz
    · refine r_iret S hr hlk (F := (mE Z B)) (u := (up1 (up1 (up1 (mN ν) 1 (upd (upd (upd (ν 1) (29 + 12 * nt + 0) x) (29 + 12 * nt + 1) (nI 9999)) 1 (nI (nt + 1)))) 5 (pushP ((up1 (mN ν) 1 (upd (upd (upd (ν 1) (29 + 12 * nt + 0) x) (29 + 12 * nt + 1) (nI 9999)) 1 (nI (nt + 1)))) 5) ch ((up1 (mN ν) 1 (upd (upd (upd (ν 1) (29 + 12 * nt + 0) x) (29 + 12 * nt + 1) (nI 9999)) 1 (nI (nt + 1)))) 2))) 0 (upd ((up1 (mN ν) 1 (upd (upd (upd (ν 1) (29 + 12 * nt + 0) x) (29 + 12 * nt + 1) (nI 9999)) 1 (nI (nt + 1)))) 0) 1 (nI (pushC ch))))) hW ?_ dX10_addTank_13
      exact Or.inr (Or.inr (⟨h1, h2, rfl, mS_e _ _ _⟩))
set_option maxHeartbeats 4000000 in
set_option maxRecDepth 100000 in
theorem t_X10_setTuning (l : Launch) {Z : ZT} (hZ : zOK Z) (B : Nat → Nat) (ν : MM) (sz : Nat) {nt : Nat} (hnt : ν 1 1 = nI nt) (hnt4 : nt ≤ 4) (x y : Int32) {ch : Nat} (hch : ν 0 1 = nI ch) (hch8 : ch ≤ 8) : XMi l yX10_setTuning cX10_setTuning 3 (some .int) 4 [.ref (B 0), .int x, .int y] Z mds B (mE Z B) ν sz (fun r u => (¬ IX x nt ∧ r = nI 0 ∧ u = mF ν 1) ∨ (IX x nt ∧ ¬ (nI 0 ≤ y ∧ y ≤ nI 9999) ∧ r = nI 0 ∧ u = mF ν 2) ∨ (∃ q, q < nt ∧ x = nI q ∧ (nI 0 ≤ y ∧ y ≤ nI 9999) ∧ r = ν 1 (29 + 12 * q + 1) ∧ u = mS ν ch (upd (ν 1) (29 + 12 * q + 1) y))) := by
  refine r_met (E := (mE Z B ν)) (by decide +kernel) (Nat.le_of_ble_eq_true rfl) ?_
  intro p e s m below meth c ls S hr hlk hnm hsz hW hl
  have hxe := S.1
  have hcd := S.2.1
  subst hsz
  have hl : lv_has ls 3 [(0, .ref (B 0)), (1, .int x), (2, .int y)] := hl
  refine lv_aload_n hxe hcd dX10_setTuning_0 rfl (lv_at hl 0 rfl) ?_
  refine r_callv (F := (mE Z B)) (r_runV hZ S hW (As := []) (rest := []) (t_X10_begins l hZ B ν s.heap.size ) k_X10_79 (r_recv hW (x := 0) (List.mem_range.mpr (by decide)) rfl rfl) (hl.1) rfl rfl (Nat.le_of_ble_eq_true rfl) ⟨Nat.le_of_ble_eq_true rfl, Nat.le_of_ble_eq_true rfl⟩ ⟨Nat.le_of_ble_eq_true rfl, Nat.le_of_ble_eq_true rfl⟩ dX10_setTuning_1) hW (fun u1 H locs hp1 hW => ?_)
  have hmhp1 : u1 = mN ν := hp1
  subst hmhp1
  refine lv_aload_n hxe hcd dX10_setTuning_4 rfl (lv_at hl 0 rfl) ?_
  refine lv_aload_n hxe hcd dX10_setTuning_5 rfl (lv_at hl 0 rfl) ?_
  refine lv_iload_n hxe hcd dX10_setTuning_6 rfl (lv_at hl 1 rfl) ?_
  refine lv_iload_n hxe hcd dX10_setTuning_7 rfl (lv_at hl 2 rfl) ?_
  refine r_calli (F := (mE Z B)) (r_runV hZ S hW (As := [.int x, .int y]) (rest := [.ref (B 0)]) (t_X10_tunes l hZ B (mN ν) H.size hnt hnt4 x y) k_X10_153 (r_recv hW (x := 0) (List.mem_range.mpr (by decide)) rfl rfl) (hl.1) rfl rfl (Nat.le_of_ble_eq_true rfl) ⟨Nat.le_of_ble_eq_true rfl, Nat.le_of_ble_eq_true rfl⟩ ⟨Nat.le_of_ble_eq_true rfl, Nat.le_of_ble_eq_true rfl⟩ dX10_setTuning_8) hW (fun r8 u8 H locs hp8 hW => ?_)
  rcases hp8 with ⟨h1, rfl, rfl⟩ | ⟨h1, h2, rfl, rfl⟩ | ⟨q, hq, hx, h2, rfl, rfl⟩
  · refine r_calli (F := (mE Z B)) (r_runV hZ S hW (As := [.int (nI 0)]) (rest := []) (t_X10_ends l hZ B (up1 (mN ν) 0 (upd ((mN ν) 0) 0 (nI 1))) H.size (nI 0) (t := 1) (ch := ch) rfl (by decide) hch hch8) k_X10_86 (r_recv hW (x := 0) (List.mem_range.mpr (by decide)) rfl rfl) (hl.1) rfl rfl (Nat.le_of_ble_eq_true rfl) ⟨Nat.le_of_ble_eq_true rfl, Nat.le_of_ble_eq_true rfl⟩ ⟨Nat.le_of_ble_eq_true rfl, Nat.le_of_ble_eq_true rfl⟩ dX10_setTuning_11) hW (fun r11 u11 H locs hp11 hW => ?_)
    rcases hp11 with ⟨_, rfl, rfl⟩ | ⟨hz, _, _⟩
    · refine r_iret S hr hlk (F := (mE Z B)) (u := (up1 (up1 (mN ν) 0 (upd ((mN ν) 0) 0 (nI 1))) 1 ((up1 (mN ν) 0 (upd ((mN ν) 0) 0 (nI 1))) 2))) hW ?_ dX10_setTuning_14
      exact Or.inl ⟨h1, rfl, mF_e _ _⟩
    · exact absurd hz (by decide)
  · refine r_calli (F := (mE Z B)) (r_runV hZ S hW (As := [.int (nI 0)]) (rest := []) (t_X10_ends l hZ B (up1 (mN ν) 0 (upd ((mN ν) 0) 0 (nI 2))) H.size (nI 0) (t := 2) (ch := ch) rfl (by decide) hch hch8) k_X10_86 (r_recv hW (x := 0) (List.mem_range.mpr (by decide)) rfl rfl) (hl.1) rfl rfl (Nat.le_of_ble_eq_true rfl) ⟨Nat.le_of_ble_eq_true rfl, Nat.le_of_ble_eq_true rfl⟩ ⟨Nat.le_of_ble_eq_true rfl, Nat.le_of_ble_eq_true rfl⟩ dX10_setTuning_11) hW (fun r11 u11 H locs hp11 hW => ?_)
    rcases hp11 with ⟨_, rfl, rfl⟩ | ⟨hz, _, _⟩
    · refine r_iret S hr hlk (F := (mE Z B)) (u := (up1 (up1 (mN ν) 0 (upd ((mN ν) 0) 0 (nI 2))) 1 ((up1 (mN ν) 0 (upd ((mN ν) 0) 0 (nI 2))) 2))) hW ?_ dX10_setTuning_14
      exact Or.inr (Or.inl ⟨h1, h2, rfl, mF_e _ _⟩)
    · exact absurd hz (by decide)
  · refine r_calli (F := (mE Z B)) (r_runV hZ S hW (As := [.int (ν 1 (29 + 12 * q + 1))]) (rest := []) (t_X10_ends l hZ B (up1 (mN ν) 1 (upd (ν 1) (29 + 12 * q + 1) y)) H.size (ν 1 (29 + 12 * q + 1)) (t := 0) (ch := ch) rfl (by decide) hch hch8) k_X10_86 (r_recv hW (x := 0) (List.mem_range.mpr (by decide)) rfl rfl) (hl.1) rfl rfl (Nat.le_of_ble_eq_true rfl) ⟨Nat.le_of_ble_eq_true rfl, Nat.le_of_ble_eq_true rfl⟩ ⟨Nat.le_of_ble_eq_true rfl, Nat.le_of_ble_eq_true rfl⟩ dX10_setTuning_11) hW (fun r11 u11 H locs hp11 hW => ?_)
    rcases hp11 with ⟨hz, _, _⟩ | ⟨_, rfl, rfl⟩
    · exact absurd rfl hz
    · refine r_iret S hr hlk (F := (mE Z B)) (u := (up1 (up1 (up1 (mN ν) 1 (upd (ν 1) (29 + 12 * q + 1) y)) 5 (pushP ((up1 (mN ν) 1 (upd (ν 1) (29 + 12 * q + 1) y)) 5) ch ((up1 (mN ν) 1 (upd (ν 1) (29 + 12 * q + 1) y)) 2))) 0 (upd ((up1 (mN ν) 1 (upd (ν 1) (29 + 12 * q + 1) y)) 0) 1 (nI (pushC ch))))) hW ?_ dX10_setTuning_14
      exact Or.inr (Or.inr (⟨q, hq, hx, h2, rfl, mS_e _ _ _⟩))
set_option maxHeartbeats 4000000 in
set_option maxRecDepth 100000 in
theorem t_X10_pour (l : Launch) {Z : ZT} (hZ : zOK Z) (B : Nat → Nat) (ν : MM) (sz : Nat) (ln : Nat → Nat) (hln : ∀ q, q < 4 → ν 1 (25 + q) = nI (ln q) ∧ ln q ≤ 160) (nn : Nat → Nat) (hnn : ∀ q, q < 4 → ν 1 (21 + q) = nI (nn q) ∧ nn q ≤ ln q) {nf : Nat} (hnf : ν 1 0 = nI nf) (hnf8 : nf ≤ 8) (ps : Nat → Nat) (hps : ∀ f, f < nf → ν 1 (13 + f) = nI (ps f) ∧ ps f ≤ 999 ∧ KP (ν 1 (5 + f)) (nI (ps f))) {nt : Nat} (hnt : ν 1 1 = nI nt) (hnt4 : nt ≤ 4) (cp lv : Nat → Nat) (hV : VT (ν 1) nt cp lv) (x : Int32) {ch : Nat} (hch : ν 0 1 = nI ch) (hch8 : ch ≤ 8) : XMi l yX10_pour cX10_pour 2 (some .int) 6 [.ref (B 0), .int x] Z mds B (mE Z B) ν sz (fun r u => (¬ IX x 4 ∧ r = nI 0 ∧ u = mF ν 1) ∨ (∃ q, q < 4 ∧ x = nI q ∧ nn q = 0 ∧ r = nI 0 ∧ u = mF ν 2) ∨ (∃ q, q < 4 ∧ x = nI q ∧ 0 < nn q ∧ r = nI (pourC (ν 1) nt (ldV (flV (ν 1) q nf) (ln q)) ((ln q + 7) / 8)) ∧ ∃ o2 g2 : Nat → Int32, u = up1 (up1 (mS ν ch (pourN (ν 1) nt (ldV (flV (ν 1) q nf) (ln q)) ((ln q + 7) / 8))) 6 o2) 7 g2)) := by
  refine r_met (E := (mE Z B ν)) (by decide +kernel) (Nat.le_of_ble_eq_true rfl) ?_
  intro p e s m below meth c ls S hr hlk hnm hsz hW hl
  have hxe := S.1
  have hcd := S.2.1
  subst hsz
  have hl : lv_has ls 2 [(0, .ref (B 0)), (1, .int x)] := hl
  refine lv_aload_n hxe hcd dX10_pour_0 rfl (lv_at hl 0 rfl) ?_
  refine r_callv (F := (mE Z B)) (r_runV hZ S hW (As := []) (rest := []) (t_X10_begins l hZ B ν s.heap.size ) k_X10_79 (r_recv hW (x := 0) (List.mem_range.mpr (by decide)) rfl rfl) (hl.1) rfl rfl (Nat.le_of_ble_eq_true rfl) ⟨Nat.le_of_ble_eq_true rfl, Nat.le_of_ble_eq_true rfl⟩ ⟨Nat.le_of_ble_eq_true rfl, Nat.le_of_ble_eq_true rfl⟩ dX10_pour_1) hW (fun u1 H locs hp1 hW => ?_)
  have hmhp1 : u1 = mN ν := hp1
  subst hmhp1
  refine lv_aload_n hxe hcd dX10_pour_4 rfl (lv_at hl 0 rfl) ?_
  refine lv_aload_n hxe hcd dX10_pour_5 rfl (lv_at hl 0 rfl) ?_
  refine lv_iload_n hxe hcd dX10_pour_6 rfl (lv_at hl 1 rfl) ?_
  refine r_calli (F := (mE Z B)) (r_runV hZ S hW (As := [.int x]) (rest := [.ref (B 0)]) (t_X10_poursAll l hZ B (mN ν) H.size ln hln nn hnn hnf hnf8 ps hps hnt hnt4 cp lv hV x) k_X10_165 (r_recv hW (x := 0) (List.mem_range.mpr (by decide)) rfl rfl) (hl.1) rfl rfl (Nat.le_of_ble_eq_true rfl) ⟨Nat.le_of_ble_eq_true rfl, Nat.le_of_ble_eq_true rfl⟩ ⟨Nat.le_of_ble_eq_true rfl, Nat.le_of_ble_eq_true rfl⟩ dX10_pour_7) hW (fun r7 u7 H locs hp7 hW => ?_)
  rcases hp7 with ⟨h1, rfl, rfl⟩ | ⟨q, hq, hx, h0, rfl, rfl⟩ | ⟨q, hq, hx, h0, rfl, o2, g2, rfl⟩
  · refine r_calli (F := (mE Z B)) (r_runV hZ S hW (As := [.int (nI 0)]) (rest := []) (t_X10_ends l hZ B (up1 (mN ν) 0 (upd ((mN ν) 0) 0 (nI 1))) H.size (nI 0) (t := 1) (ch := ch) rfl (by decide) hch hch8) k_X10_86 (r_recv hW (x := 0) (List.mem_range.mpr (by decide)) rfl rfl) (hl.1) rfl rfl (Nat.le_of_ble_eq_true rfl) ⟨Nat.le_of_ble_eq_true rfl, Nat.le_of_ble_eq_true rfl⟩ ⟨Nat.le_of_ble_eq_true rfl, Nat.le_of_ble_eq_true rfl⟩ dX10_pour_10) hW (fun r10 u10 H locs hp10 hW => ?_)
    rcases hp10 with ⟨_, rfl, rfl⟩ | ⟨hz, _, _⟩
    · refine r_iret S hr hlk (F := (mE Z B)) (u := (up1 (up1 (mN ν) 0 (upd ((mN ν) 0) 0 (nI 1))) 1 ((up1 (mN ν) 0 (upd ((mN ν) 0) 0 (nI 1))) 2))) hW ?_ dX10_pour_13
      exact Or.inl ⟨h1, rfl, mF_e _ _⟩
    · exact absurd hz (by decide)
  · refine r_calli (F := (mE Z B)) (r_runV hZ S hW (As := [.int (nI 0)]) (rest := []) (t_X10_ends l hZ B (up1 (mN ν) 0 (upd ((mN ν) 0) 0 (nI 2))) H.size (nI 0) (t := 2) (ch := ch) rfl (by decide) hch hch8) k_X10_86 (r_recv hW (x := 0) (List.mem_range.mpr (by decide)) rfl rfl) (hl.1) rfl rfl (Nat.le_of_ble_eq_true rfl) ⟨Nat.le_of_ble_eq_true rfl, Nat.le_of_ble_eq_true rfl⟩ ⟨Nat.le_of_ble_eq_true rfl, Nat.le_of_ble_eq_true rfl⟩ dX10_pour_10) hW (fun r10 u10 H locs hp10 hW => ?_)
    rcases hp10 with ⟨_, rfl, rfl⟩ | ⟨hz, _, _⟩
    · refine r_iret S hr hlk (F := (mE Z B)) (u := (up1 (up1 (mN ν) 0 (upd ((mN ν) 0) 0 (nI 2))) 1 ((up1 (mN ν) 0 (upd ((mN ν) 0) 0 (nI 2))) 2))) hW ?_ dX10_pour_13
      exact Or.inr (Or.inl ⟨q, hq, hx, h0, rfl, mF_e _ _⟩)
    · exact absurd hz (by decide)
  · refine r_calli (F := (mE Z B)) (r_runV hZ S hW (As := [.int (nI (pourC (ν 1) nt (ldV (flV (ν 1) q nf) (ln q)) ((ln q + 7) / 8)))]) (rest := []) (t_X10_ends l hZ B (up1 (up1 (up1 (mN ν) 6 o2) 7 g2) 1 (pourN (ν 1) nt (ldV (flV (ν 1) q nf) (ln q)) ((ln q + 7) / 8))) H.size (nI (pourC (ν 1) nt (ldV (flV (ν 1) q nf) (ln q)) ((ln q + 7) / 8))) (t := 0) (ch := ch) rfl (by decide) hch hch8) k_X10_86 (r_recv hW (x := 0) (List.mem_range.mpr (by decide)) rfl rfl) (hl.1) rfl rfl (Nat.le_of_ble_eq_true rfl) ⟨Nat.le_of_ble_eq_true rfl, Nat.le_of_ble_eq_true rfl⟩ ⟨Nat.le_of_ble_eq_true rfl, Nat.le_of_ble_eq_true rfl⟩ dX10_pour_10) hW (fun r10 u10 H locs hp10 hW => ?_)
    rcases hp10 with ⟨hz, _, _⟩ | ⟨_, rfl, rfl⟩
    · exact absurd rfl hz
    · refine r_iret S hr hlk (F := (mE Z B)) (u := (up1 (up1 (up1 (up1 (up1 (mN ν) 6 o2) 7 g2) 1 (pourN (ν 1) nt (ldV (flV (ν 1) q nf) (ln q)) ((ln q + 7) / 8))) 5 (pushP ((up1 (up1 (up1 (mN ν) 6 o2) 7 g2) 1 (pourN (ν 1) nt (ldV (flV (ν 1) q nf) (ln q)) ((ln q + 7) / 8))) 5) ch ((up1 (up1 (up1 (mN ν) 6 o2) 7 g2) 1 (pourN (ν 1) nt (ldV (flV (ν 1) q nf) (ln q)) ((ln q + 7) / 8))) 2))) 0 (upd ((up1 (up1 (up1 (mN ν) 6 o2) 7 g2) 1 (pourN (ν 1) nt (ldV (flV (ν 1) q nf) (ln q)) ((ln q + 7) / 8))) 0) 1 (nI (pushC ch))))) hW ?_ dX10_pour_13
      exact Or.inr (Or.inr (⟨q, hq, hx, h0, rfl, o2, g2, mS_p _ _ _ _ _⟩))
set_option maxHeartbeats 4000000 in
set_option maxRecDepth 100000 in
theorem t_X10_drain (l : Launch) {Z : ZT} (hZ : zOK Z) (B : Nat → Nat) (ν : MM) (sz : Nat) {nt : Nat} (hnt : ν 1 1 = nI nt) (hnt4 : nt ≤ 4) (cp lv : Nat → Nat) (hV : VT (ν 1) nt cp lv) (x y : Int32) {ch : Nat} (hch : ν 0 1 = nI ch) (hch8 : ch ≤ 8) : XMi l yX10_drain cX10_drain 3 (some .int) 4 [.ref (B 0), .int x, .int y] Z mds B (mE Z B) ν sz (fun r u => (¬ IX x nt ∧ r = nI 0 ∧ u = mF ν 1) ∨ (IX x nt ∧ ¬ (nI 1 ≤ y ∧ y ≤ nI 9) ∧ r = nI 0 ∧ u = mF ν 2) ∨ (∃ q j, q < nt ∧ x = nI q ∧ 1 ≤ j ∧ j ≤ 9 ∧ y = nI j ∧ lv q < j ∧ r = nI 0 ∧ u = mF ν 3) ∨ (∃ q j, q < nt ∧ x = nI q ∧ 1 ≤ j ∧ j ≤ 9 ∧ y = nI j ∧ j ≤ lv q ∧ r = maxR (fun i => ν 1 (29 + 12 * q + (3 + i))) j ∧ u = mS ν ch (drnV (ν 1) q (lv q) j))) := by
  refine r_met (E := (mE Z B ν)) (by decide +kernel) (Nat.le_of_ble_eq_true rfl) ?_
  intro p e s m below meth c ls S hr hlk hnm hsz hW hl
  have hxe := S.1
  have hcd := S.2.1
  subst hsz
  have hl : lv_has ls 3 [(0, .ref (B 0)), (1, .int x), (2, .int y)] := hl
  refine lv_aload_n hxe hcd dX10_drain_0 rfl (lv_at hl 0 rfl) ?_
  refine r_callv (F := (mE Z B)) (r_runV hZ S hW (As := []) (rest := []) (t_X10_begins l hZ B ν s.heap.size ) k_X10_79 (r_recv hW (x := 0) (List.mem_range.mpr (by decide)) rfl rfl) (hl.1) rfl rfl (Nat.le_of_ble_eq_true rfl) ⟨Nat.le_of_ble_eq_true rfl, Nat.le_of_ble_eq_true rfl⟩ ⟨Nat.le_of_ble_eq_true rfl, Nat.le_of_ble_eq_true rfl⟩ dX10_drain_1) hW (fun u1 H locs hp1 hW => ?_)
  have hmhp1 : u1 = mN ν := hp1
  subst hmhp1
  refine lv_aload_n hxe hcd dX10_drain_4 rfl (lv_at hl 0 rfl) ?_
  refine lv_aload_n hxe hcd dX10_drain_5 rfl (lv_at hl 0 rfl) ?_
  refine lv_iload_n hxe hcd dX10_drain_6 rfl (lv_at hl 1 rfl) ?_
  refine lv_iload_n hxe hcd dX10_drain_7 rfl (lv_at hl 2 rfl) ?_
  refine r_calli (F := (mE Z B)) (r_runV hZ S hW (As := [.int x, .int y]) (rest := [.ref (B 0)]) (t_X10_drains l hZ B (mN ν) H.size hnt hnt4 cp lv hV x y) k_X10_168 (r_recv hW (x := 0) (List.mem_range.mpr (by decide)) rfl rfl) (hl.1) rfl rfl (Nat.le_of_ble_eq_true rfl) ⟨Nat.le_of_ble_eq_true rfl, Nat.le_of_ble_eq_true rfl⟩ ⟨Nat.le_of_ble_eq_true rfl, Nat.le_of_ble_eq_true rfl⟩ dX10_drain_8) hW (fun r8 u8 H locs hp8 hW => ?_)
  rcases hp8 with ⟨h1, rfl, rfl⟩ | ⟨h1, h2, rfl, rfl⟩ | ⟨q, j, hq, hx, hj1, hj2, hy, hl3, rfl, rfl⟩ | ⟨q, j, hq, hx, hj1, hj2, hy, hl3, rfl, rfl⟩
  · refine r_calli (F := (mE Z B)) (r_runV hZ S hW (As := [.int (nI 0)]) (rest := []) (t_X10_ends l hZ B (up1 (mN ν) 0 (upd ((mN ν) 0) 0 (nI 1))) H.size (nI 0) (t := 1) (ch := ch) rfl (by decide) hch hch8) k_X10_86 (r_recv hW (x := 0) (List.mem_range.mpr (by decide)) rfl rfl) (hl.1) rfl rfl (Nat.le_of_ble_eq_true rfl) ⟨Nat.le_of_ble_eq_true rfl, Nat.le_of_ble_eq_true rfl⟩ ⟨Nat.le_of_ble_eq_true rfl, Nat.le_of_ble_eq_true rfl⟩ dX10_drain_11) hW (fun r11 u11 H locs hp11 hW => ?_)
    rcases hp11 with ⟨_, rfl, rfl⟩ | ⟨hz, _, _⟩
    · refine r_iret S hr hlk (F := (mE Z B)) (u := (up1 (up1 (mN ν) 0 (upd ((mN ν) 0) 0 (nI 1))) 1 ((up1 (mN ν) 0 (upd ((mN ν) 0) 0 (nI 1))) 2))) hW ?_ dX10_drain_14
      exact Or.inl ⟨h1, rfl, mF_e _ _⟩
    · exact absurd hz (by decide)
  · refine r_calli (F := (mE Z B)) (r_runV hZ S hW (As := [.int (nI 0)]) (rest := []) (t_X10_ends l hZ B (up1 (mN ν) 0 (upd ((mN ν) 0) 0 (nI 2))) H.size (nI 0) (t := 2) (ch := ch) rfl (by decide) hch hch8) k_X10_86 (r_recv hW (x := 0) (List.mem_range.mpr (by decide)) rfl rfl) (hl.1) rfl rfl (Nat.le_of_ble_eq_true rfl) ⟨Nat.le_of_ble_eq_true rfl, Nat.le_of_ble_eq_true rfl⟩ ⟨Nat.le_of_ble_eq_true rfl, Nat.le_of_ble_eq_true rfl⟩ dX10_drain_11) hW (fun r11 u11 H locs hp11 hW => ?_)
    rcases hp11 with ⟨_, rfl, rfl⟩ | ⟨hz, _, _⟩
    · refine r_iret S hr hlk (F := (mE Z B)) (u := (up1 (up1 (mN ν) 0 (upd ((mN ν) 0) 0 (nI 2))) 1 ((up1 (mN ν) 0 (upd ((mN ν) 0) 0 (nI 2))) 2))) hW ?_ dX10_drain_14
      exact Or.inr (Or.inl ⟨h1, h2, rfl, mF_e _ _⟩)
    · exact absurd hz (by decide)
  · refine r_calli (F := (mE Z B)) (r_runV hZ S hW (As := [.int (nI 0)]) (rest := []) (t_X10_ends l hZ B (up1 (mN ν) 0 (upd ((mN ν) 0) 0 (nI 3))) H.size (nI 0) (t := 3) (ch := ch) rfl (by decide) hch hch8) k_X10_86 (r_recv hW (x := 0) (List.mem_range.mpr (by decide)) rfl rfl) (hl.1) rfl rfl (Nat.le_of_ble_eq_true rfl) ⟨Nat.le_of_ble_eq_true rfl, Nat.le_of_ble_eq_true rfl⟩ ⟨Nat.le_of_ble_eq_true rfl, Nat.le_of_ble_eq_true rfl⟩ dX10_drain_11) hW (fun r11 u11 H locs hp11 hW => ?_)
    rcases hp11 with ⟨_, rfl, rfl⟩ | ⟨hz, _, _⟩
    · refine r_iret S hr hlk (F := (mE Z B)) (u := (up1 (up1 (mN ν) 0 (upd ((mN ν) 0) 0 (nI 3))) 1 ((up1 (mN ν) 0 (upd ((mN ν) 0) 0 (nI 3))) 2))) hW ?_ dX10_drain_14
      exact Or.inr (Or.inr (Or.inl ⟨q, j, hq, hx, hj1, hj2, hy, hl3, rfl, mF_e _ _⟩))
    · exact absurd hz (by decide)
  · refine r_calli (F := (mE Z B)) (r_runV hZ S hW (As := [.int (maxR (fun i => ν 1 (29 + 12 * q + (3 + i))) j)]) (rest := []) (t_X10_ends l hZ B (up1 (mN ν) 1 (drnV (ν 1) q (lv q) j)) H.size (maxR (fun i => ν 1 (29 + 12 * q + (3 + i))) j) (t := 0) (ch := ch) rfl (by decide) hch hch8) k_X10_86 (r_recv hW (x := 0) (List.mem_range.mpr (by decide)) rfl rfl) (hl.1) rfl rfl (Nat.le_of_ble_eq_true rfl) ⟨Nat.le_of_ble_eq_true rfl, Nat.le_of_ble_eq_true rfl⟩ ⟨Nat.le_of_ble_eq_true rfl, Nat.le_of_ble_eq_true rfl⟩ dX10_drain_11) hW (fun r11 u11 H locs hp11 hW => ?_)
    rcases hp11 with ⟨hz, _, _⟩ | ⟨_, rfl, rfl⟩
    · exact absurd rfl hz
    · refine r_iret S hr hlk (F := (mE Z B)) (u := (up1 (up1 (up1 (mN ν) 1 (drnV (ν 1) q (lv q) j)) 5 (pushP ((up1 (mN ν) 1 (drnV (ν 1) q (lv q) j)) 5) ch ((up1 (mN ν) 1 (drnV (ν 1) q (lv q) j)) 2))) 0 (upd ((up1 (mN ν) 1 (drnV (ν 1) q (lv q) j)) 0) 1 (nI (pushC ch))))) hW ?_ dX10_drain_14
      exact Or.inr (Or.inr (Or.inr (⟨q, j, hq, hx, hj1, hj2, hy, hl3, rfl, mS_e _ _ _⟩)))
