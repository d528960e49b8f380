set_option maxHeartbeats 4000000 in
set_option maxRecDepth 100000 in
theorem t_X10_inserts (l : Launch) {Z : ZT} (hZ : zOK Z) (B : Nat → Nat) (ν : MM) (sz : Nat) {nf q : Nat} (hnf : ν 1 0 = nI nf) (hq : q ≤ nf) (h8 : nf < 8) (k x : Int32) : XMi l yX10_inserts cX10_inserts 5 (some .int) 0 [.ref (B 0), .int (nI q), .int k, .int x] Z mds B (mE Z B) ν sz (fun r u => r = nI (nf + 1) ∧ u = up1 ν 1 (insV (ν 1) q nf k x)) := by
  refine r_met (E := (mE Z B ν)) (by decide +kernel) (Nat.le_of_ble_eq_true rfl) ?_
  intro p e s m below meth c ls S hr hlk hnm hsz hW hl
  have hxe := S.1
  have hcd := S.2.1
  subst hsz
  have hl : lv_has ls 5 [(0, .ref (B 0)), (1, .int (nI q)), (2, .int k), (3, .int x)] := hl
  refine lv_aload_n hxe hcd dX10_inserts_0 rfl (lv_at hl 0 rfl) ?_
  refine gf_X10_16 S hW dX10_inserts_1 ?_
  refine lv_iconst (v := (nI 0)) hxe hcd dX10_inserts_4 (by decide) ?_
  refine gm_ald S hW (i := 1) (k := 0) (n := 1357) (by decide) (by decide) rfl (by omega) dX10_inserts_5 ?_
  refine r_as (y := (nI nf)) (hnf) ?_
  refine lv_istore (lv' := [(4, .int (nI nf)), (0, .ref (B 0)), (1, .int (nI q)), (2, .int k), (3, .int x)]) hxe hcd dX10_inserts_6 hl (by decide) rfl (fun ls hl => ?_)
  have loop8 : ∀ (n_ : Nat) (i : Nat), i < n_ → (q ≤ i) → (i ≤ nf) → ∀ (H : Heap) (locs : List Loc) (ls : Array Slot), wX Z mds B (mE Z B (up1 ν 1 (shV (ν 1) i nf))) (fA mds B (mE Z B ν) s.heap.size) s H locs → lv_has ls 5 [(0, .ref (B 0)), (1, .int (nI q)), (2, .int k), (3, .int x), (4, .int (nI i))] → W p l e (rmD 0 0 0) s m ([.ref (B 0), .int (nI q), .int k, .int x] : List Value).toArray below meth c H locs 0 0 (MQ below (va_Qi (fun r u => r = nI (nf + 1) ∧ u = up1 ν 1 (insV (ν 1) q nf k x)) (fun u t => qB Z mds B ((mE Z B) u) (fA mds B (mE Z B ν) s.heap.size) t) (fA mds B (mE Z B ν) s.heap.size)) ([.ref (B 0), .int (nI q), .int k, .int x] : List Value).toArray s 0 0 (fA mds B (mE Z B ν) s.heap.size)) (F0 m 8 ls []) := by
    intro n_
    induction n_ with
    | zero => intro i hm; exact absurd hm (Nat.not_lt_zero _)
    | succ n_ ih8 =>
      intro i hm hi hn H locs ls hW hl
      refine lv_iload hxe hcd dX10_inserts_8 (lv_at hl 4 rfl) ?_
      refine lv_iload_n hxe hcd dX10_inserts_10 rfl (lv_at hl 1 rfl) ?_
      refine n_le S (a := i) (b := q) (by omega) (by omega) dX10_inserts_11 (tgt := 62) (by decide) (fun c11 => ?_) (fun c11 => ?_)
      · refine lv_aload_n hxe hcd dX10_inserts_62 rfl (lv_at hl 0 rfl) ?_
        refine gf_X10_16 S hW dX10_inserts_63 ?_
        refine lv_iconst (v := (nI 5)) hxe hcd dX10_inserts_66 (by decide) ?_
        refine lv_iload_n hxe hcd dX10_inserts_67 rfl (lv_at hl 1 rfl) ?_
        refine n_iadd S (a := 5) (b := q) dX10_inserts_68 ?_
        refine lv_iload_n hxe hcd dX10_inserts_69 rfl (lv_at hl 2 rfl) ?_
        refine gm_ast S hW (i := 1) (k := (5 + q)) (n := 1357) (by decide) (by decide) rfl (by omega) dX10_inserts_70 (fun H locs hW => ?_)
        refine lv_aload_n hxe hcd dX10_inserts_71 rfl (lv_at hl 0 rfl) ?_
        refine gf_X10_16 S hW dX10_inserts_72 ?_
        refine lv_bipush (v := (nI 13)) hxe hcd dX10_inserts_75 (by decide) ?_
        refine lv_iload_n hxe hcd dX10_inserts_77 rfl (lv_at hl 1 rfl) ?_
        refine n_iadd S (a := 13) (b := q) dX10_inserts_78 ?_
        refine lv_iload_n hxe hcd dX10_inserts_79 rfl (lv_at hl 3 rfl) ?_
        refine gm_ast S hW (i := 1) (k := (13 + q)) (n := 1357) (by decide) (by decide) rfl (by omega) dX10_inserts_80 (fun H locs hW => ?_)
        refine lv_aload_n hxe hcd dX10_inserts_81 rfl (lv_at hl 0 rfl) ?_
        refine gf_X10_16 S hW dX10_inserts_82 ?_
        refine lv_iconst (v := (nI 0)) hxe hcd dX10_inserts_85 (by decide) ?_
        refine lv_dup2_11 hxe hcd dX10_inserts_86 rfl rfl ?_
        refine gm_ald S hW (i := 1) (k := 0) (n := 1357) (by decide) (by decide) rfl (by omega) dX10_inserts_87 ?_
        refine r_as (y := (nI nf)) (by simp only [up1_s]; rw [upd_o (by omega), upd_o (by omega), shV, if_neg (by omega), hnf]) ?_
        refine lv_iconst (v := (nI 1)) hxe hcd dX10_inserts_88 (by decide) ?_
        refine n_iadd S (a := nf) (b := 1) dX10_inserts_89 ?_
        refine gm_ast S hW (i := 1) (k := 0) (n := 1357) (by decide) (by decide) rfl (by omega) dX10_inserts_90 (fun H locs hW => ?_)
        refine lv_aload_n hxe hcd dX10_inserts_91 rfl (lv_at hl 0 rfl) ?_
        refine gf_X10_16 S hW dX10_inserts_92 ?_
        refine lv_iconst (v := (nI 0)) hxe hcd dX10_inserts_95 (by decide) ?_
        refine gm_ald S hW (i := 1) (k := 0) (n := 1357) (by decide) (by decide) rfl (by omega) dX10_inserts_96 ?_
        refine r_as (y := (nI (nf + 1))) (by rw [up1_s, upd_s]) ?_
        refine r_iret S hr hlk (F := (mE Z B)) (u := (up1 (up1 (up1 (up1 ν 1 (shV (ν 1) i nf)) 1 (upd ((up1 ν 1 (shV (ν 1) i nf)) 1) (5 + q) k)) 1 (upd ((up1 (up1 ν 1 (shV (ν 1) i nf)) 1 (upd ((up1 ν 1 (shV (ν 1) i nf)) 1) (5 + q) k)) 1) (13 + q) x)) 1 (upd ((up1 (up1 (up1 ν 1 (shV (ν 1) i nf)) 1 (upd ((up1 ν 1 (shV (ν 1) i nf)) 1) (5 + q) k)) 1 (upd ((up1 (up1 ν 1 (shV (ν 1) i nf)) 1 (upd ((up1 ν 1 (shV (ν 1) i nf)) 1) (5 + q) k)) 1) (13 + q) x)) 1) 0 (nI (nf + 1))))) hW ?_ dX10_inserts_97
        refine ⟨rfl, ?_⟩
        have e : i = q := by omega
        simp only [up1_s, up1_2, insV]
        rw [e]
      · refine lv_aload_n hxe hcd dX10_inserts_14 rfl (lv_at hl 0 rfl) ?_
        refine gf_X10_16 S hW dX10_inserts_15 ?_
        refine lv_iconst (v := (nI 5)) hxe hcd dX10_inserts_18 (by decide) ?_
        refine lv_iload hxe hcd dX10_inserts_19 (lv_at hl 4 rfl) ?_
        refine n_iadd S (a := 5) (b := i) dX10_inserts_21 ?_
        refine lv_aload_n hxe hcd dX10_inserts_22 rfl (lv_at hl 0 rfl) ?_
        refine gf_X10_16 S hW dX10_inserts_23 ?_
        refine lv_iconst (v := (nI 5)) hxe hcd dX10_inserts_26 (by decide) ?_
        refine lv_iload hxe hcd dX10_inserts_27 (lv_at hl 4 rfl) ?_
        refine n_iadd S (a := 5) (b := i) dX10_inserts_29 ?_
        refine lv_iconst (v := (nI 1)) hxe hcd dX10_inserts_30 (by decide) ?_
        refine n_isub S (a := (5 + i)) (b := 1) (by omega) dX10_inserts_31 ?_
        refine gm_ald S hW (i := 1) (k := ((5 + i) - 1)) (n := 1357) (by decide) (by decide) rfl (by omega) dX10_inserts_32 ?_
        refine gm_ast S hW (i := 1) (k := (5 + i)) (n := 1357) (by decide) (by decide) rfl (by omega) dX10_inserts_33 (fun H locs hW => ?_)
        refine lv_aload_n hxe hcd dX10_inserts_34 rfl (lv_at hl 0 rfl) ?_
        refine gf_X10_16 S hW dX10_inserts_35 ?_
        refine lv_bipush (v := (nI 13)) hxe hcd dX10_inserts_38 (by decide) ?_
        refine lv_iload hxe hcd dX10_inserts_40 (lv_at hl 4 rfl) ?_
        refine n_iadd S (a := 13) (b := i) dX10_inserts_42 ?_
        refine lv_aload_n hxe hcd dX10_inserts_43 rfl (lv_at hl 0 rfl) ?_
        refine gf_X10_16 S hW dX10_inserts_44 ?_
        refine lv_bipush (v := (nI 13)) hxe hcd dX10_inserts_47 (by decide) ?_
        refine lv_iload hxe hcd dX10_inserts_49 (lv_at hl 4 rfl) ?_
        refine n_iadd S (a := 13) (b := i) dX10_inserts_51 ?_
        refine lv_iconst (v := (nI 1)) hxe hcd dX10_inserts_52 (by decide) ?_
        refine n_isub S (a := (13 + i)) (b := 1) (by omega) dX10_inserts_53 ?_
        refine gm_ald S hW (i := 1) (k := ((13 + i) - 1)) (n := 1357) (by decide) (by decide) rfl (by omega) dX10_inserts_54 ?_
        refine gm_ast S hW (i := 1) (k := (13 + i)) (n := 1357) (by decide) (by decide) rfl (by omega) dX10_inserts_55 (fun H locs hW => ?_)
        refine lv_iinc (v := (nI (i - 1))) (lv' := [(4, .int (nI (i - 1))), (0, .ref (B 0)), (1, .int (nI q)), (2, .int k), (3, .int x)]) hxe hcd dX10_inserts_56 hl (k := 4) rfl (n_dec (by omega)) (by decide) rfl (fun ls hl => ?_)
        refine lv_goto (tgt := 8) hxe hcd dX10_inserts_59 (by decide) ?_
        exact ih8 (i - 1) (by omega) (by omega) (by omega) _ _ _ (by simp only [up1_s, up1_2] at hW; rw [shV_step _ (by omega) hn h8] at hW; exact hW) (lv_sub hl [1, 2, 3, 4, 0] rfl)
  exact loop8 (nf + 1) nf (Nat.lt_succ_self _) hq (Nat.le_refl _) _ _ _ (by rw [shV_n, up1_id]; exact hW) (lv_sub hl [1, 2, 3, 4, 0] rfl)
set_option maxHeartbeats 4000000 in
set_option maxRecDepth 100000 in
theorem t_X10_adds (l : Launch) {Z : ZT} (hZ : zOK Z) (B : Nat → Nat) (ν : MM) (sz : Nat) {nf : Nat} (hnf : ν 1 0 = nI nf) (hnf8 : nf ≤ 8) (k x : Int32) : XMi l yX10_adds cX10_adds 3 (some .int) 2 [.ref (B 0), .int k, .int x] Z mds B (mE Z B) ν sz (fun r u => (¬ KP k x ∧ r = nI 0 ∧ u = up1 ν 0 (upd (ν 0) 0 (nI 1))) ∨ (KP k x ∧ nf = 8 ∧ r = nI 0 ∧ u = up1 ν 0 (upd (ν 0) 0 (nI 2))) ∨ (KP k x ∧ nf < 8 ∧ r = nI (nf + 1) ∧ u = up1 ν 1 (insV (ν 1) nf nf k x))) := by
  refine r_met (E := (mE Z B ν)) (by decide +kernel) (Nat.le_of_ble_eq_true rfl) ?_
  intro p e s m below meth c ls S hr hlk hnm hsz hW hl
  have hxe := S.1
  have hcd := S.2.1
  subst hsz
  have hl : lv_has ls 3 [(0, .ref (B 0)), (1, .int k), (2, .int x)] := hl
  refine lv_iload_n hxe hcd dX10_adds_0 rfl (lv_at hl 1 rfl) ?_
  refine lv_iload_n hxe hcd dX10_adds_1 rfl (lv_at hl 2 rfl) ?_
  refine r_calli0 (r_runS hZ S hW (As := [.int k, .int x]) (rest := []) (t_X10_isAllowed l hZ mds B (mE Z B ν) s.heap.size k x) k_X10_67 (hl.1) rfl rfl (Nat.le_of_ble_eq_true rfl) ⟨Nat.le_of_ble_eq_true rfl, Nat.le_of_ble_eq_true rfl⟩ ⟨Nat.le_of_ble_eq_true rfl, Nat.le_of_ble_eq_true rfl⟩ dX10_adds_2) hW (fun r2 H locs hp2 hW => ?_)
  rcases hp2 with ⟨hp20, hp2⟩ | ⟨hp20, hp2⟩
  · subst hp20
    refine lv_if_ne (tgt := 14) hxe hcd dX10_adds_5 (by decide) (fun _ => ?_) (fun h => absurd h (by decide))
    refine lv_aload_n hxe hcd dX10_adds_14 rfl (lv_at hl 0 rfl) ?_
    refine gf_X10_16 S hW dX10_adds_15 ?_
    refine lv_iconst (v := (nI 0)) hxe hcd dX10_adds_18 (by decide) ?_
    refine gm_ald S hW (i := 1) (k := 0) (n := 1357) (by decide) (by decide) rfl (by omega) dX10_adds_19 ?_
    refine r_as (y := (nI nf)) (hnf) ?_
    refine lv_bipush (v := (nI 8)) hxe hcd dX10_adds_20 (by decide) ?_
    refine n_ne S (a := nf) (b := 8) (by omega) (by omega) dX10_adds_22 (tgt := 31) (by decide) (fun c22 => ?_) (fun c22 => ?_)
    · refine lv_aload_n hxe hcd dX10_adds_31 rfl (lv_at hl 0 rfl) ?_
      refine lv_aload_n hxe hcd dX10_adds_32 rfl (lv_at hl 0 rfl) ?_
      refine gf_X10_16 S hW dX10_adds_33 ?_
      refine lv_iconst (v := (nI 0)) hxe hcd dX10_adds_36 (by decide) ?_
      refine gm_ald S hW (i := 1) (k := 0) (n := 1357) (by decide) (by decide) rfl (by omega) dX10_adds_37 ?_
      refine r_as (y := (nI nf)) (hnf) ?_
      refine lv_iload_n hxe hcd dX10_adds_38 rfl (lv_at hl 1 rfl) ?_
      refine lv_iload_n hxe hcd dX10_adds_39 rfl (lv_at hl 2 rfl) ?_
      refine r_calli (F := (mE Z B)) (r_runV hZ S hW (As := [.int (nI nf), .int k, .int x]) (rest := []) (t_X10_inserts l hZ B ν H.size (nf := nf) (q := nf) hnf (by omega) (by omega) k x) k_X10_75 (r_recv hW (x := 0) (List.mem_range.mpr (by decide)) rfl rfl) (hl.1) rfl rfl (Nat.le_of_ble_eq_true rfl) ⟨Nat.le_of_ble_eq_true rfl, Nat.le_of_ble_eq_true rfl⟩ ⟨Nat.le_of_ble_eq_true rfl, Nat.le_of_ble_eq_true rfl⟩ dX10_adds_40) hW (fun r40 u40 H locs hp40 hW => ?_)
      obtain ⟨hp40, hp40m⟩ := hp40
      have hp40 := hp40.symm
      subst hp40
      have hp40m := hp40m.symm
      subst hp40m
      refine r_iret S hr hlk (F := (mE Z B)) (u := (up1 ν 1 (insV (ν 1) nf nf k x))) hW ?_ dX10_adds_43
      first | exact Or.inl ⟨hp2, rfl, rfl⟩ | exact Or.inr (Or.inl ⟨hp2, by omega, rfl, rfl⟩) | exact Or.inr (Or.inr ⟨hp2, by omega, rfl, rfl⟩)
    · refine lv_aload_n hxe hcd dX10_adds_25 rfl (lv_at hl 0 rfl) ?_
      refine lv_iconst (v := (nI 2)) hxe hcd dX10_adds_26 (by decide) ?_
      refine r_calli (F := (mE Z B)) (r_runV hZ S hW (As := [.int (nI 2)]) (rest := []) (t_X10_fail l hZ B ν H.size (nI 2)) k_X10_71 (r_recv hW (x := 0) (List.mem_range.mpr (by decide)) rfl rfl) (hl.1) rfl rfl (Nat.le_of_ble_eq_true rfl) ⟨Nat.le_of_ble_eq_true rfl, Nat.le_of_ble_eq_true rfl⟩ ⟨Nat.le_of_ble_eq_true rfl, Nat.le_of_ble_eq_true rfl⟩ dX10_adds_27) hW (fun r27 u27 H locs hp27 hW => ?_)
      obtain ⟨hp27, hp27m⟩ := hp27
      have hp27 := hp27.symm
      subst hp27
      have hp27m := hp27m.symm
      subst hp27m
      refine r_iret S hr hlk (F := (mE Z B)) (u := (up1 ν 0 (upd (ν 0) 0 (nI 2)))) hW ?_ dX10_adds_30
      first | exact Or.inl ⟨hp2, rfl, rfl⟩ | exact Or.inr (Or.inl ⟨hp2, by omega, rfl, rfl⟩) | exact Or.inr (Or.inr ⟨hp2, by omega, rfl, rfl⟩)
  · subst hp20
    refine lv_if_ne (tgt := 14) hxe hcd dX10_adds_5 (by decide) (fun h => absurd h (by decide)) (fun _ => ?_)
    refine lv_aload_n hxe hcd dX10_adds_8 rfl (lv_at hl 0 rfl) ?_
    refine lv_iconst (v := (nI 1)) hxe hcd dX10_adds_9 (by decide) ?_
    refine r_calli (F := (mE Z B)) (r_runV hZ S hW (As := [.int (nI 1)]) (rest := []) (t_X10_fail l hZ B ν H.size (nI 1)) k_X10_71 (r_recv hW (x := 0) (List.mem_range.mpr (by decide)) rfl rfl) (hl.1) rfl rfl (Nat.le_of_ble_eq_true rfl) ⟨Nat.le_of_ble_eq_true rfl, Nat.le_of_ble_eq_true rfl⟩ ⟨Nat.le_of_ble_eq_true rfl, Nat.le_of_ble_eq_true rfl⟩ dX10_adds_10) hW (fun r10 u10 H locs hp10 hW => ?_)
    obtain ⟨hp10, hp10m⟩ := hp10
    have hp10 := hp10.symm
    subst hp10
    have hp10m := hp10m.symm
    subst hp10m
    refine r_iret S hr hlk (F := (mE Z B)) (u := (up1 ν 0 (upd (ν 0) 0 (nI 1)))) hW ?_ dX10_adds_13
    first | exact Or.inl ⟨hp2, rfl, rfl⟩ | exact Or.inr (Or.inl ⟨hp2, by omega, rfl, rfl⟩) | exact Or.inr (Or.inr ⟨hp2, by omega, rfl, rfl⟩)
set_option maxHeartbeats 4000000 in
set_option maxRecDepth 100000 in
theorem t_X10_puts (l : Launch) {Z : ZT} (hZ : zOK Z) (B : Nat → Nat) (ν : MM) (sz : Nat) {nf : Nat} (hnf : ν 1 0 = nI nf) (hnf8 : nf ≤ 8) (at_ k x : Int32) : XMi l yX10_puts cX10_puts 4 (some .int) 2 [.ref (B 0), .int at_, .int k, .int x] Z mds B (mE Z B) ν sz (fun r u => (¬ IX at_ (nf + 1) ∧ r = nI 0 ∧ u = up1 ν 0 (upd (ν 0) 0 (nI 1))) ∨ (IX at_ (nf + 1) ∧ ¬ KP k x ∧ r = nI 0 ∧ u = up1 ν 0 (upd (ν 0) 0 (nI 2))) ∨ (IX at_ (nf + 1) ∧ KP k x ∧ nf = 8 ∧ r = nI 0 ∧ u = up1 ν 0 (upd (ν 0) 0 (nI 3))) ∨ (∃ q, q < nf + 1 ∧ at_ = nI q ∧ KP k x ∧ nf < 8 ∧ r = nI (nf + 1) ∧ u = up1 ν 1 (insV (ν 1) q nf k x))) := by
  refine r_met (E := (mE Z B ν)) (by decide +kernel) (Nat.le_of_ble_eq_true rfl) ?_
  intro p e s m below meth c ls S hr hlk hnm hsz hW hl
  have hxe := S.1
  have hcd := S.2.1
  subst hsz
  have hl : lv_has ls 4 [(0, .ref (B 0)), (1, .int at_), (2, .int k), (3, .int x)] := hl
  refine lv_iload_n hxe hcd dX10_puts_0 rfl (lv_at hl 1 rfl) ?_
  refine lv_iconst (v := (nI 0)) hxe hcd dX10_puts_1 (by decide) ?_
  refine lv_aload_n hxe hcd dX10_puts_2 rfl (lv_at hl 0 rfl) ?_
  refine gf_X10_16 S hW dX10_puts_3 ?_
  refine lv_iconst (v := (nI 0)) hxe hcd dX10_puts_6 (by decide) ?_
  refine gm_ald S hW (i := 1) (k := 0) (n := 1357) (by decide) (by decide) rfl (by omega) dX10_puts_7 ?_
  refine r_as (y := (nI nf)) (hnf) ?_
  refine r_calli0 (r_runS hZ S hW (As := [.int at_, .int (nI 0), .int (nI nf)]) (rest := []) (t_X10_isIn l hZ mds B (mE Z B ν) s.heap.size at_ (nI 0) (nI nf)) k_X10_63 (hl.1) rfl rfl (Nat.le_of_ble_eq_true rfl) ⟨Nat.le_of_ble_eq_true rfl, Nat.le_of_ble_eq_true rfl⟩ ⟨Nat.le_of_ble_eq_true rfl, Nat.le_of_ble_eq_true rfl⟩ dX10_puts_8) hW (fun r8 H locs hp8 hW => ?_)
  rcases hp8 with ⟨hp80, hp8⟩ | ⟨hp80, hp8⟩
  · subst hp80
    rw [IX_le (by omega)] at hp8
    refine lv_if_ne (tgt := 20) hxe hcd dX10_puts_11 (by decide) (fun _ => ?_) (fun h => absurd h (by decide))
    refine lv_iload_n hxe hcd dX10_puts_20 rfl (lv_at hl 2 rfl) ?_
    refine lv_iload_n hxe hcd dX10_puts_21 rfl (lv_at hl 3 rfl) ?_
    refine r_calli0 (r_runS hZ S hW (As := [.int k, .int x]) (rest := []) (t_X10_isAllowed l hZ mds B (mE Z B ν) H.size k x) k_X10_67 (hl.1) rfl rfl (Nat.le_of_ble_eq_true rfl) ⟨Nat.le_of_ble_eq_true rfl, Nat.le_of_ble_eq_true rfl⟩ ⟨Nat.le_of_ble_eq_true rfl, Nat.le_of_ble_eq_true rfl⟩ dX10_puts_22) hW (fun r22 H locs hp22 hW => ?_)
    rcases hp22 with ⟨hp220, hp22⟩ | ⟨hp220, hp22⟩
    · subst hp220
      refine lv_if_ne (tgt := 34) hxe hcd dX10_puts_25 (by decide) (fun _ => ?_) (fun h => absurd h (by decide))
      refine lv_aload_n hxe hcd dX10_puts_34 rfl (lv_at hl 0 rfl) ?_
      refine gf_X10_16 S hW dX10_puts_35 ?_
      refine lv_iconst (v := (nI 0)) hxe hcd dX10_puts_38 (by decide) ?_
      refine gm_ald S hW (i := 1) (k := 0) (n := 1357) (by decide) (by decide) rfl (by omega) dX10_puts_39 ?_
      refine r_as (y := (nI nf)) (hnf) ?_
      refine lv_bipush (v := (nI 8)) hxe hcd dX10_puts_40 (by decide) ?_
      refine n_ne S (a := nf) (b := 8) (by omega) (by omega) dX10_puts_42 (tgt := 51) (by decide) (fun c42 => ?_) (fun c42 => ?_)
      · obtain ⟨q, hq, rfl⟩ := hp8
        refine lv_aload_n hxe hcd dX10_puts_51 rfl (lv_at hl 0 rfl) ?_
        refine lv_iload_n hxe hcd dX10_puts_52 rfl (lv_at hl 1 rfl) ?_
        refine lv_iload_n hxe hcd dX10_puts_53 rfl (lv_at hl 2 rfl) ?_
        refine lv_iload_n hxe hcd dX10_puts_54 rfl (lv_at hl 3 rfl) ?_
        refine r_calli (F := (mE Z B)) (r_runV hZ S hW (As := [.int (nI q), .int k, .int x]) (rest := []) (t_X10_inserts l hZ B ν H.size (nf := nf) (q := q) hnf (by omega) (by omega) k x) k_X10_75 (r_recv hW (x := 0) (List.mem_range.mpr (by decide)) rfl rfl) (hl.1) rfl rfl (Nat.le_of_ble_eq_true rfl) ⟨Nat.le_of_ble_eq_true rfl, Nat.le_of_ble_eq_true rfl⟩ ⟨Nat.le_of_ble_eq_true rfl, Nat.le_of_ble_eq_true rfl⟩ dX10_puts_55) hW (fun r55 u55 H locs hp55 hW => ?_)
        obtain ⟨hp55, hp55m⟩ := hp55
        have hp55 := hp55.symm
        subst hp55
        have hp55m := hp55m.symm
        subst hp55m
        refine r_iret S hr hlk (F := (mE Z B)) (u := (up1 ν 1 (insV (ν 1) q nf k x))) hW ?_ dX10_puts_58
        first | exact Or.inl ⟨hp8, rfl, rfl⟩ | exact Or.inr (Or.inl ⟨hp8, hp22, rfl, rfl⟩) | exact Or.inr (Or.inr (Or.inl ⟨hp8, hp22, by omega, rfl, rfl⟩)) | exact Or.inr (Or.inr (Or.inr ⟨q, hq, rfl, hp22, by omega, rfl, rfl⟩))
      · refine lv_aload_n hxe hcd dX10_puts_45 rfl (lv_at hl 0 rfl) ?_
        refine lv_iconst (v := (nI 3)) hxe hcd dX10_puts_46 (by decide) ?_
        refine r_calli (F := (mE Z B)) (r_runV hZ S hW (As := [.int (nI 3)]) (rest := []) (t_X10_fail l hZ B ν H.size (nI 3)) k_X10_71 (r_recv hW (x := 0) (List.mem_range.mpr (by decide)) rfl rfl) (hl.1) rfl rfl (Nat.le_of_ble_eq_true rfl) ⟨Nat.le_of_ble_eq_true rfl, Nat.le_of_ble_eq_true rfl⟩ ⟨Nat.le_of_ble_eq_true rfl, Nat.le_of_ble_eq_true rfl⟩ dX10_puts_47) hW (fun r47 u47 H locs hp47 hW => ?_)
        obtain ⟨hp47, hp47m⟩ := hp47
        have hp47 := hp47.symm
        subst hp47
        have hp47m := hp47m.symm
        subst hp47m
        refine r_iret S hr hlk (F := (mE Z B)) (u := (up1 ν 0 (upd (ν 0) 0 (nI 3)))) hW ?_ dX10_puts_50
        first | exact Or.inl ⟨hp8, rfl, rfl⟩ | exact Or.inr (Or.inl ⟨hp8, hp22, rfl, rfl⟩) | exact Or.inr (Or.inr (Or.inl ⟨hp8, hp22, by omega, rfl, rfl⟩)) | exact Or.inr (Or.inr (Or.inr ⟨q, hq, rfl, hp22, by omega, rfl, rfl⟩))
    · subst hp220
      refine lv_if_ne (tgt := 34) hxe hcd dX10_puts_25 (by decide) (fun h => absurd h (by decide)) (fun _ => ?_)
      refine lv_aload_n hxe hcd dX10_puts_28 rfl (lv_at hl 0 rfl) ?_
      refine lv_iconst (v := (nI 2)) hxe hcd dX10_puts_29 (by decide) ?_
      refine r_calli (F := (mE Z B)) (r_runV hZ S hW (As := [.int (nI 2)]) (rest := []) (t_X10_fail l hZ B ν H.size (nI 2)) k_X10_71 (r_recv hW (x := 0) (List.mem_range.mpr (by decide)) rfl rfl) (hl.1) rfl rfl (Nat.le_of_ble_eq_true rfl) ⟨Nat.le_of_ble_eq_true rfl, Nat.le_of_ble_eq_true rfl⟩ ⟨Nat.le_of_ble_eq_true rfl, Nat.le_of_ble_eq_true rfl⟩ dX10_puts_30) hW (fun r30 u30 H locs hp30 hW => ?_)
      obtain ⟨hp30, hp30m⟩ := hp30
      have hp30 := hp30.symm
      subst hp30
      have hp30m := hp30m.symm
      subst hp30m
      refine r_iret S hr hlk (F := (mE Z B)) (u := (up1 ν 0 (upd (ν 0) 0 (nI 2)))) hW ?_ dX10_puts_33
      first | exact Or.inl ⟨hp8, rfl, rfl⟩ | exact Or.inr (Or.inl ⟨hp8, hp22, rfl, rfl⟩) | exact Or.inr (Or.inr (Or.inl ⟨hp8, hp22, by omega, rfl, rfl⟩)) | exact Or.inr (Or.inr (Or.inr ⟨q, hq, rfl, hp22, by omega, rfl, rfl⟩))
  · subst hp80
    rw [IX_le (by omega)] at hp8
    refine lv_if_ne (tgt := 20) hxe hcd dX10_puts_11 (by decide) (fun h => absurd h (by decide)) (fun _ => ?_)
    refine lv_aload_n hxe hcd dX10_puts_14 rfl (lv_at hl 0 rfl) ?_
    refine lv_iconst (v := (nI 1)) hxe hcd dX10_puts_15 (by decide) ?_
    refine r_calli (F := (mE Z B)) (r_runV hZ S hW (As := [.int (nI 1)]) (rest := []) (t_X10_fail l hZ B ν H.size (nI 1)) k_X10_71 (r_recv hW (x := 0) (List.mem_range.mpr (by decide)) rfl rfl) (hl.1) rfl rfl (Nat.le_of_ble_eq_true rfl) ⟨Nat.le_of_ble_eq_true rfl, Nat.le_of_ble_eq_true rfl⟩ ⟨Nat.le_of_ble_eq_true rfl, Nat.le_of_ble_eq_true rfl⟩ dX10_puts_16) hW (fun r16 u16 H locs hp16 hW => ?_)
    obtain ⟨hp16, hp16m⟩ := hp16
    have hp16 := hp16.symm
    subst hp16
    have hp16m := hp16m.symm
    subst hp16m
    refine r_iret S hr hlk (F := (mE Z B)) (u := (up1 ν 0 (upd (ν 0) 0 (nI 1)))) hW ?_ dX10_puts_19
    first | exact Or.inl ⟨hp8, rfl, rfl⟩ | exact Or.inr (Or.inl ⟨hp8, hp22, rfl, rfl⟩) | exact Or.inr (Or.inr (Or.inl ⟨hp8, hp22, by omega, rfl, rfl⟩)) | exact Or.inr (Or.inr (Or.inr ⟨q, hq, rfl, hp22, by omega, rfl, rfl⟩))
set_option maxHeartbeats 4000000 in
set_option maxRecDepth 100000 in
theorem t_X10_takes (l : Launch) {Z : ZT} (hZ : zOK Z) (B : Nat → Nat) (ν : MM) (sz : Nat) {nf : Nat} (hnf : ν 1 0 = nI nf) (hnf8 : nf ≤ 8) (x : Int32) : XMi l yX10_takes cX10_takes 4 (some .int) 2 [.ref (B 0), .int x] Z mds B (mE Z B) ν sz (fun r u => (¬ IX x nf ∧ r = nI 0 ∧ u = up1 ν 0 (upd (ν 0) 0 (nI 1))) ∨ (∃ q, q < nf ∧ x = nI q ∧ r = ν 1 (13 + q) ∧ u = up1 ν 1 (delV (ν 1) q nf))) := by
  refine r_met (E := (mE Z B ν)) (by decide +kernel) (Nat.le_of_ble_eq_true rfl) ?_
  intro p e s m below meth c ls S hr hlk hnm hsz hW hl
  have hxe := S.1
  have hcd := S.2.1
  subst hsz
  have hl : lv_has ls 4 [(0, .ref (B 0)), (1, .int x)] := hl
  refine lv_aload_n hxe hcd dX10_takes_0 rfl (lv_at hl 0 rfl) ?_
  refine lv_iload_n hxe hcd dX10_takes_1 rfl (lv_at hl 1 rfl) ?_
  refine r_calli0 (r_runV hZ S hW (As := [.int x]) (rest := []) (t_X10_isFilter l hZ B ν s.heap.size hnf hnf8 x) k_X10_92 (r_recv hW (x := 0) (List.mem_range.mpr (by decide)) rfl rfl) (hl.1) rfl rfl (Nat.le_of_ble_eq_true rfl) ⟨Nat.le_of_ble_eq_true rfl, Nat.le_of_ble_eq_true rfl⟩ ⟨Nat.le_of_ble_eq_true rfl, Nat.le_of_ble_eq_true rfl⟩ dX10_takes_2) hW (fun r2 H locs hp2 hW => ?_)
  rcases hp2 with ⟨hp20, hp2⟩ | ⟨hp20, hp2⟩
  · subst hp20
    refine lv_if_ne (tgt := 14) hxe hcd dX10_takes_5 (by decide) (fun _ => ?_) (fun h => absurd h (by decide))
    obtain ⟨q, hq, rfl⟩ := hp2
    refine lv_aload_n hxe hcd dX10_takes_14 rfl (lv_at hl 0 rfl) ?_
    refine gf_X10_16 S hW dX10_takes_15 ?_
    refine lv_bipush (v := (nI 13)) hxe hcd dX10_takes_18 (by decide) ?_
    refine lv_iload_n hxe hcd dX10_takes_20 rfl (lv_at hl 1 rfl) ?_
    refine n_iadd S (a := 13) (b := q) dX10_takes_21 ?_
    refine gm_ald S hW (i := 1) (k := (13 + q)) (n := 1357) (by decide) (by decide) rfl (by omega) dX10_takes_22 ?_
    refine lv_istore_n (lv' := [(2, .int (ν 1 (13 + q))), (0, .ref (B 0)), (1, .int (nI q))]) hxe hcd dX10_takes_23 rfl hl (by decide) rfl (fun ls hl => ?_)
    refine lv_aload_n hxe hcd dX10_takes_24 rfl (lv_at hl 1 rfl) ?_
    refine gf_X10_16 S hW dX10_takes_25 ?_
    refine lv_iconst (v := (nI 0)) hxe hcd dX10_takes_28 (by decide) ?_
    refine lv_dup2_11 hxe hcd dX10_takes_29 rfl rfl ?_
    refine gm_ald S hW (i := 1) (k := 0) (n := 1357) (by decide) (by decide) rfl (by omega) dX10_takes_30 ?_
    refine r_as (y := (nI nf)) (hnf) ?_
    refine lv_iconst (v := (nI 1)) hxe hcd dX10_takes_31 (by decide) ?_
    refine n_isub S (a := nf) (b := 1) (by omega) dX10_takes_32 ?_
    refine gm_ast S hW (i := 1) (k := 0) (n := 1357) (by decide) (by decide) rfl (by omega) dX10_takes_33 (fun H locs hW => ?_)
    refine lv_iload_n hxe hcd dX10_takes_34 rfl (lv_at hl 2 rfl) ?_
    refine lv_istore_n (lv' := [(3, .int (nI q)), (2, .int (ν 1 (13 + q))), (0, .ref (B 0)), (1, .int (nI q))]) hxe hcd dX10_takes_35 rfl hl (by decide) rfl (fun ls hl => ?_)
    have loop36 : ∀ (n_ : Nat) (i : Nat), nf - 1 - i < n_ → (q ≤ i) → (i ≤ nf - 1) → ∀ (H : Heap) (locs : List Loc) (ls : Array Slot), wX Z mds B (mE Z B (up1 ν 1 (slV (upd (ν 1) 0 (nI (nf - 1))) q i))) (fA mds B (mE Z B ν) s.heap.size) s H locs → lv_has ls 4 [(0, .ref (B 0)), (1, .int (nI q)), (2, .int (ν 1 (13 + q))), (3, .int (nI i))] → W p l e (rmD 2 0 0) s m ([.ref (B 0), .int (nI q)] : List Value).toArray below meth c H locs 0 0 (MQ below (va_Qi (fun r u => (¬ IX (nI q) nf ∧ r = nI 0 ∧ u = up1 ν 0 (upd (ν 0) 0 (nI 1))) ∨ (∃ q_z, q_z < nf ∧ (nI q) = nI q_z ∧ r = ν 1 (13 + q_z) ∧ u = up1 ν 1 (delV (ν 1) q_z nf))) (fun u t => qB Z mds B ((mE Z B) u) (fA mds B (mE Z B ν) s.heap.size) t) (fA mds B (mE Z B ν) s.heap.size)) ([.ref (B 0), .int (nI q)] : List Value).toArray s 0 0 (fA mds B (mE Z B ν) s.heap.size)) (F0 m 36 ls []) := by
      intro n_
      induction n_ with
      | zero => intro i hm; exact absurd hm (Nat.not_lt_zero _)
      | succ n_ ih36 =>
        intro i hm hi hn H locs ls hW hl
        refine lv_iload_n hxe hcd dX10_takes_36 rfl (lv_at hl 3 rfl) ?_
        refine lv_aload_n hxe hcd dX10_takes_37 rfl (lv_at hl 0 rfl) ?_
        refine gf_X10_16 S hW dX10_takes_38 ?_
        refine lv_iconst (v := (nI 0)) hxe hcd dX10_takes_41 (by decide) ?_
        refine gm_ald S hW (i := 1) (k := 0) (n := 1357) (by decide) (by decide) rfl (by omega) dX10_takes_42 ?_
        refine r_as (y := (nI (nf - 1))) (by rw [up1_s, slV, if_neg (by omega), upd_s]) ?_
        refine n_ge S (a := i) (b := (nf - 1)) (by omega) (by omega) dX10_takes_43 (tgt := 90) (by decide) (fun c43 => ?_) (fun c43 => ?_)
        · refine lv_aload_n hxe hcd dX10_takes_90 rfl (lv_at hl 0 rfl) ?_
          refine gf_X10_16 S hW dX10_takes_91 ?_
          refine lv_iconst (v := (nI 5)) hxe hcd dX10_takes_94 (by decide) ?_
          refine lv_aload_n hxe hcd dX10_takes_95 rfl (lv_at hl 0 rfl) ?_
          refine gf_X10_16 S hW dX10_takes_96 ?_
          refine lv_iconst (v := (nI 0)) hxe hcd dX10_takes_99 (by decide) ?_
          refine gm_ald S hW (i := 1) (k := 0) (n := 1357) (by decide) (by decide) rfl (by omega) dX10_takes_100 ?_
          refine r_as (y := (nI (nf - 1))) (by rw [up1_s, slV, if_neg (by omega), upd_s]) ?_
          refine n_iadd S (a := 5) (b := (nf - 1)) dX10_takes_101 ?_
          refine lv_iconst (v := (nI 0)) hxe hcd dX10_takes_102 (by decide) ?_
          refine gm_ast S hW (i := 1) (k := (5 + (nf - 1))) (n := 1357) (by decide) (by decide) rfl (by omega) dX10_takes_103 (fun H locs hW => ?_)
          refine lv_aload_n hxe hcd dX10_takes_104 rfl (lv_at hl 0 rfl) ?_
          refine gf_X10_16 S hW dX10_takes_105 ?_
          refine lv_bipush (v := (nI 13)) hxe hcd dX10_takes_108 (by decide) ?_
          refine lv_aload_n hxe hcd dX10_takes_110 rfl (lv_at hl 0 rfl) ?_
          refine gf_X10_16 S hW dX10_takes_111 ?_
          refine lv_iconst (v := (nI 0)) hxe hcd dX10_takes_114 (by decide) ?_
          refine gm_ald S hW (i := 1) (k := 0) (n := 1357) (by decide) (by decide) rfl (by omega) dX10_takes_115 ?_
          refine r_as (y := (nI (nf - 1))) (by simp only [up1_s]; rw [upd_o (by omega), slV, if_neg (by omega), upd_s]) ?_
          refine n_iadd S (a := 13) (b := (nf - 1)) dX10_takes_116 ?_
          refine lv_iconst (v := (nI 0)) hxe hcd dX10_takes_117 (by decide) ?_
          refine gm_ast S hW (i := 1) (k := (13 + (nf - 1))) (n := 1357) (by decide) (by decide) rfl (by omega) dX10_takes_118 (fun H locs hW => ?_)
          refine lv_iload_n hxe hcd dX10_takes_119 rfl (lv_at hl 2 rfl) ?_
          refine r_iret S hr hlk (F := (mE Z B)) (u := (up1 (up1 (up1 ν 1 (slV (upd (ν 1) 0 (nI (nf - 1))) q i)) 1 (upd ((up1 ν 1 (slV (upd (ν 1) 0 (nI (nf - 1))) q i)) 1) (5 + (nf - 1)) (nI 0))) 1 (upd ((up1 (up1 ν 1 (slV (upd (ν 1) 0 (nI (nf - 1))) q i)) 1 (upd ((up1 ν 1 (slV (upd (ν 1) 0 (nI (nf - 1))) q i)) 1) (5 + (nf - 1)) (nI 0))) 1) (13 + (nf - 1)) (nI 0)))) hW ?_ dX10_takes_120
          have e : i = nf - 1 := by omega
          refine Or.inr ⟨q, hq, rfl, rfl, ?_⟩
          simp only [up1_s, up1_2, delV]
          rw [e]
        · refine lv_aload_n hxe hcd dX10_takes_46 rfl (lv_at hl 0 rfl) ?_
          refine gf_X10_16 S hW dX10_takes_47 ?_
          refine lv_iconst (v := (nI 5)) hxe hcd dX10_takes_50 (by decide) ?_
          refine lv_iload_n hxe hcd dX10_takes_51 rfl (lv_at hl 3 rfl) ?_
          refine n_iadd S (a := 5) (b := i) dX10_takes_52 ?_
          refine lv_aload_n hxe hcd dX10_takes_53 rfl (lv_at hl 0 rfl) ?_
          refine gf_X10_16 S hW dX10_takes_54 ?_
          refine lv_iconst (v := (nI 5)) hxe hcd dX10_takes_57 (by decide) ?_
          refine lv_iload_n hxe hcd dX10_takes_58 rfl (lv_at hl 3 rfl) ?_
          refine n_iadd S (a := 5) (b := i) dX10_takes_59 ?_
          refine lv_iconst (v := (nI 1)) hxe hcd dX10_takes_60 (by decide) ?_
          refine n_iadd S (a := (5 + i)) (b := 1) dX10_takes_61 ?_
          refine gm_ald S hW (i := 1) (k := ((5 + i) + 1)) (n := 1357) (by decide) (by decide) rfl (by omega) dX10_takes_62 ?_
          refine gm_ast S hW (i := 1) (k := (5 + i)) (n := 1357) (by decide) (by decide) rfl (by omega) dX10_takes_63 (fun H locs hW => ?_)
          refine lv_aload_n hxe hcd dX10_takes_64 rfl (lv_at hl 0 rfl) ?_
          refine gf_X10_16 S hW dX10_takes_65 ?_
          refine lv_bipush (v := (nI 13)) hxe hcd dX10_takes_68 (by decide) ?_
          refine lv_iload_n hxe hcd dX10_takes_70 rfl (lv_at hl 3 rfl) ?_
          refine n_iadd S (a := 13) (b := i) dX10_takes_71 ?_
          refine lv_aload_n hxe hcd dX10_takes_72 rfl (lv_at hl 0 rfl) ?_
          refine gf_X10_16 S hW dX10_takes_73 ?_
          refine lv_bipush (v := (nI 13)) hxe hcd dX10_takes_76 (by decide) ?_
          refine lv_iload_n hxe hcd dX10_takes_78 rfl (lv_at hl 3 rfl) ?_
          refine n_iadd S (a := 13) (b := i) dX10_takes_79 ?_
          refine lv_iconst (v := (nI 1)) hxe hcd dX10_takes_80 (by decide) ?_
          refine n_iadd S (a := (13 + i)) (b := 1) dX10_takes_81 ?_
          refine gm_ald S hW (i := 1) (k := ((13 + i) + 1)) (n := 1357) (by decide) (by decide) rfl (by omega) dX10_takes_82 ?_
          refine gm_ast S hW (i := 1) (k := (13 + i)) (n := 1357) (by decide) (by decide) rfl (by omega) dX10_takes_83 (fun H locs hW => ?_)
          refine lv_iinc (v := (nI (i + 1))) (lv' := [(3, .int (nI (i + 1))), (0, .ref (B 0)), (1, .int (nI q)), (2, .int (ν 1 (13 + q)))]) hxe hcd dX10_takes_84 hl (k := 3) rfl (nI_add i 1) (by decide) rfl (fun ls hl => ?_)
          refine lv_goto (tgt := 36) hxe hcd dX10_takes_87 (by decide) ?_
          exact ih36 (i + 1) (by omega) (by omega) (by omega) _ _ _ (by simp only [up1_s, up1_2] at hW; rw [slV_step _ hi (by omega)] at hW; exact hW) (lv_sub hl [1, 2, 3, 0] rfl)
    exact loop36 ((nf - 1 - q) + 1) q (Nat.lt_succ_self _) (Nat.le_refl _) (by omega) _ _ _ (by rw [slV_0]; exact hW) (lv_sub hl [2, 3, 1, 0] rfl)
  · subst hp20
    refine lv_if_ne (tgt := 14) hxe hcd dX10_takes_5 (by decide) (fun h => absurd h (by decide)) (fun _ => ?_)
    refine lv_aload_n hxe hcd dX10_takes_8 rfl (lv_at hl 0 rfl) ?_
    refine lv_iconst (v := (nI 1)) hxe hcd dX10_takes_9 (by decide) ?_
    refine r_calli (F := (mE Z B)) (r_runV hZ S hW (As := [.int (nI 1)]) (rest := []) (t_X10_fail l hZ B ν H.size (nI 1)) k_X10_71 (r_recv hW (x := 0) (List.mem_range.mpr (by decide)) rfl rfl) (hl.1) rfl rfl (Nat.le_of_ble_eq_true rfl) ⟨Nat.le_of_ble_eq_true rfl, Nat.le_of_ble_eq_true rfl⟩ ⟨Nat.le_of_ble_eq_true rfl, Nat.le_of_ble_eq_true rfl⟩ dX10_takes_10) hW (fun r10 u10 H locs hp10 hW => ?_)
    obtain ⟨hp10, hp10m⟩ := hp10
    have hp10 := hp10.symm
    subst hp10
    have hp10m := hp10m.symm
    subst hp10m
    refine r_iret S hr hlk (F := (mE Z B)) (u := (up1 ν 0 (upd (ν 0) 0 (nI 1)))) hW ?_ dX10_takes_13
    exact Or.inl ⟨hp2, rfl, rfl⟩
set_option maxHeartbeats 4000000 in
set_option maxRecDepth 100000 in
theorem t_X10_swaps (l : Launch) {Z : ZT} (hZ : zOK Z) (B : Nat → Nat) (ν : MM) (sz : Nat) {nf : Nat} (hnf : ν 1 0 = nI nf) (hnf8 : nf ≤ 8) (x y : Int32) : XMi l yX10_swaps cX10_swaps 6 (some .int) 2 [.ref (B 0), .int x, .int y] Z mds B (mE Z B) ν sz (fun r u => (¬ (IX x nf ∧ IX y nf) ∧ r = nI 0 ∧ u = up1 ν 0 (upd (ν 0) 0 (nI 1))) ∨ (∃ a b, a < nf ∧ b < nf ∧ x = nI a ∧ y = nI b ∧ r = nI (dsN a b) ∧ u = up1 ν 1 (swV (ν 1) a b))) := by
  refine r_met (E := (mE Z B ν)) (by decide +kernel) (Nat.le_of_ble_eq_true rfl) ?_
  intro p e s m below meth c ls S hr hlk hnm hsz hW hl
  have hxe := S.1
  have hcd := S.2.1
  subst hsz
  have hl : lv_has ls 6 [(0, .ref (B 0)), (1, .int x), (2, .int y)] := hl
  refine lv_aload_n hxe hcd dX10_swaps_0 rfl (lv_at hl 0 rfl) ?_
  refine lv_iload_n hxe hcd dX10_swaps_1 rfl (lv_at hl 1 rfl) ?_
  refine r_calli0 (r_runV hZ S hW (As := [.int x]) (rest := []) (t_X10_isFilter l hZ B ν s.heap.size hnf hnf8 x) k_X10_92 (r_recv hW (x := 0) (List.mem_range.mpr (by decide)) rfl rfl) (hl.1) rfl rfl (Nat.le_of_ble_eq_true rfl) ⟨Nat.le_of_ble_eq_true rfl, Nat.le_of_ble_eq_true rfl⟩ ⟨Nat.le_of_ble_eq_true rfl, Nat.le_of_ble_eq_true rfl⟩ dX10_swaps_2) hW (fun r2 H locs hp2 hW => ?_)
  rcases hp2 with ⟨hp20, hp2⟩ | ⟨hp20, hp2⟩
  · subst hp20
    refine lv_if_eq (tgt := 16) hxe hcd dX10_swaps_5 (by decide) (fun h => absurd h (by decide)) (fun _ => ?_)
    refine lv_aload_n hxe hcd dX10_swaps_8 rfl (lv_at hl 0 rfl) ?_
    refine lv_iload_n hxe hcd dX10_swaps_9 rfl (lv_at hl 2 rfl) ?_
    refine r_calli0 (r_runV hZ S hW (As := [.int y]) (rest := []) (t_X10_isFilter l hZ B ν H.size hnf hnf8 y) k_X10_92 (r_recv hW (x := 0) (List.mem_range.mpr (by decide)) rfl rfl) (hl.1) rfl rfl (Nat.le_of_ble_eq_true rfl) ⟨Nat.le_of_ble_eq_true rfl, Nat.le_of_ble_eq_true rfl⟩ ⟨Nat.le_of_ble_eq_true rfl, Nat.le_of_ble_eq_true rfl⟩ dX10_swaps_10) hW (fun r10 H locs hp10 hW => ?_)
    rcases hp10 with ⟨hp100, hp10⟩ | ⟨hp100, hp10⟩
    · subst hp100
      refine lv_if_ne (tgt := 22) hxe hcd dX10_swaps_13 (by decide) (fun _ => ?_) (fun h => absurd h (by decide))
      obtain ⟨a, ha, rfl⟩ := hp2
      obtain ⟨b, hb, rfl⟩ := hp10
      refine lv_aload_n hxe hcd dX10_swaps_22 rfl (lv_at hl 0 rfl) ?_
      refine gf_X10_16 S hW dX10_swaps_23 ?_
      refine lv_iconst (v := (nI 5)) hxe hcd dX10_swaps_26 (by decide) ?_
      refine lv_iload_n hxe hcd dX10_swaps_27 rfl (lv_at hl 1 rfl) ?_
      refine n_iadd S (a := 5) (b := a) dX10_swaps_28 ?_
      refine gm_ald S hW (i := 1) (k := (5 + a)) (n := 1357) (by decide) (by decide) rfl (by omega) dX10_swaps_29 ?_
      refine lv_istore_n (lv' := [(3, .int (ν 1 (5 + a))), (0, .ref (B 0)), (1, .int (nI a)), (2, .int (nI b))]) hxe hcd dX10_swaps_30 rfl hl (by decide) rfl (fun ls hl => ?_)
      refine lv_aload_n hxe hcd dX10_swaps_31 rfl (lv_at hl 1 rfl) ?_
      refine gf_X10_16 S hW dX10_swaps_32 ?_
      refine lv_bipush (v := (nI 13)) hxe hcd dX10_swaps_35 (by decide) ?_
      refine lv_iload_n hxe hcd dX10_swaps_37 rfl (lv_at hl 2 rfl) ?_
      refine n_iadd S (a := 13) (b := a) dX10_swaps_38 ?_
      refine gm_ald S hW (i := 1) (k := (13 + a)) (n := 1357) (by decide) (by decide) rfl (by omega) dX10_swaps_39 ?_
      refine lv_istore (lv' := [(4, .int (ν 1 (13 + a))), (3, .int (ν 1 (5 + a))), (0, .ref (B 0)), (1, .int (nI a)), (2, .int (nI b))]) hxe hcd dX10_swaps_40 hl (by decide) rfl (fun ls hl => ?_)
      refine lv_iload_n hxe hcd dX10_swaps_42 rfl (lv_at hl 3 rfl) ?_
      refine lv_iload_n hxe hcd dX10_swaps_43 rfl (lv_at hl 4 rfl) ?_
      refine lv_isub hxe hcd dX10_swaps_44 ?_
      refine r_calli0 (r_runS hZ S hW (As := [.int ((nI a) - (nI b))]) (rest := []) (t_X10_size l hZ mds B (mE Z B ν) H.size ((nI a) - (nI b))) k_X10_99 (hl.1) rfl rfl (Nat.le_of_ble_eq_true rfl) ⟨Nat.le_of_ble_eq_true rfl, Nat.le_of_ble_eq_true rfl⟩ ⟨Nat.le_of_ble_eq_true rfl, Nat.le_of_ble_eq_true rfl⟩ dX10_swaps_45) hW (fun r45 H locs hp45 hW => ?_)
      have hp45 := hp45.symm
      subst hp45
      refine r_as (y := (nI (if a < b then b - a else a - b))) (iabs_sub (by omega) (by omega)) ?_
      refine lv_istore (lv' := [(5, .int (nI (if a < b then b - a else a - b))), (4, .int (ν 1 (13 + a))), (3, .int (ν 1 (5 + a))), (0, .ref (B 0)), (1, .int (nI a)), (2, .int (nI b))]) hxe hcd dX10_swaps_48 hl (by decide) rfl (fun ls hl => ?_)
      refine lv_aload_n hxe hcd dX10_swaps_50 rfl (lv_at hl 3 rfl) ?_
      refine gf_X10_16 S hW dX10_swaps_51 ?_
      refine lv_iconst (v := (nI 5)) hxe hcd dX10_swaps_54 (by decide) ?_
      refine lv_iload_n hxe hcd dX10_swaps_55 rfl (lv_at hl 4 rfl) ?_
      refine n_iadd S (a := 5) (b := a) dX10_swaps_56 ?_
      refine lv_aload_n hxe hcd dX10_swaps_57 rfl (lv_at hl 3 rfl) ?_
      refine gf_X10_16 S hW dX10_swaps_58 ?_
      refine lv_iconst (v := (nI 5)) hxe hcd dX10_swaps_61 (by decide) ?_
      refine lv_iload_n hxe hcd dX10_swaps_62 rfl (lv_at hl 5 rfl) ?_
      refine n_iadd S (a := 5) (b := b) dX10_swaps_63 ?_
      refine gm_ald S hW (i := 1) (k := (5 + b)) (n := 1357) (by decide) (by decide) rfl (by omega) dX10_swaps_64 ?_
      refine gm_ast S hW (i := 1) (k := (5 + a)) (n := 1357) (by decide) (by decide) rfl (by omega) dX10_swaps_65 (fun H locs hW => ?_)
      refine lv_aload_n hxe hcd dX10_swaps_66 rfl (lv_at hl 3 rfl) ?_
      refine gf_X10_16 S hW dX10_swaps_67 ?_
      refine lv_bipush (v := (nI 13)) hxe hcd dX10_swaps_70 (by decide) ?_
      refine lv_iload_n hxe hcd dX10_swaps_72 rfl (lv_at hl 4 rfl) ?_
      refine n_iadd S (a := 13) (b := a) dX10_swaps_73 ?_
      refine lv_aload_n hxe hcd dX10_swaps_74 rfl (lv_at hl 3 rfl) ?_
      refine gf_X10_16 S hW dX10_swaps_75 ?_
      refine lv_bipush (v := (nI 13)) hxe hcd dX10_swaps_78 (by decide) ?_
      refine lv_iload_n hxe hcd dX10_swaps_80 rfl (lv_at hl 5 rfl) ?_
      refine n_iadd S (a := 13) (b := b) dX10_swaps_81 ?_
      refine gm_ald S hW (i := 1) (k := (13 + b)) (n := 1357) (by decide) (by decide) rfl (by omega) dX10_swaps_82 ?_
      refine gm_ast S hW (i := 1) (k := (13 + a)) (n := 1357) (by decide) (by decide) rfl (by omega) dX10_swaps_83 (fun H locs hW => ?_)
      refine lv_aload_n hxe hcd dX10_swaps_84 rfl (lv_at hl 3 rfl) ?_
      refine gf_X10_16 S hW dX10_swaps_85 ?_
      refine lv_iconst (v := (nI 5)) hxe hcd dX10_swaps_88 (by decide) ?_
      refine lv_iload_n hxe hcd dX10_swaps_89 rfl (lv_at hl 5 rfl) ?_
      refine n_iadd S (a := 5) (b := b) dX10_swaps_90 ?_
      refine lv_iload_n hxe hcd dX10_swaps_91 rfl (lv_at hl 2 rfl) ?_
      refine gm_ast S hW (i := 1) (k := (5 + b)) (n := 1357) (by decide) (by decide) rfl (by omega) dX10_swaps_92 (fun H locs hW => ?_)
      refine lv_aload_n hxe hcd dX10_swaps_93 rfl (lv_at hl 3 rfl) ?_
      refine gf_X10_16 S hW dX10_swaps_94 ?_
      refine lv_bipush (v := (nI 13)) hxe hcd dX10_swaps_97 (by decide) ?_
      refine lv_iload_n hxe hcd dX10_swaps_99 rfl (lv_at hl 5 rfl) ?_
      refine n_iadd S (a := 13) (b := b) dX10_swaps_100 ?_
      refine lv_iload hxe hcd dX10_swaps_101 (lv_at hl 1 rfl) ?_
      refine gm_ast S hW (i := 1) (k := (13 + b)) (n := 1357) (by decide) (by decide) rfl (by omega) dX10_swaps_103 (fun H locs hW => ?_)
      refine lv_iload hxe hcd dX10_swaps_104 (lv_at hl 0 rfl) ?_
      have hD : (if a < b then b - a else a - b) < 2147483648 := by split <;> omega
      refine n_ifle S (a := (if a < b then b - a else a - b)) (by omega) dX10_swaps_106 (tgt := 116) (by decide) (fun c106 => ?_) (fun c106 => ?_)
      · refine lv_iconst (v := (nI 0)) hxe hcd dX10_swaps_116 (by decide) ?_
        refine r_iret S hr hlk (F := (mE Z B)) (u := (up1 (up1 (up1 (up1 ν 1 (upd (ν 1) (5 + a) (ν 1 (5 + b)))) 1 (upd ((up1 ν 1 (upd (ν 1) (5 + a) (ν 1 (5 + b)))) 1) (13 + a) ((up1 ν 1 (upd (ν 1) (5 + a) (ν 1 (5 + b)))) 1 (13 + b)))) 1 (upd ((up1 (up1 ν 1 (upd (ν 1) (5 + a) (ν 1 (5 + b)))) 1 (upd ((up1 ν 1 (upd (ν 1) (5 + a) (ν 1 (5 + b)))) 1) (13 + a) ((up1 ν 1 (upd (ν 1) (5 + a) (ν 1 (5 + b)))) 1 (13 + b)))) 1) (5 + b) (ν 1 (5 + a)))) 1 (upd ((up1 (up1 (up1 ν 1 (upd (ν 1) (5 + a) (ν 1 (5 + b)))) 1 (upd ((up1 ν 1 (upd (ν 1) (5 + a) (ν 1 (5 + b)))) 1) (13 + a) ((up1 ν 1 (upd (ν 1) (5 + a) (ν 1 (5 + b)))) 1 (13 + b)))) 1 (upd ((up1 (up1 ν 1 (upd (ν 1) (5 + a) (ν 1 (5 + b)))) 1 (upd ((up1 ν 1 (upd (ν 1) (5 + a) (ν 1 (5 + b)))) 1) (13 + a) ((up1 ν 1 (upd (ν 1) (5 + a) (ν 1 (5 + b)))) 1 (13 + b)))) 1) (5 + b) (ν 1 (5 + a)))) 1) (13 + b) (ν 1 (13 + a))))) hW ?_ dX10_swaps_117
        refine Or.inr ⟨a, b, ha, hb, rfl, rfl, ?_, ?_⟩
        · rw [dsN, c106]
        · simp only [up1_s, up1_2, swV]
          rw [upd_o (show 13 + b ≠ 5 + a by omega)]
      · refine lv_iload hxe hcd dX10_swaps_109 (lv_at hl 0 rfl) ?_
        refine lv_iconst (v := (nI 1)) hxe hcd dX10_swaps_111 (by decide) ?_
        refine n_isub S (a := (if a < b then b - a else a - b)) (b := 1) (by omega) dX10_swaps_112 ?_
        refine lv_goto (tgt := 117) hxe hcd dX10_swaps_113 (by decide) ?_
        refine r_iret S hr hlk (F := (mE Z B)) (u := (up1 (up1 (up1 (up1 ν 1 (upd (ν 1) (5 + a) (ν 1 (5 + b)))) 1 (upd ((up1 ν 1 (upd (ν 1) (5 + a) (ν 1 (5 + b)))) 1) (13 + a) ((up1 ν 1 (upd (ν 1) (5 + a) (ν 1 (5 + b)))) 1 (13 + b)))) 1 (upd ((up1 (up1 ν 1 (upd (ν 1) (5 + a) (ν 1 (5 + b)))) 1 (upd ((up1 ν 1 (upd (ν 1) (5 + a) (ν 1 (5 + b)))) 1) (13 + a) ((up1 ν 1 (upd (ν 1) (5 + a) (ν 1 (5 + b)))) 1 (13 + b)))) 1) (5 + b) (ν 1 (5 + a)))) 1 (upd ((up1 (up1 (up1 ν 1 (upd (ν 1) (5 + a) (ν 1 (5 + b)))) 1 (upd ((up1 ν 1 (upd (ν 1) (5 + a) (ν 1 (5 + b)))) 1) (13 + a) ((up1 ν 1 (upd (ν 1) (5 + a) (ν 1 (5 + b)))) 1 (13 + b)))) 1 (upd ((up1 (up1 ν 1 (upd (ν 1) (5 + a) (ν 1 (5 + b)))) 1 (upd ((up1 ν 1 (upd (ν 1) (5 + a) (ν 1 (5 + b)))) 1) (13 + a) ((up1 ν 1 (upd (ν 1) (5 + a) (ν 1 (5 + b)))) 1 (13 + b)))) 1) (5 + b) (ν 1 (5 + a)))) 1) (13 + b) (ν 1 (13 + a))))) hW ?_ dX10_swaps_117
        refine Or.inr ⟨a, b, ha, hb, rfl, rfl, ?_, ?_⟩
        · rw [dsN]
        · simp only [up1_s, up1_2, swV]
          rw [upd_o (show 13 + b ≠ 5 + a by omega)]
    · subst hp100
      refine lv_if_ne (tgt := 22) hxe hcd dX10_swaps_13 (by decide) (fun h => absurd h (by decide)) (fun _ => ?_)
      refine lv_aload_n hxe hcd dX10_swaps_16 rfl (lv_at hl 0 rfl) ?_
      refine lv_iconst (v := (nI 1)) hxe hcd dX10_swaps_17 (by decide) ?_
      refine r_calli (F := (mE Z B)) (r_runV hZ S hW (As := [.int (nI 1)]) (rest := []) (t_X10_fail l hZ B ν H.size (nI 1)) k_X10_71 (r_recv hW (x := 0) (List.mem_range.mpr (by decide)) rfl rfl) (hl.1) rfl rfl (Nat.le_of_ble_eq_true rfl) ⟨Nat.le_of_ble_eq_true rfl, Nat.le_of_ble_eq_true rfl⟩ ⟨Nat.le_of_ble_eq_true rfl, Nat.le_of_ble_eq_true rfl⟩ dX10_swaps_18) hW (fun r18 u18 H locs hp18 hW => ?_)
      obtain ⟨hp18, hp18m⟩ := hp18
      have hp18 := hp18.symm
      subst hp18
      have hp18m := hp18m.symm
      subst hp18m
      refine r_iret S hr hlk (F := (mE Z B)) (u := (up1 ν 0 (upd (ν 0) 0 (nI 1)))) hW ?_ dX10_swaps_21
      exact Or.inl ⟨fun h => hp10 h.2, rfl, rfl⟩
  · subst hp20
    refine lv_if_eq (tgt := 16) hxe hcd dX10_swaps_5 (by decide) (fun _ => ?_) (fun h => absurd (by decide) h)
    refine lv_aload_n hxe hcd dX10_swaps_16 rfl (lv_at hl 0 rfl) ?_
    refine lv_iconst (v := (nI 1)) hxe hcd dX10_swaps_17 (by decide) ?_
    refine r_calli (F := (mE Z B)) (r_runV hZ S hW (As := [.int (nI 1)]) (rest := []) (t_X10_fail l hZ B ν H.size (nI 1)) k_X10_71 (r_recv hW (x := 0) (List.mem_range.mpr (by decide)) rfl rfl) (hl.1) rfl rfl (Nat.le_of_ble_eq_true rfl) ⟨Nat.le_of_ble_eq_true rfl, Nat.le_of_ble_eq_true rfl⟩ ⟨Nat.le_of_ble_eq_true rfl, Nat.le_of_ble_eq_true rfl⟩ dX10_swaps_18) hW (fun r18 u18 H locs hp18 hW => ?_)
    obtain ⟨hp18, hp18m⟩ := hp18
    have hp18 := hp18.symm
    subst hp18
    have hp18m := hp18m.symm
    subst hp18m
    refine r_iret S hr hlk (F := (mE Z B)) (u := (up1 ν 0 (upd (ν 0) 0 (nI 1)))) hW ?_ dX10_swaps_21
    exact Or.inl ⟨fun h => hp2 h.1, rfl, rfl⟩
