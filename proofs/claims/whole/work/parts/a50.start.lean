/-! THE LAW'S START -/
section RW40
variable {p : Program} {l : Launch} {e : Env} {R : Room} {s : State} {m : MethodId} {args : Array Value} {below : List Frame} {meth : Method} {c : Code} {H : Heap} {locs : List Loc} {cells slots : Nat} {Q : State → Prop}
variable {Z : ZT} {ws wr wc : va_W} {A0 : Nat → Prop} {cc : ByteArray} {nL pc index : Nat} {own C host : String} {ls : Array Slot} {rest st : List Value}
variable {y : MethodName} {bytes : ByteArray} {maxL d mc ms n : Nat} {ret : Option FieldType} {Qc : Array Value → State → Outcome → State → Prop} {free : Addr → Prop} {b : Addr}
theorem w_runI (hZ : zOK Z) (S : CallFix p m c cc nL s args GT own) (hW : wW Z (wr ++ wc) A0 s H locs) {As : List Value} (hM : Met l y (Cond.code y bytes maxL none :: GT) (rmD d mc ms) (va_Pc (.ref b :: As) (pW Z wc H.size)) Qc mc ms free) (lk : lkI own index y bytes maxL n)
    (hl : ls.size = nL) (hn : As.length = n) (hst : st = As.reverse ++ .ref b :: rest) (hr : (rest.map fun v => v.category).sum ≤ 8) (hR : okR R d maxL) (hf : cells + mc ≤ R.cells ∧ slots + ms ≤ R.slots) (hdg : decode cc pc = .ok (.invokespecial index, 3)) :
    va_Run p l e R s m args below meth c H locs cells slots mc ms (F0 m pc ls st) rest (Qc (Value.ref b :: As).toArray) free := by
  obtain ⟨k1, k2, k4, k5, k6, k7⟩ := lk
  exact va_runI S hM ⟨callB_GT S.2.2.2.2 k5 k4 k1 k7 hR, k6, S.2.2.2.2 _ k2⟩ ⟨pW_blind hZ, fun U hU hw => ⟨rfl, wW_pre hZ hW hU hw⟩⟩ rfl hn hl hst (lv_room hr) hdg hf
theorem zJ_of {cA : ClassId} (hK : va_K (zG Z) vwCl (zT Z) s) (hK2 : va_K (zG Z) vwCl (zT Z ++ [(cA, .long)]) s) : cA = zJ Z := by
  have h1 : s.vm.findClass ("[" ++ (FieldType.long).toString) = some cA := (hK2.2 4 (cA, .long) rfl).2
  have h2 : s.vm.findClass ("[" ++ (FieldType.long).toString) = some (zJ Z) := (hK.2 2 (zJ Z, .long) rfl).2
  exact Option.some.inj (h1.symm.trans h2)
theorem zD_of {cA : ClassId} (hK : va_K (zG Z) vwCl (zT Z) s) (hK2 : va_K (zG Z) vwCl (zT Z ++ [(cA, .double)]) s) : cA = zD Z := by
  have h1 : s.vm.findClass ("[" ++ (FieldType.double).toString) = some cA := (hK2.2 4 (cA, .double) rfl).2
  have h2 : s.vm.findClass ("[" ++ (FieldType.double).toString) = some (zD Z) := (hK.2 3 (zD Z, .double) rfl).2
  exact Option.some.inj (h1.symm.trans h2)
theorem w_newj (S : CallFix p m c cc nL s args GT own) (hW : wW Z ws A0 s H locs) (hcells : cells + 1 ≤ R.cells) (hslots : slots + 1 ≤ R.slots) (hdg : decode cc pc = .ok (.newarray .long, 2))
    (kk : ∀ (q : Nat) (H1 : Heap), wW Z (ws ++ [(q, oJ Z (fun _ => 0))]) A0 s H1 locs → W p l e R s m args below meth c H1 locs (cells + 1) (slots + 1) Q (F0 m (pc + 2) ls (.ref q :: rest))) : W p l e R s m args below meth c H locs cells slots Q (F0 m pc ls (.int (nI 1) :: rest)) := by
  obtain ⟨h1, h2, h3, h4, h5, h6⟩ := hW
  refine va_newa S.1 S.2.1 (atype := .long) (S.2.2.2.2 _ g_1703) (ty := .long) rfl h4 h1 h2 h3 h5 (N' := 1) (a0 := (1, .inr (.inl (fun _ => 0)))) (fun cA => rfl) (nI_pos (by decide)) (nI_clamp (by decide)) (by decide) hcells hslots hdg (fun q cA H1 k1 k2 k3 k4 => ?_)
  have e := zJ_of h4 k1
  subst e
  exact kk q H1 ⟨k2, k3, k4, h4, h5, h6⟩
theorem w_newd (S : CallFix p m c cc nL s args GT own) (hW : wW Z ws A0 s H locs) (hcells : cells + 1 ≤ R.cells) (hslots : slots + 1 ≤ R.slots) (hdg : decode cc pc = .ok (.newarray .double, 2))
    (kk : ∀ (q : Nat) (H1 : Heap), (∃ f, wW Z (ws ++ [(q, oD Z f)]) A0 s H1 locs) → W p l e R s m args below meth c H1 locs (cells + 1) (slots + 1) Q (F0 m (pc + 2) ls (.ref q :: rest))) : W p l e R s m args below meth c H locs cells slots Q (F0 m pc ls (.int (nI 1) :: rest)) := by
  obtain ⟨h1, h2, h3, h4, h5, h6⟩ := hW
  obtain ⟨z, hz⟩ : ∃ z : UInt64, defaultValue .double = .double z := ⟨_, rfl⟩
  refine va_newa S.1 S.2.1 (atype := .double) (S.2.2.2.2 _ g_1704) (ty := .double) rfl h4 h1 h2 h3 h5 (N' := 1) (a0 := (1, .inr (.inr (.inr (.inl (fun _ => z)))))) (fun cA => by rw [hz]; rfl) (nI_pos (by decide)) (nI_clamp (by decide)) (by decide) hcells hslots hdg (fun q cA H1 k1 k2 k3 k4 => ?_)
  have e := zD_of h4 k1
  subst e
  exact kk q H1 ⟨fun _ => z, k2, k3, k4, h4, h5, h6⟩
end RW40
theorem pm_start {α : Type} (c m a b : List α) : (((c ++ m) ++ a) ++ b).Perm (a ++ (b ++ (m ++ c))) := by
  have h1 : ((c ++ m) ++ a) ++ b = (c ++ m) ++ (a ++ b) := by simp [List.append_assoc]
  have h2 : a ++ (b ++ (m ++ c)) = (a ++ b) ++ (m ++ c) := by simp [List.append_assoc]
  rw [h1, h2]
  exact (List.perm_append_comm).trans ((List.perm_append_comm).append_left (a ++ b))
set_option maxHeartbeats 8000000 in
set_option maxRecDepth 100000 in
theorem whole_start {p : Program} {e : Env} {s : State} {m : MethodId} {below : List Frame} {meth : Method} {c : Code} (l : Launch) (hflags : l.flags = flags0) {b L : Nat} {xs : Nat → Int32} (hL : L ≤ 2560) (C0 : lw_At p s m meth c b L xs) : W p l e room_1 s m #[Value.ref b] below meth c s.heap [] 0 0 (lw_Z below #[Value.ref b] s) (entryFrame m ([Value.ref b] : List Value).toArray 9) := by
  obtain ⟨hx, hb, hr, hml, hown, hts, hX, hbl, hlk, hgv⟩ := id C0
  have hl0 : l.stackTraces = false := by
    unfold Launch.stackTraces
    rw [hflags]
    decide +kernel
  have hF : ∀ w ∈ FLA, w.before #[Value.ref b] s = true := flat_of_before _ hgv
  obtain ⟨A0, hA0⟩ : ∃ A0 : Nat → Prop, A0 = fun q => s.heap.size ≤ q := ⟨_, rfl⟩
  have hA : ∀ a : Nat, a < s.heap.size → ¬ A0 a := fun a h => by rw [hA0]; exact Nat.not_le.mpr h
  have hA2 : ∀ q : Nat, s.heap.size ≤ q → A0 q := fun q h => by rw [hA0]; exact h
  obtain ⟨wd, hz⟩ := stat_ok (A := A0) hF hts hA
  obtain ⟨D, zi, zr, zj, zd, hK⟩ := K_ok hts
  have hZ := zStat_ok D zi zr zj zd wd
  have hZX := zStat_X D zi zr zj zd wd
  have hNC := zStat_N D zi zr zj zd wd
  have hw := zStat_W D zi zr zj zd wd
  obtain ⟨Z, hZe⟩ : ∃ Z : ZT, Z = (D, (zi, zr, zj, zd), zStat wd) := ⟨_, rfl⟩
  have hW : wW Z [] A0 s s.heap [] := by
    rw [hZe]
    exact ⟨fun k q h => (by cases h), ⟨fun i j p q h => (by cases h), fun k q h => (by cases h)⟩, va_S.rf, hK, hA2, hz⟩
  rw [← hZe] at hZ hZX hNC hw
  have S : CallFix p m c cL_law 9 s #[Value.ref b] GT RL := ⟨hx, hb, hml, hown, fun w hw => hts w (GT_tbl hw)⟩
  have hxe := S.1
  have hcd := S.2.1
  have hbA : ¬ A0 b := hA b hbl
  have hl := lv_entry ([.ref b]) (n := 9) (Nat.le_of_ble_eq_true rfl)
  rw [lg_entry_eq]
  generalize (lg_sl ([.ref b]) ++ List.replicate (9 - (lg_sl ([.ref b])).length) Slot.unset).toArray = ls at hl ⊢
  have hl : lv_has ls 9 [(0, .ref b)] := hl
  refine w_new S hW (T := TX9) (N := 12) (ci := 10) in_RX9 tyX9 tyX9_ok g_93 g_94 g_67 rfl (fs := [.null, .null, .null, .null, .null, .null, .null, .null, .null, .int 0, .int 0, .int 0]) (fun j hj => by rcases (show j = 0 ∨ j = 1 ∨ j = 2 ∨ j = 3 ∨ j = 4 ∨ j = 5 ∨ j = 6 ∨ j = 7 ∨ j = 8 ∨ j = 9 ∨ j = 10 ∨ j = 11 by omega) with rfl | rfl | rfl | rfl | rfl | rfl | rfl | rfl | rfl | rfl | rfl | rfl <;> rfl) (Nat.le_of_ble_eq_true rfl) (Nat.le_of_ble_eq_true rfl) dL_law_0 (fun q9 H hW => ?_)
  refine lv_dup hxe hcd dL_law_3 rfl ?_
  refine w_callv (wr := []) (wc := [(q9, .inr (10, [.null, .null, .null, .null, .null, .null, .null, .null, .null, .int 0, .int 0, .int 0]))]) (w_runI hZ S (wr := []) (wc := [(q9, .inr (10, [.null, .null, .null, .null, .null, .null, .null, .null, .null, .int 0, .int 0, .int 0]))]) hW (As := []) (rest := [.ref q9]) (t_X9_init l hZ (fun A U H h => (hZX A U H h).1) H.size q9) k_L_148 hl.1 rfl rfl (Nat.le_of_ble_eq_true rfl) ⟨(Nat.le_of_ble_eq_true rfl), (Nat.le_of_ble_eq_true rfl)⟩ ⟨(Nat.le_of_ble_eq_true rfl), (Nat.le_of_ble_eq_true rfl)⟩ dL_law_4) hW (fun u9 H locs hp hW => ?_)
  obtain ⟨a9, a20, a31, q38, q38_q7, q49, q49_q7, q49_q16, q49_q25, q60, q60_q6, q60_q13, q60_q20, q60_q28, q72, q78, q78_q7, q78_q20, q78_q28, q89, q89_q7, hu9⟩ := hp
  have hsub : Sub u9 (cW Z (g0, rA q9 a9 a20 a31 [q38, q38_q7, q49, q49_q7, q49_q16, q49_q25, q60, q60_q6, q60_q13, q60_q20, q60_q28, q72, q78, q78_q7, q78_q20, q78_q28, q89, q89_q7], μR)) := by
      rw [hu9]
      exact root_sub Z q9 a9 a20 a31 q38 q38_q7 q49 q49_q7 q49_q16 q49_q25 q60 q60_q6 q60_q13 q60_q20 q60_q28 q72 q78 q78_q7 q78_q20 q78_q28 q89 q89_q7
  have hroot : rA q9 a9 a20 a31 [q38, q38_q7, q49, q49_q7, q49_q16, q49_q25, q60, q60_q6, q60_q13, q60_q20, q60_q28, q72, q78, q78_q7, q78_q20, q78_q28, q89, q89_q7] (0, 14) = q9 := rfl
  generalize rA q9 a9 a20 a31 [q38, q38_q7, q49, q49_q7, q49_q16, q49_q25, q60, q60_q6, q60_q13, q60_q20, q60_q28, q72, q78, q78_q7, q78_q20, q78_q28, q89, q89_q7] = Ar at hsub hroot
  clear hu9
  have hW : wW Z u9 A0 s H locs := hW
  refine lv_astore_n (lv' := [(1, .ref q9), (0, .ref b)]) hxe hcd dL_law_7 rfl hl (by decide) rfl (fun ls hl => ?_)
  refine w_new S hW (T := TX10) (N := 23) (ci := 11) in_RX10 tyX10 tyX10_ok g_1259 g_1260 g_76 rfl (fs := [.int 0, .int 0, .int 0, .int 0, .int 0, .null, .null, .null, .null, .null, .null, .null, .null, .null, .null, .null, .null, .int 0, .int 0, .int 0, .int 0, .int 0, .int 0]) (fun j hj => by rcases (show j = 0 ∨ j = 1 ∨ j = 2 ∨ j = 3 ∨ j = 4 ∨ j = 5 ∨ j = 6 ∨ j = 7 ∨ j = 8 ∨ j = 9 ∨ j = 10 ∨ j = 11 ∨ j = 12 ∨ j = 13 ∨ j = 14 ∨ j = 15 ∨ j = 16 ∨ j = 17 ∨ j = 18 ∨ j = 19 ∨ j = 20 ∨ j = 21 ∨ j = 22 by omega) with rfl | rfl | rfl | rfl | rfl | rfl | rfl | rfl | rfl | rfl | rfl | rfl | rfl | rfl | rfl | rfl | rfl | rfl | rfl | rfl | rfl | rfl | rfl <;> rfl) (Nat.le_of_ble_eq_true rfl) (Nat.le_of_ble_eq_true rfl) dL_law_8 (fun q10 H hW => ?_)
  refine lv_dup hxe hcd dL_law_11 rfl ?_
  refine w_callv (wr := u9) (wc := [(q10, .inr (11, [.int 0, .int 0, .int 0, .int 0, .int 0, .null, .null, .null, .null, .null, .null, .null, .null, .null, .null, .null, .null, .int 0, .int 0, .int 0, .int 0, .int 0, .int 0]))]) (w_runI hZ S (wr := u9) (wc := [(q10, .inr (11, [.int 0, .int 0, .int 0, .int 0, .int 0, .null, .null, .null, .null, .null, .null, .null, .null, .null, .null, .null, .null, .int 0, .int 0, .int 0, .int 0, .int 0, .int 0]))]) hW (As := []) (rest := [.ref q10]) (t_X10_init l hZ H.size q10) k_L_151 hl.1 rfl rfl (Nat.le_of_ble_eq_true rfl) ⟨(Nat.le_of_ble_eq_true rfl), (Nat.le_of_ble_eq_true rfl)⟩ ⟨(Nat.le_of_ble_eq_true rfl), (Nat.le_of_ble_eq_true rfl)⟩ dL_law_12) hW (fun u10 H locs hp hW => ?_)
  obtain ⟨q18, q27, q36, q45, q54, q63, q72, q80, q88, q96, q104, q484, hu10⟩ := hp
  have hm : u10 = mW Z (fun i => ([q10, q18, q27, q36, q45, q54, q63, q72, q80, q88, q96, q104, q484] : List Nat).getD i 0) νR := hu10.trans (model_eq Z q10 q18 q27 q36 q45 q54 q63 q72 q80 q88 q96 q104 q484)
  have hB0 : (fun i => ([q10, q18, q27, q36, q45, q54, q63, q72, q80, q88, q96, q104, q484] : List Nat).getD i 0) 0 = q10 := rfl
  generalize (fun i => ([q10, q18, q27, q36, q45, q54, q63, q72, q80, q88, q96, q104, q484] : List Nat).getD i 0) = Br at hm hB0
  clear hu10
  refine lv_astore_n (lv' := [(2, .ref q10), (1, .ref q9), (0, .ref b)]) hxe hcd dL_law_15 rfl hl (by decide) rfl (fun ls hl => ?_)
  refine lv_iconst (v := (nI 1)) hxe hcd dL_law_16 (by decide) ?_
  refine w_newj S hW (Nat.le_of_ble_eq_true rfl) (Nat.le_of_ble_eq_true rfl) dL_law_17 (fun aj H hW => ?_)
  refine lv_astore_n (lv' := [(3, .ref aj), (2, .ref q10), (1, .ref q9), (0, .ref b)]) hxe hcd dL_law_19 rfl hl (by decide) rfl (fun ls hl => ?_)
  refine lv_iconst (v := (nI 1)) hxe hcd dL_law_20 (by decide) ?_
  refine w_newd S hW (Nat.le_of_ble_eq_true rfl) (Nat.le_of_ble_eq_true rfl) dL_law_21 (fun ad H hW => ?_)
  obtain ⟨fd0, hW⟩ := hW
  refine lv_astore (lv' := [(4, .ref ad), (3, .ref aj), (2, .ref q10), (1, .ref q9), (0, .ref b)]) hxe hcd dL_law_23 hl (by decide) rfl (fun ls hl => ?_)
  refine lv_iconst (v := (nI 0)) hxe hcd dL_law_25 (by decide) ?_
  refine lv_istore (lv' := [(5, .int (nI 0)), (4, .ref ad), (3, .ref aj), (2, .ref q10), (1, .ref q9), (0, .ref b)]) hxe hcd dL_law_26 hl (by decide) rfl (fun ls hl => ?_)
  subst hm
  have hU : wW Z (LW Z aj ad Br (g0, Ar, μR) νR (fun _ => 0) fd0) A0 s H locs := wW_perm (wW_sub hW (Sub_app (Sub_app (Sub_app hsub _) _) _)) (pm_start _ _ _ _)
  rw [← hB0, ← hroot] at hl
  refine law_loop l hl0 hZ hZX hNC hw S hX hbl hL hbA (c0 := 76) (s0 := 21645) (by decide) (by decide) (fun v ν f fd H locs ls cells slots hU hc hs => ?_) (L + 1) (Ar (0, 14)) 0 _ _ (g0, Ar, μR) νR (fun _ => 0) fd0 H locs ls (by omega) rfl rfl (by omega) hU (CR_0 Ar) rfl (lv_sub hl [5, 4, 3, 2, 1, 0] rfl)
  refine lv_iconst (v := 1) hxe hcd dL_law_2715 (by decide) ?_
  refine va_forget (fun q hq => by have h := hU.2.2.1.2.2 q hq; rw [hA0] at h; exact h) ?_
  exact W.widen hc hs (W.base (lw_ret (d0 := s.drawn) (Drawn.sameBut.refl s.drawn lw_cs) hx hb hr hlk dL_law_2716))
