set_option maxHeartbeats 4000000 in
set_option maxRecDepth 100000 in
theorem t_X1_sameCharacters (l : Launch) {Z : ZT} (hZ : zOK Z) (A : Nat × Nat → Nat) (g : Nat → Bool) (μ : CM) (sz : Nat) {n : Nat} (hen : μ 0 22 1 = nI n) (hn60 : n ≤ 60) (t : Nat → Nat) (htx : ∀ j, j < n → μ 0 23 j = nI (t j) ∧ t j < 128) {pp : Nat} (hpp : μ 0 22 5 = nI pp) (hpn : pp ≤ n) {wd : WDT} (hw : ZW Z wd) {w : Nat} (hww : w < 12) : XCi l yX1_sameCharacters cX1_sameCharacters 3 (some .int) 4 [.ref (A (0, 22)), .ref (wd.2.2.1 w)] Z (ids g) A (cE Z A g μ) sz (fun r => ∃ k, r = nI k ∧ k ≤ wl w ∧ PW t n pp w k ∧ (k < wl w → ¬ PW t n pp w (k + 1))) := by
  refine r_met (E := (cE Z A g μ)) (by decide +kernel) (Nat.le_of_ble_eq_true rfl) ?_
  intro p e s m below meth c ls S hr hlk hnm hsz hW hl
  have hxe := S.1
  have hcd := S.2.1
  subst hsz
  have hl : lv_has ls 3 [(0, .ref (A (0, 22))), (1, .ref (wd.2.2.1 w))] := hl
  have hWA := WA_12 hww
  refine lv_iconst (v := (nI 0)) hxe hcd dX1_sameCharacters_0 (by decide) ?_
  refine lv_istore_n (lv' := [(2, .int (nI 0)), (0, .ref (A (0, 22))), (1, .ref (wd.2.2.1 w))]) hxe hcd dX1_sameCharacters_1 rfl hl (by decide) rfl (fun ls hl => ?_)
  have loop2 : ∀ (n_ : Nat) (k : Nat), wl w - k < n_ → (k ≤ wl w) → (PW t n pp w k) → ∀ (H : Heap) (locs : List Loc) (ls : Array Slot), wX Z (ids g) A (cE Z A g μ) (fA (ids g) A (cE Z A g μ) s.heap.size) s H locs → lv_has ls 3 [(0, .ref (A (0, 22))), (1, .ref (wd.2.2.1 w)), (2, .int (nI k))] → W p l e (rmD 4 0 0) s m ([.ref (A (0, 22)), .ref (wd.2.2.1 w)] : List Value).toArray below meth c H locs 0 0 (MQ below (va_Qi (fun r (_ : Unit) => (fun r => ∃ k, r = nI k ∧ k ≤ wl w ∧ PW t n pp w k ∧ (k < wl w → ¬ PW t n pp w (k + 1))) r) (fun _ t => qB Z (ids g) A (cE Z A g μ) (fA (ids g) A (cE Z A g μ) s.heap.size) t) (fA (ids g) A (cE Z A g μ) s.heap.size)) ([.ref (A (0, 22)), .ref (wd.2.2.1 w)] : List Value).toArray s 0 0 (fA (ids g) A (cE Z A g μ) s.heap.size)) (F0 m 2 ls []) := by
    intro n_
    induction n_ with
    | zero => intro k hm; exact absurd hm (Nat.not_lt_zero _)
    | succ n_ ih2 =>
      intro k hm hk hP H locs ls hW hl
      refine lv_iload_n hxe hcd dX1_sameCharacters_2 rfl (lv_at hl 2 rfl) ?_
      refine lv_aload_n hxe hcd dX1_sameCharacters_3 rfl (lv_at hl 1 rfl) ?_
      refine r_calli0 (r_runV hZ S hW (As := []) (rest := [.int (nI k)]) (t_J0_length_8abf5 l hZ (ids g) A (cE Z A g μ) H.size (fun A U H h => ((hw A U H h).2.2.2 w (by first | decide | omega)).2.2.2.1) (fun A U H h => (hw A U H h).1) (by first | decide | omega)) k_X1_69 (va_Orecv ((hw _ _ _ hW.2.2.2.2.2).2.2.2 w (by first | decide | omega)).2.2.2.1.1 hW.2.2.1) (hl.1) rfl rfl (Nat.le_of_ble_eq_true rfl) ⟨Nat.le_of_ble_eq_true rfl, Nat.le_of_ble_eq_true rfl⟩ ⟨Nat.le_of_ble_eq_true rfl, Nat.le_of_ble_eq_true rfl⟩ dX1_sameCharacters_4) hW (fun r4 H locs hp4 hW => ?_)
      have hp4 := hp4.symm
      subst hp4
      refine r_as (y := (nI (wl w))) (rfl) ?_
      refine n_ge S (a := k) (b := (wl w)) (by omega) (by omega) dX1_sameCharacters_7 (tgt := 34) (by decide) (fun c7 => ?_) (fun c7 => ?_)
      · refine lv_iload_n hxe hcd dX1_sameCharacters_34 rfl (lv_at hl 2 rfl) ?_
        refine r_iret0 S hr hlk hW ?_ dX1_sameCharacters_35
        exact ⟨k, rfl, hk, hP, fun h => absurd h (by omega)⟩
      · refine lv_aload_n hxe hcd dX1_sameCharacters_10 rfl (lv_at hl 0 rfl) ?_
        refine lv_aload_n hxe hcd dX1_sameCharacters_11 rfl (lv_at hl 0 rfl) ?_
        refine gf_X1_28 S hW dX1_sameCharacters_12 ?_
        refine r_as (y := (nI pp)) (hpp) ?_
        refine lv_iload_n hxe hcd dX1_sameCharacters_15 rfl (lv_at hl 2 rfl) ?_
        refine n_iadd S (a := pp) (b := k) dX1_sameCharacters_16 ?_
        refine r_calli0 (r_runV hZ S hW (As := [.int (nI (pp + k))]) (rest := []) (t_X1_characterAt l hZ A g μ H.size hen hn60 t htx (i := (pp + k)) (by omega)) k_X1_51 (r_recv hW (x := (0, 22)) (in_r (by decide) (by decide)) rfl rfl) (hl.1) rfl rfl (Nat.le_of_ble_eq_true rfl) ⟨Nat.le_of_ble_eq_true rfl, Nat.le_of_ble_eq_true rfl⟩ ⟨Nat.le_of_ble_eq_true rfl, Nat.le_of_ble_eq_true rfl⟩ dX1_sameCharacters_17) hW (fun r17 H locs hp17 hW => ?_)
        have hp17 := hp17.symm
        subst hp17
        refine lv_aload_n hxe hcd dX1_sameCharacters_20 rfl (lv_at hl 1 rfl) ?_
        refine lv_iload_n hxe hcd dX1_sameCharacters_21 rfl (lv_at hl 2 rfl) ?_
        refine r_calli0 (r_runV hZ S hW (As := [.int (nI k)]) (rest := [.int (chT t n (pp + k))]) (t_J0_charAt_5068e l hZ (ids g) A (cE Z A g μ) H.size (i := k) (f := kc w) (fun A U H h => ((hw A U H h).2.2.2 w (by first | decide | omega)).2.2.2.1) (by first | decide | omega) (by first | decide | omega) (by first | decide | exact kc_lt _ _) (fun A U H h => (hw A U H h).1)) k_X1_84 (va_Orecv ((hw _ _ _ hW.2.2.2.2.2).2.2.2 w (by first | decide | omega)).2.2.2.1.1 hW.2.2.1) (hl.1) rfl rfl (Nat.le_of_ble_eq_true rfl) ⟨Nat.le_of_ble_eq_true rfl, Nat.le_of_ble_eq_true rfl⟩ ⟨Nat.le_of_ble_eq_true rfl, Nat.le_of_ble_eq_true rfl⟩ dX1_sameCharacters_22) hW (fun r22 H locs hp22 hW => ?_)
        have hp22 := hp22.symm
        subst hp22
        refine r_as (y := (nI (kc w k))) (rfl) ?_
        refine lv_icmp_ne (tgt := 34) hxe hcd dX1_sameCharacters_25 (by decide) (fun c25 => ?_) (fun c25 => ?_)
        · refine lv_iload_n hxe hcd dX1_sameCharacters_34 rfl (lv_at hl 2 rfl) ?_
          refine r_iret0 S hr hlk hW ?_ dX1_sameCharacters_35
          exact ⟨k, rfl, hk, hP, fun _ z => c25 (PW_s.mp z).2.2⟩
        · refine lv_iinc (v := (nI (k + 1))) (lv' := [(2, .int (nI (k + 1))), (0, .ref (A (0, 22))), (1, .ref (wd.2.2.1 w))]) hxe hcd dX1_sameCharacters_28 hl (k := 2) rfl (nI_add k 1) (by decide) rfl (fun ls hl => ?_)
          refine lv_goto (tgt := 2) hxe hcd dX1_sameCharacters_31 (by decide) ?_
          exact ih2 (k + 1) (by omega) (by omega) (PW_s.mpr ⟨hP, by omega, c25⟩) _ _ _ hW (lv_sub hl [1, 2, 0] rfl)
  exact loop2 ((wl w) + 1) 0 (Nat.lt_succ_self _) (Nat.zero_le _) (PW_0 _ _ _ _) _ _ _ hW (lv_sub hl [1, 2, 0] rfl)
set_option maxHeartbeats 4000000 in
set_option maxRecDepth 100000 in
theorem t_X1_takeCommand (l : Launch) {Z : ZT} (hZ : zOK Z) (A : Nat × Nat → Nat) (g : Nat → Bool) (μ : CM) (sz : Nat) {n : Nat} (hen : μ 0 22 1 = nI n) (hn60 : n ≤ 60) (t : Nat → Nat) (htx : ∀ j, j < n → μ 0 23 j = nI (t j) ∧ t j < 128) {pp : Nat} (hpp : μ 0 22 5 = nI pp) (hpn : pp ≤ n) {cN : Nat} (hcN : μ 0 22 4 = nI cN) (hc12 : pp + 4 ≤ n → cN < 12) {wd : WDT} (hw : ZW Z wd) : XMi l yX1_takeCommand cX1_takeCommand 7 (some .boolean) 5 [.ref (A (0, 22))] Z (ids g) A (cE Z A g) μ sz (fun r u => (∃ (q : Nat) (f : Nat → Int32), cmF t n pp = (none, q) ∧ r = nI 0 ∧ u = TX μ (μ 0 24) f cN q) ∨ (∃ (q w a1 a2 a3 a4 : Nat) (f : Nat → Int32), cmF t n pp = (some (w, a1, a2, a3, a4), q) ∧ r = nI 1 ∧ u = TX μ (upd (μ 0 24) cN (nI (WS w))) f (cN + 1) q ∧ w < 12 ∧ q ≤ n ∧ pp + 4 ≤ q ∧ a1 < 1000 ∧ a2 < 1000 ∧ a3 < 1000 ∧ a4 < 1000 ∧ CMJ u cN w a1 a2 a3 a4 ∧ ∀ k, k < cN * 4 → f k = μ 0 25 k)) := by
  refine r_met (E := (cE Z A g μ)) (by decide +kernel) (Nat.le_of_ble_eq_true rfl) ?_
  intro p e s m below meth c ls S hr hlk hnm hsz hW hl
  have hxe := S.1
  have hcd := S.2.1
  subst hsz
  have hl : lv_has ls 7 [(0, .ref (A (0, 22)))] := hl
  refine lv_iconst (v := (nI 0)) hxe hcd dX1_takeCommand_0 (by decide) ?_
  refine lv_istore_n (lv' := [(1, .int (nI 0)), (0, .ref (A (0, 22)))]) hxe hcd dX1_takeCommand_1 rfl hl (by decide) rfl (fun ls hl => ?_)
  refine r_getsN S hZ hW (hw _ _ _ hW.2.2.2.2.2).2.1 n_866 (fun a h => va_tabs rfl rfl h) dX1_takeCommand_2 ?_
  refine lv_astore_n (lv' := [(2, .ref wd.1), (1, .int (nI 0)), (0, .ref (A (0, 22)))]) hxe hcd dX1_takeCommand_5 rfl hl (by decide) rfl (fun ls hl => ?_)
  refine lv_aload_n hxe hcd dX1_takeCommand_6 rfl (lv_at hl 0 rfl) ?_
  refine r_tlen S hW (hw _ _ _ hW.2.2.2.2.2).2.2.1 dX1_takeCommand_7 ?_
  refine lv_istore_n (lv' := [(3, .int (nI 12)), (2, .ref wd.1), (1, .int (nI 0)), (0, .ref (A (0, 22)))]) hxe hcd dX1_takeCommand_8 rfl hl (by decide) rfl (fun ls hl => ?_)
  refine lv_iconst (v := (nI 0)) hxe hcd dX1_takeCommand_9 (by decide) ?_
  refine lv_istore (lv' := [(4, .int (nI 0)), (3, .int (nI 12)), (2, .ref wd.1), (1, .int (nI 0)), (0, .ref (A (0, 22)))]) hxe hcd dX1_takeCommand_10 hl (by decide) rfl (fun ls hl => ?_)
  have loop12 : ∀ (n_ : Nat) (i lg : Nat), 12 - i < n_ → (i ≤ 12) → (lg ≤ 7) → (∀ w, w < i → ¬ PW t n pp w (wl w)) → (lg = 0 ∨ ∃ w, w < i ∧ PW t n pp w lg) → (∀ w, w < i → ¬ PW t n pp w (lg + 1)) → ∀ (H : Heap) (locs : List Loc) (ls : Array Slot), wX Z (ids g) A (cE Z A g μ) (fA (ids g) A (cE Z A g μ) s.heap.size) s H locs → lv_has ls 7 [(0, .ref (A (0, 22))), (1, .int (nI lg)), (2, .ref wd.1), (3, .int (nI 12)), (4, .int (nI i))] → W p l e (rmD 5 0 0) s m ([.ref (A (0, 22))] : List Value).toArray below meth c H locs 0 0 (MQ below (va_Qi (fun r u => (∃ (q : Nat) (f : Nat → Int32), cmF t n pp = (none, q) ∧ r = nI 0 ∧ u = TX μ (μ 0 24) f cN q) ∨ (∃ (q w a1 a2 a3 a4 : Nat) (f : Nat → Int32), cmF t n pp = (some (w, a1, a2, a3, a4), q) ∧ r = nI 1 ∧ u = TX μ (upd (μ 0 24) cN (nI (WS w))) f (cN + 1) q ∧ w < 12 ∧ q ≤ n ∧ pp + 4 ≤ q ∧ a1 < 1000 ∧ a2 < 1000 ∧ a3 < 1000 ∧ a4 < 1000 ∧ CMJ u cN w a1 a2 a3 a4 ∧ ∀ k, k < cN * 4 → f k = μ 0 25 k)) (fun u t => qB Z (ids g) A ((cE Z A g) u) (fA (ids g) A (cE Z A g μ) s.heap.size) t) (fA (ids g) A (cE Z A g μ) s.heap.size)) ([.ref (A (0, 22))] : List Value).toArray s 0 0 (fA (ids g) A (cE Z A g μ) s.heap.size)) (F0 m 12 ls []) := by
    intro n_
    induction n_ with
    | zero => intro i lg hm; exact absurd hm (Nat.not_lt_zero _)
    | succ n_ ih12 =>
      intro i lg hm hi hlg hno hex hmx H locs ls hW hl
      refine lv_iload hxe hcd dX1_takeCommand_12 (lv_at hl 4 rfl) ?_
      refine lv_iload_n hxe hcd dX1_takeCommand_14 rfl (lv_at hl 3 rfl) ?_
      refine n_ge S (a := i) (b := 12) (by omega) (by omega) dX1_takeCommand_15 (tgt := 79) (by decide) (fun c15 => ?_) (fun c15 => ?_)
      · refine lv_aload_n hxe hcd dX1_takeCommand_79 rfl (lv_at hl 0 rfl) ?_
        refine lv_dup hxe hcd dX1_takeCommand_80 rfl ?_
        refine gf_X1_28 S hW dX1_takeCommand_81 ?_
        refine r_as (y := (nI pp)) (hpp) ?_
        refine lv_iload_n hxe hcd dX1_takeCommand_84 rfl (lv_at hl 1 rfl) ?_
        refine n_iadd S (a := pp) (b := lg) dX1_takeCommand_85 ?_
        refine gp_X1_28 S hW dX1_takeCommand_86 (fun H locs hW => ?_)
        refine lv_iconst (v := (nI 0)) hxe hcd dX1_takeCommand_89 (by decide) ?_
        refine r_zret S hr hlk (F := (cE Z A g)) (u := (up2 μ 0 22 (upd (μ 0 22) 5 (nI (pp + lg))))) hW (by decide +kernel) ?_ dX1_takeCommand_90
        rw [show i = 12 by omega] at hno hex hmx
        exact Or.inl ⟨pp + lg, μ 0 25, cmF_k (WNO_mx hno hex hmx), rfl, TX_q0 hcN _⟩
      · have hWA0 := WA_12 (w := i) (by omega)
        refine lv_aload_n hxe hcd dX1_takeCommand_18 rfl (lv_at hl 2 rfl) ?_
        refine lv_iload hxe hcd dX1_takeCommand_19 (lv_at hl 4 rfl) ?_
        refine r_tq S hW (f := wd.2.1) (k := i) (hw _ _ _ hW.2.2.2.2.2).2.2.1 (by omega) (by decide) dX1_takeCommand_21 ?_
        refine lv_astore (lv' := [(5, .ref (wd.2.1 i)), (0, .ref (A (0, 22))), (1, .int (nI lg)), (2, .ref wd.1), (3, .int (nI 12)), (4, .int (nI i))]) hxe hcd dX1_takeCommand_22 hl (by decide) rfl (fun ls hl => ?_)
        refine lv_aload_n hxe hcd dX1_takeCommand_24 rfl (lv_at hl 1 rfl) ?_
        refine lv_aload hxe hcd dX1_takeCommand_25 (lv_at hl 0 rfl) ?_
        refine r_getO S hW ((hw _ _ _ hW.2.2.2.2.2).2.2.2 i (by omega)).1 g_1623 dX1_takeCommand_27 ?_
        refine r_calli0 (r_runV hZ S hW (As := [.ref (wd.2.2.1 i)]) (rest := []) (t_X1_sameCharacters l hZ A g μ H.size hen hn60 t htx (pp := pp) hpp (by omega) hw (w := i) (by omega)) k_X1_65 (r_recv hW (x := (0, 22)) (in_r (by decide) (by decide)) rfl rfl) (hl.1) rfl rfl (Nat.le_of_ble_eq_true rfl) ⟨Nat.le_of_ble_eq_true rfl, Nat.le_of_ble_eq_true rfl⟩ ⟨Nat.le_of_ble_eq_true rfl, Nat.le_of_ble_eq_true rfl⟩ dX1_takeCommand_30) hW (fun r30 H locs hp30 hW => ?_)
        obtain ⟨k30, hr30, hk30, hP30, hX30⟩ := hp30
        subst hr30
        refine lv_istore (lv' := [(6, .int (nI k30)), (5, .ref (wd.2.1 i)), (0, .ref (A (0, 22))), (1, .int (nI lg)), (2, .ref wd.1), (3, .int (nI 12)), (4, .int (nI i))]) hxe hcd dX1_takeCommand_33 hl (by decide) rfl (fun ls hl => ?_)
        refine lv_iload hxe hcd dX1_takeCommand_35 (lv_at hl 0 rfl) ?_
        refine lv_aload hxe hcd dX1_takeCommand_37 (lv_at hl 1 rfl) ?_
        refine r_getO S hW ((hw _ _ _ hW.2.2.2.2.2).2.2.2 i (by omega)).1 g_1623 dX1_takeCommand_39 ?_
        refine r_calli0 (r_runV hZ S hW (As := []) (rest := [.int (nI k30)]) (t_J0_length_8abf5 l hZ (ids g) A (cE Z A g μ) H.size (fun A U H h => ((hw A U H h).2.2.2 i (by first | decide | omega)).2.2.2.1) (fun A U H h => (hw A U H h).1) (by first | decide | omega)) k_X1_69 (va_Orecv ((hw _ _ _ hW.2.2.2.2.2).2.2.2 i (by first | decide | omega)).2.2.2.1.1 hW.2.2.1) (hl.1) rfl rfl (Nat.le_of_ble_eq_true rfl) ⟨Nat.le_of_ble_eq_true rfl, Nat.le_of_ble_eq_true rfl⟩ ⟨Nat.le_of_ble_eq_true rfl, Nat.le_of_ble_eq_true rfl⟩ dX1_takeCommand_42) hW (fun r42 H locs hp42 hW => ?_)
        have hp42 := hp42.symm
        subst hp42
        refine r_as (y := (nI (wl i))) (rfl) ?_
        refine n_ne S (a := k30) (b := (wl i)) (by omega) (by omega) dX1_takeCommand_45 (tgt := 66) (by decide) (fun c45 => ?_) (fun c45 => ?_)
        · refine lv_iload_n hxe hcd dX1_takeCommand_66 rfl (lv_at hl 3 rfl) ?_
          refine lv_iload hxe hcd dX1_takeCommand_67 (lv_at hl 0 rfl) ?_
          refine r_max S hl.1 g_941 g_333 (Nat.le_of_ble_eq_true rfl) (Nat.le_of_ble_eq_true rfl) (Nat.le_of_ble_eq_true rfl) (Nat.le_of_ble_eq_true rfl) dX1_takeCommand_69 ?_
          refine r_as (y := (nI (max lg k30))) (imax_N (by omega) (by omega)) ?_
          refine lv_istore_n (lv' := [(1, .int (nI (max lg k30))), (6, .int (nI k30)), (5, .ref (wd.2.1 i)), (0, .ref (A (0, 22))), (2, .ref wd.1), (3, .int (nI 12)), (4, .int (nI i))]) hxe hcd dX1_takeCommand_72 rfl hl (by decide) rfl (fun ls hl => ?_)
          refine lv_iinc (v := (nI (i + 1))) (lv' := [(4, .int (nI (i + 1))), (1, .int (nI (max lg k30))), (6, .int (nI k30)), (5, .ref (wd.2.1 i)), (0, .ref (A (0, 22))), (2, .ref wd.1), (3, .int (nI 12))]) hxe hcd dX1_takeCommand_73 hl (k := 6) rfl (nI_add i 1) (by decide) rfl (fun ls hl => ?_)
          refine lv_goto (tgt := 12) hxe hcd dX1_takeCommand_76 (by decide) ?_
          exact ih12 (i + 1) (max lg k30) (by omega) (by omega) (by omega) (max_PW hno hmx hX30 (by omega)).1 (ex_PW hex hP30) (max_PW hno hmx hX30 (by omega)).2 _ _ _ hW (lv_sub hl [4, 1, 5, 6, 0] rfl)
        · refine lv_aload_n hxe hcd dX1_takeCommand_48 rfl (lv_at hl 2 rfl) ?_
          refine lv_dup hxe hcd dX1_takeCommand_49 rfl ?_
          refine gf_X1_28 S hW dX1_takeCommand_50 ?_
          refine r_as (y := (nI pp)) (hpp) ?_
          refine lv_iload hxe hcd dX1_takeCommand_53 (lv_at hl 0 rfl) ?_
          refine n_iadd S (a := pp) (b := k30) dX1_takeCommand_55 ?_
          refine gp_X1_28 S hW dX1_takeCommand_56 (fun H locs hW => ?_)
          have hW : wX Z (ids g) A (cE Z A g (CQ μ (pp + k30))) _ s H locs := hW
          have hok : WOK t n pp i := ⟨by omega, by rw [← c45]; exact hP30⟩
          have hin : pp + k30 ≤ n := by rcases PW_in hP30 with h | h <;> omega
          have hWA := WA_12 hok.1
          refine lv_aload_n hxe hcd dX1_takeCommand_59 rfl (lv_at hl 2 rfl) ?_
          refine lv_aload hxe hcd dX1_takeCommand_60 (lv_at hl 1 rfl) ?_
          refine r_calli (F := (cE Z A g)) (r_runV hZ S hW (As := [.ref (wd.2.1 i)]) (rest := []) (t_X1_takeNumbers l hZ A g (CQ μ (pp + k30)) H.size ((CQ_n _ _).trans hen) hn60 t (fun j hj => by rw [CQ_t]; exact htx j hj) (pp := pp + k30) (CQ_h _ _) (by omega) (cN := cN) ((CQ_c _ _).trans hcN) (hc12 (by omega)) hw (w := i) hok.1) k_X1_74 (r_recv hW (x := (0, 22)) (in_r (by decide) (by decide)) rfl rfl) (hl.1) rfl rfl (Nat.le_of_ble_eq_true rfl) ⟨Nat.le_of_ble_eq_true rfl, Nat.le_of_ble_eq_true rfl⟩ ⟨Nat.le_of_ble_eq_true rfl, Nat.le_of_ble_eq_true rfl⟩ dX1_takeCommand_62) hW (fun r62 u62 H locs hp62 hW => ?_)
          rcases hp62 with ⟨q, f, hc1, rfl, hu⟩ | ⟨q, a1, a2, a3, a4, f, hc1, rfl, hu, hqn, hpq, hb1, hb2, hb3, hb4, hcmj, hkeep⟩
          · rw [CQ_o _ _ (by decide), TX_CQ] at hu
            subst hu
            refine r_zret S hr hlk (F := (cE Z A g)) (u := (TX μ (μ 0 24) f cN q)) hW (by decide +kernel) ?_ dX1_takeCommand_65
            exact Or.inl ⟨q, f, ((cmF_w hok).trans (by rw [← c45]; exact hc1)), rfl, rfl⟩
          · rw [CQ_o _ _ (by decide), TX_CQ] at hu
            subst hu
            refine r_zret S hr hlk (F := (cE Z A g)) (u := (TX μ (upd (μ 0 24) cN (nI (WS i))) f (cN + 1) q)) hW (by decide +kernel) ?_ dX1_takeCommand_65
            exact Or.inr ⟨q, i, a1, a2, a3, a4, f, ((cmF_w hok).trans (by rw [← c45]; exact hc1)), rfl, rfl, hok.1, hqn, by omega, hb1, hb2, hb3, hb4, hcmj, fun k hk => by rw [hkeep k hk, CQ_o _ _ (by decide)]⟩
  exact loop12 (12 + 1) 0 0 (Nat.lt_succ_self _) (Nat.zero_le _) (Nat.zero_le _) (fun w h => absurd h (Nat.not_lt_zero _)) (Or.inl rfl) (fun w h => absurd h (Nat.not_lt_zero _)) _ _ _ hW (lv_sub hl [4, 3, 2, 1, 0] rfl)
set_option maxHeartbeats 4000000 in
set_option maxRecDepth 100000 in
theorem t_X1_parse (l : Launch) {Z : ZT} (hZ : zOK Z) (A : Nat × Nat → Nat) (g : Nat → Bool) (μ : CM) (sz : Nat) {n : Nat} (hen : μ 0 22 1 = nI n) (hn60 : n ≤ 60) (t : Nat → Nat) (htx : ∀ j, j < n → μ 0 23 j = nI (t j) ∧ t j < 128) {wd : WDT} (hw : ZW Z wd) : XMi l yX1_parse cX1_parse 2 (some .boolean) 6 [.ref (A (0, 22))] Z (ids g) A (cE Z A g) μ sz (fun r u => (∃ (mm : Nat) (f24 f25 : Nat → Int32), TOK t n mm ∧ mm < 12 ∧ r = nI 1 ∧ u = TX μ f24 f25 (mm + 1) n ∧ ∀ j, j ≤ mm → CMF f24 f25 t n j) ∨ (∃ (mm c2 : Nat) (f24 f25 : Nat → Int32), TNO t n mm ∧ r = nI 0 ∧ u = TX μ f24 f25 c2 (enF t n mm))) := by
  refine r_met (E := (cE Z A g μ)) (by decide +kernel) (Nat.le_of_ble_eq_true rfl) ?_
  intro p e s m below meth c ls S hr hlk hnm hsz hW hl
  have hxe := S.1
  have hcd := S.2.1
  subst hsz
  have hl : lv_has ls 2 [(0, .ref (A (0, 22)))] := hl
  refine lv_aload_n hxe hcd dX1_parse_0 rfl (lv_at hl 0 rfl) ?_
  refine lv_iconst (v := (nI 0)) hxe hcd dX1_parse_1 (by decide) ?_
  refine gp_X1_25 S hW dX1_parse_2 (fun H locs hW => ?_)
  refine lv_aload_n hxe hcd dX1_parse_5 rfl (lv_at hl 0 rfl) ?_
  refine lv_iconst (v := (nI 0)) hxe hcd dX1_parse_6 (by decide) ?_
  refine gp_X1_28 S hW dX1_parse_7 (fun H locs hW => ?_)
  refine lv_iconst (v := (nI 0)) hxe hcd dX1_parse_10 (by decide) ?_
  refine lv_istore_n (lv' := [(1, .int (nI 0)), (0, .ref (A (0, 22)))]) hxe hcd dX1_parse_11 rfl hl (by decide) rfl (fun ls hl => ?_)
  have loop12 : ∀ (n_ : Nat) (mm : Nat) (f24 f25 : Nat → Int32), 60 - mm < n_ → (GP t n mm) → (5 * mm ≤ stF t n mm) → (stF t n mm ≤ n) → (∀ j, j < mm → CMF f24 f25 t n j) → ∀ (H : Heap) (locs : List Loc) (ls : Array Slot), wX Z (ids g) A (cE Z A g (TX μ f24 f25 mm (stF t n mm))) (fA (ids g) A (cE Z A g μ) s.heap.size) s H locs → lv_has ls 2 [(0, .ref (A (0, 22))), (1, .int (nI mm))] → W p l e (rmD 6 0 0) s m ([.ref (A (0, 22))] : List Value).toArray below meth c H locs 0 0 (MQ below (va_Qi (fun r u => (∃ (mm : Nat) (f24 f25 : Nat → Int32), TOK t n mm ∧ mm < 12 ∧ r = nI 1 ∧ u = TX μ f24 f25 (mm + 1) n ∧ ∀ j, j ≤ mm → CMF f24 f25 t n j) ∨ (∃ (mm c2 : Nat) (f24 f25 : Nat → Int32), TNO t n mm ∧ r = nI 0 ∧ u = TX μ f24 f25 c2 (enF t n mm))) (fun u t => qB Z (ids g) A ((cE Z A g) u) (fA (ids g) A (cE Z A g μ) s.heap.size) t) (fA (ids g) A (cE Z A g μ) s.heap.size)) ([.ref (A (0, 22))] : List Value).toArray s 0 0 (fA (ids g) A (cE Z A g μ) s.heap.size)) (F0 m 12 ls []) := by
    intro n_
    induction n_ with
    | zero => intro mm f24 f25 hm; exact absurd hm (Nat.not_lt_zero _)
    | succ n_ ih12 =>
      intro mm f24 f25 hm hG h5 hle hCM H locs ls hW hl
      refine lv_iload_n hxe hcd dX1_parse_12 rfl (lv_at hl 1 rfl) ?_
      refine lv_bipush (v := (nI 60)) hxe hcd dX1_parse_13 (by decide) ?_
      refine n_ge S (a := mm) (b := 60) (by omega) (by omega) dX1_parse_15 (tgt := 57) (by decide) (fun c15 => ?_) (fun c15 => ?_)
      · refine lv_iconst (v := (nI 0)) hxe hcd dX1_parse_57 (by decide) ?_
        refine r_zret S hr hlk (F := (cE Z A g)) (u := (TX μ f24 f25 mm (stF t n mm))) hW (by decide +kernel) ?_ dX1_parse_58
        exact absurd c15 (by omega)
      · refine lv_aload_n hxe hcd dX1_parse_18 rfl (lv_at hl 0 rfl) ?_
        refine r_calli (F := (cE Z A g)) (r_runV hZ S hW (As := []) (rest := []) (t_X1_takeCommand l hZ A g (TX μ f24 f25 mm (stF t n mm)) H.size ((TX_n _ _ _ _ _).trans hen) hn60 t (fun j hj => by rw [TX_t]; exact htx j hj) (pp := stF t n mm) (TX_h _ _ _ _ _) hle (cN := mm) (TX_c _ _ _ _ _) (fun h => by omega) hw) k_X1_43 (r_recv hW (x := (0, 22)) (in_r (by decide) (by decide)) rfl rfl) (hl.1) rfl rfl (Nat.le_of_ble_eq_true rfl) ⟨Nat.le_of_ble_eq_true rfl, Nat.le_of_ble_eq_true rfl⟩ ⟨Nat.le_of_ble_eq_true rfl, Nat.le_of_ble_eq_true rfl⟩ dX1_parse_19) hW (fun r19 u19 H locs hp19 hW => ?_)
        rcases hp19 with ⟨q, f, hcm, rfl, hu⟩ | ⟨q, w, a1, a2, a3, a4, f, hcm, rfl, hu, hw12, hqn, hpq, hb1, hb2, hb3, hb4, hcmj, hkeep⟩
        · rw [TX_24, TX_TX] at hu
          subst hu
          have hen2 : enF t n mm = q := by rw [enF, hcm]
          have hco : coF t n mm = none := by rw [coF, hcm]
          refine lv_if_ne (tgt := 27) hxe hcd dX1_parse_22 (by decide) (fun h => absurd h (by decide)) (fun _ => ?_)
          refine lv_iconst (v := (nI 0)) hxe hcd dX1_parse_25 (by decide) ?_
          refine r_zret S hr hlk (F := (cE Z A g)) (u := (TX μ f24 f mm q)) hW (by decide +kernel) ?_ dX1_parse_26
          exact Or.inr ⟨mm, mm, f24, f, ⟨hG, Or.inl hco⟩, rfl, by rw [hen2]⟩
        · rw [TX_24, TX_TX] at hu
          subst hu
          have hen2 : enF t n mm = q := by rw [enF, hcm]
          have hco : coF t n mm = some (w, a1, a2, a3, a4) := by rw [coF, hcm]
          have hst : stF t n (mm + 1) = q + 1 := by rw [stF, hcm]
          rw [TX_25] at hkeep
          have hCM2 : ∀ j, j < mm + 1 → CMF (upd f24 mm (nI (WS w))) f t n j := fun j hj => by rcases Nat.lt_succ_iff_lt_or_eq.mp hj with h | h; exact CMF_k (hCM j h) h hkeep; rw [h]; exact CMF_n hco hw12 hb1 hb2 hb3 hb4 hcmj
          refine lv_if_ne (tgt := 27) hxe hcd dX1_parse_22 (by decide) (fun _ => ?_) (fun h => absurd h (by decide))
          refine lv_aload_n hxe hcd dX1_parse_27 rfl (lv_at hl 0 rfl) ?_
          refine gf_X1_28 S hW dX1_parse_28 ?_
          refine r_as (y := (nI q)) (TX_h _ _ _ _ _) ?_
          refine lv_aload_n hxe hcd dX1_parse_31 rfl (lv_at hl 0 rfl) ?_
          refine gf_X1_15 S hW dX1_parse_32 ?_
          refine r_as (y := (nI n)) ((TX_n _ _ _ _ _).trans hen) ?_
          refine n_ne S (a := q) (b := n) (by omega) (by omega) dX1_parse_35 (tgt := 40) (by decide) (fun c35 => ?_) (fun c35 => ?_)
          · refine lv_aload_n hxe hcd dX1_parse_40 rfl (lv_at hl 0 rfl) ?_
            refine lv_bipush (v := (nI 59)) hxe hcd dX1_parse_41 (by decide) ?_
            refine r_calli (F := (cE Z A g)) (r_runV hZ S hW (As := [.int (nI 59)]) (rest := []) (t_X1_takeSign l hZ A g (TX μ (upd f24 mm (nI (WS w))) f (mm + 1) q) H.size ((TX_n _ _ _ _ _).trans hen) hn60 t (fun j hj => by rw [TX_t]; exact htx j hj) (pp := q) (TX_h _ _ _ _ _) (by omega) (nI 59)) k_X1_47 (r_recv hW (x := (0, 22)) (in_r (by decide) (by decide)) rfl rfl) (hl.1) rfl rfl (Nat.le_of_ble_eq_true rfl) ⟨Nat.le_of_ble_eq_true rfl, Nat.le_of_ble_eq_true rfl⟩ ⟨Nat.le_of_ble_eq_true rfl, Nat.le_of_ble_eq_true rfl⟩ dX1_parse_43) hW (fun r43 u43 H locs hp43 hW => ?_)
            rcases hp43 with ⟨hk43_1, rfl, hu⟩ | ⟨hk43_1, rfl, rfl⟩
            · have hu := hu.trans (TX_q _ _ _ _ _ _)
              subst hu
              have hlt43_1 := chT_in (by decide) hk43_1
              refine lv_if_ne (tgt := 51) hxe hcd dX1_parse_46 (by decide) (fun _ => ?_) (fun h => absurd h (by decide))
              refine lv_iinc (v := (nI (mm + 1))) (lv' := [(1, .int (nI (mm + 1))), (0, .ref (A (0, 22)))]) hxe hcd dX1_parse_51 hl (k := 1) rfl (nI_add mm 1) (by decide) rfl (fun ls hl => ?_)
              refine lv_goto (tgt := 12) hxe hcd dX1_parse_54 (by decide) ?_
              exact ih12 (mm + 1) (upd f24 mm (nI (WS w))) f (by omega) (GP_s hG (by rw [hco]; exact Option.some_ne_none _) (by omega) (by rw [hen2]; exact hk43_1)) (by omega) (by omega) hCM2 _ _ _ (by rw [hst]; exact hW) (lv_sub hl [1, 0] rfl)
            · refine lv_if_ne (tgt := 51) hxe hcd dX1_parse_46 (by decide) (fun h => absurd h (by decide)) (fun _ => ?_)
              refine lv_iconst (v := (nI 0)) hxe hcd dX1_parse_49 (by decide) ?_
              refine r_zret S hr hlk (F := (cE Z A g)) (u := (TX μ (upd f24 mm (nI (WS w))) f (mm + 1) q)) hW (by decide +kernel) ?_ dX1_parse_50
              exact Or.inr ⟨mm, mm + 1, upd f24 mm (nI (WS w)), f, ⟨hG, Or.inr ⟨by omega, by rw [hen2]; exact hk43_1⟩⟩, rfl, by rw [hen2]⟩
          · refine lv_iconst (v := (nI 1)) hxe hcd dX1_parse_38 (by decide) ?_
            refine r_zret S hr hlk (F := (cE Z A g)) (u := (TX μ (upd f24 mm (nI (WS w))) f (mm + 1) q)) hW (by decide +kernel) ?_ dX1_parse_39
            exact Or.inl ⟨mm, upd f24 mm (nI (WS w)), f, ⟨hG, by rw [hco]; exact Option.some_ne_none _, by rw [hen2]; exact c35⟩, by omega, rfl, by rw [← c35], fun j hj => hCM2 j (by omega)⟩
  exact loop12 (60 + 1) 0 (μ 0 24) (μ 0 25) (Nat.lt_succ_self _) (fun j h => absurd h (Nat.not_lt_zero _)) (Nat.zero_le _) (Nat.zero_le _) (fun j h => absurd h (Nat.not_lt_zero _)) _ _ _ (by rw [TX_i] at hW; exact hW) (lv_sub hl [1, 0] rfl)
