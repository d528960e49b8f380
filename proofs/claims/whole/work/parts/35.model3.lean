set_option maxHeartbeats 4000000 in
set_option maxRecDepth 100000 in
theorem t_X10_notes (l : Launch) {Z : ZT} (hZ : zOK Z) (B : Nat → Nat) (ν : MM) (sz : Nat) (ln : Nat → Nat) (hln : ∀ q, q < 4 → ν 1 (25 + q) = nI (ln q) ∧ ln q ≤ 160) (nn : Nat → Nat) (hnn : ∀ q, q < 4 → ν 1 (21 + q) = nI (nn q) ∧ nn q ≤ ln q) (x Pv am le : Int32) : XMi l yX10_notes cX10_notes 7 (some .int) 2 [.ref (B 0), .int x, .int Pv, .int am, .int le] Z mds B (mE Z B) ν sz (fun r u => (¬ IX x 4 ∧ r = nI 0 ∧ u = up1 ν 0 (upd (ν 0) 0 (nI 1))) ∨ (IX x 4 ∧ ¬ NV Pv am le ∧ r = nI 0 ∧ u = up1 ν 0 (upd (ν 0) 0 (nI 2))) ∨ (∃ q k, q < 4 ∧ x = nI q ∧ NV Pv am le ∧ 1 ≤ k ∧ k ≤ 40 ∧ le = nI k ∧ ¬ ln q + k ≤ 160 ∧ r = nI 0 ∧ u = up1 ν 0 (upd (ν 0) 0 (nI 3))) ∨ (∃ q k P, q < 4 ∧ x = nI q ∧ NV Pv am le ∧ 1 ≤ k ∧ k ≤ 40 ∧ le = nI k ∧ 2 ≤ P ∧ P ≤ 20 ∧ Pv = nI P ∧ ln q + k ≤ 160 ∧ r = nI (ln q + k) ∧ u = up1 ν 1 (noteV (ν 1) q (ln q) (nn q) P am k))) := by
  refine r_met (E := (mE Z B ν)) (by decide +kernel) (Nat.le_of_ble_eq_true rfl) ?_
  intro p e s m below meth c ls S hr hlk hnm hsz hW hl
  have hxe := S.1
  have hcd := S.2.1
  subst hsz
  have hl : lv_has ls 7 [(0, .ref (B 0)), (1, .int x), (2, .int Pv), (3, .int am), (4, .int le)] := hl
  refine lv_iload_n hxe hcd dX10_notes_0 rfl (lv_at hl 1 rfl) ?_
  refine r_calli0 (r_runS hZ S hW (As := [.int x]) (rest := []) (t_X10_isSong l hZ mds B (mE Z B ν) s.heap.size x) k_X10_105 (hl.1) rfl rfl (Nat.le_of_ble_eq_true rfl) ⟨Nat.le_of_ble_eq_true rfl, Nat.le_of_ble_eq_true rfl⟩ ⟨Nat.le_of_ble_eq_true rfl, Nat.le_of_ble_eq_true rfl⟩ dX10_notes_1) hW (fun r1 H locs hp1 hW => ?_)
  rcases hp1 with ⟨hp10, hp1⟩ | ⟨hp10, hp1⟩
  · subst hp10
    refine lv_if_ne (tgt := 13) hxe hcd dX10_notes_4 (by decide) (fun _ => ?_) (fun h => absurd h (by decide))
    refine lv_iload_n hxe hcd dX10_notes_13 rfl (lv_at hl 2 rfl) ?_
    refine lv_iconst (v := (nI 2)) hxe hcd dX10_notes_14 (by decide) ?_
    refine lv_bipush (v := (nI 20)) hxe hcd dX10_notes_15 (by decide) ?_
    refine r_calli0 (r_runS hZ S hW (As := [.int Pv, .int (nI 2), .int (nI 20)]) (rest := []) (t_X10_isIn l hZ mds B (mE Z B ν) H.size Pv (nI 2) (nI 20)) k_X10_63 (hl.1) rfl rfl (Nat.le_of_ble_eq_true rfl) ⟨Nat.le_of_ble_eq_true rfl, Nat.le_of_ble_eq_true rfl⟩ ⟨Nat.le_of_ble_eq_true rfl, Nat.le_of_ble_eq_true rfl⟩ dX10_notes_17) hW (fun r17 H locs hp17 hW => ?_)
    rcases hp17 with ⟨hp170, hp17⟩ | ⟨hp170, hp17⟩
    · subst hp170
      refine lv_if_eq (tgt := 45) hxe hcd dX10_notes_20 (by decide) (fun h => absurd h (by decide)) (fun _ => ?_)
      refine lv_iload_n hxe hcd dX10_notes_23 rfl (lv_at hl 3 rfl) ?_
      refine lv_iconst (v := (nI 1)) hxe hcd dX10_notes_24 (by decide) ?_
      refine lv_sipush (v := (nI 999)) hxe hcd dX10_notes_25 (by decide) ?_
      refine r_calli0 (r_runS hZ S hW (As := [.int am, .int (nI 1), .int (nI 999)]) (rest := []) (t_X10_isIn l hZ mds B (mE Z B ν) H.size am (nI 1) (nI 999)) k_X10_63 (hl.1) rfl rfl (Nat.le_of_ble_eq_true rfl) ⟨Nat.le_of_ble_eq_true rfl, Nat.le_of_ble_eq_true rfl⟩ ⟨Nat.le_of_ble_eq_true rfl, Nat.le_of_ble_eq_true rfl⟩ dX10_notes_28) hW (fun r28 H locs hp28 hW => ?_)
      rcases hp28 with ⟨hp280, hp28⟩ | ⟨hp280, hp28⟩
      · subst hp280
        refine lv_if_eq (tgt := 45) hxe hcd dX10_notes_31 (by decide) (fun h => absurd h (by decide)) (fun _ => ?_)
        refine lv_iload hxe hcd dX10_notes_34 (lv_at hl 4 rfl) ?_
        refine lv_iconst (v := (nI 1)) hxe hcd dX10_notes_36 (by decide) ?_
        refine lv_bipush (v := (nI 40)) hxe hcd dX10_notes_37 (by decide) ?_
        refine r_calli0 (r_runS hZ S hW (As := [.int le, .int (nI 1), .int (nI 40)]) (rest := []) (t_X10_isIn l hZ mds B (mE Z B ν) H.size le (nI 1) (nI 40)) k_X10_63 (hl.1) rfl rfl (Nat.le_of_ble_eq_true rfl) ⟨Nat.le_of_ble_eq_true rfl, Nat.le_of_ble_eq_true rfl⟩ ⟨Nat.le_of_ble_eq_true rfl, Nat.le_of_ble_eq_true rfl⟩ dX10_notes_39) hW (fun r39 H locs hp39 hW => ?_)
        rcases hp39 with ⟨hp390, hp39⟩ | ⟨hp390, hp39⟩
        · subst hp390
          refine lv_if_ne (tgt := 51) hxe hcd dX10_notes_42 (by decide) (fun _ => ?_) (fun h => absurd h (by decide))
          obtain ⟨q, hq, rfl⟩ := hp1
          have nv : NV Pv am le := ⟨hp17, hp28, hp39⟩
          obtain ⟨k, hk1, hk2, hk⟩ := (I_rng2 (by decide) (by decide)).mp hp39
          obtain ⟨P, hP1, hP2, hP⟩ := (I_rng2 (by decide) (by decide)).mp hp17
          have hlq := hln q hq
          have hnq := hnn q hq
          have hl : lv_has ls 7 [(0, .ref (B 0)), (1, .int (nI q)), (2, .int (nI P)), (3, .int am), (4, .int (nI k))] := by rw [← hP, ← hk]; exact hl
          refine lv_aload_n hxe hcd dX10_notes_51 rfl (lv_at hl 0 rfl) ?_
          refine gf_X10_16 S hW dX10_notes_52 ?_
          refine lv_bipush (v := (nI 25)) hxe hcd dX10_notes_55 (by decide) ?_
          refine lv_iload_n hxe hcd dX10_notes_57 rfl (lv_at hl 1 rfl) ?_
          refine n_iadd S (a := 25) (b := q) dX10_notes_58 ?_
          refine gm_ald S hW (i := 1) (k := (25 + q)) (n := 1357) (by decide) (by decide) rfl (by omega) dX10_notes_59 ?_
          refine r_as (y := (nI (ln q))) (hlq.1) ?_
          refine lv_istore (lv' := [(5, .int (nI (ln q))), (0, .ref (B 0)), (1, .int (nI q)), (2, .int (nI P)), (3, .int am), (4, .int (nI k))]) hxe hcd dX10_notes_60 hl (by decide) rfl (fun ls hl => ?_)
          refine lv_iload hxe hcd dX10_notes_62 (lv_at hl 0 rfl) ?_
          refine lv_iload hxe hcd dX10_notes_64 (lv_at hl 5 rfl) ?_
          refine n_iadd S (a := (ln q)) (b := k) dX10_notes_66 ?_
          refine lv_sipush (v := (nI 160)) hxe hcd dX10_notes_67 (by decide) ?_
          refine n_le S (a := ((ln q) + k)) (b := 160) (by omega) (by omega) dX10_notes_70 (tgt := 79) (by decide) (fun c70 => ?_) (fun c70 => ?_)
          · refine lv_iconst (v := (nI 0)) hxe hcd dX10_notes_79 (by decide) ?_
            refine lv_istore (lv' := [(6, .int (nI 0)), (5, .int (nI (ln q))), (0, .ref (B 0)), (1, .int (nI q)), (2, .int (nI P)), (3, .int am), (4, .int (nI k))]) hxe hcd dX10_notes_80 hl (by decide) rfl (fun ls hl => ?_)
            have loop82 : ∀ (n_ : Nat) (i : Nat), k - i < n_ → (i ≤ k) → ∀ (H : Heap) (locs : List Loc) (ls : Array Slot), wX Z mds B (mE Z B (up1 ν 1 (ntR (ν 1) (77 + 160 * q + ln q) P am i))) (fA mds B (mE Z B ν) s.heap.size) s H locs → lv_has ls 7 [(0, .ref (B 0)), (1, .int (nI q)), (2, .int (nI P)), (3, .int am), (4, .int (nI k)), (5, .int (nI (ln q))), (6, .int (nI i))] → W p l e (rmD 2 0 0) s m ([.ref (B 0), .int (nI q), .int Pv, .int am, .int le] : List Value).toArray below meth c H locs 0 0 (MQ below (va_Qi (fun r u => (¬ IX (nI q) 4 ∧ r = nI 0 ∧ u = up1 ν 0 (upd (ν 0) 0 (nI 1))) ∨ (IX (nI q) 4 ∧ ¬ NV Pv am le ∧ r = nI 0 ∧ u = up1 ν 0 (upd (ν 0) 0 (nI 2))) ∨ (∃ q_z k_z, q_z < 4 ∧ (nI q) = nI q_z ∧ NV Pv am le ∧ 1 ≤ k_z ∧ k_z ≤ 40 ∧ le = nI k_z ∧ ¬ ln q_z + k_z ≤ 160 ∧ r = nI 0 ∧ u = up1 ν 0 (upd (ν 0) 0 (nI 3))) ∨ (∃ q_z k_z P_z, q_z < 4 ∧ (nI q) = nI q_z ∧ NV Pv am le ∧ 1 ≤ k_z ∧ k_z ≤ 40 ∧ le = nI k_z ∧ 2 ≤ P_z ∧ P_z ≤ 20 ∧ Pv = nI P_z ∧ ln q_z + k_z ≤ 160 ∧ r = nI (ln q_z + k_z) ∧ u = up1 ν 1 (noteV (ν 1) q_z (ln q_z) (nn q_z) P_z am k_z))) (fun u t => qB Z mds B ((mE Z B) u) (fA mds B (mE Z B ν) s.heap.size) t) (fA mds B (mE Z B ν) s.heap.size)) ([.ref (B 0), .int (nI q), .int Pv, .int am, .int le] : List Value).toArray s 0 0 (fA mds B (mE Z B ν) s.heap.size)) (F0 m 82 ls []) := by
              intro n_
              induction n_ with
              | zero => intro i hm; exact absurd hm (Nat.not_lt_zero _)
              | succ n_ ih82 =>
                intro i hm hi H locs ls hW hl
                have hmp : i % P < P := Nat.mod_lt _ (by omega)
                have hd2 : P / 2 ≤ P := Nat.div_le_self _ _
                refine lv_iload hxe hcd dX10_notes_82 (lv_at hl 6 rfl) ?_
                refine lv_iload hxe hcd dX10_notes_84 (lv_at hl 4 rfl) ?_
                refine n_ge S (a := i) (b := k) (by omega) (by omega) dX10_notes_86 (tgt := 130) (by decide) (fun c86 => ?_) (fun c86 => ?_)
                · refine lv_aload_n hxe hcd dX10_notes_130 rfl (lv_at hl 0 rfl) ?_
                  refine gf_X10_16 S hW dX10_notes_131 ?_
                  refine lv_sipush (v := (nI 717)) hxe hcd dX10_notes_134 (by decide) ?_
                  refine lv_sipush (v := (nI 160)) hxe hcd dX10_notes_137 (by decide) ?_
                  refine lv_iload_n hxe hcd dX10_notes_140 rfl (lv_at hl 1 rfl) ?_
                  refine n_imul S (a := 160) (b := q) dX10_notes_141 ?_
                  refine n_iadd S (a := 717) (b := (160 * q)) dX10_notes_142 ?_
                  refine lv_aload_n hxe hcd dX10_notes_143 rfl (lv_at hl 0 rfl) ?_
                  refine gf_X10_16 S hW dX10_notes_144 ?_
                  refine lv_bipush (v := (nI 21)) hxe hcd dX10_notes_147 (by decide) ?_
                  refine lv_iload_n hxe hcd dX10_notes_149 rfl (lv_at hl 1 rfl) ?_
                  refine n_iadd S (a := 21) (b := q) dX10_notes_150 ?_
                  refine gm_ald S hW (i := 1) (k := (21 + q)) (n := 1357) (by decide) (by decide) rfl (by omega) dX10_notes_151 ?_
                  refine r_as (y := (nI (nn q))) (by rw [up1_s, ntR, if_neg (by omega), hnq.1]) ?_
                  refine n_iadd S (a := (717 + (160 * q))) (b := (nn q)) dX10_notes_152 ?_
                  refine lv_iload hxe hcd dX10_notes_153 (lv_at hl 4 rfl) ?_
                  refine gm_ast S hW (i := 1) (k := ((717 + (160 * q)) + (nn q))) (n := 1357) (by decide) (by decide) rfl (by omega) dX10_notes_155 (fun H locs hW => ?_)
                  refine lv_aload_n hxe hcd dX10_notes_156 rfl (lv_at hl 0 rfl) ?_
                  refine gf_X10_16 S hW dX10_notes_157 ?_
                  refine lv_bipush (v := (nI 21)) hxe hcd dX10_notes_160 (by decide) ?_
                  refine lv_iload_n hxe hcd dX10_notes_162 rfl (lv_at hl 1 rfl) ?_
                  refine n_iadd S (a := 21) (b := q) dX10_notes_163 ?_
                  refine lv_dup2_11 hxe hcd dX10_notes_164 rfl rfl ?_
                  refine gm_ald S hW (i := 1) (k := (21 + q)) (n := 1357) (by decide) (by decide) rfl (by omega) dX10_notes_165 ?_
                  refine r_as (y := (nI (nn q))) (by simp only [up1_s]; rw [upd_o (by omega), ntR, if_neg (by omega), hnq.1]) ?_
                  refine lv_iconst (v := (nI 1)) hxe hcd dX10_notes_166 (by decide) ?_
                  refine n_iadd S (a := (nn q)) (b := 1) dX10_notes_167 ?_
                  refine gm_ast S hW (i := 1) (k := (21 + q)) (n := 1357) (by decide) (by decide) rfl (by omega) dX10_notes_168 (fun H locs hW => ?_)
                  refine lv_aload_n hxe hcd dX10_notes_169 rfl (lv_at hl 0 rfl) ?_
                  refine gf_X10_16 S hW dX10_notes_170 ?_
                  refine lv_bipush (v := (nI 25)) hxe hcd dX10_notes_173 (by decide) ?_
                  refine lv_iload_n hxe hcd dX10_notes_175 rfl (lv_at hl 1 rfl) ?_
                  refine n_iadd S (a := 25) (b := q) dX10_notes_176 ?_
                  refine lv_dup2_11 hxe hcd dX10_notes_177 rfl rfl ?_
                  refine gm_ald S hW (i := 1) (k := (25 + q)) (n := 1357) (by decide) (by decide) rfl (by omega) dX10_notes_178 ?_
                  refine r_as (y := (nI (ln q))) (by simp only [up1_s]; rw [upd_o (by omega), upd_o (by omega), ntR, if_neg (by omega), hlq.1]) ?_
                  refine lv_iload hxe hcd dX10_notes_179 (lv_at hl 4 rfl) ?_
                  refine n_iadd S (a := (ln q)) (b := k) dX10_notes_181 ?_
                  refine gm_ast S hW (i := 1) (k := (25 + q)) (n := 1357) (by decide) (by decide) rfl (by omega) dX10_notes_182 (fun H locs hW => ?_)
                  refine lv_aload_n hxe hcd dX10_notes_183 rfl (lv_at hl 0 rfl) ?_
                  refine gf_X10_16 S hW dX10_notes_184 ?_
                  refine lv_bipush (v := (nI 25)) hxe hcd dX10_notes_187 (by decide) ?_
                  refine lv_iload_n hxe hcd dX10_notes_189 rfl (lv_at hl 1 rfl) ?_
                  refine n_iadd S (a := 25) (b := q) dX10_notes_190 ?_
                  refine gm_ald S hW (i := 1) (k := (25 + q)) (n := 1357) (by decide) (by decide) rfl (by omega) dX10_notes_191 ?_
                  refine r_as (y := (nI (ln q + k))) (by rw [up1_s, upd_s]) ?_
                  refine r_iret S hr hlk (F := (mE Z B)) (u := (up1 (up1 (up1 (up1 ν 1 (ntR (ν 1) (77 + 160 * q + ln q) P am i)) 1 (upd ((up1 ν 1 (ntR (ν 1) (77 + 160 * q + ln q) P am i)) 1) ((717 + (160 * q)) + (nn q)) (nI k))) 1 (upd ((up1 (up1 ν 1 (ntR (ν 1) (77 + 160 * q + ln q) P am i)) 1 (upd ((up1 ν 1 (ntR (ν 1) (77 + 160 * q + ln q) P am i)) 1) ((717 + (160 * q)) + (nn q)) (nI k))) 1) (21 + q) (nI ((nn q) + 1)))) 1 (upd ((up1 (up1 (up1 ν 1 (ntR (ν 1) (77 + 160 * q + ln q) P am i)) 1 (upd ((up1 ν 1 (ntR (ν 1) (77 + 160 * q + ln q) P am i)) 1) ((717 + (160 * q)) + (nn q)) (nI k))) 1 (upd ((up1 (up1 ν 1 (ntR (ν 1) (77 + 160 * q + ln q) P am i)) 1 (upd ((up1 ν 1 (ntR (ν 1) (77 + 160 * q + ln q) P am i)) 1) ((717 + (160 * q)) + (nn q)) (nI k))) 1) (21 + q) (nI ((nn q) + 1)))) 1) (25 + q) (nI ((ln q) + k))))) hW ?_ dX10_notes_192
                  have e : i = k := by omega
                  refine Or.inr (Or.inr (Or.inr ⟨q, k, P, hq, rfl, nv, hk1, hk2, hk, hP1, hP2, hP, by omega, rfl, ?_⟩))
                  simp only [up1_s, up1_2, noteV]
                  rw [e]
                · refine lv_aload_n hxe hcd dX10_notes_89 rfl (lv_at hl 0 rfl) ?_
                  refine gf_X10_16 S hW dX10_notes_90 ?_
                  refine lv_bipush (v := (nI 77)) hxe hcd dX10_notes_93 (by decide) ?_
                  refine lv_sipush (v := (nI 160)) hxe hcd dX10_notes_95 (by decide) ?_
                  refine lv_iload_n hxe hcd dX10_notes_98 rfl (lv_at hl 1 rfl) ?_
                  refine n_imul S (a := 160) (b := q) dX10_notes_99 ?_
                  refine n_iadd S (a := 77) (b := (160 * q)) dX10_notes_100 ?_
                  refine lv_iload hxe hcd dX10_notes_101 (lv_at hl 5 rfl) ?_
                  refine n_iadd S (a := (77 + (160 * q))) (b := (ln q)) dX10_notes_103 ?_
                  refine lv_iload hxe hcd dX10_notes_104 (lv_at hl 6 rfl) ?_
                  refine n_iadd S (a := ((77 + (160 * q)) + (ln q))) (b := i) dX10_notes_106 ?_
                  refine lv_iload hxe hcd dX10_notes_107 (lv_at hl 6 rfl) ?_
                  refine lv_iload_n hxe hcd dX10_notes_109 rfl (lv_at hl 2 rfl) ?_
                  refine n_irem S (a := i) (b := P) (by omega) (by omega) (by omega) dX10_notes_110 ?_
                  refine lv_iload_n hxe hcd dX10_notes_111 rfl (lv_at hl 2 rfl) ?_
                  refine lv_iconst (v := (nI 2)) hxe hcd dX10_notes_112 (by decide) ?_
                  refine n_idiv S (a := P) (b := 2) (by omega) (by omega) (by omega) dX10_notes_113 ?_
                  refine n_ge S (a := (i % P)) (b := (P / 2)) (by omega) (by omega) dX10_notes_114 (tgt := 121) (by decide) (fun c114 => ?_) (fun c114 => ?_)
                  · refine lv_iload_n hxe hcd dX10_notes_121 rfl (lv_at hl 3 rfl) ?_
                    refine lv_ineg hxe hcd dX10_notes_122 ?_
                    refine gm_ast S hW (i := 1) (k := (((77 + (160 * q)) + (ln q)) + i)) (n := 1357) (by decide) (by decide) rfl (by omega) dX10_notes_123 (fun H locs hW => ?_)
                    refine lv_iinc (v := (nI (i + 1))) (lv' := [(6, .int (nI (i + 1))), (0, .ref (B 0)), (1, .int (nI q)), (2, .int (nI P)), (3, .int am), (4, .int (nI k)), (5, .int (nI (ln q)))]) hxe hcd dX10_notes_124 hl (k := 6) rfl (nI_add i 1) (by decide) rfl (fun ls hl => ?_)
                    refine lv_goto (tgt := 82) hxe hcd dX10_notes_127 (by decide) ?_
                    exact ih82 (i + 1) (by omega) (by omega) _ _ _ (by simp only [up1_s, up1_2] at hW; rw [ntR_step _ _ _ _ _ (y := -am) (by rw [if_neg (by omega)])] at hW; exact hW) (lv_sub hl [1, 2, 3, 4, 5, 6, 0] rfl)
                  · refine lv_iload_n hxe hcd dX10_notes_117 rfl (lv_at hl 3 rfl) ?_
                    refine lv_goto (tgt := 123) hxe hcd dX10_notes_118 (by decide) ?_
                    refine gm_ast S hW (i := 1) (k := (((77 + (160 * q)) + (ln q)) + i)) (n := 1357) (by decide) (by decide) rfl (by omega) dX10_notes_123 (fun H locs hW => ?_)
                    refine lv_iinc (v := (nI (i + 1))) (lv' := [(6, .int (nI (i + 1))), (0, .ref (B 0)), (1, .int (nI q)), (2, .int (nI P)), (3, .int am), (4, .int (nI k)), (5, .int (nI (ln q)))]) hxe hcd dX10_notes_124 hl (k := 6) rfl (nI_add i 1) (by decide) rfl (fun ls hl => ?_)
                    refine lv_goto (tgt := 82) hxe hcd dX10_notes_127 (by decide) ?_
                    exact ih82 (i + 1) (by omega) (by omega) _ _ _ (by simp only [up1_s, up1_2] at hW; rw [ntR_step _ _ _ _ _ (y := am) (by rw [if_pos (by omega)])] at hW; exact hW) (lv_sub hl [1, 2, 3, 4, 5, 6, 0] rfl)
            exact loop82 (k + 1) 0 (Nat.lt_succ_self _) (Nat.zero_le _) _ _ _ (by rw [ntR_0, up1_id]; exact hW) (lv_sub hl [2, 3, 4, 5, 6, 1, 0] rfl)
          · refine lv_aload_n hxe hcd dX10_notes_73 rfl (lv_at hl 1 rfl) ?_
            refine lv_iconst (v := (nI 3)) hxe hcd dX10_notes_74 (by decide) ?_
            refine r_calli (F := (mE Z B)) (r_runV hZ S hW (As := [.int (nI 3)]) (rest := []) (t_X10_fail l hZ B ν H.size (nI 3)) k_X10_71 (r_recv hW (x := 0) (List.mem_range.mpr (by decide)) rfl rfl) (hl.1) rfl rfl (Nat.le_of_ble_eq_true rfl) ⟨Nat.le_of_ble_eq_true rfl, Nat.le_of_ble_eq_true rfl⟩ ⟨Nat.le_of_ble_eq_true rfl, Nat.le_of_ble_eq_true rfl⟩ dX10_notes_75) hW (fun r75 u75 H locs hp75 hW => ?_)
            obtain ⟨hp75, hp75m⟩ := hp75
            have hp75 := hp75.symm
            subst hp75
            have hp75m := hp75m.symm
            subst hp75m
            refine r_iret S hr hlk (F := (mE Z B)) (u := (up1 ν 0 (upd (ν 0) 0 (nI 3)))) hW ?_ dX10_notes_78
            exact Or.inr (Or.inr (Or.inl ⟨q, k, hq, rfl, nv, hk1, hk2, hk, by omega, rfl, rfl⟩))
        · subst hp390
          refine lv_if_ne (tgt := 51) hxe hcd dX10_notes_42 (by decide) (fun h => absurd h (by decide)) (fun _ => ?_)
          refine lv_aload_n hxe hcd dX10_notes_45 rfl (lv_at hl 0 rfl) ?_
          refine lv_iconst (v := (nI 2)) hxe hcd dX10_notes_46 (by decide) ?_
          refine r_calli (F := (mE Z B)) (r_runV hZ S hW (As := [.int (nI 2)]) (rest := []) (t_X10_fail l hZ B ν H.size (nI 2)) k_X10_71 (r_recv hW (x := 0) (List.mem_range.mpr (by decide)) rfl rfl) (hl.1) rfl rfl (Nat.le_of_ble_eq_true rfl) ⟨Nat.le_of_ble_eq_true rfl, Nat.le_of_ble_eq_true rfl⟩ ⟨Nat.le_of_ble_eq_true rfl, Nat.le_of_ble_eq_true rfl⟩ dX10_notes_47) hW (fun r47 u47 H locs hp47 hW => ?_)
          obtain ⟨hp47, hp47m⟩ := hp47
          have hp47 := hp47.symm
          subst hp47
          have hp47m := hp47m.symm
          subst hp47m
          refine r_iret S hr hlk (F := (mE Z B)) (u := (up1 ν 0 (upd (ν 0) 0 (nI 2)))) hW ?_ dX10_notes_50
          exact Or.inr (Or.inl ⟨hp1, fun h => hp39 h.2.2, rfl, rfl⟩)
      · subst hp280
        refine lv_if_eq (tgt := 45) hxe hcd dX10_notes_31 (by decide) (fun _ => ?_) (fun h => absurd (by decide) h)
        refine lv_aload_n hxe hcd dX10_notes_45 rfl (lv_at hl 0 rfl) ?_
        refine lv_iconst (v := (nI 2)) hxe hcd dX10_notes_46 (by decide) ?_
        refine r_calli (F := (mE Z B)) (r_runV hZ S hW (As := [.int (nI 2)]) (rest := []) (t_X10_fail l hZ B ν H.size (nI 2)) k_X10_71 (r_recv hW (x := 0) (List.mem_range.mpr (by decide)) rfl rfl) (hl.1) rfl rfl (Nat.le_of_ble_eq_true rfl) ⟨Nat.le_of_ble_eq_true rfl, Nat.le_of_ble_eq_true rfl⟩ ⟨Nat.le_of_ble_eq_true rfl, Nat.le_of_ble_eq_true rfl⟩ dX10_notes_47) hW (fun r47 u47 H locs hp47 hW => ?_)
        obtain ⟨hp47, hp47m⟩ := hp47
        have hp47 := hp47.symm
        subst hp47
        have hp47m := hp47m.symm
        subst hp47m
        refine r_iret S hr hlk (F := (mE Z B)) (u := (up1 ν 0 (upd (ν 0) 0 (nI 2)))) hW ?_ dX10_notes_50
        exact Or.inr (Or.inl ⟨hp1, fun h => hp28 h.2.1, rfl, rfl⟩)
    · subst hp170
      refine lv_if_eq (tgt := 45) hxe hcd dX10_notes_20 (by decide) (fun _ => ?_) (fun h => absurd (by decide) h)
      refine lv_aload_n hxe hcd dX10_notes_45 rfl (lv_at hl 0 rfl) ?_
      refine lv_iconst (v := (nI 2)) hxe hcd dX10_notes_46 (by decide) ?_
      refine r_calli (F := (mE Z B)) (r_runV hZ S hW (As := [.int (nI 2)]) (rest := []) (t_X10_fail l hZ B ν H.size (nI 2)) k_X10_71 (r_recv hW (x := 0) (List.mem_range.mpr (by decide)) rfl rfl) (hl.1) rfl rfl (Nat.le_of_ble_eq_true rfl) ⟨Nat.le_of_ble_eq_true rfl, Nat.le_of_ble_eq_true rfl⟩ ⟨Nat.le_of_ble_eq_true rfl, Nat.le_of_ble_eq_true rfl⟩ dX10_notes_47) hW (fun r47 u47 H locs hp47 hW => ?_)
      obtain ⟨hp47, hp47m⟩ := hp47
      have hp47 := hp47.symm
      subst hp47
      have hp47m := hp47m.symm
      subst hp47m
      refine r_iret S hr hlk (F := (mE Z B)) (u := (up1 ν 0 (upd (ν 0) 0 (nI 2)))) hW ?_ dX10_notes_50
      exact Or.inr (Or.inl ⟨hp1, fun h => hp17 h.1, rfl, rfl⟩)
  · subst hp10
    refine lv_if_ne (tgt := 13) hxe hcd dX10_notes_4 (by decide) (fun h => absurd h (by decide)) (fun _ => ?_)
    refine lv_aload_n hxe hcd dX10_notes_7 rfl (lv_at hl 0 rfl) ?_
    refine lv_iconst (v := (nI 1)) hxe hcd dX10_notes_8 (by decide) ?_
    refine r_calli (F := (mE Z B)) (r_runV hZ S hW (As := [.int (nI 1)]) (rest := []) (t_X10_fail l hZ B ν H.size (nI 1)) k_X10_71 (r_recv hW (x := 0) (List.mem_range.mpr (by decide)) rfl rfl) (hl.1) rfl rfl (Nat.le_of_ble_eq_true rfl) ⟨Nat.le_of_ble_eq_true rfl, Nat.le_of_ble_eq_true rfl⟩ ⟨Nat.le_of_ble_eq_true rfl, Nat.le_of_ble_eq_true rfl⟩ dX10_notes_9) hW (fun r9 u9 H locs hp9 hW => ?_)
    obtain ⟨hp9, hp9m⟩ := hp9
    have hp9 := hp9.symm
    subst hp9
    have hp9m := hp9m.symm
    subst hp9m
    refine r_iret S hr hlk (F := (mE Z B)) (u := (up1 ν 0 (upd (ν 0) 0 (nI 1)))) hW ?_ dX10_notes_12
    exact Or.inl ⟨hp1, rfl, rfl⟩
set_option maxHeartbeats 4000000 in
set_option maxRecDepth 100000 in
theorem t_X10_takesNote (l : Launch) {Z : ZT} (hZ : zOK Z) (B : Nat → Nat) (ν : MM) (sz : Nat) (ln : Nat → Nat) (hln : ∀ q, q < 4 → ν 1 (25 + q) = nI (ln q) ∧ ln q ≤ 160) (nn : Nat → Nat) (hnn : ∀ q, q < 4 → ν 1 (21 + q) = nI (nn q) ∧ nn q ≤ ln q) (nl : Nat → Nat → Nat) (hnl : ∀ q j, q < 4 → j < nn q → ν 1 (717 + 160 * q + j) = nI (nl q j) ∧ nl q j ≤ ln q) (x : Int32) : XMi l yX10_takesNote cX10_takesNote 4 (some .int) 2 [.ref (B 0), .int x] Z mds B (mE Z B) ν sz (fun r u => (¬ IX x 4 ∧ r = nI 0 ∧ u = up1 ν 0 (upd (ν 0) 0 (nI 1))) ∨ (∃ q, q < 4 ∧ x = nI q ∧ nn q = 0 ∧ r = nI 0 ∧ u = up1 ν 0 (upd (ν 0) 0 (nI 2))) ∨ (∃ q, q < 4 ∧ x = nI q ∧ 0 < nn q ∧ r = nI (ln q - nl q (nn q - 1)) ∧ u = up1 ν 1 (untV (ν 1) q (nn q) (ln q) (nl q (nn q - 1))))) := by
  refine r_met (E := (mE Z B ν)) (by decide +kernel) (Nat.le_of_ble_eq_true rfl) ?_
  intro p e s m below meth c ls S hr hlk hnm hsz hW hl
  have hxe := S.1
  have hcd := S.2.1
  subst hsz
  have hl : lv_has ls 4 [(0, .ref (B 0)), (1, .int x)] := hl
  refine lv_iload_n hxe hcd dX10_takesNote_0 rfl (lv_at hl 1 rfl) ?_
  refine r_calli0 (r_runS hZ S hW (As := [.int x]) (rest := []) (t_X10_isSong l hZ mds B (mE Z B ν) s.heap.size x) k_X10_105 (hl.1) rfl rfl (Nat.le_of_ble_eq_true rfl) ⟨Nat.le_of_ble_eq_true rfl, Nat.le_of_ble_eq_true rfl⟩ ⟨Nat.le_of_ble_eq_true rfl, Nat.le_of_ble_eq_true rfl⟩ dX10_takesNote_1) hW (fun r1 H locs hp1 hW => ?_)
  rcases hp1 with ⟨hp10, hp1⟩ | ⟨hp10, hp1⟩
  · subst hp10
    refine lv_if_ne (tgt := 13) hxe hcd dX10_takesNote_4 (by decide) (fun _ => ?_) (fun h => absurd h (by decide))
    obtain ⟨q, hq, rfl⟩ := hp1
    have hlq := hln q hq
    have hnq := hnn q hq
    refine lv_aload_n hxe hcd dX10_takesNote_13 rfl (lv_at hl 0 rfl) ?_
    refine gf_X10_16 S hW dX10_takesNote_14 ?_
    refine lv_bipush (v := (nI 21)) hxe hcd dX10_takesNote_17 (by decide) ?_
    refine lv_iload_n hxe hcd dX10_takesNote_19 rfl (lv_at hl 1 rfl) ?_
    refine n_iadd S (a := 21) (b := q) dX10_takesNote_20 ?_
    refine gm_ald S hW (i := 1) (k := (21 + q)) (n := 1357) (by decide) (by decide) rfl (by omega) dX10_takesNote_21 ?_
    refine r_as (y := (nI (nn q))) (hnq.1) ?_
    refine n_ifne S (a := (nn q)) (by omega) dX10_takesNote_22 (tgt := 31) (by decide) (fun c22 => ?_) (fun c22 => ?_)
    · have hjq := hnl q (nn q - 1) hq (by omega)
      refine lv_aload_n hxe hcd dX10_takesNote_31 rfl (lv_at hl 0 rfl) ?_
      refine gf_X10_16 S hW dX10_takesNote_32 ?_
      refine lv_bipush (v := (nI 21)) hxe hcd dX10_takesNote_35 (by decide) ?_
      refine lv_iload_n hxe hcd dX10_takesNote_37 rfl (lv_at hl 1 rfl) ?_
      refine n_iadd S (a := 21) (b := q) dX10_takesNote_38 ?_
      refine lv_dup2_11 hxe hcd dX10_takesNote_39 rfl rfl ?_
      refine gm_ald S hW (i := 1) (k := (21 + q)) (n := 1357) (by decide) (by decide) rfl (by omega) dX10_takesNote_40 ?_
      refine r_as (y := (nI (nn q))) (hnq.1) ?_
      refine lv_iconst (v := (nI 1)) hxe hcd dX10_takesNote_41 (by decide) ?_
      refine n_isub S (a := (nn q)) (b := 1) (by omega) dX10_takesNote_42 ?_
      refine gm_ast S hW (i := 1) (k := (21 + q)) (n := 1357) (by decide) (by decide) rfl (by omega) dX10_takesNote_43 (fun H locs hW => ?_)
      refine lv_sipush (v := (nI 717)) hxe hcd dX10_takesNote_44 (by decide) ?_
      refine lv_sipush (v := (nI 160)) hxe hcd dX10_takesNote_47 (by decide) ?_
      refine lv_iload_n hxe hcd dX10_takesNote_50 rfl (lv_at hl 1 rfl) ?_
      refine n_imul S (a := 160) (b := q) dX10_takesNote_51 ?_
      refine n_iadd S (a := 717) (b := (160 * q)) dX10_takesNote_52 ?_
      refine lv_aload_n hxe hcd dX10_takesNote_53 rfl (lv_at hl 0 rfl) ?_
      refine gf_X10_16 S hW dX10_takesNote_54 ?_
      refine lv_bipush (v := (nI 21)) hxe hcd dX10_takesNote_57 (by decide) ?_
      refine lv_iload_n hxe hcd dX10_takesNote_59 rfl (lv_at hl 1 rfl) ?_
      refine n_iadd S (a := 21) (b := q) dX10_takesNote_60 ?_
      refine gm_ald S hW (i := 1) (k := (21 + q)) (n := 1357) (by decide) (by decide) rfl (by omega) dX10_takesNote_61 ?_
      refine r_as (y := (nI (nn q - 1))) (by rw [up1_s, upd_s]) ?_
      refine n_iadd S (a := (717 + (160 * q))) (b := (nn q - 1)) dX10_takesNote_62 ?_
      refine lv_istore_n (lv' := [(2, .int (nI ((717 + (160 * q)) + (nn q - 1)))), (0, .ref (B 0)), (1, .int (nI q))]) hxe hcd dX10_takesNote_63 rfl hl (by decide) rfl (fun ls hl => ?_)
      refine lv_aload_n hxe hcd dX10_takesNote_64 rfl (lv_at hl 1 rfl) ?_
      refine gf_X10_16 S hW dX10_takesNote_65 ?_
      refine lv_bipush (v := (nI 25)) hxe hcd dX10_takesNote_68 (by decide) ?_
      refine lv_iload_n hxe hcd dX10_takesNote_70 rfl (lv_at hl 2 rfl) ?_
      refine n_iadd S (a := 25) (b := q) dX10_takesNote_71 ?_
      refine lv_dup2_11 hxe hcd dX10_takesNote_72 rfl rfl ?_
      refine gm_ald S hW (i := 1) (k := (25 + q)) (n := 1357) (by decide) (by decide) rfl (by omega) dX10_takesNote_73 ?_
      refine r_as (y := (nI (ln q))) (by rw [up1_s, upd_o (by omega), hlq.1]) ?_
      refine lv_aload_n hxe hcd dX10_takesNote_74 rfl (lv_at hl 1 rfl) ?_
      refine gf_X10_16 S hW dX10_takesNote_75 ?_
      refine lv_iload_n hxe hcd dX10_takesNote_78 rfl (lv_at hl 0 rfl) ?_
      refine gm_ald S hW (i := 1) (k := ((717 + (160 * q)) + (nn q - 1))) (n := 1357) (by decide) (by decide) rfl (by omega) dX10_takesNote_79 ?_
      refine r_as (y := (nI (nl q (nn q - 1)))) (by rw [up1_s, upd_o (by omega), hjq.1]) ?_
      refine n_isub S (a := (ln q)) (b := (nl q (nn q - 1))) (by omega) dX10_takesNote_80 ?_
      refine gm_ast S hW (i := 1) (k := (25 + q)) (n := 1357) (by decide) (by decide) rfl (by omega) dX10_takesNote_81 (fun H locs hW => ?_)
      refine lv_aload_n hxe hcd dX10_takesNote_82 rfl (lv_at hl 1 rfl) ?_
      refine gf_X10_16 S hW dX10_takesNote_83 ?_
      refine lv_iload_n hxe hcd dX10_takesNote_86 rfl (lv_at hl 0 rfl) ?_
      refine lv_iconst (v := (nI 0)) hxe hcd dX10_takesNote_87 (by decide) ?_
      refine gm_ast S hW (i := 1) (k := ((717 + (160 * q)) + (nn q - 1))) (n := 1357) (by decide) (by decide) rfl (by omega) dX10_takesNote_88 (fun H locs hW => ?_)
      refine lv_aload_n hxe hcd dX10_takesNote_89 rfl (lv_at hl 1 rfl) ?_
      refine gf_X10_16 S hW dX10_takesNote_90 ?_
      refine lv_bipush (v := (nI 25)) hxe hcd dX10_takesNote_93 (by decide) ?_
      refine lv_iload_n hxe hcd dX10_takesNote_95 rfl (lv_at hl 2 rfl) ?_
      refine n_iadd S (a := 25) (b := q) dX10_takesNote_96 ?_
      refine gm_ald S hW (i := 1) (k := (25 + q)) (n := 1357) (by decide) (by decide) rfl (by omega) dX10_takesNote_97 ?_
      refine r_as (y := (nI (ln q - nl q (nn q - 1)))) (by simp only [up1_s]; rw [upd_o (by omega), upd_s]) ?_
      refine lv_istore_n (lv' := [(3, .int (nI (ln q - nl q (nn q - 1)))), (2, .int (nI ((717 + (160 * q)) + (nn q - 1)))), (0, .ref (B 0)), (1, .int (nI q))]) hxe hcd dX10_takesNote_98 rfl hl (by decide) rfl (fun ls hl => ?_)
      have loop99 : ∀ (n_ : Nat) (i : Nat), 160 - i < n_ → (ln q - nl q (nn q - 1) ≤ i) → (i ≤ 160) → ∀ (H : Heap) (locs : List Loc) (ls : Array Slot), wX Z mds B (mE Z B (up1 ν 1 (zrR (upd (upd (upd (ν 1) (21 + q) (nI (nn q - 1))) (25 + q) (nI (ln q - nl q (nn q - 1)))) (717 + 160 * q + (nn q - 1)) (nI 0)) (77 + 160 * q + (ln q - nl q (nn q - 1))) (77 + 160 * q + i)))) (fA mds B (mE Z B ν) s.heap.size) s H locs → lv_has ls 4 [(0, .ref (B 0)), (1, .int (nI q)), (2, .int (nI (717 + 160 * q + (nn q - 1)))), (3, .int (nI i))] → W p l e (rmD 2 0 0) s m ([.ref (B 0), .int (nI q)] : List Value).toArray below meth c H locs 0 0 (MQ below (va_Qi (fun r u => (¬ IX (nI q) 4 ∧ r = nI 0 ∧ u = up1 ν 0 (upd (ν 0) 0 (nI 1))) ∨ (∃ q_z, q_z < 4 ∧ (nI q) = nI q_z ∧ nn q_z = 0 ∧ r = nI 0 ∧ u = up1 ν 0 (upd (ν 0) 0 (nI 2))) ∨ (∃ q_z, q_z < 4 ∧ (nI q) = nI q_z ∧ 0 < nn q_z ∧ r = nI (ln q_z - nl q_z (nn q_z - 1)) ∧ u = up1 ν 1 (untV (ν 1) q_z (nn q_z) (ln q_z) (nl q_z (nn q_z - 1))))) (fun u t => qB Z mds B ((mE Z B) u) (fA mds B (mE Z B ν) s.heap.size) t) (fA mds B (mE Z B ν) s.heap.size)) ([.ref (B 0), .int (nI q)] : List Value).toArray s 0 0 (fA mds B (mE Z B ν) s.heap.size)) (F0 m 99 ls []) := by
        intro n_
        induction n_ with
        | zero => intro i hm; exact absurd hm (Nat.not_lt_zero _)
        | succ n_ ih99 =>
          intro i hm hi hi2 H locs ls hW hl
          refine lv_iload_n hxe hcd dX10_takesNote_99 rfl (lv_at hl 3 rfl) ?_
          refine lv_sipush (v := (nI 160)) hxe hcd dX10_takesNote_100 (by decide) ?_
          refine n_ge S (a := i) (b := 160) (by omega) (by omega) dX10_takesNote_103 (tgt := 128) (by decide) (fun c103 => ?_) (fun c103 => ?_)
          · refine lv_aload_n hxe hcd dX10_takesNote_128 rfl (lv_at hl 0 rfl) ?_
            refine gf_X10_16 S hW dX10_takesNote_129 ?_
            refine lv_bipush (v := (nI 25)) hxe hcd dX10_takesNote_132 (by decide) ?_
            refine lv_iload_n hxe hcd dX10_takesNote_134 rfl (lv_at hl 1 rfl) ?_
            refine n_iadd S (a := 25) (b := q) dX10_takesNote_135 ?_
            refine gm_ald S hW (i := 1) (k := (25 + q)) (n := 1357) (by decide) (by decide) rfl (by omega) dX10_takesNote_136 ?_
            refine r_as (y := (nI (ln q - nl q (nn q - 1)))) (by simp only [up1_s]; rw [zrR, if_neg (by omega), upd_o (by omega), upd_s]) ?_
            refine r_iret S hr hlk (F := (mE Z B)) (u := (up1 ν 1 (zrR (upd (upd (upd (ν 1) (21 + q) (nI (nn q - 1))) (25 + q) (nI (ln q - nl q (nn q - 1)))) (717 + 160 * q + (nn q - 1)) (nI 0)) (77 + 160 * q + (ln q - nl q (nn q - 1))) (77 + 160 * q + i)))) hW ?_ dX10_takesNote_137
            refine Or.inr (Or.inr ⟨q, hq, rfl, by omega, rfl, ?_⟩)
            rw [untV, show i = 160 by omega]
          · refine lv_aload_n hxe hcd dX10_takesNote_106 rfl (lv_at hl 0 rfl) ?_
            refine gf_X10_16 S hW dX10_takesNote_107 ?_
            refine lv_bipush (v := (nI 77)) hxe hcd dX10_takesNote_110 (by decide) ?_
            refine lv_sipush (v := (nI 160)) hxe hcd dX10_takesNote_112 (by decide) ?_
            refine lv_iload_n hxe hcd dX10_takesNote_115 rfl (lv_at hl 1 rfl) ?_
            refine n_imul S (a := 160) (b := q) dX10_takesNote_116 ?_
            refine n_iadd S (a := 77) (b := (160 * q)) dX10_takesNote_117 ?_
            refine lv_iload_n hxe hcd dX10_takesNote_118 rfl (lv_at hl 3 rfl) ?_
            refine n_iadd S (a := (77 + (160 * q))) (b := i) dX10_takesNote_119 ?_
            refine lv_iconst (v := (nI 0)) hxe hcd dX10_takesNote_120 (by decide) ?_
            refine gm_ast S hW (i := 1) (k := ((77 + (160 * q)) + i)) (n := 1357) (by decide) (by decide) rfl (by omega) dX10_takesNote_121 (fun H locs hW => ?_)
            refine lv_iinc (v := (nI (i + 1))) (lv' := [(3, .int (nI (i + 1))), (0, .ref (B 0)), (1, .int (nI q)), (2, .int (nI (717 + 160 * q + (nn q - 1))))]) hxe hcd dX10_takesNote_122 hl (k := 3) rfl (nI_add i 1) (by decide) rfl (fun ls hl => ?_)
            refine lv_goto (tgt := 99) hxe hcd dX10_takesNote_125 (by decide) ?_
            exact ih99 (i + 1) (by omega) (by omega) (by omega) _ _ _ (by simp only [up1_s, up1_2] at hW; rw [zrR_step _ (by omega)] at hW; exact hW) (lv_sub hl [1, 2, 3, 0] rfl)
      exact loop99 ((160 - (ln q - nl q (nn q - 1))) + 1) (ln q - nl q (nn q - 1)) (Nat.lt_succ_self _) (Nat.le_refl _) (by omega) _ _ _ (by simp only [up1_s, up1_2] at hW; rw [zrR_0]; exact hW) (lv_sub hl [2, 3, 1, 0] rfl)
    · refine lv_aload_n hxe hcd dX10_takesNote_25 rfl (lv_at hl 0 rfl) ?_
      refine lv_iconst (v := (nI 2)) hxe hcd dX10_takesNote_26 (by decide) ?_
      refine r_calli (F := (mE Z B)) (r_runV hZ S hW (As := [.int (nI 2)]) (rest := []) (t_X10_fail l hZ B ν H.size (nI 2)) k_X10_71 (r_recv hW (x := 0) (List.mem_range.mpr (by decide)) rfl rfl) (hl.1) rfl rfl (Nat.le_of_ble_eq_true rfl) ⟨Nat.le_of_ble_eq_true rfl, Nat.le_of_ble_eq_true rfl⟩ ⟨Nat.le_of_ble_eq_true rfl, Nat.le_of_ble_eq_true rfl⟩ dX10_takesNote_27) hW (fun r27 u27 H locs hp27 hW => ?_)
      obtain ⟨hp27, hp27m⟩ := hp27
      have hp27 := hp27.symm
      subst hp27
      have hp27m := hp27m.symm
      subst hp27m
      refine r_iret S hr hlk (F := (mE Z B)) (u := (up1 ν 0 (upd (ν 0) 0 (nI 2)))) hW ?_ dX10_takesNote_30
      exact Or.inr (Or.inl ⟨q, hq, rfl, c22, rfl, rfl⟩)
  · subst hp10
    refine lv_if_ne (tgt := 13) hxe hcd dX10_takesNote_4 (by decide) (fun h => absurd h (by decide)) (fun _ => ?_)
    refine lv_aload_n hxe hcd dX10_takesNote_7 rfl (lv_at hl 0 rfl) ?_
    refine lv_iconst (v := (nI 1)) hxe hcd dX10_takesNote_8 (by decide) ?_
    refine r_calli (F := (mE Z B)) (r_runV hZ S hW (As := [.int (nI 1)]) (rest := []) (t_X10_fail l hZ B ν H.size (nI 1)) k_X10_71 (r_recv hW (x := 0) (List.mem_range.mpr (by decide)) rfl rfl) (hl.1) rfl rfl (Nat.le_of_ble_eq_true rfl) ⟨Nat.le_of_ble_eq_true rfl, Nat.le_of_ble_eq_true rfl⟩ ⟨Nat.le_of_ble_eq_true rfl, Nat.le_of_ble_eq_true rfl⟩ dX10_takesNote_9) hW (fun r9 u9 H locs hp9 hW => ?_)
    obtain ⟨hp9, hp9m⟩ := hp9
    have hp9 := hp9.symm
    subst hp9
    have hp9m := hp9m.symm
    subst hp9m
    refine r_iret S hr hlk (F := (mE Z B)) (u := (up1 ν 0 (upd (ν 0) 0 (nI 1)))) hW ?_ dX10_takesNote_12
    exact Or.inl ⟨hp1, rfl, rfl⟩
set_option maxHeartbeats 4000000 in
set_option maxRecDepth 100000 in
theorem t_X10_tells (l : Launch) {Z : ZT} (hZ : zOK Z) (B : Nat → Nat) (ν : MM) (sz : Nat) {F : Nat} (hF : F ≤ 100) (x : Int32) : XMi l yX10_tells cX10_tells 3 (some .int) 2 [.ref (B 0), .int x, .int (nI F)] Z mds B (mE Z B) ν sz (fun r u => (∃ q, q < 4 ∧ x = nI q ∧ r = ν 1 (F + q) ∧ u = up1 ν 0 (upd (ν 0) 0 (nI 0))) ∨ (¬ IX x 4 ∧ r = nI 0 ∧ u = up1 ν 0 (upd (ν 0) 0 (nI 1)))) := by
  refine r_met (E := (mE Z B ν)) (by decide +kernel) (Nat.le_of_ble_eq_true rfl) ?_
  intro p e s m below meth c ls S hr hlk hnm hsz hW hl
  have hxe := S.1
  have hcd := S.2.1
  subst hsz
  have hl : lv_has ls 3 [(0, .ref (B 0)), (1, .int x), (2, .int (nI F))] := hl
  refine lv_aload_n hxe hcd dX10_tells_0 rfl (lv_at hl 0 rfl) ?_
  refine lv_iload_n hxe hcd dX10_tells_1 rfl (lv_at hl 1 rfl) ?_
  refine r_calli0 (r_runS hZ S hW (As := [.int x]) (rest := [.ref (B 0)]) (t_X10_isSong l hZ mds B (mE Z B ν) s.heap.size x) k_X10_105 (hl.1) rfl rfl (Nat.le_of_ble_eq_true rfl) ⟨Nat.le_of_ble_eq_true rfl, Nat.le_of_ble_eq_true rfl⟩ ⟨Nat.le_of_ble_eq_true rfl, Nat.le_of_ble_eq_true rfl⟩ dX10_tells_2) hW (fun r2 H locs hp2 hW => ?_)
  rcases hp2 with ⟨hp20, hp2⟩ | ⟨hp20, hp2⟩
  · subst hp20
    refine lv_if_eq (tgt := 12) hxe hcd dX10_tells_5 (by decide) (fun h => absurd h (by decide)) (fun _ => ?_)
    refine lv_iconst (v := (nI 0)) hxe hcd dX10_tells_8 (by decide) ?_
    refine lv_goto (tgt := 13) hxe hcd dX10_tells_9 (by decide) ?_
    refine gp_X10_53 S hW dX10_tells_13 (fun H locs hW => ?_)
    refine lv_aload_n hxe hcd dX10_tells_16 rfl (lv_at hl 0 rfl) ?_
    refine gf_X10_53 S hW dX10_tells_17 ?_
    refine r_as (y := (nI 0)) (by rw [up1_s, upd_s]) ?_
    refine lv_if_ne (tgt := 34) hxe hcd dX10_tells_20 (by decide) (fun h => absurd h (by decide)) (fun _ => ?_)
    refine lv_aload_n hxe hcd dX10_tells_23 rfl (lv_at hl 0 rfl) ?_
    obtain ⟨q, hq, rfl⟩ := hp2
    refine gf_X10_16 S hW dX10_tells_24 ?_
    refine lv_iload_n hxe hcd dX10_tells_27 rfl (lv_at hl 2 rfl) ?_
    refine lv_iload_n hxe hcd dX10_tells_28 rfl (lv_at hl 1 rfl) ?_
    refine n_iadd S (a := F) (b := q) dX10_tells_29 ?_
    refine gm_ald S hW (i := 1) (k := (F + q)) (n := 1357) (by decide) (by decide) rfl (by omega) dX10_tells_30 ?_
    refine lv_goto (tgt := 35) hxe hcd dX10_tells_31 (by decide) ?_
    refine r_iret S hr hlk (F := (mE Z B)) (u := (up1 ν 0 (upd (ν 0) 0 (nI 0)))) hW ?_ dX10_tells_35
    exact Or.inl ⟨q, hq, rfl, rfl, rfl⟩
  · subst hp20
    refine lv_if_eq (tgt := 12) hxe hcd dX10_tells_5 (by decide) (fun _ => ?_) (fun h => absurd (by decide) h)
    refine lv_iconst (v := (nI 1)) hxe hcd dX10_tells_12 (by decide) ?_
    refine gp_X10_53 S hW dX10_tells_13 (fun H locs hW => ?_)
    refine lv_aload_n hxe hcd dX10_tells_16 rfl (lv_at hl 0 rfl) ?_
    refine gf_X10_53 S hW dX10_tells_17 ?_
    refine r_as (y := (nI 1)) (by rw [up1_s, upd_s]) ?_
    refine lv_if_ne (tgt := 34) hxe hcd dX10_tells_20 (by decide) (fun _ => ?_) (fun h => absurd h (by decide))
    refine lv_iconst (v := (nI 0)) hxe hcd dX10_tells_34 (by decide) ?_
    refine r_iret S hr hlk (F := (mE Z B)) (u := (up1 ν 0 (upd (ν 0) 0 (nI 1)))) hW ?_ dX10_tells_35
    exact Or.inr ⟨hp2, rfl, rfl⟩
set_option maxHeartbeats 4000000 in
set_option maxRecDepth 100000 in
theorem t_X10_isSample (l : Launch) {Z : ZT} (hZ : zOK Z) (B : Nat → Nat) (ν : MM) (sz : Nat) {q n : Nat} (hq : q < 4) (hn : ν 1 (25 + q) = nI n) (hn2 : n ≤ 160) (x : Int32) : XCi l yX10_isSample cX10_isSample 3 (some .boolean) 1 [.ref (B 0), .int (nI q), .int x] Z mds B (mE Z B ν) sz (fun r => BP r (IX x n)) := by
  refine r_met (E := (mE Z B ν)) (by decide +kernel) (Nat.le_of_ble_eq_true rfl) ?_
  intro p e s m below meth c ls S hr hlk hnm hsz hW hl
  have hxe := S.1
  have hcd := S.2.1
  subst hsz
  have hl : lv_has ls 3 [(0, .ref (B 0)), (1, .int (nI q)), (2, .int x)] := hl
  refine lv_iload_n hxe hcd dX10_isSample_0 rfl (lv_at hl 2 rfl) ?_
  refine lv_iconst (v := (nI 0)) hxe hcd dX10_isSample_1 (by decide) ?_
  refine lv_aload_n hxe hcd dX10_isSample_2 rfl (lv_at hl 0 rfl) ?_
  refine gf_X10_16 S hW dX10_isSample_3 ?_
  refine lv_bipush (v := (nI 25)) hxe hcd dX10_isSample_6 (by decide) ?_
  refine lv_iload_n hxe hcd dX10_isSample_8 rfl (lv_at hl 1 rfl) ?_
  refine n_iadd S (a := 25) (b := q) dX10_isSample_9 ?_
  refine gm_ald S hW (i := 1) (k := (25 + q)) (n := 1357) (by decide) (by decide) rfl (by omega) dX10_isSample_10 ?_
  refine r_as (y := (nI n)) (hn) ?_
  refine lv_iconst (v := (nI 1)) hxe hcd dX10_isSample_11 (by decide) ?_
  refine lv_isub hxe hcd dX10_isSample_12 ?_
  refine r_calli0 (r_runS hZ S hW (As := [.int x, .int (nI 0), .int ((nI n) - (nI 1))]) (rest := []) (t_X10_isIn l hZ mds B (mE Z B ν) s.heap.size x (nI 0) ((nI n) - (nI 1))) k_X10_63 (hl.1) rfl rfl (Nat.le_of_ble_eq_true rfl) ⟨Nat.le_of_ble_eq_true rfl, Nat.le_of_ble_eq_true rfl⟩ ⟨Nat.le_of_ble_eq_true rfl, Nat.le_of_ble_eq_true rfl⟩ dX10_isSample_13) hW (fun r13 H locs hp13 hW => ?_)
  rcases hp13 with ⟨hp130, hp13⟩ | ⟨hp130, hp13⟩
  · subst hp130
    refine r_zret0 S hr hlk hW (by decide +kernel) ?_ dX10_isSample_16
    first | exact BP_t ((IX_sub (by omega)).mp hp13) | exact BP_f (fun h => hp13 ((IX_sub (by omega)).mpr h))
  · subst hp130
    refine r_zret0 S hr hlk hW (by decide +kernel) ?_ dX10_isSample_16
    first | exact BP_t ((IX_sub (by omega)).mp hp13) | exact BP_f (fun h => hp13 ((IX_sub (by omega)).mpr h))
set_option maxHeartbeats 4000000 in
set_option maxRecDepth 100000 in
theorem t_X10_looks (l : Launch) {Z : ZT} (hZ : zOK Z) (B : Nat → Nat) (ν : MM) (sz : Nat) (ln : Nat → Nat) (hln : ∀ q, q < 4 → ν 1 (25 + q) = nI (ln q) ∧ ln q ≤ 160) (x y : Int32) : XMi l yX10_looks cX10_looks 3 (some .int) 2 [.ref (B 0), .int x, .int y] Z mds B (mE Z B) ν sz (fun r u => (∃ q, q < 4 ∧ x = nI q ∧ IX y (ln q) ∧ r = nI 0 ∧ u = up1 ν 0 (upd (ν 0) 0 (nI 0))) ∨ (¬ IX x 4 ∧ r = nI 1 ∧ u = up1 ν 0 (upd (ν 0) 0 (nI 1))) ∨ (∃ q, q < 4 ∧ x = nI q ∧ ¬ IX y (ln q) ∧ r = nI 2 ∧ u = up1 ν 0 (upd (ν 0) 0 (nI 2)))) := by
  refine r_met (E := (mE Z B ν)) (by decide +kernel) (Nat.le_of_ble_eq_true rfl) ?_
  intro p e s m below meth c ls S hr hlk hnm hsz hW hl
  have hxe := S.1
  have hcd := S.2.1
  subst hsz
  have hl : lv_has ls 3 [(0, .ref (B 0)), (1, .int x), (2, .int y)] := hl
  refine lv_aload_n hxe hcd dX10_looks_0 rfl (lv_at hl 0 rfl) ?_
  refine lv_iload_n hxe hcd dX10_looks_1 rfl (lv_at hl 1 rfl) ?_
  refine r_calli0 (r_runS hZ S hW (As := [.int x]) (rest := [.ref (B 0)]) (t_X10_isSong l hZ mds B (mE Z B ν) s.heap.size x) k_X10_105 (hl.1) rfl rfl (Nat.le_of_ble_eq_true rfl) ⟨Nat.le_of_ble_eq_true rfl, Nat.le_of_ble_eq_true rfl⟩ ⟨Nat.le_of_ble_eq_true rfl, Nat.le_of_ble_eq_true rfl⟩ dX10_looks_2) hW (fun r2 H locs hp2 hW => ?_)
  rcases hp2 with ⟨hp20, hp2⟩ | ⟨hp20, hp2⟩
  · subst hp20
    refine lv_if_ne (tgt := 12) hxe hcd dX10_looks_5 (by decide) (fun _ => ?_) (fun h => absurd h (by decide))
    obtain ⟨q, hq, rfl⟩ := hp2
    refine lv_aload_n hxe hcd dX10_looks_12 rfl (lv_at hl 0 rfl) ?_
    refine lv_iload_n hxe hcd dX10_looks_13 rfl (lv_at hl 1 rfl) ?_
    refine lv_iload_n hxe hcd dX10_looks_14 rfl (lv_at hl 2 rfl) ?_
    refine r_calli0 (r_runV hZ S hW (As := [.int (nI q), .int y]) (rest := [.ref (B 0)]) (t_X10_isSample l hZ B ν H.size (q := q) (n := ln q) hq ((hln q hq).1) (hln q hq).2 y) k_X10_118 (r_recv hW (x := 0) (List.mem_range.mpr (by decide)) rfl rfl) (hl.1) rfl rfl (Nat.le_of_ble_eq_true rfl) ⟨Nat.le_of_ble_eq_true rfl, Nat.le_of_ble_eq_true rfl⟩ ⟨Nat.le_of_ble_eq_true rfl, Nat.le_of_ble_eq_true rfl⟩ dX10_looks_15) hW (fun r15 H locs hp15 hW => ?_)
    rcases hp15 with ⟨hp150, hp15⟩ | ⟨hp150, hp15⟩
    · subst hp150
      refine lv_if_eq (tgt := 25) hxe hcd dX10_looks_18 (by decide) (fun h => absurd h (by decide)) (fun _ => ?_)
      refine lv_iconst (v := (nI 0)) hxe hcd dX10_looks_21 (by decide) ?_
      refine lv_goto (tgt := 26) hxe hcd dX10_looks_22 (by decide) ?_
      refine gp_X10_53 S hW dX10_looks_26 (fun H locs hW => ?_)
      refine lv_aload_n hxe hcd dX10_looks_29 rfl (lv_at hl 0 rfl) ?_
      refine gf_X10_53 S hW dX10_looks_30 ?_
      refine r_as (y := (nI 0)) (by rw [up1_s, upd_s]) ?_
      refine r_iret S hr hlk (F := (mE Z B)) (u := (up1 ν 0 (upd (ν 0) 0 (nI 0)))) hW ?_ dX10_looks_33
      exact Or.inl ⟨q, hq, rfl, hp15, rfl, rfl⟩
    · subst hp150
      refine lv_if_eq (tgt := 25) hxe hcd dX10_looks_18 (by decide) (fun _ => ?_) (fun h => absurd (by decide) h)
      refine lv_iconst (v := (nI 2)) hxe hcd dX10_looks_25 (by decide) ?_
      refine gp_X10_53 S hW dX10_looks_26 (fun H locs hW => ?_)
      refine lv_aload_n hxe hcd dX10_looks_29 rfl (lv_at hl 0 rfl) ?_
      refine gf_X10_53 S hW dX10_looks_30 ?_
      refine r_as (y := (nI 2)) (by rw [up1_s, upd_s]) ?_
      refine r_iret S hr hlk (F := (mE Z B)) (u := (up1 ν 0 (upd (ν 0) 0 (nI 2)))) hW ?_ dX10_looks_33
      exact Or.inr (Or.inr ⟨q, hq, rfl, hp15, rfl, rfl⟩)
  · subst hp20
    refine lv_if_ne (tgt := 12) hxe hcd dX10_looks_5 (by decide) (fun h => absurd h (by decide)) (fun _ => ?_)
    refine lv_iconst (v := (nI 1)) hxe hcd dX10_looks_8 (by decide) ?_
    refine lv_goto (tgt := 26) hxe hcd dX10_looks_9 (by decide) ?_
    refine gp_X10_53 S hW dX10_looks_26 (fun H locs hW => ?_)
    refine lv_aload_n hxe hcd dX10_looks_29 rfl (lv_at hl 0 rfl) ?_
    refine gf_X10_53 S hW dX10_looks_30 ?_
    refine r_as (y := (nI 1)) (by rw [up1_s, upd_s]) ?_
    refine r_iret S hr hlk (F := (mE Z B)) (u := (up1 ν 0 (upd (ν 0) 0 (nI 1)))) hW ?_ dX10_looks_33
    exact Or.inr (Or.inl ⟨hp2, rfl, rfl⟩)
set_option maxHeartbeats 4000000 in
set_option maxRecDepth 100000 in
theorem t_X10_rawSample (l : Launch) {Z : ZT} (hZ : zOK Z) (B : Nat → Nat) (ν : MM) (sz : Nat) (ln : Nat → Nat) (hln : ∀ q, q < 4 → ν 1 (25 + q) = nI (ln q) ∧ ln q ≤ 160) (x y : Int32) : XMi l yX10_rawSample cX10_rawSample 3 (some .int) 3 [.ref (B 0), .int x, .int y] Z mds B (mE Z B) ν sz (fun r u => (∃ q i, q < 4 ∧ x = nI q ∧ i < ln q ∧ y = nI i ∧ r = ν 1 (77 + 160 * q + i) ∧ u = up1 ν 0 (upd (ν 0) 0 (nI 0))) ∨ (¬ IX x 4 ∧ r = nI 0 ∧ u = up1 ν 0 (upd (ν 0) 0 (nI 1))) ∨ (∃ q, q < 4 ∧ x = nI q ∧ ¬ IX y (ln q) ∧ r = nI 0 ∧ u = up1 ν 0 (upd (ν 0) 0 (nI 2)))) := by
  refine r_met (E := (mE Z B ν)) (by decide +kernel) (Nat.le_of_ble_eq_true rfl) ?_
  intro p e s m below meth c ls S hr hlk hnm hsz hW hl
  have hxe := S.1
  have hcd := S.2.1
  subst hsz
  have hl : lv_has ls 3 [(0, .ref (B 0)), (1, .int x), (2, .int y)] := hl
  refine lv_aload_n hxe hcd dX10_rawSample_0 rfl (lv_at hl 0 rfl) ?_
  refine lv_iload_n hxe hcd dX10_rawSample_1 rfl (lv_at hl 1 rfl) ?_
  refine lv_iload_n hxe hcd dX10_rawSample_2 rfl (lv_at hl 2 rfl) ?_
  refine r_calli (F := (mE Z B)) (r_runV hZ S hW (As := [.int x, .int y]) (rest := []) (t_X10_looks l hZ B ν s.heap.size ln hln x y) k_X10_121 (r_recv hW (x := 0) (List.mem_range.mpr (by decide)) rfl rfl) (hl.1) rfl rfl (Nat.le_of_ble_eq_true rfl) ⟨Nat.le_of_ble_eq_true rfl, Nat.le_of_ble_eq_true rfl⟩ ⟨Nat.le_of_ble_eq_true rfl, Nat.le_of_ble_eq_true rfl⟩ dX10_rawSample_3) hW (fun r3 u3 H locs hp3 hW => ?_)
  rcases hp3 with ⟨q, hq, ex, hp3, rfl, rfl⟩ | ⟨hp3, rfl, rfl⟩ | ⟨q, hq, ex, hp3, rfl, rfl⟩
  · have hlq := hln q hq
    refine lv_if_ne (tgt := 27) hxe hcd dX10_rawSample_6 (by decide) (fun h => absurd h (by decide)) (fun _ => ?_)
    subst ex
    obtain ⟨i, hi, rfl⟩ := hp3
    refine lv_aload_n hxe hcd dX10_rawSample_9 rfl (lv_at hl 0 rfl) ?_
    refine gf_X10_16 S hW dX10_rawSample_10 ?_
    refine lv_bipush (v := (nI 77)) hxe hcd dX10_rawSample_13 (by decide) ?_
    refine lv_sipush (v := (nI 160)) hxe hcd dX10_rawSample_15 (by decide) ?_
    refine lv_iload_n hxe hcd dX10_rawSample_18 rfl (lv_at hl 1 rfl) ?_
    refine n_imul S (a := 160) (b := q) dX10_rawSample_19 ?_
    refine n_iadd S (a := 77) (b := (160 * q)) dX10_rawSample_20 ?_
    refine lv_iload_n hxe hcd dX10_rawSample_21 rfl (lv_at hl 2 rfl) ?_
    refine n_iadd S (a := (77 + (160 * q))) (b := i) dX10_rawSample_22 ?_
    refine gm_ald S hW (i := 1) (k := ((77 + (160 * q)) + i)) (n := 1357) (by decide) (by decide) rfl (by omega) dX10_rawSample_23 ?_
    refine lv_goto (tgt := 28) hxe hcd dX10_rawSample_24 (by decide) ?_
    refine r_iret S hr hlk (F := (mE Z B)) (u := (up1 ν 0 (upd (ν 0) 0 (nI 0)))) hW ?_ dX10_rawSample_28
    exact Or.inl ⟨q, i, hq, rfl, hi, rfl, rfl, rfl⟩
  · refine lv_if_ne (tgt := 27) hxe hcd dX10_rawSample_6 (by decide) (fun _ => ?_) (fun h => absurd h (by decide))
    refine lv_iconst (v := (nI 0)) hxe hcd dX10_rawSample_27 (by decide) ?_
    refine r_iret S hr hlk (F := (mE Z B)) (u := (up1 ν 0 (upd (ν 0) 0 (nI 1)))) hW ?_ dX10_rawSample_28
    exact Or.inr (Or.inl ⟨hp3, rfl, rfl⟩)
  · have hlq := hln q hq
    refine lv_if_ne (tgt := 27) hxe hcd dX10_rawSample_6 (by decide) (fun _ => ?_) (fun h => absurd h (by decide))
    refine lv_iconst (v := (nI 0)) hxe hcd dX10_rawSample_27 (by decide) ?_
    refine r_iret S hr hlk (F := (mE Z B)) (u := (up1 ν 0 (upd (ν 0) 0 (nI 2)))) hW ?_ dX10_rawSample_28
    exact Or.inr (Or.inr ⟨q, hq, ex, hp3, rfl, rfl⟩)
