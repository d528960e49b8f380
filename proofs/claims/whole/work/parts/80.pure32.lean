/-! pure words: each change keeps it that the class's rows and the model's row say the same -/
theorem up2_rb (μ : CM) (b o : Nat) (f : Nat → Int32) (o2 : Nat) : up2 μ b o f b o2 = if o2 = o then f else μ b o2 := by
  by_cases h : o2 = o
  · rw [if_pos h, h, up2_s]
  · rw [if_neg h, up2_o h]
theorem upd_rd (f : Nat → Int32) (k : Nat) (x : Int32) (j : Nat) : upd f k x j = if j = k then x else f j := by
  by_cases h : j = k
  · rw [if_pos h, h, upd_s]
  · rw [if_neg h, upd_o h]
theorem ntR_in {f : Nat → Int32} {s0 P i j : Nat} {am : Int32} (h1 : s0 ≤ j) (h2 : j < s0 + i) : ntR f s0 P am i j = if (j - s0) % P < P / 2 then am else -am := by
  simp only [ntR]
  rw [if_pos ⟨h1, h2⟩]
theorem ntR_out {f : Nat → Int32} {s0 P i j : Nat} {am : Int32} (h : ¬ (s0 ≤ j ∧ j < s0 + i)) : ntR f s0 P am i j = f j := by
  simp only [ntR]
  rw [if_neg h]
theorem swV_k {v : Nat → Int32} {a c f : Nat} (ha : a < 8) (hc : c < 8) (hf : f < 8) : swV v a c (5 + f) = if f = c then v (5 + a) else if f = a then v (5 + c) else v (5 + f) := by
  rw [swV, upd_o (by omega)]
  by_cases h1 : f = c
  · rw [if_pos h1, h1, upd_s]
  · rw [if_neg h1, upd_o (by omega), upd_o (by omega)]
    by_cases h2 : f = a
    · rw [if_pos h2, h2, upd_s]
    · rw [if_neg h2, upd_o (by omega)]
theorem swV_p {v : Nat → Int32} {a c f : Nat} (ha : a < 8) (hc : c < 8) (hf : f < 8) : swV v a c (13 + f) = if f = c then v (13 + a) else if f = a then v (13 + c) else v (13 + f) := by
  rw [swV]
  by_cases h1 : f = c
  · rw [if_pos h1, h1, upd_s]
  · rw [if_neg h1, upd_o (by omega), upd_o (by omega)]
    by_cases h2 : f = a
    · rw [if_pos h2, h2, upd_s]
    · rw [if_neg h2, upd_o (by omega), upd_o (by omega)]
theorem RF_c {k : CR1} {v w : Nat → Int32} {nf : Nat} (h : RF k v nf) (h8 : nf ≤ 8) (e : ∀ j, j = 0 ∨ (5 ≤ j ∧ j < 21) → w j = v j) : RF k w nf := by
  refine ⟨by rw [e 0 (Or.inl rfl)]; exact h.1, fun f hf => ?_⟩
  rw [e (5 + f) (by omega), e (13 + f) (by omega)]
  exact h.2 f hf
theorem RS_c {k : CR1} {v w : Nat → Int32} {ln nn : Nat → Nat} (h : RS k v ln nn) (e : ∀ j, (21 ≤ j ∧ j < 29) ∨ 77 ≤ j → w j = v j) : RS k w ln nn := fun q hq => by
  obtain ⟨h1, h2, h3, h4⟩ := h q hq
  refine ⟨by rw [e _ (by omega)]; exact h1, by rw [e _ (by omega)]; exact h2, fun i hi => by rw [e _ (by omega)]; exact h3 i hi, fun i hi => by rw [e _ (by omega)]; exact h4 i hi⟩
theorem RT_c {k : CR1} {v w : Nat → Int32} {nt : Nat} {lv : Nat → Nat} (h : RT k v nt lv) (h4 : nt ≤ 4) (h9 : ∀ t, t < nt → lv t ≤ 9) (e : ∀ j, (1 ≤ j ∧ j < 5) ∨ (29 ≤ j ∧ j < 77) → w j = v j) : RT k w nt lv := by
  obtain ⟨h1, h2⟩ := h
  refine ⟨?_, fun t ht => ?_⟩
  · rw [e 1 (by omega), e 2 (by omega), e 3 (by omega), e 4 (by omega)]
    exact h1
  · obtain ⟨a1, a2, a3, a4⟩ := h2 t ht
    have := h9 t ht
    rw [e _ (by omega), e _ (by omega), e _ (by omega)]
    refine ⟨a1, a2, a3, fun i hi => ?_⟩
    rw [e _ (by omega)]
    exact a4 i hi
theorem RP_of {k : CR1} {v : Nat → Int32} {nf nt : Nat} {ps ln nn cp lv tu : Nat → Nat} {nl fr : Nat → Nat → Nat} (hF : FGx v nf ps) (hS : SGx v ln nn nl) (hT : TGx v nt cp lv tu fr) (rF : RF k v nf) (rS : RS k v ln nn) (rT : RT k v nt lv) : RP k v := by
  have hb := fun q hq => SGx_b hS (q := q) hq
  obtain ⟨⟨f1, f2⟩, f3⟩ := hF
  obtain ⟨s1, s2, s3, s4, s5⟩ := hS
  obtain ⟨⟨t1, t2⟩, t3, t4, t5, t6, t7⟩ := hT
  have e1 : nfV v = nf := cl_nI f1 (by omega)
  have e2 : ntV v = nt := cl_nI t1 (by omega)
  have e3 : ∀ q, q < 4 → lnV v q = ln q := fun q hq => cl_nI (s1 q hq).1 (by have := s1 q hq; omega)
  have e4 : ∀ q, q < 4 → nnV v q = nn q := fun q hq => cl_nI (s2 q hq) (by have := s1 q hq; have := hb q hq; omega)
  have e8 : ∀ t, t < nt → lvN v t = lv t := fun t ht => cl_nI (t3 t ht).2.1 (by have := t3 t ht; omega)
  refine ⟨by rw [e1]; exact rF, fun q hq => ?_, ?_⟩
  · rw [e3 q hq, e4 q hq]
    exact rS q hq
  · rw [e2]
    refine ⟨rT.1, fun t ht => ?_⟩
    rw [e8 t ht]
    exact rT.2 t ht
theorem TGx_9 {v : Nat → Int32} {nt : Nat} {cp lv tu : Nat → Nat} {fr : Nat → Nat → Nat} (h : TGx v nt cp lv tu fr) : ∀ t, t < nt → lv t ≤ 9 := fun t ht => by
  have := h.2.1 t ht
  omega
section RPS
variable {k k2 : CR1} {v : Nat → Int32}
theorem RF_ins {nf q : Nat} {K x : Int32} (h : RF k v nf) (hq : q ≤ nf) (h8 : nf < 8) (e1 : k2 1 2 = nI (nf + 1)) (e2 : k2 2 = insR (k 2) q nf K) (e3 : k2 3 = insR (k 3) q nf x) : RF k2 (insV v q nf K x) (nf + 1) := by
  refine ⟨by rw [e1, insV, upd_s], fun f hf => ?_⟩
  rw [e2, e3, insV]
  rcases Nat.lt_trichotomy f q with h1 | h1 | h1
  · have h2 := h.2 f (by omega)
    rw [upd_o (by omega), upd_o (by omega), upd_o (by omega), upd_o (by omega), upd_o (by omega), upd_o (by omega)]
    simp only [insR, shV]
    rw [if_pos h1, if_pos h1, if_neg (by omega), if_neg (by omega)]
    exact h2
  · subst h1
    rw [upd_o (by omega), upd_o (by omega), upd_s, upd_o (by omega), upd_s]
    exact ⟨by simp [insR], by simp [insR]⟩
  · have h2 := h.2 (f - 1) (by omega)
    rw [upd_o (by omega), upd_o (by omega), upd_o (by omega), upd_o (by omega), upd_o (by omega), upd_o (by omega)]
    simp only [insR, shV]
    refine ⟨?_, ?_⟩
    · rw [if_neg (by omega), if_neg (by omega), if_pos (by omega), if_pos (by omega), show 5 + f - 1 = 5 + (f - 1) by omega]
      exact h2.1
    · rw [if_neg (by omega), if_neg (by omega), if_pos (by omega), if_pos (by omega), show 13 + f - 1 = 13 + (f - 1) by omega]
      exact h2.2
theorem RP_ins {q a : Nat} {K : Int32} (h : RP k v) (hV : VG v) (hq : q ≤ nfV v) (h8 : nfV v < 8) (hk : KP K (nI a)) (ha : a ≤ 999) (e1 : k2 1 2 = nI (nfV v + 1)) (e2 : k2 2 = insR (k 2) q (nfV v) K) (e3 : k2 3 = insR (k 3) q (nfV v) (nI a)) (eo : ∀ o, 5 ≤ o → o < 14 → k2 o = k o) : RP k2 (insV v q (nfV v) K (nI a)) :=
  RP_of (FGx_ins (VG_F hV) hq h8 hk ha) (SGx_c (VG_S hV) (fun j hj => insV_o hq h8 (by omega))) (TGx_c (VG_T hV) (fun j hj => insV_o hq h8 (by omega))) (RF_ins h.1 hq h8 e1 e2 e3) (RS_c (RS_k h.2.1 (fun o h1 h2 => eo o h1 (by omega))) (fun j hj => insV_o hq h8 (by omega))) (RT_c (RT_k h.2.2 (fun o h1 h2 => eo o (by omega) h2)) hV.2.1.2 (TGx_9 (VG_T hV)) (fun j hj => insV_o hq h8 (by omega)))
theorem RF_del {nf q : Nat} (h : RF k v nf) (hq : q < nf) (h8 : nf ≤ 8) (e1 : k2 1 2 = nI (nf - 1)) (e2 : k2 2 = slR (k 2) q (nf - 1)) (e3 : k2 3 = slR (k 3) q (nf - 1)) : RF k2 (delV v q nf) (nf - 1) := by
  refine ⟨by rw [e1, delV, upd_o (by omega), upd_o (by omega), slV, if_neg (by omega), upd_s], fun f hf => ?_⟩
  rw [e2, e3, delV, upd_o (by omega), upd_o (by omega), upd_o (by omega), upd_o (by omega)]
  simp only [slR, slV]
  by_cases h1 : q ≤ f
  · have h2 := h.2 (f + 1) (by omega)
    rw [if_pos (by omega), if_pos (by omega), if_pos (by omega), if_pos (by omega), upd_o (by omega), upd_o (by omega)]
    exact h2
  · have h2 := h.2 f (by omega)
    rw [if_neg (by omega), if_neg (by omega), if_neg (by omega), if_neg (by omega), upd_o (by omega), upd_o (by omega)]
    exact h2
theorem RP_del {q : Nat} (h : RP k v) (hV : VG v) (hq : q < nfV v) (e1 : k2 1 2 = nI (nfV v - 1)) (e2 : k2 2 = slR (k 2) q (nfV v - 1)) (e3 : k2 3 = slR (k 3) q (nfV v - 1)) (eo : ∀ o, 5 ≤ o → o < 14 → k2 o = k o) : RP k2 (delV v q (nfV v)) :=
  have h8 := hV.1.2
  RP_of (FGx_del (VG_F hV) hq) (SGx_c (VG_S hV) (fun j hj => delV_o hq h8 (by omega))) (TGx_c (VG_T hV) (fun j hj => delV_o hq h8 (by omega))) (RF_del h.1 hq h8 e1 e2 e3) (RS_c (RS_k h.2.1 (fun o h1 h2 => eo o h1 (by omega))) (fun j hj => delV_o hq h8 (by omega))) (RT_c (RT_k h.2.2 (fun o h1 h2 => eo o (by omega) h2)) hV.2.1.2 (TGx_9 (VG_T hV)) (fun j hj => delV_o hq h8 (by omega)))
theorem RF_sw {nf a c : Nat} (h : RF k v nf) (ha : a < nf) (hc : c < nf) (h8 : nf ≤ 8) (e1 : k2 1 = k 1) (e2 : k2 2 = upd (upd (k 2) a (k 2 c)) c (k 2 a)) (e3 : k2 3 = upd (upd (k 3) a (k 3 c)) c (k 3 a)) : RF k2 (swV v a c) nf := by
  refine ⟨by rw [e1, h.1, swV, upd_o (by omega), upd_o (by omega), upd_o (by omega), upd_o (by omega)], fun f hf => ?_⟩
  have h1 := h.2 a ha
  have h2 := h.2 c hc
  have h3 := h.2 f hf
  rw [e2, e3, swV_k (by omega) (by omega) (by omega), swV_p (by omega) (by omega) (by omega)]
  simp only [upd_rd]
  by_cases d1 : f = c
  · rw [if_pos d1, if_pos d1, if_pos d1, if_pos d1]
    exact h1
  · rw [if_neg d1, if_neg d1, if_neg d1, if_neg d1]
    by_cases d2 : f = a
    · rw [if_pos d2, if_pos d2, if_pos d2, if_pos d2]
      exact h2
    · rw [if_neg d2, if_neg d2, if_neg d2, if_neg d2]
      exact h3
theorem RP_sw {a c : Nat} (h : RP k v) (hV : VG v) (ha : a < nfV v) (hc : c < nfV v) (e1 : k2 1 = k 1) (e2 : k2 2 = upd (upd (k 2) a (k 2 c)) c (k 2 a)) (e3 : k2 3 = upd (upd (k 3) a (k 3 c)) c (k 3 a)) (eo : ∀ o, 5 ≤ o → o < 14 → k2 o = k o) : RP k2 (swV v a c) :=
  have h8 := hV.1.2
  RP_of (FGx_sw (VG_F hV) ha hc) (SGx_c (VG_S hV) (fun j hj => swV_o (by omega) (by omega) (by omega))) (TGx_c (VG_T hV) (fun j hj => swV_o (by omega) (by omega) (by omega))) (RF_sw h.1 ha hc h8 e1 e2 e3) (RS_c (RS_k h.2.1 (fun o h1 h2 => eo o h1 (by omega))) (fun j hj => swV_o (by omega) (by omega) (by omega))) (RT_c (RT_k h.2.2 (fun o h1 h2 => eo o (by omega) h2)) hV.2.1.2 (TGx_9 (VG_T hV)) (fun j hj => swV_o (by omega) (by omega) (by omega)))
theorem RS_note {ln nn : Nat → Nat} {q P K : Nat} {am : Int32} (h : RS k v ln nn) (hq : q < 4) (hl : ln q + K ≤ 160) (hnn : nn q < 160) (hb : ∀ r, r < 4 → ln r ≤ 160 ∧ nn r ≤ 160) (e5 : k2 5 = ntR (k 5) (q * 160 + ln q) P am K) (e6 : k2 6 = upd (k 6) (q * 160 + nn q) (nI K)) (e8 : k2 8 = upd (k 8) q (nI (nn q + 1))) (e7 : k2 7 = upd (k 7) q (nI (ln q + K))) : RS k2 (noteV v q (ln q) (nn q) P am K) (fun r => if r = q then ln q + K else ln r) (fun r => if r = q then nn q + 1 else nn r) := fun r hr => by
  obtain ⟨h1, h2, h3, h4⟩ := h r hr
  have hbr := hb r hr
  rw [e5, e6, e7, e8, noteV]
  by_cases e : r = q
  · subst e
    simp only [if_true]
    refine ⟨by rw [upd_s, upd_s], by rw [upd_s, upd_o (by omega), upd_s], fun i hi => ?_, fun i hi => ?_⟩
    · rw [upd_o (by omega), upd_o (by omega), upd_o (by omega)]
      by_cases hn : ln r ≤ i
      · rw [ntR_in (by omega) (by omega), ntR_in (by omega) (by omega), show r * 160 + i - (r * 160 + ln r) = i - ln r by omega, show 77 + 160 * r + i - (77 + 160 * r + ln r) = i - ln r by omega]
      · rw [ntR_out (by omega), ntR_out (by omega)]
        exact h3 i (by omega)
    · by_cases hn : i = nn r
      · rw [hn, upd_s, upd_o (by omega), upd_o (by omega), upd_s]
      · rw [upd_o (by omega), upd_o (by omega), upd_o (by omega), upd_o (by omega), ntR_out (by omega)]
        exact h4 i (by omega)
  · simp only [if_neg e]
    refine ⟨by rw [upd_o e, upd_o (by omega), upd_o (by omega), upd_o (by omega), ntR, if_neg (by omega)]; exact h1, by rw [upd_o e, upd_o (by omega), upd_o (by omega), upd_o (by omega), ntR, if_neg (by omega)]; exact h2, fun i hi => ?_, fun i hi => ?_⟩
    · rw [upd_o (by omega), upd_o (by omega), upd_o (by omega), ntR_out (by omega), ntR_out (by omega)]
      exact h3 i hi
    · rw [upd_o (by omega), upd_o (by omega), upd_o (by omega), upd_o (by omega), ntR, if_neg (by omega)]
      exact h4 i hi
theorem VG_n160 (hV : VG v) : ∀ r, r < 4 → lnV v r ≤ 160 ∧ nnV v r ≤ 160 := fun r hr => by
  have h1 := hV.2.2.1 r hr
  have h2 := hV.2.2.2.1 r hr
  omega
theorem RP_note {q P K : Nat} {am : Int32} (h : RP k v) (hV : VG v) (hq : q < 4) (hK : 1 ≤ K) (hl : lnV v q + K ≤ 160) (ham : nI 1 ≤ am ∧ am ≤ nI 999) (e5 : k2 5 = ntR (k 5) (q * 160 + lnV v q) P am K) (e6 : k2 6 = upd (k 6) (q * 160 + nnV v q) (nI K)) (e8 : k2 8 = upd (k 8) q (nI (nnV v q + 1))) (e7 : k2 7 = upd (k 7) q (nI (lnV v q + K))) (eo : ∀ o, o < 5 ∨ (9 ≤ o ∧ o < 14) → k2 o = k o) : RP k2 (noteV v q (lnV v q) (nnV v q) P am K) := by
  obtain ⟨c, h1, h2, rfl⟩ := (I_rng2 (by decide) (by decide)).mp ham
  have hb := SGx_b (VG_S hV) hq
  exact RP_of (FGx_c (VG_F hV) (fun j hj => noteV_o hq hl (by omega))) (SGx_note (VG_S hV) hq hK hl h2) (TGx_c (VG_T hV) (fun j hj => noteV_o hq hl (by omega))) (RF_c (RF_k h.1 (fun o _ ho => eo o (by omega))) hV.1.2 (fun j hj => noteV_o hq hl (by omega))) (RS_note h.2.1 hq hl (by omega) (VG_n160 hV) e5 e6 e8 e7) (RT_c (RT_k h.2.2 (fun o h1 h2 => eo o (by omega))) hV.2.1.2 (TGx_9 (VG_T hV)) (fun j hj => noteV_o hq hl (by omega)))
theorem RS_unt {ln nn : Nat → Nat} {q j : Nat} (h : RS k v ln nn) (hq : q < 4) (hn0 : 0 < nn q) (hb : ∀ r, r < 4 → ln r ≤ 160 ∧ nn r ≤ 160) (e5 : k2 5 = k 5) (e6 : k2 6 = k 6) (e8 : k2 8 = upd (k 8) q (nI (nn q - 1))) (e7 : k2 7 = upd (k 7) q (nI (ln q - j))) : RS k2 (untV v q (nn q) (ln q) j) (fun r => if r = q then ln q - j else ln r) (fun r => if r = q then nn q - 1 else nn r) := fun r hr => by
  obtain ⟨h1, h2, h3, h4⟩ := h r hr
  have hbr := hb r hr
  have hbq := hb q hq
  rw [e5, e6, e7, e8, untV]
  simp only [zrR]
  by_cases e : r = q
  · subst e
    simp only [if_true]
    refine ⟨by rw [upd_s, if_neg (by omega), upd_o (by omega), upd_s], by rw [upd_s, if_neg (by omega), upd_o (by omega), upd_o (by omega), upd_s], fun i hi => ?_, fun i hi => ?_⟩
    · rw [if_neg (by omega), upd_o (by omega), upd_o (by omega), upd_o (by omega)]
      exact h3 i (by omega)
    · rw [if_neg (by omega), upd_o (by omega), upd_o (by omega), upd_o (by omega)]
      exact h4 i (by omega)
  · simp only [if_neg e]
    refine ⟨by rw [upd_o e, if_neg (by omega), upd_o (by omega), upd_o (by omega), upd_o (by omega)]; exact h1, by rw [upd_o e, if_neg (by omega), upd_o (by omega), upd_o (by omega), upd_o (by omega)]; exact h2, fun i hi => ?_, fun i hi => ?_⟩
    · rw [if_neg (by omega), upd_o (by omega), upd_o (by omega), upd_o (by omega)]
      exact h3 i hi
    · rw [if_neg (by omega), upd_o (by omega), upd_o (by omega), upd_o (by omega)]
      exact h4 i hi
theorem RP_unt {q : Nat} (h : RP k v) (hV : VG v) (hq : q < 4) (h0 : 0 < nnV v q) (e8 : k2 8 = upd (k 8) q (nI (nnV v q - 1))) (e7 : k2 7 = upd (k 7) q (nI (lnV v q - nlV v q (nnV v q - 1)))) (eo : ∀ o, o < 7 ∨ (9 ≤ o ∧ o < 14) → k2 o = k o) : RP k2 (untV v q (nnV v q) (lnV v q) (nlV v q (nnV v q - 1))) :=
  have hb := SGx_b (VG_S hV) hq
  have hl := VG_n160 hV q hq
  RP_of (FGx_c (VG_F hV) (fun j hj => untV_o hq (by omega) (by omega))) (SGx_unt (VG_S hV) hq h0) (TGx_c (VG_T hV) (fun j hj => untV_o hq (by omega) (by omega))) (RF_c (RF_k h.1 (fun o _ ho => eo o (by omega))) hV.1.2 (fun j hj => untV_o hq (by omega) (by omega))) (RS_unt h.2.1 hq h0 (VG_n160 hV) (eo 5 (by omega)) (eo 6 (by omega)) e8 e7) (RT_c (RT_k h.2.2 (fun o h1 h2 => eo o (by omega))) hV.2.1.2 (TGx_9 (VG_T hV)) (fun j hj => untV_o hq (by omega) (by omega)))
theorem RT_add {nt a : Nat} {lv : Nat → Nat} (h : RT k v nt lv) (h4 : nt < 4) (h9 : ∀ t, t < nt → lv t ≤ 9) (hz : v (29 + 12 * nt + 2) = nI 0) (e9 : k2 9 = upd (k 9) 4 (nI (nt + 1))) (e10 : k2 10 = upd (k 10) nt (nI a)) (e11 : k2 11 = upd (k 11) nt (nI 9999)) (e12 : k2 12 = upd (k 12) nt (nI 0)) (e13 : k2 13 = k 13) : RT k2 (upd (upd (upd v (29 + 12 * nt + 0) (nI a)) (29 + 12 * nt + 1) (nI 9999)) 1 (nI (nt + 1))) (nt + 1) (fun t => if t = nt then 0 else lv t) := by
  obtain ⟨⟨a1, a2, a3, a4⟩, h2⟩ := h
  refine ⟨?_, fun t ht => ?_⟩
  · rw [e9]
    exact ⟨by rw [upd_s, upd_s], by rw [upd_o (by decide), upd_o (by decide), upd_o (by omega), upd_o (by omega)]; exact a2, by rw [upd_o (by decide), upd_o (by decide), upd_o (by omega), upd_o (by omega)]; exact a3, by rw [upd_o (by decide), upd_o (by decide), upd_o (by omega), upd_o (by omega)]; exact a4⟩
  · rw [e10, e11, e12, e13]
    by_cases e : t = nt
    · subst e
      simp only [if_true]
      rw [upd_s, upd_s, upd_s, upd_o (by omega), upd_o (by omega), upd_s, upd_o (by omega), upd_s, upd_o (by omega), upd_o (by omega), upd_o (by omega), hz]
      exact ⟨rfl, rfl, rfl, fun i hi => absurd hi (Nat.not_lt_zero _)⟩
    · simp only [if_neg e]
      have h3 := h2 t (by omega)
      have h5 := h9 t (by omega)
      rw [upd_o e, upd_o e, upd_o e, upd_o (by omega), upd_o (by omega), upd_o (by omega), upd_o (by omega), upd_o (by omega), upd_o (by omega), upd_o (by omega), upd_o (by omega), upd_o (by omega)]
      refine ⟨h3.1, h3.2.1, h3.2.2.1, fun i hi => ?_⟩
      rw [upd_o (by omega), upd_o (by omega), upd_o (by omega)]
      exact h3.2.2.2 i hi
theorem RP_add {a : Nat} (h : RP k v) (hV : VG v) (h4 : ntV v < 4) (ha : 1 ≤ a ∧ a ≤ 9) (e9 : k2 9 = upd (k 9) 4 (nI (ntV v + 1))) (e10 : k2 10 = upd (k 10) (ntV v) (nI a)) (e11 : k2 11 = upd (k 11) (ntV v) (nI 9999)) (e12 : k2 12 = upd (k 12) (ntV v) (nI 0)) (eo : ∀ o, o < 9 ∨ o = 13 → k2 o = k o) : RP k2 (upd (upd (upd v (29 + 12 * ntV v + 0) (nI a)) (29 + 12 * ntV v + 1) (nI 9999)) 1 (nI (ntV v + 1))) :=
  RP_of (FGx_c (VG_F hV) (fun j hj => by rw [upd_o (by omega), upd_o (by omega), upd_o (by omega)])) (SGx_c (VG_S hV) (fun j hj => by rw [upd_o (by omega), upd_o (by omega), upd_o (by omega)])) (TGx_add (VG_T hV) h4 ha) (RF_c (RF_k h.1 (fun o _ ho => eo o (by omega))) hV.1.2 (fun j hj => by rw [upd_o (by omega), upd_o (by omega), upd_o (by omega)])) (RS_c (RS_k h.2.1 (fun o h1 h2 => eo o (by omega))) (fun j hj => by rw [upd_o (by omega), upd_o (by omega), upd_o (by omega)])) (RT_add h.2.2 h4 (TGx_9 (VG_T hV)) ((VG_T hV).2.2.2.2.2 _ (Nat.le_refl _) h4) e9 e10 e11 e12 (eo 13 (by omega)))
theorem RT_tune {nt q y : Nat} {lv : Nat → Nat} (h : RT k v nt lv) (h4 : nt ≤ 4) (hq : q < nt) (h9 : ∀ t, t < nt → lv t ≤ 9) (e11 : k2 11 = upd (k 11) q (nI y)) (e9 : k2 9 = k 9) (e10 : k2 10 = k 10) (e12 : k2 12 = k 12) (e13 : k2 13 = k 13) : RT k2 (upd v (29 + 12 * q + 1) (nI y)) nt lv := by
  obtain ⟨a1, h2⟩ := h
  refine ⟨?_, fun t ht => ?_⟩
  · rw [e9, upd_o (by omega), upd_o (by omega), upd_o (by omega), upd_o (by omega)]
    exact a1
  · have h3 := h2 t ht
    have h5 := h9 t ht
    rw [e10, e11, e12, e13]
    refine ⟨by rw [upd_o (by omega)]; exact h3.1, ?_, by rw [upd_o (by omega)]; exact h3.2.2.1, fun i hi => ?_⟩
    · by_cases e : t = q
      · subst e
        rw [upd_s, upd_s]
      · rw [upd_o e, upd_o (by omega)]
        exact h3.2.1
    · rw [upd_o (by omega)]
      exact h3.2.2.2 i hi
theorem RP_tune {q y : Nat} (h : RP k v) (hV : VG v) (hq : q < ntV v) (hy : y ≤ 9999) (e11 : k2 11 = upd (k 11) q (nI y)) (eo : ∀ o, o < 11 ∨ o = 12 ∨ o = 13 → k2 o = k o) : RP k2 (upd v (29 + 12 * q + 1) (nI y)) :=
  have h4 := hV.2.1.2
  RP_of (FGx_c (VG_F hV) (fun j hj => upd_o (by omega))) (SGx_c (VG_S hV) (fun j hj => upd_o (by omega))) (TGx_tune (VG_T hV) hq hy) (RF_c (RF_k h.1 (fun o _ ho => eo o (by omega))) hV.1.2 (fun j hj => upd_o (by omega))) (RS_c (RS_k h.2.1 (fun o h1 h2 => eo o (by omega))) (fun j hj => upd_o (by omega))) (RT_tune h.2.2 h4 hq (TGx_9 (VG_T hV)) e11 (eo 9 (by omega)) (eo 10 (by omega)) (eo 12 (by omega)) (eo 13 (by omega)))
theorem RT_drn {nt q j : Nat} {lv : Nat → Nat} (h : RT k v nt lv) (h4 : nt ≤ 4) (hq : q < nt) (h9 : ∀ t, t < nt → lv t ≤ 9) (hj : j ≤ lv q) (e13 : k2 13 = tkR (k 13) (q * 9) j (lv q - j)) (e12 : k2 12 = upd (k 12) q (nI (lv q - j))) (e9 : k2 9 = upd (k 9) 7 (k 9 7 + nI j)) (e10 : k2 10 = k 10) (e11 : k2 11 = k 11) : RT k2 (drnV v q (lv q) j) nt (fun t => if t = q then lv q - j else lv t) := by
  obtain ⟨⟨a1, a2, a3, a4⟩, h2⟩ := h
  have hq9 := h9 q hq
  refine ⟨?_, fun t ht => ?_⟩
  · rw [e9, drnV]
    exact ⟨by rw [upd_o (by decide), upd_o (by decide), upd_o (by omega), dnV, if_neg (by omega)]; exact a1, by rw [upd_o (by decide), upd_o (by decide), upd_o (by omega), dnV, if_neg (by omega)]; exact a2, by rw [upd_o (by decide), upd_o (by decide), upd_o (by omega), dnV, if_neg (by omega)]; exact a3, by rw [upd_s, upd_s, a4]⟩
  · have h3 := h2 t ht
    have h5 := h9 t ht
    rw [e10, e11, e12, e13, drnV]
    refine ⟨by rw [upd_o (by omega), upd_o (by omega), dnV, if_neg (by omega)]; exact h3.1, by rw [upd_o (by omega), upd_o (by omega), dnV, if_neg (by omega)]; exact h3.2.1, ?_, fun i hi => ?_⟩
    · by_cases e : t = q
      · subst e
        rw [upd_s, upd_o (by omega), upd_s]
      · rw [upd_o e, upd_o (by omega), upd_o (by omega), dnV, if_neg (by omega)]
        exact h3.2.2.1
    · have hi2 : i < lv t := by
        by_cases e : t = q
        · simp only [if_pos e] at hi
          rw [e]; omega
        · simp only [if_neg e] at hi
          exact hi
      rw [upd_o (by omega), upd_o (by omega)]
      by_cases e : t = q
      · subst e
        simp only [if_true] at hi
        have h6 := h3.2.2.2 (i + j) (by omega)
        simp only [tkR, dnV]
        rw [if_pos (by omega), if_pos (by omega), if_pos (by omega), show t * 9 + i + j = t * 9 + (i + j) by omega, h6]
        congr 1
        omega
      · simp only [if_neg e] at hi
        simp only [tkR, dnV]
        rw [if_neg (by omega), if_neg (by omega)]
        exact h3.2.2.2 i hi
theorem RP_drn {q j : Nat} (h : RP k v) (hV : VG v) (hq : q < ntV v) (hj : 1 ≤ j) (hl : j ≤ lvN v q) (e13 : k2 13 = tkR (k 13) (q * 9) j (lvN v q - j)) (e12 : k2 12 = upd (k 12) q (nI (lvN v q - j))) (e9 : k2 9 = upd (k 9) 7 (k 9 7 + nI j)) (eo : ∀ o, o < 9 ∨ o = 10 ∨ o = 11 → k2 o = k o) : RP k2 (drnV v q (lvN v q) j) :=
  have h4 := hV.2.1.2
  RP_of (FGx_c (VG_F hV) (fun i hi => drnV_o (by omega) (by omega))) (SGx_c (VG_S hV) (fun i hi => drnV_o (by omega) (by omega))) (TGx_drn (VG_T hV) hq hj hl) (RF_c (RF_k h.1 (fun o _ ho => eo o (by omega))) hV.1.2 (fun i hi => drnV_o (by omega) (by omega))) (RS_c (RS_k h.2.1 (fun o h1 h2 => eo o (by omega))) (fun i hi => drnV_o (by omega) (by omega))) (RT_drn h.2.2 h4 hq (TGx_9 (VG_T hV)) hl e13 e12 e9 (eo 10 (by omega)) (eo 11 (by omega)))
/-- a pouring -/
theorem RP_pour {q K : Nat} {lv2 : Nat → Nat} (h : RP k v) (hV : VG v) (hq : q < 4) (hT : RT k2 (pourN v (ntV v) (ldV (flV v q (nfV v)) (lnV v q)) K) (ntV v) lv2) (hVT : VT (pourN v (ntV v) (ldV (flV v q (nfV v)) (lnV v q)) K) (ntV v) (cpN v) lv2) (eo : ∀ o, o < 9 → k2 o = k o) : RP k2 (pourN v (ntV v) (ldV (flV v q (nfV v)) (lnV v q)) K) := by
  have h4 := hV.2.1.2
  have hT0 := VG_T hV
  obtain ⟨lv3, fr3, h3⟩ := TGx_pourN (L := ldV (flV v q (nfV v)) (lnV v q)) (fun i => by
    obtain ⟨a, ha, e⟩ := ldV_nat (f := flV v q (nfV v)) (n := lnV v q) (k := i) (fun i hi => VG_flV hV hq hi)
    exact ⟨a, by omega, e⟩) hT0 K
  refine RP_of (FGx_c (VG_F hV) (fun j hj => pourN_lo hT0.2.1 h4 (by omega) (by omega) (by omega) K)) (SGx_c (VG_S hV) (fun j hj => pourN_lo hT0.2.1 h4 (by omega) (by omega) (by omega) K)) h3 (RF_c (RF_k h.1 (fun o _ ho => eo o (by omega))) hV.1.2 (fun j hj => pourN_lo hT0.2.1 h4 (by omega) (by omega) (by omega) K)) (RS_c (RS_k h.2.1 (fun o h1 h2 => eo o (by omega))) (fun j hj => pourN_lo hT0.2.1 h4 (by omega) (by omega) (by omega) K)) ⟨hT.1, fun t ht => ?_⟩
  have e1 := (hVT t ht).2.1
  have e2 := (h3.2.1 t ht).2.1
  have e3 : lv2 t = lv3 t := (nI_eq (by have := hVT t ht; omega) (by have := h3.2.1 t ht; omega)).mp (e1.symm.trans e2)
  rw [← e3]
  exact hT.2 t ht
/-- a copy -/
theorem RP_cp {k3 : CR1} (h : RP k v) (hV : VG v) (e1 : k2 1 2 = k 1 2) (e2 : k2 2 = cpR 8 (k 2) (k3 2)) (e3 : k2 3 = cpR 8 (k 3) (k3 3)) (e5 : k2 5 = cpR 640 (k 5) (k3 5)) (e6 : k2 6 = cpR 640 (k 6) (k3 6)) (e7 : k2 7 = cpR 4 (k 7) (k3 7)) (e8 : k2 8 = cpR 4 (k 8) (k3 8)) (e9 : k2 9 4 = k 9 4 ∧ k2 9 5 = k 9 5 ∧ k2 9 6 = k 9 6 ∧ k2 9 7 = k 9 7) (e10 : k2 10 = cpR 4 (k 10) (k3 10)) (e11 : k2 11 = cpR 4 (k 11) (k3 11)) (e12 : k2 12 = cpR 4 (k 12) (k3 12)) (e13 : k2 13 = cpR 36 (k 13) (k3 13)) : RP k2 v := by
  obtain ⟨h1, h2, h3⟩ := h
  have hf8 := hV.1.2
  have hn := VG_n160 hV
  have hl9 := TGx_9 (VG_T hV)
  have hn4 := hV.2.1.2
  refine ⟨⟨by rw [e1]; exact h1.1, fun f hf => ?_⟩, fun q hq => ?_, ⟨?_, fun t ht => ?_⟩⟩
  · rw [e2, e3]
    simp only [cpR]
    rw [if_pos (by omega), if_pos (by omega)]
    exact h1.2 f hf
  · have h4 := h2 q hq
    have h5 := hn q hq
    rw [e5, e6, e7, e8]
    simp only [cpR]
    rw [if_pos hq, if_pos hq]
    exact ⟨h4.1, h4.2.1, fun i hi => by rw [if_pos (by omega)]; exact h4.2.2.1 i hi, fun i hi => by rw [if_pos (by omega)]; exact h4.2.2.2 i hi⟩
  · rw [e9.1, e9.2.1, e9.2.2.1, e9.2.2.2]
    exact h3.1
  · have h4 := h3.2 t ht
    have h5 := hl9 t ht
    rw [e10, e11, e12, e13]
    simp only [cpR]
    rw [if_pos (by omega), if_pos (by omega), if_pos (by omega)]
    exact ⟨h4.1, h4.2.1, h4.2.2.1, fun i hi => by rw [if_pos (by omega)]; exact h4.2.2.2 i hi⟩
end RPS
theorem RT_cpT {k k2 k3 : CR1} {v : Nat → Int32} (h : RT k v (ntV v) (lvN v)) (hV : VG v) (e9 : k2 9 4 = k 9 4 ∧ k2 9 5 = k 9 5 ∧ k2 9 6 = k 9 6 ∧ k2 9 7 = k 9 7) (e10 : k2 10 = cpR 4 (k 10) (k3 10)) (e11 : k2 11 = cpR 4 (k 11) (k3 11)) (e12 : k2 12 = cpR 4 (k 12) (k3 12)) (e13 : k2 13 = cpR 36 (k 13) (k3 13)) : RT k2 v (ntV v) (lvN v) := by
  have hl9 := TGx_9 (VG_T hV)
  have hn4 := hV.2.1.2
  refine ⟨?_, fun t ht => ?_⟩
  · rw [e9.1, e9.2.1, e9.2.2.1, e9.2.2.2]
    exact h.1
  · have h4 := h.2 t ht
    have h5 := hl9 t ht
    rw [e10, e11, e12, e13]
    simp only [cpR]
    rw [if_pos (by omega), if_pos (by omega), if_pos (by omega)]
    exact ⟨h4.1, h4.2.1, h4.2.2.1, fun i hi => by rw [if_pos (by omega)]; exact h4.2.2.2 i hi⟩
theorem cpS_b {μ : CM} {b b2 : Nat} (hne : b2 ≠ b) {v : Nat → Int32} (h : RP (μ b2) v) (hV : VG v) : RP (cpState μ b b2 b) v := by
  refine RP_cp (k3 := μ b) h hV ?_ ?_ ?_ ?_ ?_ ?_ ?_ ⟨?_, ?_, ?_, ?_⟩ ?_ ?_ ?_ ?_ <;> simp [cpState, cpTanks, cpSongs, cpChain, up2_b hne, up2_rb, upd_rd]
theorem cpS_o {μ : CM} {b b2 b3 : Nat} (hne : b3 ≠ b) (o : Nat) : cpState μ b b2 b3 o = μ b3 o := by
  simp only [cpState, cpTanks, cpSongs, cpChain, up2_b hne]
theorem cpT_b {μ : CM} {b b2 : Nat} (hne : b2 ≠ b) {v : Nat → Int32} (h : RP (μ b2) v) (hV : VG v) : RT (cpTanks μ b b2 b) v (ntV v) (lvN v) := by
  refine RT_cpT (k3 := μ b) h.2.2 hV ⟨?_, ?_, ?_, ?_⟩ ?_ ?_ ?_ ?_ <;> simp [cpTanks, up2_b hne, up2_rb, upd_rd]
theorem cpT_o {μ : CM} {b b2 b3 : Nat} (hne : b3 ≠ b) (o : Nat) : cpTanks μ b b2 b3 o = μ b3 o := by
  simp only [cpTanks, up2_b hne]
/-- the same but for what is worked in: the tanks' copy, the refining's rows, the rooms -/
def scr (b o : Nat) : Prop := b = 11 ∨ (b = 0 ∧ 18 ≤ o ∧ o < 22)
def SQ (μ u : CM) : Prop := ∀ b o, ¬ scr b o → u b o = μ b o
theorem SQ_rfl (μ : CM) : SQ μ μ := fun _ _ _ => rfl
theorem SQ_tr {μ u w : CM} (h1 : SQ μ u) (h2 : SQ u w) : SQ μ w := fun b o h => (h2 b o h).trans (h1 b o h)
theorem SQ_up {μ u : CM} (h : SQ μ u) {b o : Nat} (hs : scr b o) (f : Nat → Int32) : SQ μ (up2 u b o f) := fun b2 o2 h2 => by
  rw [up2_n (fun z => h2 (by rw [z.1, z.2]; exact hs))]
  exact h b2 o2 h2
theorem SQ_row {μ u : CM} (h : SQ μ u) {b : Nat} (hb : b < 11) : ∀ o, o < 14 → u b o = μ b o := fun o ho => h b o (by unfold scr; omega)
theorem SQ_RP {μ u : CM} (h : SQ μ u) {b : Nat} (hb : b < 11) {v : Nat → Int32} (hR : RP (μ b) v) : RP (u b) v := RP_k hR (SQ_row h hb)
theorem SQ_cpT (μ : CM) (b2 : Nat) : SQ μ (cpTanks μ 11 b2) := fun b o h => cpT_o (fun z => h (Or.inl z)) o
theorem SQ_18 (μ : CM) (M R : Nat → Int32) : SQ μ (up2 (up2 μ 0 18 M) 0 19 R) := SQ_up (SQ_up (SQ_rfl μ) (Or.inr ⟨rfl, by decide, by decide⟩) _) (Or.inr ⟨rfl, by decide, by decide⟩) _
theorem SQ_20 (μ : CM) (M R R2 : Nat → Int32) : SQ μ (up2 (up2 (up2 μ 0 18 M) 0 19 R) 0 20 R2) := SQ_up (SQ_18 μ M R) (Or.inr ⟨rfl, by decide, by decide⟩) _
theorem SQ_TKM {μ u : CM} (h : SQ μ u) (M R f9 f12 f13 : Nat → Int32) : SQ μ (up2 (up2 (up2 (up2 (up2 u 0 18 M) 0 19 R) 11 9 f9) 11 12 f12) 11 13 f13) :=
  SQ_tr h (SQ_up (SQ_up (SQ_up (SQ_18 u M R) (Or.inl rfl) _) (Or.inl rfl) _) (Or.inl rfl) _)
/-! rooms -/
def mrN (cp lv : Nat → Nat) : Option Nat → Nat
  | none => 0
  | some q => cp q - lv q
theorem bstV_up {v : Nat → Int32} {nt i : Nat} {cp lv : Nat → Nat} {x : Int32} (h : VT v nt cp lv) (hi : i < nt) (ht : x ≤ v (29 + 12 * i + 1)) (hg : mrN cp lv (bstV v x i) < cp i - lv i) : bstV v x (i + 1) = some i := by
  cases hb : bstV v x i with
  | none =>
    rw [hb] at hg
    simp only [mrN] at hg
    exact bstV_none h hi ⟨by omega, ht⟩ hb
  | some q =>
    rw [hb] at hg
    simp only [mrN] at hg
    exact bstV_more h hi ⟨by omega, ht⟩ hb hg
theorem bstV_st {v : Nat → Int32} {nt i : Nat} {cp lv : Nat → Nat} {x : Int32} (h : VT v nt cp lv) (hi : i < nt) (hn : ¬ (x ≤ v (29 + 12 * i + 1) ∧ mrN cp lv (bstV v x i) < cp i - lv i)) : bstV v x (i + 1) = bstV v x i := by
  by_cases hc : lv i < cp i ∧ x ≤ v (29 + 12 * i + 1)
  · cases hb : bstV v x i with
    | none =>
      rw [hb] at hn
      simp only [mrN] at hn
      exact absurd ⟨hc.2, by omega⟩ hn
    | some q =>
      rw [hb] at hn
      simp only [mrN] at hn
      exact bstV_less h hi hc hb (fun z => hn ⟨hc.2, z⟩)
  · exact bstV_no h hi hc
theorem VT_drop {v : Nat → Int32} {nt : Nat} {cp lv : Nat → Nat} {x : Int32} (hV : VT v nt cp lv) (hb : bstV v x nt = none) : VT (pourF v nt x) nt cp lv := by
  rw [pourF_none hb]
  exact fun t ht => by
    rw [upd_o (by omega), upd_o (by omega)]
    exact hV t ht
theorem VT_take {v : Nat → Int32} {nt q : Nat} {cp lv : Nat → Nat} {x : Int32} (hV : VT v nt cp lv) (hb : bstV v x nt = some q) : VT (pourF v nt x) nt cp (fun t => if t = q then lv q + 1 else lv t) := by
  have h1 := bstV_lt hV hb
  have h4 := hV q h1.1
  rw [pourF_some hb h4.2.1 (by omega)]
  intro t ht
  have h5 := hV t ht
  by_cases e : t = q
  · subst e
    rw [upd_o (by omega), upd_o (by omega), upd_o (by omega), upd_s]
    simp only [if_true]
    exact ⟨h5.1, True.intro, by omega, h5.2.2.2⟩
  · rw [upd_o (by omega), upd_o (by omega), upd_o (by omega), upd_o (by omega), upd_o (by omega), upd_o (by omega)]
    simp only [if_neg e]
    exact h5
theorem pourN_tu {v : Nat → Int32} {nt : Nat} {L : Nat → Int32} {cp lv : Nat → Nat} (hV : VT v nt cp lv) (hnt : nt ≤ 4) {t : Nat} (ht : t < nt) : ∀ k, pourN v nt L k (29 + 12 * t + 1) = v (29 + 12 * t + 1)
  | 0 => rfl
  | k + 1 => by
    obtain ⟨lv2, h⟩ := pourN_VT (L := L) hV hnt k
    rw [pourN]
    refine Eq.trans ?_ (pourN_tu (L := L) hV hnt ht k)
    cases hb : bstV (pourN v nt L k) (L k) nt with
    | none => rw [pourF_none hb, upd_o (by omega)]
    | some q =>
      have h1 := bstV_lt h hb
      have h4 := h q h1.1
      rw [pourF_some hb h4.2.1 (by omega), upd_o (by omega), upd_o (by omega), upd_o (by omega)]
