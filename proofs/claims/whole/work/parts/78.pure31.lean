/-! pure words: the class's rows and the model's row say the same -/
abbrev CR1 := Nat → Nat → Int32
def RF (k : CR1) (v : Nat → Int32) (nf : Nat) : Prop := k 1 2 = v 0 ∧ ∀ f, f < nf → k 2 f = v (5 + f) ∧ k 3 f = v (13 + f)
def RS (k : CR1) (v : Nat → Int32) (ln nn : Nat → Nat) : Prop := ∀ q, q < 4 → k 7 q = v (25 + q) ∧ k 8 q = v (21 + q) ∧ (∀ i, i < ln q → k 5 (q * 160 + i) = v (77 + 160 * q + i)) ∧ ∀ j, j < nn q → k 6 (q * 160 + j) = v (717 + 160 * q + j)
def RT (k : CR1) (v : Nat → Int32) (nt : Nat) (lv : Nat → Nat) : Prop := (k 9 4 = v 1 ∧ k 9 5 = v 2 ∧ k 9 6 = v 3 ∧ k 9 7 = v 4) ∧ ∀ t, t < nt → k 10 t = v (29 + 12 * t + 0) ∧ k 11 t = v (29 + 12 * t + 1) ∧ k 12 t = v (29 + 12 * t + 2) ∧ ∀ i, i < lv t → k 13 (t * 9 + i) = v (29 + 12 * t + (3 + i))
def RP (k : CR1) (v : Nat → Int32) : Prop := RF k v (nfV v) ∧ RS k v (lnV v) (nnV v) ∧ RT k v (ntV v) (lvN v)
theorem bst_RT {k : CR1} {v : Nat → Int32} {nt : Nat} {lv : Nat → Nat} (h : RT k v nt lv) (x : Int32) {n : Nat} (hn : n ≤ nt) : bstT (k 10) (k 12) (k 11) x n = bstV v x n :=
  bstT_congr (fun t ht => by
    have h1 := h.2 t (by omega)
    exact ⟨h1.1, h1.2.2.1, h1.2.1⟩)
theorem RT_lv {k : CR1} {v : Nat → Int32} {nt : Nat} {cp lv : Nat → Nat} (h : RT k v nt lv) (hV : VT v nt cp lv) : ∀ t, t < nt → k 12 t = nI (lv t) ∧ lv t ≤ 9 := fun t ht => by
  have h1 := hV t ht
  rw [(h.2 t ht).2.2.1]
  exact ⟨h1.2.1, by omega⟩
theorem RT_cp {k : CR1} {v : Nat → Int32} {nt : Nat} {cp lv : Nat → Nat} (h : RT k v nt lv) (hV : VT v nt cp lv) : ∀ t, t < nt → k 10 t = nI (cp t) ∧ cp t ≤ 9 := fun t ht => by
  have h1 := hV t ht
  rw [(h.2 t ht).1]
  exact ⟨h1.1, by omega⟩
/-- tanks of other rows that say the same -/
theorem RT_k {k k2 : CR1} {v : Nat → Int32} {nt : Nat} {lv : Nat → Nat} (h : RT k v nt lv) (e : ∀ o, 9 ≤ o → o < 14 → k2 o = k o) : RT k2 v nt lv := by
  unfold RT at h ⊢
  rw [e 9 (by decide) (by decide), e 10 (by decide) (by decide), e 11 (by decide) (by decide), e 12 (by decide) (by decide), e 13 (by decide) (by decide)]
  exact h
theorem RF_k {k k2 : CR1} {v : Nat → Int32} {nf : Nat} (h : RF k v nf) (e : ∀ o, 1 ≤ o → o < 4 → k2 o = k o) : RF k2 v nf := by
  unfold RF at h ⊢
  rw [e 1 (by decide) (by decide), e 2 (by decide) (by decide), e 3 (by decide) (by decide)]
  exact h
theorem RS_k {k k2 : CR1} {v : Nat → Int32} {ln nn : Nat → Nat} (h : RS k v ln nn) (e : ∀ o, 5 ≤ o → o < 9 → k2 o = k o) : RS k2 v ln nn := by
  unfold RS at h ⊢
  rw [e 5 (by decide) (by decide), e 6 (by decide) (by decide), e 7 (by decide) (by decide), e 8 (by decide) (by decide)]
  exact h
theorem RP_k {k k2 : CR1} {v : Nat → Int32} (h : RP k v) (e : ∀ o, o < 14 → k2 o = k o) : RP k2 v :=
  ⟨RF_k h.1 (fun o _ ho => e o (by omega)), RS_k h.2.1 (fun o _ ho => e o (by omega)), RT_k h.2.2 (fun o _ ho => e o (by omega))⟩
/-- a frame that no tank takes -/
theorem RT_drop {k k2 : CR1} {v : Nat → Int32} {nt : Nat} {cp lv : Nat → Nat} {x : Int32} (h : RT k v nt lv) (hV : VT v nt cp lv) (hb : bstV v x nt = none) (h9 : k2 9 = upd (k 9) 6 (k 9 6 + nI 1)) (e : ∀ o, 10 ≤ o → o < 14 → k2 o = k o) : RT k2 (pourF v nt x) nt lv ∧ VT (pourF v nt x) nt cp lv := by
  obtain ⟨⟨a1, a2, a3, a4⟩, h2⟩ := h
  rw [pourF_none hb]
  refine ⟨⟨?_, fun t ht => ?_⟩, fun t ht => ?_⟩
  · rw [h9]
    exact ⟨by rw [upd_o (by decide), upd_o (by decide)]; exact a1, by rw [upd_o (by decide), upd_o (by decide)]; exact a2, by rw [upd_s, upd_s, a3], by rw [upd_o (by decide), upd_o (by decide)]; exact a4⟩
  · rw [e 10 (by decide) (by decide), e 11 (by decide) (by decide), e 12 (by decide) (by decide), e 13 (by decide) (by decide)]
    have h3 := h2 t ht
    refine ⟨by rw [upd_o (by omega)]; exact h3.1, by rw [upd_o (by omega)]; exact h3.2.1, by rw [upd_o (by omega)]; exact h3.2.2.1, fun i hi => ?_⟩
    rw [upd_o (by omega)]
    exact h3.2.2.2 i hi
  · rw [upd_o (by omega), upd_o (by omega)]
    exact hV t ht
/-- a frame that the tank q takes -/
theorem RT_take {k k2 : CR1} {v : Nat → Int32} {nt q : Nat} {cp lv : Nat → Nat} {x : Int32} (h : RT k v nt lv) (hV : VT v nt cp lv) (hb : bstV v x nt = some q) (h9 : k2 9 = upd (k 9) 5 (k 9 5 + nI 1)) (h12 : k2 12 = upd (k 12) q (nI (lv q + 1))) (h13 : k2 13 = upd (k 13) (q * 9 + lv q) x) (e10 : k2 10 = k 10) (e11 : k2 11 = k 11) : RT k2 (pourF v nt x) nt (fun t => if t = q then lv q + 1 else lv t) ∧ VT (pourF v nt x) nt cp (fun t => if t = q then lv q + 1 else lv t) := by
  obtain ⟨⟨a1, a2, a3, a4⟩, h2⟩ := h
  have h1 := bstV_lt hV hb
  have h4 := hV q h1.1
  rw [pourF_some hb h4.2.1 (by omega)]
  refine ⟨⟨?_, fun t ht => ?_⟩, fun t ht => ?_⟩
  · rw [h9]
    exact ⟨by rw [upd_o (by decide), upd_o (by omega), upd_o (by omega), upd_o (by decide)]; exact a1, by rw [upd_s, upd_o (by omega), upd_o (by omega), upd_s, a2], by rw [upd_o (by decide), upd_o (by omega), upd_o (by omega), upd_o (by decide)]; exact a3, by rw [upd_o (by decide), upd_o (by omega), upd_o (by omega), upd_o (by decide)]; exact a4⟩
  · have h3 := h2 t ht
    have h5 := hV t ht
    rw [e10, e11, h12, h13]
    by_cases e : t = q
    · subst e
      simp only [if_true]
      refine ⟨by rw [upd_o (by omega), upd_o (by omega), upd_o (by omega)]; exact h3.1, by rw [upd_o (by omega), upd_o (by omega), upd_o (by omega)]; exact h3.2.1, by rw [upd_s, upd_s], fun i hi => ?_⟩
      by_cases e2 : i = lv t
      · rw [e2, upd_s, upd_o (by omega), upd_s]
      · rw [upd_o (by omega), upd_o (by omega), upd_o (by omega), upd_o (by omega)]
        exact h3.2.2.2 i (by omega)
    · simp only [if_neg e]
      refine ⟨by rw [upd_o (by omega), upd_o (by omega), upd_o (by omega)]; exact h3.1, by rw [upd_o (by omega), upd_o (by omega), upd_o (by omega)]; exact h3.2.1, by rw [upd_o (by omega), upd_o (by omega), upd_o (by omega), upd_o (by omega)]; exact h3.2.2.1, fun i hi => ?_⟩
      rw [upd_o (by omega), upd_o (by omega), upd_o (by omega), upd_o (by omega)]
      exact h3.2.2.2 i hi
  · have h5 := hV t ht
    by_cases e : t = q
    · subst e
      rw [upd_o (by omega), upd_o (by omega), upd_o (by omega), upd_s]
      simp only [if_true]
      exact ⟨h5.1, True.intro, by omega, h5.2.2.2⟩
    · rw [upd_o (by omega), upd_o (by omega), upd_o (by omega), upd_o (by omega), upd_o (by omega), upd_o (by omega)]
      simp only [if_neg e]
      exact h5
theorem TKM_9 (μ : CM) (M R : Nat → Int32) (b : Nat) (f9 f12 f13 f : Nat → Int32) : up2 (up2 (up2 (up2 (up2 (up2 μ 0 18 M) 0 19 R) b 9 f9) b 12 f12) b 13 f13) b 9 f = up2 (up2 (up2 (up2 (up2 μ 0 18 M) 0 19 R) b 9 f) b 12 f12) b 13 f13 := by
  rw [up2_c (o := 13) (o2 := 9) (by decide), up2_c (o := 12) (o2 := 9) (by decide), up2_2]
theorem TKM_12 (μ : CM) (M R : Nat → Int32) (b : Nat) (f9 f12 f13 f : Nat → Int32) : up2 (up2 (up2 (up2 (up2 (up2 μ 0 18 M) 0 19 R) b 9 f9) b 12 f12) b 13 f13) b 12 f = up2 (up2 (up2 (up2 (up2 μ 0 18 M) 0 19 R) b 9 f9) b 12 f) b 13 f13 := by
  rw [up2_c (o := 13) (o2 := 12) (by decide), up2_2]
theorem TKM_13 (μ : CM) (M R : Nat → Int32) (b : Nat) (f9 f12 f13 f : Nat → Int32) : up2 (up2 (up2 (up2 (up2 (up2 μ 0 18 M) 0 19 R) b 9 f9) b 12 f12) b 13 f13) b 13 f = up2 (up2 (up2 (up2 (up2 μ 0 18 M) 0 19 R) b 9 f9) b 12 f12) b 13 f := by
  rw [up2_2]
theorem TKM_0 (μ : CM) (M R : Nat → Int32) (b : Nat) : up2 (up2 (up2 (up2 (up2 μ 0 18 M) 0 19 R) b 9 (μ b 9)) b 12 (μ b 12)) b 13 (μ b 13) = up2 (up2 μ 0 18 M) 0 19 R := by
  have e : ∀ o, o < 18 → up2 (up2 μ 0 18 M) 0 19 R b o = μ b o := fun o ho => by rw [up2_o (by omega), up2_o (by omega)]
  rw [← e 9 (by decide), up2_id, ← e 12 (by decide), up2_id, ← e 13 (by decide), up2_id]
theorem TKM_r9 (μ : CM) (M R : Nat → Int32) (b : Nat) (f9 f12 f13 : Nat → Int32) : (up2 (up2 (up2 (up2 (up2 μ 0 18 M) 0 19 R) b 9 f9) b 12 f12) b 13 f13) b 9 = f9 := by
  rw [up2_o (by decide), up2_o (by decide), up2_s]
theorem TKM_r12 (μ : CM) (M R : Nat → Int32) (b : Nat) (f9 f12 f13 : Nat → Int32) : (up2 (up2 (up2 (up2 (up2 μ 0 18 M) 0 19 R) b 9 f9) b 12 f12) b 13 f13) b 12 = f12 := by
  rw [up2_o (by decide), up2_s]
theorem TKM_r13 (μ : CM) (M R : Nat → Int32) (b : Nat) (f9 f12 f13 : Nat → Int32) : (up2 (up2 (up2 (up2 (up2 μ 0 18 M) 0 19 R) b 9 f9) b 12 f12) b 13 f13) b 13 = f13 := by
  rw [up2_s]
theorem TKM_o {μ : CM} {M R : Nat → Int32} {b : Nat} {f9 f12 f13 : Nat → Int32} {b2 o : Nat} (h : o < 18 ∧ ¬ o = 9 ∧ ¬ o = 12 ∧ ¬ o = 13) : (up2 (up2 (up2 (up2 (up2 μ 0 18 M) 0 19 R) b 9 f9) b 12 f12) b 13 f13) b2 o = μ b2 o := by
  rw [up2_o (by omega), up2_o (by omega), up2_o (by omega), up2_o (by omega), up2_o (by omega)]
theorem TKM_r19 (μ : CM) (M R : Nat → Int32) (b : Nat) (f9 f12 f13 : Nat → Int32) : (up2 (up2 (up2 (up2 (up2 μ 0 18 M) 0 19 R) b 9 f9) b 12 f12) b 13 f13) 0 19 = R := by
  rw [up2_o (by decide), up2_o (by decide), up2_o (by decide), up2_s]
/-- the rows of a good state's relation, said for the refining -/
theorem RP_c {k : CR1} {v : Nat → Int32} (h : RP k v) (hV : VG v) : k 1 2 = nI (nfV v) := by
  rw [h.1.1]; exact hV.1.1
theorem RP_ps {k : CR1} {v : Nat → Int32} (h : RP k v) (hV : VG v) : ∀ f, f < nfV v → k 3 f = nI (psV v f) ∧ psV v f ≤ 999 ∧ KP (k 2 f) (nI (psV v f)) := fun f hf => by
  rw [(h.1.2 f hf).1, (h.1.2 f hf).2]
  exact (VG_F hV).2 f hf
theorem RP_l7 {k : CR1} {v : Nat → Int32} (h : RP k v) (hV : VG v) {q : Nat} (hq : q < 4) : k 7 q = nI (lnV v q) := by
  rw [(h.2.1 q hq).1]
  exact (hV.2.2.1 q hq).1
theorem RP_l8 {k : CR1} {v : Nat → Int32} (h : RP k v) (hV : VG v) {q : Nat} (hq : q < 4) : k 8 q = nI (nnV v q) := by
  rw [(h.2.1 q hq).2.1]
  exact (hV.2.2.2.1 q hq).1
theorem RP_fl {k : CR1} {v : Nat → Int32} (h : RP k v) {q n : Nat} (hq : q < 4) (hn : n ≤ lnV v q) : ∀ j, j < n → flR (fun t => k 5 (q * 160 + t)) (k 2) (k 3) (nfV v) j = flV v q (nfV v) j :=
  flR_congr (fun j hj => (h.2.1 q hq).2.2.1 j (by omega)) (fun j hj => h.1.2 j hj)
theorem VG_ln {v : Nat → Int32} (hV : VG v) {q : Nat} (hq : q < 4) : lnV v q ≤ 160 := (hV.2.2.1 q hq).2
