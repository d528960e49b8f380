/-! pure words: the state's good form, by parts, and that changes keep it -/
def FGx (v : Nat → Int32) (nf : Nat) (ps : Nat → Nat) : Prop := (v 0 = nI nf ∧ nf ≤ 8) ∧ ∀ f, f < nf → v (13 + f) = nI (ps f) ∧ ps f ≤ 999 ∧ KP (v (5 + f)) (nI (ps f))
def SGx (v : Nat → Int32) (ln nn : Nat → Nat) (nl : Nat → Nat → Nat) : Prop := (∀ q, q < 4 → v (25 + q) = nI (ln q) ∧ ln q ≤ 160) ∧ (∀ q, q < 4 → v (21 + q) = nI (nn q)) ∧ (∀ q j, q < 4 → j < nn q → v (717 + 160 * q + j) = nI (nl q j) ∧ 1 ≤ nl q j) ∧ (∀ q, q < 4 → sumN (nl q) (nn q) = ln q) ∧ ∀ q i, q < 4 → i < ln q → ∃ a, a ≤ 999 ∧ (v (77 + 160 * q + i) = nI a ∨ v (77 + 160 * q + i) = -nI a)
def TGx (v : Nat → Int32) (nt : Nat) (cp lv tu : Nat → Nat) (fr : Nat → Nat → Nat) : Prop := (v 1 = nI nt ∧ nt ≤ 4) ∧ VT v nt cp lv ∧ (∀ t, t < nt → 1 ≤ cp t) ∧ (∀ t, t < nt → v (29 + 12 * t + 1) = nI (tu t) ∧ tu t ≤ 9999) ∧ (∀ t k, t < nt → k < lv t → v (29 + 12 * t + (3 + k)) = nI (fr t k) ∧ fr t k < 1000000) ∧ ∀ t, nt ≤ t → t < 4 → v (29 + 12 * t + 2) = nI 0
theorem sumN_congr {f g : Nat → Nat} : ∀ {n : Nat}, (∀ k, k < n → f k = g k) → sumN f n = sumN g n
  | 0, _ => rfl
  | n + 1, h => by rw [sumN, sumN, sumN_congr (fun k hk => h k (by omega)), h n (by omega)]
theorem sumN_ge {f : Nat → Nat} : ∀ {n : Nat}, (∀ k, k < n → 1 ≤ f k) → n ≤ sumN f n
  | 0, _ => Nat.le_refl _
  | n + 1, h => by
    have h1 := sumN_ge (f := f) (n := n) (fun k hk => h k (by omega))
    have h2 := h n (by omega)
    rw [sumN]
    omega
theorem sumN_one {f : Nat → Nat} {j : Nat} : ∀ {n : Nat}, j < n → f j ≤ sumN f n
  | 0, h => absurd h (Nat.not_lt_zero _)
  | n + 1, h => by
    rw [sumN]
    rcases Nat.lt_succ_iff_lt_or_eq.mp h with e | e
    · have := sumN_one (f := f) e
      omega
    · rw [e]; omega
theorem SGx_b {v : Nat → Int32} {ln nn : Nat → Nat} {nl : Nat → Nat → Nat} (h : SGx v ln nn nl) {q : Nat} (hq : q < 4) : nn q ≤ ln q ∧ ∀ j, j < nn q → nl q j ≤ ln q := by
  obtain ⟨h1, h2, h3, h4, h5⟩ := h
  rw [← h4 q hq]
  exact ⟨sumN_ge (fun k hk => (h3 q k hq hk).2), fun j hj => sumN_one hj⟩
theorem cl_nI {x : Int32} {n : Nat} (h : x = nI n) (hn : n < 2 ^ 31) : x.toNatClampNeg = n := by rw [h, nI_clamp hn]
theorem VG_of {v : Nat → Int32} {nf nt : Nat} {ps ln nn cp lv tu : Nat → Nat} {nl fr : Nat → Nat → Nat} (hF : FGx v nf ps) (hS : SGx v ln nn nl) (hT : TGx v nt cp lv tu fr) : VG v := by
  have hb := fun q hq => SGx_b hS (q := q) hq
  obtain ⟨⟨f1, f2⟩, f3⟩ := hF
  obtain ⟨s1, s2, s3, s4, s5⟩ := hS
  obtain ⟨⟨t1, t2⟩, t3, t4, t5, t6, t7⟩ := hT
  have e1 : nfV v = nf := cl_nI f1 (by omega)
  have e2 : ntV v = nt := cl_nI t1 (by omega)
  have e3 : ∀ q, q < 4 → lnV v q = ln q := fun q hq => cl_nI (s1 q hq).1 (by have := s1 q hq; omega)
  have e4 : ∀ q, q < 4 → nnV v q = nn q := fun q hq => cl_nI (s2 q hq) (by have := s1 q hq; have := hb q hq; omega)
  have e5 : ∀ q j, q < 4 → j < nn q → nlV v q j = nl q j := fun q j hq hj => cl_nI (s3 q j hq hj).1 (by have := s1 q hq; have := (hb q hq).2 j hj; omega)
  have e6 : ∀ f, f < nf → psV v f = ps f := fun f hf => cl_nI (f3 f hf).1 (by have := f3 f hf; omega)
  have e7 : ∀ t, t < nt → cpN v t = cp t := fun t ht => cl_nI (t3 t ht).1 (by have := t3 t ht; omega)
  have e8 : ∀ t, t < nt → lvN v t = lv t := fun t ht => cl_nI (t3 t ht).2.1 (by have := t3 t ht; omega)
  have e9 : ∀ t, t < nt → tuN v t = tu t := fun t ht => cl_nI (t5 t ht).1 (by have := t5 t ht; omega)
  have e10 : ∀ t k, t < nt → k < lv t → frN v t k = fr t k := fun t k ht hk => cl_nI (t6 t k ht hk).1 (by have := t6 t k ht hk; omega)
  refine ⟨⟨by rw [e1]; exact f1, by omega⟩, ⟨by rw [e2]; exact t1, by omega⟩, fun q hq => by rw [e3 q hq]; exact s1 q hq, fun q hq => by rw [e4 q hq, e3 q hq]; exact ⟨s2 q hq, (hb q hq).1⟩, fun q j hq hj => ?_, fun q hq => ⟨?_, fun j hj => ?_⟩, fun f hf => ?_, fun t ht => ?_, fun t ht => ?_, fun t ht => ?_, fun t k ht hk => ?_, fun t h1 h2 => t7 t (by omega) h2, fun q i hq hi => s5 q i hq (by rw [← e3 q hq]; exact hi)⟩
  · rw [e4 q hq] at hj
    rw [e5 q j hq hj, e3 q hq]
    exact ⟨(s3 q j hq hj).1, (hb q hq).2 j hj⟩
  · rw [e4 q hq, e3 q hq, ← s4 q hq]
    exact sumN_congr (fun k hk => e5 q k hq hk)
  · rw [e4 q hq] at hj
    rw [e5 q j hq hj]
    exact (s3 q j hq hj).2
  · rw [e1] at hf
    rw [e6 f hf]
    exact f3 f hf
  · rw [e2] at ht
    rw [e7 t ht, e8 t ht]
    exact t3 t ht
  · rw [e2] at ht
    rw [e7 t ht]
    exact t4 t ht
  · rw [e2] at ht
    rw [e9 t ht]
    exact t5 t ht
  · rw [e2] at ht
    rw [e8 t ht] at hk
    rw [e10 t k ht hk]
    exact t6 t k ht hk
theorem VG_F {v : Nat → Int32} (h : VG v) : FGx v (nfV v) (psV v) := ⟨h.1, h.2.2.2.2.2.2.1⟩
theorem VG_S {v : Nat → Int32} (h : VG v) : SGx v (lnV v) (nnV v) (nlV v) := by
  obtain ⟨_, _, a, b, c, d, _, _, _, _, _, _, e⟩ := h
  exact ⟨a, fun q hq => (b q hq).1, fun q j hq hj => ⟨(c q j hq hj).1, (d q hq).2 j hj⟩, fun q hq => (d q hq).1, e⟩
theorem VG_T {v : Nat → Int32} (h : VG v) : TGx v (ntV v) (cpN v) (lvN v) (tuN v) (frN v) := by
  obtain ⟨_, a, _, _, _, _, _, b, c, d, e, f, _⟩ := h
  exact ⟨a, b, c, d, e, f⟩
theorem FGx_c {v w : Nat → Int32} {nf : Nat} {ps : Nat → Nat} (h : FGx v nf ps) (e : ∀ j, j = 0 ∨ (5 ≤ j ∧ j < 21) → w j = v j) : FGx w nf ps := by
  obtain ⟨⟨h1, h2⟩, h3⟩ := h
  refine ⟨⟨by rw [e 0 (Or.inl rfl)]; exact h1, h2⟩, fun f hf => ?_⟩
  rw [e (13 + f) (by omega), e (5 + f) (by omega)]
  exact h3 f hf
theorem SGx_c {v w : Nat → Int32} {ln nn : Nat → Nat} {nl : Nat → Nat → Nat} (h : SGx v ln nn nl) (e : ∀ j, (21 ≤ j ∧ j < 29) ∨ 77 ≤ j → w j = v j) : SGx w ln nn nl := by
  obtain ⟨h1, h2, h3, h4, h5⟩ := h
  refine ⟨fun q hq => ?_, fun q hq => ?_, fun q j hq hj => ?_, h4, fun q i hq hi => ?_⟩
  · rw [e _ (by omega)]; exact h1 q hq
  · rw [e _ (by omega)]; exact h2 q hq
  · rw [e _ (by omega)]; exact h3 q j hq hj
  · rw [e _ (by omega)]; exact h5 q i hq hi
theorem TGx_c {v w : Nat → Int32} {nt : Nat} {cp lv tu : Nat → Nat} {fr : Nat → Nat → Nat} (h : TGx v nt cp lv tu fr) (e : ∀ j, j = 1 ∨ (29 ≤ j ∧ j < 77) → w j = v j) : TGx w nt cp lv tu fr := by
  obtain ⟨⟨h1, h2⟩, h3, h4, h5, h6, h7⟩ := h
  refine ⟨⟨by rw [e 1 (Or.inl rfl)]; exact h1, h2⟩, fun t ht => ?_, h4, fun t ht => ?_, fun t k ht hk => ?_, fun t h8 h9 => ?_⟩
  · rw [e _ (by omega), e _ (by omega)]; exact h3 t ht
  · rw [e _ (by omega)]; exact h5 t ht
  · have := h3 t ht
    rw [e _ (by omega)]; exact h6 t k ht hk
  · rw [e _ (by omega)]; exact h7 t h8 h9
theorem insV_o {v : Nat → Int32} {q n : Nat} {k x : Int32} (hq : q ≤ n) (h8 : n < 8) {j : Nat} (h : ¬ (j = 0 ∨ (5 ≤ j ∧ j < 21))) : insV v q n k x j = v j := by
  rw [insV, upd_o (by omega), upd_o (by omega), upd_o (by omega), shV, if_neg (by omega)]
theorem FGx_ins {v : Nat → Int32} {nf q a : Nat} {ps : Nat → Nat} {k : Int32} (h : FGx v nf ps) (hq : q ≤ nf) (h8 : nf < 8) (hk : KP k (nI a)) (ha : a ≤ 999) : FGx (insV v q nf k (nI a)) (nf + 1) (fun f => if f < q then ps f else if f = q then a else ps (f - 1)) := by
  obtain ⟨⟨h1, h2⟩, h3⟩ := h
  refine ⟨⟨by rw [insV, upd_s], by omega⟩, fun f hf => ?_⟩
  rcases Nat.lt_trichotomy f q with e | e | e
  · simp only [if_pos e]
    rw [insV, upd_o (by omega), upd_o (by omega), upd_o (by omega), shV, if_neg (by omega), upd_o (by omega), upd_o (by omega), upd_o (by omega), shV, if_neg (by omega)]
    exact h3 f (by omega)
  · subst e
    simp only [if_neg (Nat.lt_irrefl f), if_true]
    rw [insV, upd_o (by omega), upd_s, upd_o (by omega), upd_o (by omega), upd_s]
    exact ⟨rfl, ha, hk⟩
  · simp only [if_neg (show ¬ f < q by omega), if_neg (show ¬ f = q by omega)]
    rw [insV, upd_o (by omega), upd_o (by omega), upd_o (by omega), shV, if_pos (by omega), upd_o (by omega), upd_o (by omega), upd_o (by omega), shV, if_pos (by omega), show 13 + f - 1 = 13 + (f - 1) by omega, show 5 + f - 1 = 5 + (f - 1) by omega]
    exact h3 (f - 1) (by omega)
theorem delV_o {v : Nat → Int32} {q n : Nat} (hq : q < n) (h8 : n ≤ 8) {j : Nat} (h : ¬ (j = 0 ∨ (5 ≤ j ∧ j < 21))) : delV v q n j = v j := by
  rw [delV, upd_o (by omega), upd_o (by omega), slV, if_neg (by omega), upd_o (by omega)]
theorem FGx_del {v : Nat → Int32} {nf q : Nat} {ps : Nat → Nat} (h : FGx v nf ps) (hq : q < nf) : FGx (delV v q nf) (nf - 1) (fun f => if f < q then ps f else ps (f + 1)) := by
  obtain ⟨⟨h1, h2⟩, h3⟩ := h
  refine ⟨⟨by rw [delV, upd_o (by omega), upd_o (by omega), slV, if_neg (by omega), upd_s], by omega⟩, fun f hf => ?_⟩
  by_cases e : f < q
  · simp only [if_pos e]
    rw [delV, upd_o (by omega), upd_o (by omega), slV, if_neg (by omega), upd_o (by omega), upd_o (by omega), upd_o (by omega), slV, if_neg (by omega), upd_o (by omega)]
    exact h3 f (by omega)
  · simp only [if_neg e]
    rw [delV, upd_o (by omega), upd_o (by omega), slV, if_pos (by omega), upd_o (by omega), upd_o (by omega), upd_o (by omega), slV, if_pos (by omega), upd_o (by omega), show 13 + f + 1 = 13 + (f + 1) by omega, show 5 + f + 1 = 5 + (f + 1) by omega]
    exact h3 (f + 1) (by omega)
theorem swV_o {v : Nat → Int32} {a b : Nat} (ha : a < 8) (hb : b < 8) {j : Nat} (h : ¬ (j = 0 ∨ (5 ≤ j ∧ j < 21))) : swV v a b j = v j := by
  rw [swV, upd_o (by omega), upd_o (by omega), upd_o (by omega), upd_o (by omega)]
theorem FGx_sw {v : Nat → Int32} {nf a b : Nat} {ps : Nat → Nat} (h : FGx v nf ps) (ha : a < nf) (hb : b < nf) : FGx (swV v a b) nf (fun f => if f = b then ps a else if f = a then ps b else ps f) := by
  obtain ⟨⟨h1, h2⟩, h3⟩ := h
  refine ⟨⟨by rw [swV, upd_o (by omega), upd_o (by omega), upd_o (by omega), upd_o (by omega)]; exact h1, h2⟩, fun f hf => ?_⟩
  by_cases e : f = b
  · subst e
    simp only [if_true]
    rw [swV, upd_s, upd_o (by omega), upd_s]
    exact h3 a ha
  · simp only [if_neg e]
    by_cases e2 : f = a
    · subst e2
      simp only [if_true]
      rw [swV, upd_o (by omega), upd_o (by omega), upd_s, upd_o (by omega), upd_o (by omega), upd_o (by omega), upd_s]
      exact h3 b hb
    · simp only [if_neg e2]
      rw [swV, upd_o (by omega), upd_o (by omega), upd_o (by omega), upd_o (by omega), upd_o (by omega), upd_o (by omega), upd_o (by omega), upd_o (by omega)]
      exact h3 f hf
