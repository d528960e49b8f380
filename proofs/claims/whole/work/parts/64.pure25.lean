/-! pure words: songs and tanks keep their good form -/
theorem noteV_o {v : Nat → Int32} {q n j P k : Nat} {am : Int32} (hq : q < 4) (hn : n + k ≤ 160) {i : Nat} (h : ¬ ((21 ≤ i ∧ i < 29) ∨ 77 ≤ i)) : noteV v q n j P am k i = v i := by
  rw [noteV, upd_o (by omega), upd_o (by omega), upd_o (by omega), ntR, if_neg (by omega)]
theorem SGx_note {v : Nat → Int32} {ln nn : Nat → Nat} {nl : Nat → Nat → Nat} {q P k c : Nat} (h : SGx v ln nn nl) (hq : q < 4) (hk : 1 ≤ k) (hl : ln q + k ≤ 160) (hc : c ≤ 999) : SGx (noteV v q (ln q) (nn q) P (nI c) k) (fun r => if r = q then ln q + k else ln r) (fun r => if r = q then nn q + 1 else nn r) (fun r j => if r = q ∧ j = nn q then k else nl r j) := by
  have hb := fun q hq => SGx_b h (q := q) hq
  obtain ⟨s1, s2, s3, s4, s5⟩ := h
  have hbq := hb q hq
  refine ⟨fun r hr => ?_, fun r hr => ?_, fun r j hr hj => ?_, fun r hr => ?_, fun r i hr hi => ?_⟩
  · by_cases e : r = q
    · subst e
      simp only [if_true]
      rw [noteV, upd_s]
      exact ⟨rfl, hl⟩
    · simp only [if_neg e]
      rw [noteV, upd_o (by omega), upd_o (by omega), upd_o (by omega), ntR, if_neg (by omega)]
      exact s1 r hr
  · by_cases e : r = q
    · subst e
      simp only [if_true]
      rw [noteV, upd_o (by omega), upd_s]
    · simp only [if_neg e]
      rw [noteV, upd_o (by omega), upd_o (by omega), upd_o (by omega), ntR, if_neg (by omega)]
      exact s2 r hr
  · have h1 := s1 r hr
    have hbr := hb r hr
    by_cases e : r = q
    · subst e
      simp only [if_true] at hj
      by_cases e2 : j = nn r
      · subst e2
        simp only [and_self, if_true]
        rw [noteV, upd_o (by omega), upd_o (by omega), upd_s]
        exact ⟨rfl, hk⟩
      · simp only [e2, and_false, if_false]
        rw [noteV, upd_o (by omega), upd_o (by omega), upd_o (by omega), ntR, if_neg (by omega)]
        exact s3 r j hr (by omega)
    · simp only [if_neg e] at hj
      simp only [e, false_and, if_false]
      rw [noteV, upd_o (by omega), upd_o (by omega), upd_o (by omega), ntR, if_neg (by omega)]
      exact s3 r j hr hj
  · by_cases e : r = q
    · subst e
      simp only [if_true, true_and]
      rw [sumN, if_pos rfl, ← s4 r hr]
      have h2 := sumN_congr (f := fun j => if j = nn r then k else nl r j) (g := nl r) (n := nn r) (fun j hj => if_neg (by omega))
      rw [h2]
    · simp only [if_neg e, e, false_and, if_false]
      exact s4 r hr
  · have h1 := s1 r hr
    by_cases e : r = q
    · subst e
      simp only [if_true] at hi
      rw [noteV, upd_o (by omega), upd_o (by omega), upd_o (by omega), ntR]
      by_cases e2 : i < ln r
      · rw [if_neg (by omega)]
        exact s5 r i hr e2
      · rw [if_pos (by omega)]
        refine ⟨c, hc, ?_⟩
        split
        · exact Or.inl rfl
        · exact Or.inr rfl
    · simp only [if_neg e] at hi
      rw [noteV, upd_o (by omega), upd_o (by omega), upd_o (by omega), ntR, if_neg (by omega)]
      exact s5 r i hr hi
theorem untV_o {v : Nat → Int32} {q c n j : Nat} (hq : q < 4) (hc : c ≤ 160) {i : Nat} (h : ¬ ((21 ≤ i ∧ i < 29) ∨ 77 ≤ i)) : untV v q c n j i = v i := by
  rw [untV, zrR, if_neg (by omega), upd_o (by omega), upd_o (by omega), upd_o (by omega)]
theorem SGx_unt {v : Nat → Int32} {ln nn : Nat → Nat} {nl : Nat → Nat → Nat} {q : Nat} (h : SGx v ln nn nl) (hq : q < 4) (h0 : 0 < nn q) : SGx (untV v q (nn q) (ln q) (nl q (nn q - 1))) (fun r => if r = q then ln q - nl q (nn q - 1) else ln r) (fun r => if r = q then nn q - 1 else nn r) nl := by
  have hb := fun q hq => SGx_b h (q := q) hq
  obtain ⟨s1, s2, s3, s4, s5⟩ := h
  have hbq := hb q hq
  have h1q := s1 q hq
  have hj1 := hbq.2 (nn q - 1) (by omega)
  refine ⟨fun r hr => ?_, fun r hr => ?_, fun r j hr hj => ?_, fun r hr => ?_, fun r i hr hi => ?_⟩
  · by_cases e : r = q
    · subst e
      simp only [if_true]
      rw [untV, zrR, if_neg (by omega), upd_o (by omega), upd_s]
      exact ⟨rfl, by omega⟩
    · simp only [if_neg e]
      rw [untV, zrR, if_neg (by omega), upd_o (by omega), upd_o (by omega), upd_o (by omega)]
      exact s1 r hr
  · by_cases e : r = q
    · subst e
      simp only [if_true]
      rw [untV, zrR, if_neg (by omega), upd_o (by omega), upd_o (by omega), upd_s]
    · simp only [if_neg e]
      rw [untV, zrR, if_neg (by omega), upd_o (by omega), upd_o (by omega), upd_o (by omega)]
      exact s2 r hr
  · have h1 := s1 r hr
    have hbr := hb r hr
    have hj2 : j < nn r ∧ (r = q → j < nn q - 1) := by
      by_cases e : r = q
      · subst e
        simp only [if_true] at hj
        exact ⟨by omega, fun _ => hj⟩
      · simp only [if_neg e] at hj
        exact ⟨hj, fun z => absurd z e⟩
    have hne : ¬ (717 + 160 * r + j = 717 + 160 * q + (nn q - 1)) := by
      intro z
      have hj3 := hj2.1
      have hrq : r = q := by omega
      have := hj2.2 hrq
      subst hrq
      omega
    rw [untV, zrR, if_neg (by omega), upd_o hne, upd_o (by omega), upd_o (by omega)]
    exact s3 r j hr hj2.1
  · by_cases e : r = q
    · subst e
      simp only [if_true]
      have h2 := s4 r hr
      obtain ⟨m, hm⟩ : ∃ m, nn r = m + 1 := ⟨nn r - 1, by omega⟩
      rw [hm, sumN] at h2
      rw [hm, Nat.add_sub_cancel]
      omega
    · simp only [if_neg e]
      exact s4 r hr
  · have h1 := s1 r hr
    by_cases e : r = q
    · subst e
      simp only [if_true] at hi
      rw [untV, zrR, if_neg (by omega), upd_o (by omega), upd_o (by omega), upd_o (by omega)]
      exact s5 r i hr (by omega)
    · simp only [if_neg e] at hi
      rw [untV, zrR, if_neg (by omega), upd_o (by omega), upd_o (by omega), upd_o (by omega)]
      exact s5 r i hr hi
section TG
variable {v : Nat → Int32} {nt : Nat} {cp lv tu : Nat → Nat} {fr : Nat → Nat → Nat}
theorem TGx_add {a : Nat} (h : TGx v nt cp lv tu fr) (h4 : nt < 4) (ha : 1 ≤ a ∧ a ≤ 9) : TGx (upd (upd (upd v (29 + 12 * nt + 0) (nI a)) (29 + 12 * nt + 1) (nI 9999)) 1 (nI (nt + 1))) (nt + 1) (fun t => if t = nt then a else cp t) (fun t => if t = nt then 0 else lv t) (fun t => if t = nt then 9999 else tu t) fr := by
  obtain ⟨⟨t1, t2⟩, t3, t4, t5, t6, t7⟩ := h
  refine ⟨⟨by rw [upd_s], by omega⟩, fun t ht => ?_, fun t ht => ?_, fun t ht => ?_, fun t k ht hk => ?_, fun t h1 h2 => ?_⟩
  · by_cases e : t = nt
    · subst e
      simp only [if_true]
      rw [upd_o (by omega), upd_o (by omega), upd_s, upd_o (by omega), upd_o (by omega), upd_o (by omega)]
      exact ⟨rfl, t7 t (Nat.le_refl _) h4, Nat.zero_le _, ha.2⟩
    · simp only [if_neg e]
      rw [upd_o (by omega), upd_o (by omega), upd_o (by omega), upd_o (by omega), upd_o (by omega), upd_o (by omega)]
      exact t3 t (by omega)
  · by_cases e : t = nt
    · simp only [if_pos e]; exact ha.1
    · simp only [if_neg e]; exact t4 t (by omega)
  · by_cases e : t = nt
    · subst e
      simp only [if_true]
      rw [upd_o (by omega), upd_s]
      exact ⟨rfl, Nat.le_refl _⟩
    · simp only [if_neg e]
      rw [upd_o (by omega), upd_o (by omega), upd_o (by omega)]
      exact t5 t (by omega)
  · by_cases e : t = nt
    · simp only [if_pos e] at hk
      exact absurd hk (Nat.not_lt_zero _)
    · simp only [if_neg e] at hk
      have := t3 t (by omega)
      rw [upd_o (by omega), upd_o (by omega), upd_o (by omega)]
      exact t6 t k (by omega) hk
  · rw [upd_o (by omega), upd_o (by omega), upd_o (by omega)]
    exact t7 t (by omega) h2
theorem TGx_tune {q y : Nat} (h : TGx v nt cp lv tu fr) (hq : q < nt) (hy : y ≤ 9999) : TGx (upd v (29 + 12 * q + 1) (nI y)) nt cp lv (fun t => if t = q then y else tu t) fr := by
  obtain ⟨⟨t1, t2⟩, t3, t4, t5, t6, t7⟩ := h
  refine ⟨⟨by rw [upd_o (by omega)]; exact t1, t2⟩, fun t ht => ?_, t4, fun t ht => ?_, fun t k ht hk => ?_, fun t h1 h2 => ?_⟩
  · rw [upd_o (by omega), upd_o (by omega)]; exact t3 t ht
  · by_cases e : t = q
    · subst e
      simp only [if_true]
      rw [upd_s]
      exact ⟨rfl, hy⟩
    · simp only [if_neg e]
      rw [upd_o (by omega)]; exact t5 t ht
  · have := t3 t ht
    rw [upd_o (by omega)]; exact t6 t k ht hk
  · rw [upd_o (by omega)]; exact t7 t h1 h2
theorem TGx_drn {q j : Nat} (h : TGx v nt cp lv tu fr) (hq : q < nt) (hj : 1 ≤ j) (hl : j ≤ lv q) : TGx (drnV v q (lv q) j) nt cp (fun t => if t = q then lv q - j else lv t) tu (fun t k => if t = q then fr q (k + j) else fr t k) := by
  obtain ⟨⟨t1, t2⟩, t3, t4, t5, t6, t7⟩ := h
  have hvq := t3 q hq
  refine ⟨⟨by rw [drnV, upd_o (by omega), upd_o (by omega), dnV, if_neg (by omega)]; exact t1, t2⟩, fun t ht => ?_, t4, fun t ht => ?_, fun t k ht hk => ?_, fun t h1 h2 => ?_⟩
  · have hvt := t3 t ht
    by_cases e : t = q
    · subst e
      simp only [if_true]
      rw [drnV, upd_o (by omega), upd_o (by omega), dnV, if_neg (by omega), upd_o (by omega), upd_s]
      exact ⟨hvt.1, rfl, by omega, hvt.2.2.2⟩
    · simp only [if_neg e]
      rw [drnV, upd_o (by omega), upd_o (by omega), dnV, if_neg (by omega), upd_o (by omega), upd_o (by omega), dnV, if_neg (by omega)]
      exact hvt
  · rw [drnV, upd_o (by omega), upd_o (by omega), dnV, if_neg (by omega)]
    exact t5 t ht
  · have hvt := t3 t ht
    by_cases e : t = q
    · subst e
      simp only [if_true] at hk ⊢
      rw [drnV, upd_o (by omega), upd_o (by omega), dnV, if_pos (by omega), if_pos (by omega), show 29 + 12 * t + (3 + k) + j = 29 + 12 * t + (3 + (k + j)) by omega]
      exact t6 t (k + j) ht (by omega)
    · simp only [if_neg e] at hk ⊢
      rw [drnV, upd_o (by omega), upd_o (by omega), dnV, if_neg (by omega)]
      exact t6 t k ht hk
  · rw [drnV, upd_o (by omega), upd_o (by omega), dnV, if_neg (by omega)]
    exact t7 t h1 h2
theorem drnV_o {q l j : Nat} (hq : q < 4) {i : Nat} (h : ¬ (i = 4 ∨ (29 ≤ i ∧ i < 77))) : drnV v q l j i = v i := by
  rw [drnV, upd_o (by omega), upd_o (by omega), dnV, if_neg (by omega)]
theorem TGx_pourF {x : Int32} {a : Nat} (h : TGx v nt cp lv tu fr) (hx : x = nI a) (ha : a < 1000000) : ∃ lv2 fr2, TGx (pourF v nt x) nt cp lv2 tu fr2 := by
  obtain ⟨⟨t1, t2⟩, t3, t4, t5, t6, t7⟩ := h
  cases hb : bstV v x nt with
  | none =>
    rw [pourF_none hb]
    exact ⟨lv, fr, TGx_c ⟨⟨t1, t2⟩, t3, t4, t5, t6, t7⟩ (fun j hj => upd_o (by omega))⟩
  | some q =>
    have hq := bstV_lt t3 hb
    have hvq := t3 q hq.1
    have hq1 := hq.1
    rw [pourF_some hb hvq.2.1 (by omega)]
    refine ⟨fun t => if t = q then lv q + 1 else lv t, fun t k => if t = q ∧ k = lv q then a else fr t k, ⟨by rw [upd_o (by omega), upd_o (by omega), upd_o (by omega)]; exact t1, t2⟩, fun t ht => ?_, t4, fun t ht => ?_, fun t k ht hk => ?_, fun t h1 h2 => ?_⟩
    · have hvt := t3 t ht
      by_cases e : t = q
      · subst e
        simp only [if_true]
        rw [upd_o (by omega), upd_o (by omega), upd_o (by omega), upd_s]
        exact ⟨hvt.1, rfl, by omega, hvt.2.2.2⟩
      · simp only [if_neg e]
        rw [upd_o (by omega), upd_o (by omega), upd_o (by omega), upd_o (by omega), upd_o (by omega), upd_o (by omega)]
        exact hvt
    · rw [upd_o (by omega), upd_o (by omega), upd_o (by omega)]
      exact t5 t ht
    · have hvt := t3 t ht
      by_cases e : t = q
      · subst e
        simp only [if_true] at hk
        by_cases e2 : k = lv t
        · subst e2
          simp only [and_self, if_true]
          rw [upd_o (by omega), upd_s]
          exact ⟨hx, ha⟩
        · simp only [e2, and_false, if_false]
          rw [upd_o (by omega), upd_o (by omega), upd_o (by omega)]
          exact t6 t k ht (by omega)
      · simp only [if_neg e] at hk
        simp only [e, false_and, if_false]
        rw [upd_o (by omega), upd_o (by omega), upd_o (by omega)]
        exact t6 t k ht hk
    · rw [upd_o (by omega), upd_o (by omega), upd_o (by omega)]
      exact t7 t h1 h2
end TG
theorem TGx_pourN {nt : Nat} {cp tu : Nat → Nat} {L : Nat → Int32} (hL : ∀ k, ∃ a, a < 1000000 ∧ L k = nI a) {v : Nat → Int32} {lv : Nat → Nat} {fr : Nat → Nat → Nat} (h : TGx v nt cp lv tu fr) : ∀ k, ∃ lv2 fr2, TGx (pourN v nt L k) nt cp lv2 tu fr2
  | 0 => ⟨lv, fr, h⟩
  | k + 1 => by
    obtain ⟨lv2, fr2, h2⟩ := TGx_pourN hL h k
    obtain ⟨a, ha, e⟩ := hL k
    exact TGx_pourF h2 e ha
