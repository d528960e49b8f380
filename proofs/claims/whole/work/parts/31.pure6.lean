/-! the model: rows by what stands below their length; pure words of its changes -/
theorem arrV_cong {cA : ClassId} {n : Nat} {f g : Nat → Value} (h : ∀ k, k < n → f k = g k) : arrV cA n f = arrV cA n g := by
  unfold arrV
  congr 1
  apply Array.ext
  · simp
  · intro i h1 h2
    simp only [Array.getElem_ofFn]
    exact h i (by simpa using h1)
theorem wX_cell {α : Type} {Z : ZT} {L : List α} {A : α → Nat} {E E' : α → va_E} {A0 : Nat → Prop} {s : State} {H : Heap} {locs : List Loc} (h : wX Z L A E A0 s H locs) (e : ∀ x ∈ L, E x = E' x ∨ ∃ (n : Nat) (f g : Nat → Int32), E x = .inl (zI Z, n, .inl f) ∧ E' x = .inl (zI Z, n, .inl g) ∧ ∀ k, k < n → f k = g k) : wX Z L A E' A0 s H locs := by
  obtain ⟨h1, h2, h3⟩ := h
  refine ⟨fun k q hq => ?_, cwl_D h2, h3⟩
  obtain ⟨x, hx, rfl⟩ := cwl_of hq
  have hx1 := h1 k _ (cwl_at hx)
  rcases e x (List.mem_of_getElem? hx) with e1 | ⟨n, f, g, e1, e2, e3⟩
  · rw [← e1]; exact hx1
  · rw [e2]
    rw [e1] at hx1
    have h5 : H[A x]? = some (vp_cell (zI Z) (n, .inl f)) := hx1
    show H[A x]? = some (vp_cell (zI Z) (n, .inl g))
    rw [h5, vp_cell_i, vp_cell_i, arrV_cong (fun k hk => by rw [e3 k hk])]
theorem wX_row {Z : ZT} {B : Nat → Nat} {ν : MM} {A0 : Nat → Prop} {s : State} {H : Heap} {locs : List Loc} (h : wX Z mds B (mE Z B ν) A0 s H locs) {i : Nat} {f : Nat → Int32} (h0 : 0 < i) (hf : ∀ k, k < mLen i → ν i k = f k) : wX Z mds B (mE Z B (up1 ν i f)) A0 s H locs := by
  refine wX_cell h (fun x hx => ?_)
  by_cases hxi : x = i
  · refine Or.inr ⟨mLen i, ν i, f, ?_, ?_, hf⟩
    · rw [hxi, mE_arr h0]
    · rw [hxi, mE_arr h0, up1_s]
  · exact Or.inl (mE_up x hxi).symm
theorem wX_rowC {Z : ZT} {A : Nat × Nat → Nat} {g : Nat → Bool} {μ : CM} {A0 : Nat → Prop} {s : State} {H : Heap} {locs : List Loc} (h : wX Z (ids g) A (cE Z A g μ) A0 s H locs) {b o n : Nat} {f : Nat → Int32} (ho : aLen o = some n) (hf : ∀ k, k < n → μ b o k = f k) : wX Z (ids g) A (cE Z A g (up2 μ b o f)) A0 s H locs := by
  refine wX_cell h (fun x hx => ?_)
  by_cases hxi : x = (b, o)
  · refine Or.inr ⟨n, μ b o, f, ?_, ?_, hf⟩
    · rw [hxi, cE_arr ho]
    · rw [hxi, cE_upA ho]
  · exact Or.inl (cE_up x hxi).symm
def shV (v : Nat → Int32) (i n : Nat) : Nat → Int32 := fun j => if (5 + i < j ∧ j ≤ 5 + n) ∨ (13 + i < j ∧ j ≤ 13 + n) then v (j - 1) else v j
theorem shV_n (v : Nat → Int32) (n : Nat) : shV v n n = v := by
  funext j
  simp only [shV]
  split
  · omega
  · rfl
theorem shV_step (v : Nat → Int32) {i n : Nat} (h : 0 < i) (hn : i ≤ n) (h8 : n < 8) : upd (upd (shV v i n) (5 + i) (shV v i n (5 + i - 1))) (13 + i) (upd (shV v i n) (5 + i) (shV v i n (5 + i - 1)) (13 + i - 1)) = shV v (i - 1) n := by
  funext j
  by_cases h1 : j = 13 + i
  · subst h1
    rw [upd_s, upd_o (by omega)]
    simp only [shV]
    rw [if_neg (by omega), if_pos (by omega)]
  · rw [upd_o h1]
    by_cases h2 : j = 5 + i
    · subst h2
      rw [upd_s]
      simp only [shV]
      rw [if_neg (by omega), if_pos (by omega)]
    · rw [upd_o h2]
      simp only [shV]
      by_cases h3 : (5 + i < j ∧ j ≤ 5 + n) ∨ (13 + i < j ∧ j ≤ 13 + n)
      · rw [if_pos h3, if_pos (by omega)]
      · rw [if_neg h3, if_neg (by omega)]
def insV (v : Nat → Int32) (q n : Nat) (k x : Int32) : Nat → Int32 := upd (upd (upd (shV v q n) (5 + q) k) (13 + q) x) 0 (nI (n + 1))
def slV (v : Nat → Int32) (q i : Nat) : Nat → Int32 := fun j => if (5 + q ≤ j ∧ j < 5 + i) ∨ (13 + q ≤ j ∧ j < 13 + i) then v (j + 1) else v j
theorem slV_0 (v : Nat → Int32) (q : Nat) : slV v q q = v := by
  funext j
  simp only [slV]
  split
  · omega
  · rfl
theorem slV_step (v : Nat → Int32) {q i : Nat} (h : q ≤ i) (h8 : i + 1 < 8) : upd (upd (slV v q i) (5 + i) (slV v q i (5 + i + 1))) (13 + i) (upd (slV v q i) (5 + i) (slV v q i (5 + i + 1)) (13 + i + 1)) = slV v q (i + 1) := by
  funext j
  by_cases h1 : j = 13 + i
  · subst h1
    rw [upd_s, upd_o (by omega)]
    simp only [slV]
    rw [if_neg (by omega), if_pos (by omega)]
  · rw [upd_o h1]
    by_cases h2 : j = 5 + i
    · subst h2
      rw [upd_s]
      simp only [slV]
      by_cases h9 : 13 + q ≤ 5 + i + 1
      · omega
      · rw [if_neg (by omega), if_pos (by omega)]
    · rw [upd_o h2]
      simp only [slV]
      by_cases h3 : (5 + q ≤ j ∧ j < 5 + i) ∨ (13 + q ≤ j ∧ j < 13 + i)
      · rw [if_pos h3, if_pos (by omega)]
      · rw [if_neg h3, if_neg (by omega)]
def delV (v : Nat → Int32) (q n : Nat) : Nat → Int32 := upd (upd (slV (upd v 0 (nI (n - 1))) q (n - 1)) (5 + (n - 1)) (nI 0)) (13 + (n - 1)) (nI 0)
def swV (v : Nat → Int32) (a b : Nat) : Nat → Int32 := upd (upd (upd (upd v (5 + a) (v (5 + b))) (13 + a) (v (13 + b))) (5 + b) (v (5 + a))) (13 + b) (v (13 + a))
/-- the past, with one more -/
def shP (P : Nat → Int32) (i : Nat) : Nat → Int32 := fun k => if k < i then P (k + 1357) else P k
def laP (P : Nat → Int32) (s0 : Nat) (v : Nat → Int32) (i : Nat) : Nat → Int32 := fun k => if s0 ≤ k ∧ k < s0 + i then v (k - s0) else P k
theorem shP_0 (P : Nat → Int32) : shP P 0 = P := by
  funext k
  simp [shP]
theorem shP_step (P : Nat → Int32) (i : Nat) : upd (shP P i) i (shP P i (i + 1357)) = shP P (i + 1) := by
  funext k
  by_cases hk : k = i
  · subst hk
    rw [upd_s]
    simp only [shP]
    rw [if_neg (by omega), if_pos (by omega)]
  · rw [upd_o hk]
    simp only [shP]
    by_cases h : k < i
    · rw [if_pos h, if_pos (by omega)]
    · rw [if_neg h, if_neg (by omega)]
theorem laP_0 (P : Nat → Int32) (s0 : Nat) (v : Nat → Int32) : laP P s0 v 0 = P := by
  funext k
  simp only [laP]
  split
  · omega
  · rfl
theorem laP_step (P : Nat → Int32) (s0 : Nat) (v : Nat → Int32) (i : Nat) : upd (laP P s0 v i) (s0 + i) (v i) = laP P s0 v (i + 1) := by
  funext k
  by_cases hk : k = s0 + i
  · subst hk
    rw [upd_s]
    simp only [laP]
    rw [if_pos (by omega), Nat.add_sub_cancel_left]
  · rw [upd_o hk]
    simp only [laP]
    by_cases h : s0 ≤ k ∧ k < s0 + i
    · rw [if_pos h, if_pos (show s0 ≤ k ∧ k < s0 + (i + 1) by omega)]
    · rw [if_neg h, if_neg (show ¬ (s0 ≤ k ∧ k < s0 + (i + 1)) by omega)]
def pushP (P : Nat → Int32) (ch : Nat) (v : Nat → Int32) : Nat → Int32 := if ch = 8 then laP (shP P 9499) (7 * 1357) v 1357 else laP P (ch * 1357) v 1357
def pushC (ch : Nat) : Nat := if ch = 8 then 8 else ch + 1
theorem up1_c {ν : MM} {i j : Nat} {f h : Nat → Int32} (hij : j ≠ i) : up1 (up1 ν i f) j h = up1 (up1 ν j h) i f := by
  funext k
  by_cases h1 : k = j
  · rw [h1, up1_s, up1_o hij, up1_s]
  · rw [up1_n h1]
    by_cases h2 : k = i
    · rw [h2, up1_s, up1_s]
    · rw [up1_n h2, up1_n h2, up1_n h1]
theorem iabs_sub {a b : Nat} (ha : a < 2 ^ 30) (hb : b < 2 ^ 30) : iabs (nI a - nI b) = nI (if a < b then b - a else a - b) := by
  unfold iabs
  by_cases h : a < b
  · rw [if_pos h, if_pos (pk_sneg hb h), ← pk_sub (Nat.le_of_lt h)]
    rw [Int32.neg_sub]
  · rw [if_neg h, pk_sub (by omega), if_neg (nI_pos (by omega))]
