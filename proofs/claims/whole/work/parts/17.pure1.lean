/-! pure words: chains -/
theorem up2_o {μ : CM} {b o b2 o2 : Nat} {f : Nat → Int32} (h : o2 ≠ o) : up2 μ b o f b2 o2 = μ b2 o2 := up2_n (fun z => h z.2)
theorem up2_b {μ : CM} {b o b2 o2 : Nat} {f : Nat → Int32} (h : b2 ≠ b) : up2 μ b o f b2 o2 = μ b2 o2 := up2_n (fun z => h z.1)
theorem up2_c {μ : CM} {b o b2 o2 : Nat} {f f2 : Nat → Int32} (h : o2 ≠ o) : up2 (up2 μ b o f) b2 o2 f2 = up2 (up2 μ b2 o2 f2) b o f := by
  funext b3 o3
  by_cases h1 : b3 = b2 ∧ o3 = o2
  · rw [h1.1, h1.2, up2_s, up2_o h, up2_s]
  · rw [up2_n h1]
    by_cases h2 : b3 = b ∧ o3 = o
    · rw [h2.1, h2.2, up2_s, up2_s]
    · rw [up2_n h2, up2_n h2, up2_n h1]
theorem up2_f {μ : CM} {b o : Nat} {f f2 : Nat → Int32} (h : f = f2) : up2 μ b o f = up2 μ b o f2 := by rw [h]
theorem up1_f {ν : MM} {i : Nat} {f f2 : Nat → Int32} (h : f = f2) : up1 ν i f = up1 ν i f2 := by rw [h]
theorem up1_o {ν : MM} {i j : Nat} {f : Nat → Int32} (h : j ≠ i) : up1 ν i f j = ν j := up1_n h
theorem upd_s (f : Nat → Int32) (k : Nat) (x : Int32) : upd f k x k = x := pk_us
theorem upd_o {f : Nat → Int32} {k j : Nat} {x : Int32} (h : j ≠ k) : upd f k x j = f j := pk_un h
theorem upd_id {f : Nat → Int32} {k : Nat} {x : Int32} (h : f k = x) : upd f k x = f := by
  funext j
  by_cases hj : j = k
  · rw [hj, upd_s, h]
  · rw [upd_o hj]
theorem upd_2 (f : Nat → Int32) (k : Nat) (x y : Int32) : upd (upd f k x) k y = upd f k y := by
  funext j
  by_cases hj : j = k
  · rw [hj, upd_s, upd_s]
  · rw [upd_o hj, upd_o hj, upd_o hj]
/-- a place of a row of n -/
def IX (x : Int32) (n : Nat) : Prop := ∃ q, q < n ∧ x = nI q
theorem IX_sub {x : Int32} {n : Nat} (hn : n < 2 ^ 30) : (nI 0 ≤ x ∧ x ≤ nI n - nI 1) ↔ IX x n := by
  by_cases h0 : n = 0
  · subst h0
    constructor
    · intro ⟨h1, h2⟩
      exfalso
      have e1 : nI 0 - nI 1 = -1 := by decide
      rw [e1] at h2
      rw [Int32.le_iff_toInt_le] at h1 h2
      have a1 : (nI 0).toInt = 0 := by decide
      have a2 : (-1 : Int32).toInt = -1 := by decide
      omega
    · rintro ⟨q, h, -⟩
      omega
  · rw [pk_sub (by omega : 1 ≤ n), I_rng2 (Nat.zero_le _) (by omega)]
    constructor
    · rintro ⟨q, h1, h2, h3⟩
      exact ⟨q, by omega, h3⟩
    · rintro ⟨q, h1, h2⟩
      exact ⟨q, by omega, by omega, h2⟩
theorem IX_le {x : Int32} {n : Nat} (hn : n < 2 ^ 30) : (nI 0 ≤ x ∧ x ≤ nI n) ↔ IX x (n + 1) := by
  rw [I_rng2 (Nat.zero_le _) (by omega)]
  constructor
  · rintro ⟨q, h1, h2, h3⟩
    exact ⟨q, by omega, h3⟩
  · rintro ⟨q, h1, h2⟩
    exact ⟨q, by omega, by omega, h2⟩
/-- a kind of filter with its parameter -/
def KP (k x : Int32) : Prop := (k = nI 103 ∧ nI 0 ≤ x ∧ x ≤ nI 200) ∨ (k = nI 100 ∧ nI 1 ≤ x ∧ x ≤ nI 8) ∨ (k = nI 109 ∧ nI 2 ≤ x ∧ x ≤ nI 8) ∨ (k = nI 99 ∧ nI 1 ≤ x ∧ x ≤ nI 999) ∨ (k = nI 102 ∧ x = 0) ∨ (k = nI 115 ∧ nI 2 ≤ x ∧ x ≤ nI 99)
theorem KP_103 {x : Int32} : KP (nI 103) x ↔ (nI 0 ≤ x ∧ x ≤ nI 200) := by
  simp [KP, show ¬ nI 103 = nI 100 by decide, show ¬ nI 103 = nI 109 by decide, show ¬ nI 103 = nI 99 by decide, show ¬ nI 103 = nI 102 by decide, show ¬ nI 103 = nI 115 by decide]
theorem KP_100 {x : Int32} : KP (nI 100) x ↔ (nI 1 ≤ x ∧ x ≤ nI 8) := by
  simp [KP, show ¬ nI 100 = nI 103 by decide, show ¬ nI 100 = nI 109 by decide, show ¬ nI 100 = nI 99 by decide, show ¬ nI 100 = nI 102 by decide, show ¬ nI 100 = nI 115 by decide]
theorem KP_109 {x : Int32} : KP (nI 109) x ↔ (nI 2 ≤ x ∧ x ≤ nI 8) := by
  simp [KP, show ¬ nI 109 = nI 103 by decide, show ¬ nI 109 = nI 100 by decide, show ¬ nI 109 = nI 99 by decide, show ¬ nI 109 = nI 102 by decide, show ¬ nI 109 = nI 115 by decide]
theorem KP_99 {x : Int32} : KP (nI 99) x ↔ (nI 1 ≤ x ∧ x ≤ nI 999) := by
  simp [KP, show ¬ nI 99 = nI 103 by decide, show ¬ nI 99 = nI 100 by decide, show ¬ nI 99 = nI 109 by decide, show ¬ nI 99 = nI 102 by decide, show ¬ nI 99 = nI 115 by decide]
theorem KP_102 {x : Int32} : KP (nI 102) x ↔ x = 0 := by
  simp [KP, show ¬ nI 102 = nI 103 by decide, show ¬ nI 102 = nI 100 by decide, show ¬ nI 102 = nI 109 by decide, show ¬ nI 102 = nI 99 by decide, show ¬ nI 102 = nI 115 by decide]
theorem KP_115 {x : Int32} : KP (nI 115) x ↔ (nI 2 ≤ x ∧ x ≤ nI 99) := by
  simp [KP, show ¬ nI 115 = nI 103 by decide, show ¬ nI 115 = nI 100 by decide, show ¬ nI 115 = nI 109 by decide, show ¬ nI 115 = nI 99 by decide, show ¬ nI 115 = nI 102 by decide]
theorem KP_no {k x : Int32} (h1 : ¬ k = nI 103) (h2 : ¬ k = nI 100) (h3 : ¬ k = nI 109) (h4 : ¬ k = nI 99) (h5 : ¬ k = nI 102) (h6 : ¬ k = nI 115) : ¬ KP k x := by
  simp [KP, h1, h2, h3, h4, h5, h6]
/-- what setFilter, putFilter, takeFilter do to the rows -/
def setF (μ : CM) (b : Nat) (i k v : Int32) : CM := up2 (up2 μ b 2 (wr 8 (μ b 2) i k)) b 3 (wr 8 (μ b 3) i v)
def shR (f : Nat → Int32) (i n : Nat) : Nat → Int32 := fun k => if i < k ∧ k ≤ n then f (k - 1) else f k
def insR (f : Nat → Int32) (q n : Nat) (x : Int32) : Nat → Int32 := fun k => if k < q then f k else if k = q then x else if k ≤ n then f (k - 1) else f k
def slR (f : Nat → Int32) (q i : Nat) : Nat → Int32 := fun k => if q ≤ k ∧ k < i then f (k + 1) else f k
theorem shR_n (f : Nat → Int32) (n : Nat) : shR f n n = f := by
  funext k
  simp only [shR]
  split
  · omega
  · rfl
theorem shR_step (f : Nat → Int32) {i n : Nat} (h : 0 < i) (hn : i ≤ n) : upd (shR f i n) i (shR f i n (i - 1)) = shR f (i - 1) n := by
  funext k
  by_cases hk : k = i
  · subst hk
    rw [upd_s]
    simp only [shR]
    rw [if_neg (by omega), if_pos (by omega)]
  · rw [upd_o hk]
    simp only [shR]
    split <;> split <;> first | rfl | omega
theorem insR_of (f : Nat → Int32) {q n : Nat} (h : q ≤ n) (x : Int32) : upd (shR f q n) q x = insR f q n x := by
  funext k
  by_cases hk : k = q
  · subst hk
    rw [upd_s]
    simp [insR]
  · rw [upd_o hk]
    simp only [shR, insR]
    split <;> split <;> first | rfl | omega | (split <;> first | rfl | omega)
theorem slR_0 (f : Nat → Int32) (q : Nat) : slR f q q = f := by
  funext k
  simp only [slR]
  split
  · omega
  · rfl
theorem slR_step (f : Nat → Int32) {q i : Nat} (h : q ≤ i) : upd (slR f q i) i (slR f q i (i + 1)) = slR f q (i + 1) := by
  funext k
  by_cases hk : k = i
  · subst hk
    rw [upd_s]
    simp only [slR]
    rw [if_neg (by omega), if_pos (by omega)]
  · rw [upd_o hk]
    simp only [slR]
    split <;> split <;> first | rfl | omega
def chM (μ : CM) (b : Nat) (f h : Nat → Int32) : CM := up2 (up2 μ b 2 f) b 3 h
theorem chM_2 (μ : CM) (b : Nat) (f h : Nat → Int32) : chM μ b f h b 2 = f := by rw [chM, up2_o (o2 := 2) (o := 3) (by decide), up2_s]
theorem chM_3 (μ : CM) (b : Nat) (f h : Nat → Int32) : chM μ b f h b 3 = h := by rw [chM, up2_s]
theorem chM_1 (μ : CM) (b : Nat) (f h : Nat → Int32) (b2 : Nat) : chM μ b f h b2 1 = μ b2 1 := by rw [chM, up2_o (o2 := 1) (o := 3) (by decide), up2_o (o2 := 1) (o := 2) (by decide)]
theorem chM_id (μ : CM) (b : Nat) : chM μ b (μ b 2) (μ b 3) = μ := by
  have h : up2 (up2 μ b 2 (μ b 2)) b 3 (μ b 3) = up2 μ b 3 (μ b 3) := by rw [up2_id]
  rw [chM, h, up2_id]
theorem chM_set (μ : CM) (b : Nat) (f h : Nat → Int32) (i k v : Int32) : setF (chM μ b f h) b i k v = chM μ b (wr 8 f i k) (wr 8 h i v) := by
  unfold setF
  rw [chM_2, chM_3]
  unfold chM
  rw [up2_c (o := 3) (o2 := 2) (by decide), up2_2, up2_2]
theorem put_step (μ : CM) (b : Nat) {i n : Nat} (h : 0 < i) (hn : i ≤ n) (h8 : n < 8) :
    setF (chM μ b (shR (μ b 2) i n) (shR (μ b 3) i n)) b (nI i) (rd 8 (chM μ b (shR (μ b 2) i n) (shR (μ b 3) i n) b 2) (nI (i - 1))) (rd 8 (chM μ b (shR (μ b 2) i n) (shR (μ b 3) i n) b 3) (nI (i - 1))) = chM μ b (shR (μ b 2) (i - 1) n) (shR (μ b 3) (i - 1) n) := by
  rw [chM_set, chM_2, chM_3, rd_in (n := 8) (k := i - 1) _ (by omega) (by omega), rd_in (n := 8) (k := i - 1) _ (by omega) (by omega), wr_in (n := 8) (k := i) _ _ (by omega) (by omega), wr_in (n := 8) (k := i) _ _ (by omega) (by omega), shR_step _ h hn, shR_step _ h hn]
theorem take_step (μ : CM) (b : Nat) {q i : Nat} (h : q ≤ i) (h8 : i + 1 < 8) :
    setF (chM μ b (slR (μ b 2) q i) (slR (μ b 3) q i)) b (nI i) (rd 8 (chM μ b (slR (μ b 2) q i) (slR (μ b 3) q i) b 2) (nI (i + 1))) (rd 8 (chM μ b (slR (μ b 2) q i) (slR (μ b 3) q i) b 3) (nI (i + 1))) = chM μ b (slR (μ b 2) q (i + 1)) (slR (μ b 3) q (i + 1)) := by
  rw [chM_set, chM_2, chM_3, rd_in (n := 8) (k := i + 1) _ (by omega) (by omega), rd_in (n := 8) (k := i + 1) _ (by omega) (by omega), wr_in (n := 8) (k := i) _ _ (by omega) (by omega), wr_in (n := 8) (k := i) _ _ (by omega) (by omega), slR_step _ h, slR_step _ h]
