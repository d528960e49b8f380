section CB
variable {t : Nat → Nat} {n m j : Nat}
theorem TOK_c (h : TOK t n m) (hj : j ≤ m) : coF t n j ≠ none := by
  rcases Nat.lt_or_ge j m with e | e
  · exact (h.1 j e).1
  · have e2 : j = m := by omega
    rw [e2]; exact h.2.1
theorem TOK_lt (h : TOK t n m) (hj : j ≤ m) (h2 : enF t n j < n) : j < m := by
  rcases Nat.lt_or_ge j m with e | e
  · exact e
  · have e2 : j = m := by omega
    rw [e2] at h2
    have := h.2.2
    omega
theorem TOK_end (h : TOK t n m) (hj : j ≤ m) (h2 : n ≤ enF t n j) : j = m := by
  rcases Nat.lt_or_ge j m with e | e
  · have := (h.1 j e).2.1
    omega
  · omega
end CB
theorem E6_x (ν : MM) (p w : Nat) (f o g v : Nat → Int32) : mE6 (PL ν p w f) o g v 0 21 = nI w := PL_x ν p w f
theorem E6_h (ν : MM) (p w : Nat) (f o g v : Nat → Int32) : mE6 (PL ν p w f) o g v 0 18 = nI p := PL_h ν p w f
theorem PL_E6 (ν : MM) (a b p w : Nat) (f o g v f2 : Nat → Int32) : PL (mE6 (PL ν a b f) o g v) p w f2 = mE6 (PL ν p w f2) o g v := by
  rw [PL, PM_E6]
  unfold mE6
  rw [up1_c (i := 1) (j := 10) (by decide), up1_c (i := 7) (j := 10) (by decide), up1_c (i := 6) (j := 10) (by decide), PL_f]
theorem mE6_id0 (ν : MM) (p w : Nat) (f : Nat → Int32) : mE6 (PL ν p w f) (ν 6) (ν 7) (ν 1) = PL ν p w f := by
  unfold mE6
  rw [up1_p (i := 6) (f := ν 6) (by rfl), up1_p (i := 7) (f := ν 7) (by rfl), up1_p (i := 1) (f := ν 1) (by rfl)]
theorem FK_0 (ν : MM) (a b p w : Nat) (f : Nat → Int32) (x : Int32) : up1 (PL (PM ν a b) p w f) 0 (upd (PL (PM ν a b) p w f 0) 0 x) = up1 (mE6 (PL ν p w f) (ν 6) (ν 7) (ν 1)) 0 (upd (mE6 (PL ν p w f) (ν 6) (ν 7) (ν 1) 0) 0 x) := by
  rw [PL_PM, mE6_id0]
theorem FK_x (M : MM) (x : Int32) : up1 M 0 (upd (M 0) 0 x) 0 21 = M 0 21 := by
  rw [up1_s, upd_o (by decide)]
theorem FK_t (M : MM) (x : Int32) : up1 M 0 (upd (M 0) 0 x) 0 0 = x := by
  rw [up1_s, upd_s]
