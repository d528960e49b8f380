/-! pure words: a command, case by case -/
section CM
variable {t : Nat → Nat} {n w p : Nat}
theorem DG_in {m d : Nat} (ht : ∀ j, j < n → t j < 128) (hp : p ≤ n) (h : DG t n p m d) : p + d ≤ n := by
  cases d with
  | zero => exact hp
  | succ d =>
    have h1 := isD_ch ht h.2.1.2
    omega
theorem DG_v {m d : Nat} (ht : ∀ j, j < n → t j < 128) (hm : m ≤ 3) (h : DG t n p m d) : dvN t p d < 1000 := by
  have h1 := dvN_lt ht h.2.1
  have h2 := h.1
  rcases (show d = 0 ∨ d = 1 ∨ d = 2 ∨ d = 3 by omega) with e | e | e | e <;> subst e <;> simp only [p10] at h1 <;> omega
theorem c1_4 (h : w = 4) : c1F t n w p = (some (w, 0, 0, 0, 0), p) := by rw [c1F, if_pos h]
theorem c1_0 {m d : Nat} (h : ¬ w = 4) (hm : (if w < 6 then 3 else 1) = m) (hd : DG t n p m d) (h0 : d = 0) : c1F t n w p = (none, p) := by
  rw [c1F, if_neg h, hm, dF_of hd, if_pos h0]
theorem c1_d {m d : Nat} {r : CMD} (h : ¬ w = 4) (hm : (if w < 6 then 3 else 1) = m) (hd : DG t n p m d) (h0 : 0 < d) (hr : rsF t n w (dvN t p d) (p + d) = r) : c1F t n w p = r := by
  rw [c1F, if_neg h, hm, dF_of hd, if_neg (by omega), hr]
theorem rs_o {a : Nat} (h9 : ¬ w = 9) (h11 : ¬ w = 11) (h7 : ¬ w = 7) : rsF t n w a p = (some (w, a, 0, 0, 0), p) := by
  rw [rsF, if_neg h9, if_neg h11, if_neg h7]
theorem rs9_n {a q : Nat} (h : w = 9) (hb : bhF t n p 3 = (none, q)) : rsF t n w a p = (none, q) := by
  rw [rsF, if_pos h, hb]
theorem rs9_s {a b q : Nat} (h : w = 9) (hb : bhF t n p 3 = (some b, q)) : rsF t n w a p = (some (w, a, b, 0, 0), q) := by
  rw [rsF, if_pos h, hb]
theorem rs11_n {a q : Nat} (h : w = 11) (hb : bhF t n p 1 = (none, q)) : rsF t n w a p = (none, q) := by
  rw [rsF, if_neg (by omega), if_pos h, hb]
theorem rs11_s {a b q : Nat} (h : w = 11) (hb : bhF t n p 1 = (some b, q)) : rsF t n w a p = (some (w, a, b, 0, 0), q) := by
  rw [rsF, if_neg (by omega), if_pos h, hb]
theorem rs7_1 {a q : Nat} (h : w = 7) (hb : bhF t n p 3 = (none, q)) : rsF t n w a p = (none, q) := by
  rw [rsF, if_neg (by omega), if_neg (by omega), if_pos h, hb]
theorem rs7_2 {a b q q2 : Nat} (h : w = 7) (hb : bhF t n p 3 = (some b, q)) (h2 : bhF t n q 3 = (none, q2)) : rsF t n w a p = (none, q2) := by
  rw [rsF, if_neg (by omega), if_neg (by omega), if_pos h, hb]
  simp only [h2]
theorem rs7_3 {a b c q q2 q3 : Nat} (h : w = 7) (hb : bhF t n p 3 = (some b, q)) (h2 : bhF t n q 3 = (some c, q2)) (h3 : bhF t n q2 3 = (none, q3)) : rsF t n w a p = (none, q3) := by
  rw [rsF, if_neg (by omega), if_neg (by omega), if_pos h, hb]
  simp only [h2, h3]
theorem rs7_4 {a b c d q q2 q3 : Nat} (h : w = 7) (hb : bhF t n p 3 = (some b, q)) (h2 : bhF t n q 3 = (some c, q2)) (h3 : bhF t n q2 3 = (some d, q3)) : rsF t n w a p = (some (w, a, b, c, d), q3) := by
  rw [rsF, if_neg (by omega), if_neg (by omega), if_pos h, hb]
  simp only [h2, h3]
end CM
theorem cat6 {w : Nat} (h : w < 12) : w = 4 ∨ w = 7 ∨ w = 9 ∨ w = 11 ∨ (w < 6 ∧ ¬ w = 4) ∨ (w = 6 ∨ w = 8 ∨ w = 10) := by omega
