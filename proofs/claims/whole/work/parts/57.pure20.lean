/-! pure words: the state that the model holds, and what a command does to it -/
def nfV (v : Nat → Int32) : Nat := (v 0).toNatClampNeg
def ntV (v : Nat → Int32) : Nat := (v 1).toNatClampNeg
def lnV (v : Nat → Int32) (q : Nat) : Nat := (v (25 + q)).toNatClampNeg
def nnV (v : Nat → Int32) (q : Nat) : Nat := (v (21 + q)).toNatClampNeg
def nlV (v : Nat → Int32) (q j : Nat) : Nat := (v (717 + 160 * q + j)).toNatClampNeg
def psV (v : Nat → Int32) (f : Nat) : Nat := (v (13 + f)).toNatClampNeg
def cpN (v : Nat → Int32) (t : Nat) : Nat := (v (29 + 12 * t + 0)).toNatClampNeg
def tuN (v : Nat → Int32) (t : Nat) : Nat := (v (29 + 12 * t + 1)).toNatClampNeg
def lvN (v : Nat → Int32) (t : Nat) : Nat := (v (29 + 12 * t + 2)).toNatClampNeg
def frN (v : Nat → Int32) (t k : Nat) : Nat := (v (29 + 12 * t + (3 + k))).toNatClampNeg
def rawB (v : Nat → Int32) : Prop := ∀ q i, q < 4 → i < lnV v q → ∃ a, a ≤ 999 ∧ (v (77 + 160 * q + i) = nI a ∨ v (77 + 160 * q + i) = -nI a)
def VG (v : Nat → Int32) : Prop :=
  (v 0 = nI (nfV v) ∧ nfV v ≤ 8) ∧ (v 1 = nI (ntV v) ∧ ntV v ≤ 4) ∧ (∀ q, q < 4 → v (25 + q) = nI (lnV v q) ∧ lnV v q ≤ 160) ∧ (∀ q, q < 4 → v (21 + q) = nI (nnV v q) ∧ nnV v q ≤ lnV v q) ∧
  (∀ q j, q < 4 → j < nnV v q → v (717 + 160 * q + j) = nI (nlV v q j) ∧ nlV v q j ≤ lnV v q) ∧ (∀ q, q < 4 → sumN (nlV v q) (nnV v q) = lnV v q ∧ ∀ j, j < nnV v q → 1 ≤ nlV v q j) ∧
  (∀ f, f < nfV v → v (13 + f) = nI (psV v f) ∧ psV v f ≤ 999 ∧ KP (v (5 + f)) (nI (psV v f))) ∧
  VT v (ntV v) (cpN v) (lvN v) ∧ (∀ t, t < ntV v → 1 ≤ cpN v t) ∧ (∀ t, t < ntV v → v (29 + 12 * t + 1) = nI (tuN v t) ∧ tuN v t ≤ 9999) ∧
  (∀ t k, t < ntV v → k < lvN v t → v (29 + 12 * t + (3 + k)) = nI (frN v t k) ∧ frN v t k < 1000000) ∧ (∀ t, ntV v ≤ t → t < 4 → v (29 + 12 * t + 2) = nI 0) ∧ rawB v
/-- what the command w does to the state, none where it fails -/
noncomputable def exV (v : Nat → Int32) (w a b c d : Nat) : Option (Nat → Int32) :=
  if w < 6 then @ite _ (KP (nI (WD (WA w))) (nI a) ∧ nfV v < 8) (Classical.propDecidable _) (some (insV v (nfV v) (nfV v) (nI (WD (WA w))) (nI a))) none
  else if w = 6 then (if a < nfV v then some (delV v a (nfV v)) else none)
  else if w = 7 then @ite _ (a < 4 ∧ NV (nI b) (nI c) (nI d) ∧ lnV v a + d ≤ 160) (Classical.propDecidable _) (some (noteV v a (lnV v a) (nnV v a) b (nI c) d)) none
  else if w = 8 then (if 1 ≤ a ∧ a ≤ 9 ∧ ntV v < 4 then some (upd (upd (upd v (29 + 12 * ntV v + 0) (nI a)) (29 + 12 * ntV v + 1) (nI 9999)) 1 (nI (ntV v + 1))) else none)
  else if w = 9 then (if a < ntV v then some (upd v (29 + 12 * a + 1) (nI b)) else none)
  else if w = 10 then (if a < 4 ∧ 0 < nnV v a then some (pourN v (ntV v) (ldV (flV v a (nfV v)) (lnV v a)) ((lnV v a + 7) / 8)) else none)
  else (if a < ntV v ∧ 1 ≤ b ∧ b ≤ 9 ∧ b ≤ lvN v a then some (drnV v a (lvN v a) b) else none)
theorem nI_rn {a lo hi : Nat} (ha : a < 2 ^ 30) (hl : lo < 2 ^ 30) (hh : hi < 2 ^ 30) : (nI lo ≤ nI a ∧ nI a ≤ nI hi) ↔ (lo ≤ a ∧ a ≤ hi) := by
  constructor
  · intro h
    exact nI_rngs (by omega) (by omega) (by omega) h
  · intro ⟨h1, h2⟩
    constructor
    · exact I_nlt.mp (fun z => by have := (nI_ltI (by omega) (by omega)).mp z; omega)
    · exact I_nlt.mp (fun z => by have := (nI_ltI (by omega) (by omega)).mp z; omega)
/-- what a command leaves of the model -/
def mE6 (ν : MM) (o g w : Nat → Int32) : MM := up1 (up1 (up1 ν 6 o) 7 g) 1 w
theorem mE6_i (ν : MM) (w : Nat → Int32) : up1 ν 1 w = mE6 ν (ν 6) (ν 7) w := by
  unfold mE6
  rw [up1_p (i := 6) (f := ν 6) rfl, up1_p (i := 7) (f := ν 7) rfl]
/-- a command text, as functions -/
noncomputable def dF (t : Nat → Nat) (n p m : Nat) : Nat := Classical.epsilon (DG t n p m)
noncomputable def wF (t : Nat → Nat) (n p : Nat) : Nat := Classical.epsilon (WOK t n p)
noncomputable def kF (t : Nat → Nat) (n p : Nat) : Nat := Classical.epsilon (WNO t n p)
theorem dF_of {t : Nat → Nat} {n p m d : Nat} (h : DG t n p m d) : dF t n p m = d := DG_u (Classical.epsilon_spec ⟨d, h⟩) h
theorem wF_of {t : Nat → Nat} {n p w : Nat} (h : WOK t n p w) : wF t n p = w := WOK_u (Classical.epsilon_spec ⟨w, h⟩) h
theorem kF_of {t : Nat → Nat} {n p k : Nat} (h : WNO t n p k) : kF t n p = k := WNO_u (Classical.epsilon_spec ⟨k, h⟩) h
abbrev CMD := Option (Nat × Nat × Nat × Nat × Nat) × Nat
noncomputable def bhF (t : Nat → Nat) (n p m : Nat) : Option Nat × Nat := @ite _ (chT t n p = nI 32) (Classical.propDecidable _) (if dF t n (p + 1) m = 0 then (none, p + 1) else (some (dvN t (p + 1) (dF t n (p + 1) m)), p + 1 + dF t n (p + 1) m)) (none, p)
/-- behind the first number -/
noncomputable def rsF (t : Nat → Nat) (n w a p : Nat) : CMD :=
  if w = 9 then (match bhF t n p 3 with | (none, q) => (none, q) | (some b, q) => (some (w, a, b, 0, 0), q))
  else if w = 11 then (match bhF t n p 1 with | (none, q) => (none, q) | (some b, q) => (some (w, a, b, 0, 0), q))
  else if w = 7 then (match bhF t n p 3 with
    | (none, q) => (none, q)
    | (some b, q) => match bhF t n q 3 with
      | (none, q2) => (none, q2)
      | (some c, q2) => match bhF t n q2 3 with
        | (none, q3) => (none, q3)
        | (some d, q3) => (some (w, a, b, c, d), q3))
  else (some (w, a, 0, 0, 0), p)
noncomputable def c1F (t : Nat → Nat) (n w p : Nat) : CMD :=
  if w = 4 then (some (w, 0, 0, 0, 0), p)
  else if dF t n p (if w < 6 then 3 else 1) = 0 then (none, p)
  else rsF t n w (dvN t p (dF t n p (if w < 6 then 3 else 1))) (p + dF t n p (if w < 6 then 3 else 1))
noncomputable def cmF (t : Nat → Nat) (n p : Nat) : CMD := @ite _ (∃ w, WOK t n p w) (Classical.propDecidable _) (c1F t n (wF t n p) (p + wl (wF t n p))) (none, p + kF t n p)
theorem cmF_w {t : Nat → Nat} {n p w : Nat} (h : WOK t n p w) : cmF t n p = c1F t n w (p + wl w) := by
  rw [cmF, if_pos ⟨w, h⟩, wF_of h]
theorem cmF_k {t : Nat → Nat} {n p k : Nat} (h : WNO t n p k) : cmF t n p = (none, p + k) := by
  rw [cmF, if_neg (fun ⟨w, hw⟩ => WOK_NO hw h), kF_of h]
theorem bhF_s {t : Nat → Nat} {n p m : Nat} (h : ¬ chT t n p = nI 32) : bhF t n p m = (none, p) := by rw [bhF, if_neg h]
theorem bhF_0 {t : Nat → Nat} {n p m d : Nat} (h : chT t n p = nI 32) (hd : DG t n (p + 1) m d) (h0 : d = 0) : bhF t n p m = (none, p + 1) := by rw [bhF, if_pos h, dF_of hd, if_pos h0]
theorem bhF_d {t : Nat → Nat} {n p m d : Nat} (h : chT t n p = nI 32) (hd : DG t n (p + 1) m d) (h0 : 0 < d) : bhF t n p m = (some (dvN t (p + 1) d), p + 1 + d) := by rw [bhF, if_pos h, dF_of hd, if_neg (by omega)]
