/-! what a change leaves of the model -/
def mN (ν : MM) : MM := up1 (up1 ν 0 (upd (ν 0) 0 (nI 0))) 2 (ν 1)
def mF (ν : MM) (k : Nat) : MM := up1 (up1 ν 0 (upd (ν 0) 0 (nI k))) 2 (ν 1)
def mS (ν : MM) (ch : Nat) (w : Nat → Int32) : MM := up1 (up1 (up1 (up1 ν 0 (upd (upd (ν 0) 0 (nI 0)) 1 (nI (pushC ch)))) 2 (ν 1)) 1 w) 5 (pushP (ν 5) ch (ν 1))
theorem mF_e (ν : MM) (k : Nat) : up1 (up1 (mN ν) 0 (upd (mN ν 0) 0 (nI k))) 1 (up1 (mN ν) 0 (upd (mN ν 0) 0 (nI k)) 2) = mF ν k := by
  unfold mN mF
  rw [up1_c (i := 2) (j := 0) (by decide), up1_2, up1_o (j := 0) (i := 2) (by decide), up1_s, upd_2]
  exact up1_p rfl
theorem mS_e (ν : MM) (ch : Nat) (w : Nat → Int32) : up1 (up1 (up1 (mN ν) 1 w) 5 (pushP (up1 (mN ν) 1 w 5) ch (up1 (mN ν) 1 w 2))) 0 (upd (up1 (mN ν) 1 w 0) 1 (nI (pushC ch))) = mS ν ch w := by
  unfold mN mS
  rw [up1_c (i := 5) (j := 0) (by decide), up1_c (i := 1) (j := 0) (by decide), up1_c (i := 2) (j := 0) (by decide), up1_2]
  rfl
theorem mS_p (ν : MM) (ch : Nat) (w o g : Nat → Int32) : up1 (up1 (up1 (up1 (up1 (mN ν) 6 o) 7 g) 1 w) 5 (pushP (up1 (up1 (up1 (mN ν) 6 o) 7 g) 1 w 5) ch (up1 (up1 (up1 (mN ν) 6 o) 7 g) 1 w 2))) 0 (upd (up1 (up1 (up1 (mN ν) 6 o) 7 g) 1 w 0) 1 (nI (pushC ch))) = up1 (up1 (mS ν ch w) 6 o) 7 g := by
  rw [up1_c (i := 7) (j := 1) (by decide), up1_c (i := 6) (j := 1) (by decide), up1_c (i := 7) (j := 5) (by decide), up1_c (i := 6) (j := 5) (by decide), up1_c (i := 7) (j := 0) (by decide), up1_c (i := 6) (j := 0) (by decide), ← mS_e ν ch w]
  rfl
