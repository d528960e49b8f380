/-- what run leaves of the model -/
def RU (ν u : MM) (th : Nat) (ch er fa : Int32) (v5 v1 : Nat → Int32) : Prop :=
  u 0 0 = nI th ∧ u 0 1 = ch ∧ u 0 2 = er ∧ u 0 3 = fa ∧ u 0 4 = ν 0 4 ∧ u 0 17 = nI 0 ∧ u 0 20 = ν 0 20 ∧ u 1 = v1 ∧ u 3 = ν 3 ∧ u 5 = v5 ∧ u 8 = ν 8 ∧ u 9 = ν 9 ∧ u 11 = ν 11 ∧ u 12 = ν 12
