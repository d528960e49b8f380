def flV (v : Nat → Int32) (q : Nat) : Nat → Nat → Int32 := flR (fun t => v (77 + 160 * q + t)) (fun f => v (5 + f)) (fun f => v (13 + f))
theorem flV_s (v : Nat → Int32) (q f i : Nat) : flV v q (f + 1) i = fpass (v (5 + f)) (v (13 + f)) (flV v q f) i := rfl
