/-! pure words: copies of states -/
def cpChain (μ : CM) (b b2 : Nat) : CM := up2 (up2 (up2 μ b 2 (cpR 8 (μ b2 2) (μ b 2))) b 3 (cpR 8 (μ b2 3) (μ b 3))) b 1 (upd (μ b 1) 2 (μ b2 1 2))
def cpSongs (μ : CM) (b b2 : Nat) : CM := up2 (up2 (up2 (up2 μ b 5 (cpR 640 (μ b2 5) (μ b 5))) b 6 (cpR 640 (μ b2 6) (μ b 6))) b 7 (cpR 4 (μ b2 7) (μ b 7))) b 8 (cpR 4 (μ b2 8) (μ b 8))
def cpTanks (μ : CM) (b b2 : Nat) : CM := up2 (up2 (up2 (up2 (up2 μ b 10 (cpR 4 (μ b2 10) (μ b 10))) b 11 (cpR 4 (μ b2 11) (μ b 11))) b 12 (cpR 4 (μ b2 12) (μ b 12))) b 13 (cpR 36 (μ b2 13) (μ b 13))) b 9 (upd (upd (upd (upd (μ b 9) 4 (μ b2 9 4)) 5 (μ b2 9 5)) 6 (μ b2 9 6)) 7 (μ b2 9 7))
def cpState (μ : CM) (b b2 : Nat) : CM := cpTanks (cpSongs (cpChain μ b b2) b b2) b b2
