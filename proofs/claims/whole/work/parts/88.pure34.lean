/-! the class's memory while it parses: signs, numbers, how many commands, the place -/
def TX (μ : CM) (f24 f25 : Nat → Int32) (cN p : Nat) : CM := up2 (up2 (up2 μ 0 24 f24) 0 25 f25) 0 22 (upd (upd (μ 0 22) 4 (nI cN)) 5 (nI p))
section TXS
variable (μ : CM) (a b : Nat → Int32) (cN p : Nat)
theorem TX_24 : TX μ a b cN p 0 24 = a := by
  rw [TX, up2_o (o2 := 24) (o := 22) (by decide), up2_o (o2 := 24) (o := 25) (by decide), up2_s]
theorem TX_25 : TX μ a b cN p 0 25 = b := by
  rw [TX, up2_o (o2 := 25) (o := 22) (by decide), up2_s]
theorem TX_n : TX μ a b cN p 0 22 1 = μ 0 22 1 := by
  rw [TX, up2_s, upd_o (by decide), upd_o (by decide)]
theorem TX_h : TX μ a b cN p 0 22 5 = nI p := by
  rw [TX, up2_s, upd_s]
theorem TX_c : TX μ a b cN p 0 22 4 = nI cN := by
  rw [TX, up2_s, upd_o (by decide), upd_s]
theorem TX_t : TX μ a b cN p 0 23 = μ 0 23 := by
  rw [TX, up2_o (o2 := 23) (o := 22) (by decide), up2_o (o2 := 23) (o := 25) (by decide), up2_o (o2 := 23) (o := 24) (by decide)]
theorem TX_q (p2 : Nat) : CQ (TX μ a b cN p) p2 = TX μ a b cN p2 := by
  unfold CQ TX
  rw [up2_s, up2_2, upd_2]
theorem TX_w25 (f : Nat → Int32) : up2 (TX μ a b cN p) 0 25 f = TX μ a f cN p := by
  unfold TX
  rw [up2_c (o := 22) (o2 := 25) (by decide), up2_2]
theorem TX_w24 (f : Nat → Int32) : up2 (TX μ a b cN p) 0 24 f = TX μ f b cN p := by
  unfold TX
  rw [up2_c (o := 22) (o2 := 24) (by decide), up2_c (o := 25) (o2 := 24) (by decide), up2_2]
theorem TX_wc (c2 : Nat) : up2 (TX μ a b cN p) 0 22 (upd (TX μ a b cN p 0 22) 4 (nI c2)) = TX μ a b c2 p := by
  unfold TX
  rw [up2_s, up2_2, upd_c _ (show 5 ≠ 4 by decide), upd_2]
theorem TX_wp (p2 : Nat) : up2 (TX μ a b cN p) 0 22 (upd (TX μ a b cN p 0 22) 5 (nI p2)) = TX μ a b cN p2 := TX_q μ a b cN p p2
theorem TX_TX (a2 b2 : Nat → Int32) (c2 p2 : Nat) : TX (TX μ a b cN p) a2 b2 c2 p2 = TX μ a2 b2 c2 p2 := by
  have e : TX (TX μ a b cN p) a2 b2 c2 p2 = up2 (up2 (up2 (TX μ a b cN p) 0 24 a2) 0 25 b2) 0 22 (upd (upd (TX μ a b cN p 0 22) 4 (nI c2)) 5 (nI p2)) := rfl
  rw [e, TX_w24, TX_w25]
  unfold TX
  rw [up2_s, up2_2, upd_c (upd (μ 0 22) 4 (nI cN)) (show 5 ≠ 4 by decide), upd_2, upd_2]
theorem TX_o {b2 o : Nat} (h : ¬ (b2 = 0 ∧ (o = 24 ∨ o = 25 ∨ o = 22))) : TX μ a b cN p b2 o = μ b2 o := by
  unfold TX
  rw [up2_n (by omega), up2_n (by omega), up2_n (by omega)]
end TXS
theorem TX_0 {μ : CM} {cN p : Nat} (hc : μ 0 22 4 = nI cN) (hp : μ 0 22 5 = nI p) : TX μ (μ 0 24) (μ 0 25) cN p = μ := by
  unfold TX
  rw [← hc, ← hp, upd_id0, upd_id0, up2_id]
  have h := up2_id μ 0 25
  rw [h, up2_id]
theorem TX_q0 {μ : CM} {cN : Nat} (hc : μ 0 22 4 = nI cN) (p : Nat) : CQ μ p = TX μ (μ 0 24) (μ 0 25) cN p := by
  unfold CQ TX
  rw [← hc, upd_id0, up2_id, up2_id]
theorem TX_w250 {μ : CM} {cN p : Nat} (hc : μ 0 22 4 = nI cN) (hp : μ 0 22 5 = nI p) (f : Nat → Int32) : up2 μ 0 25 f = TX μ (μ 0 24) f cN p := by
  rw [← TX_w25 μ (μ 0 24) (μ 0 25) cN p f, TX_0 hc hp]
