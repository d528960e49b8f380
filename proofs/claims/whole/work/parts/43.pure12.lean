/-! pure words: characters, sums -/
def CH (x : Int32) : Prop := ∃ n, n < 65536 ∧ x = nI n
theorem CH_i2c {x : Int32} (h : CH x) : (x.toUInt32 % 65536).toInt32 = x := by
  obtain ⟨n, hn, rfl⟩ := h
  exact lg_i2c_word (by rw [nI_toInt (by omega)]; omega) (by rw [nI_toInt (by omega)]; omega)
theorem CH_nar {x : Int32} (h : CH x) : narrow .char (.int x) = .int x := by
  have h1 := CH_i2c h
  rw [lg_i2c_nf] at h1
  show Value.int (x.toUInt32.toUInt16.toUInt32.toInt32) = .int x
  rw [h1]
theorem KP_CH {k x : Int32} (h : KP k x) : CH k := by
  rcases h with ⟨e, _⟩ | ⟨e, _⟩ | ⟨e, _⟩ | ⟨e, _⟩ | ⟨e, _⟩ | ⟨e, _⟩
  · exact ⟨103, by decide, e⟩
  · exact ⟨100, by decide, e⟩
  · exact ⟨109, by decide, e⟩
  · exact ⟨99, by decide, e⟩
  · exact ⟨102, by decide, e⟩
  · exact ⟨115, by decide, e⟩
def sumN (f : Nat → Nat) : Nat → Nat
  | 0 => 0
  | n + 1 => sumN f n + f n
theorem sumN_le {f : Nat → Nat} {b : Nat} : ∀ {n : Nat}, (∀ k, k < n → f k ≤ b) → sumN f n ≤ b * n
  | 0, _ => Nat.zero_le _
  | n + 1, h => by
    have h1 := sumN_le (f := f) (b := b) (n := n) (fun k hk => h k (by omega))
    have h2 := h n (by omega)
    rw [sumN, Nat.mul_succ]
    omega
theorem isum_sumN {f : Nat → Int32} {g : Nat → Nat} : ∀ {n : Nat}, (∀ k, k < n → f k = nI (g k)) → isum f n = nI (sumN g n)
  | 0, _ => rfl
  | n + 1, h => by
    rw [isum, sumN, isum_sumN (fun k hk => h k (by omega)), h n (by omega), nI_add]
theorem sb_ng {a b : Nat} (ha : a < 2 ^ 30) (hb : b < 2 ^ 30) (h1 : ¬ 0 < nI a - nI b) (h2 : ¬ nI a - nI b = 0) : a < b := by
  rw [sb_gt ha hb] at h1
  rw [sb_eq ha hb] at h2
  omega
