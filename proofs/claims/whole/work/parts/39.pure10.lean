/-! pure words: pouring, over the model's row -/
def capV (v : Nat → Int32) : Nat → Int32 := fun t => v (29 + 12 * t + 0)
def tunV (v : Nat → Int32) : Nat → Int32 := fun t => v (29 + 12 * t + 1)
def levV (v : Nat → Int32) : Nat → Int32 := fun t => v (29 + 12 * t + 2)
/-- capacities and levels of the first nt tanks -/
def VT (v : Nat → Int32) (nt : Nat) (cp lv : Nat → Nat) : Prop := ∀ t, t < nt → v (29 + 12 * t + 0) = nI (cp t) ∧ v (29 + 12 * t + 2) = nI (lv t) ∧ lv t ≤ cp t ∧ cp t ≤ 9
theorem VT_acc {v : Nat → Int32} {nt t : Nat} {cp lv : Nat → Nat} (h : VT v nt cp lv) (ht : t < nt) (x : Int32) : (levV v t < capV v t ∧ x ≤ tunV v t) ↔ (lv t < cp t ∧ x ≤ v (29 + 12 * t + 1)) := by
  obtain ⟨h1, h2, h3, h4⟩ := h t ht
  rw [levV, capV, tunV, h1, h2, nI_ltI (by omega) (by omega)]
theorem VT_room {v : Nat → Int32} {nt t : Nat} {cp lv : Nat → Nat} (h : VT v nt cp lv) (ht : t < nt) : capV v t - levV v t = nI (cp t - lv t) := by
  obtain ⟨h1, h2, h3, h4⟩ := h t ht
  rw [levV, capV, h1, h2, pk_sub h3]
theorem VT_more {v : Nat → Int32} {nt t q : Nat} {cp lv : Nat → Nat} (h : VT v nt cp lv) (ht : t < nt) (hq : q < nt) : (capV v q - levV v q < capV v t - levV v t) ↔ cp q - lv q < cp t - lv t := by
  have a := h t ht
  have b := h q hq
  rw [VT_room h ht, VT_room h hq, nI_ltI (by omega) (by omega)]
noncomputable def bstV (v : Nat → Int32) (x : Int32) (n : Nat) : Option Nat := bstT (capV v) (levV v) (tunV v) x n
noncomputable def pourF (v : Nat → Int32) (nt : Nat) (x : Int32) : Nat → Int32 := match bstV v x nt with
  | none => upd v 3 (v 3 + nI 1)
  | some t => upd (upd (upd v 2 (v 2 + nI 1)) (29 + 12 * t + (3 + (v (29 + 12 * t + 2)).toNatClampNeg)) x) (29 + 12 * t + 2) (v (29 + 12 * t + 2) + nI 1)
noncomputable def pourN (v : Nat → Int32) (nt : Nat) (L : Nat → Int32) : Nat → (Nat → Int32)
  | 0 => v
  | k + 1 => pourF (pourN v nt L k) nt (L k)
noncomputable def pourC (v : Nat → Int32) (nt : Nat) (L : Nat → Int32) : Nat → Nat
  | 0 => 0
  | k + 1 => pourC v nt L k + (match bstV (pourN v nt L k) (L k) nt with | none => 0 | some _ => 1)
def ldV (f : Nat → Int32) (n k : Nat) : Int32 := maxR (fun j => iabs (f (k * 8 + j))) (min (k * 8 + 8) n - k * 8)
theorem ldV_congr {f g : Nat → Int32} {n k : Nat} (h : ∀ j, j < n → f j = g j) : ldV f n k = ldV g n k := by
  unfold ldV
  exact maxR_congr (fun j hj => by rw [h _ (by omega)])
theorem pourF_none {v : Nat → Int32} {nt : Nat} {x : Int32} (h : bstV v x nt = none) : pourF v nt x = upd v 3 (v 3 + nI 1) := by rw [pourF, h]
theorem pourF_some {v : Nat → Int32} {nt t l : Nat} {x : Int32} (h : bstV v x nt = some t) (hl : v (29 + 12 * t + 2) = nI l) (h9 : l ≤ 9) : pourF v nt x = upd (upd (upd v 2 (v 2 + nI 1)) (29 + 12 * t + (3 + l)) x) (29 + 12 * t + 2) (nI (l + 1)) := by
  rw [pourF, h]
  simp only
  rw [hl, nI_clamp (by omega), nI_add]
theorem bstV_lt {v : Nat → Int32} {nt t : Nat} {cp lv : Nat → Nat} {x : Int32} (hV : VT v nt cp lv) (h : bstV v x nt = some t) : t < nt ∧ lv t < cp t := by
  have h1 := bstT_lt h
  exact ⟨h1.1, ((VT_acc hV h1.1 x).mp h1.2).1⟩
theorem pourF_lo {v : Nat → Int32} {nt : Nat} {x : Int32} {cp lv : Nat → Nat} (hV : VT v nt cp lv) (hnt : nt ≤ 4) {j : Nat} (hj : j < 29 ∨ 77 ≤ j) (h2 : j ≠ 2) (h3 : j ≠ 3) : pourF v nt x j = v j := by
  cases h : bstV v x nt with
  | none => rw [pourF_none h, upd_o h3]
  | some t =>
    have h1 := bstV_lt hV h
    have h4 := hV t h1.1
    rw [pourF_some h h4.2.1 (by omega), upd_o (by omega), upd_o (by omega), upd_o h2]
theorem pourF_VT {v : Nat → Int32} {nt : Nat} {x : Int32} {cp lv : Nat → Nat} (hV : VT v nt cp lv) (hnt : nt ≤ 4) : ∃ lv2, VT (pourF v nt x) nt cp lv2 := by
  cases h : bstV v x nt with
  | none =>
    refine ⟨lv, fun t ht => ?_⟩
    rw [pourF_none h, upd_o (by omega), upd_o (by omega)]
    exact hV t ht
  | some q =>
    have h1 := bstV_lt hV h
    have h4 := hV q h1.1
    refine ⟨fun t => if t = q then lv q + 1 else lv t, fun t ht => ?_⟩
    have h5 := hV t ht
    rw [pourF_some h h4.2.1 (by omega)]
    by_cases e : t = q
    · subst e
      rw [upd_o (by omega), upd_o (by omega), upd_o (by omega), upd_s]
      simp only [if_true]
      exact ⟨h5.1, True.intro, by omega, h5.2.2.2⟩
    · rw [upd_o (by omega), upd_o (by omega), upd_o (by omega), upd_o (by omega), upd_o (by omega), upd_o (by omega)]
      simp only [if_neg e]
      exact h5
theorem pourN_VT {v : Nat → Int32} {nt : Nat} {L : Nat → Int32} {cp lv : Nat → Nat} (hV : VT v nt cp lv) (hnt : nt ≤ 4) : ∀ k, ∃ lv2, VT (pourN v nt L k) nt cp lv2
  | 0 => ⟨lv, hV⟩
  | k + 1 => by
    obtain ⟨lv2, h⟩ := pourN_VT (L := L) hV hnt k
    exact pourF_VT h hnt
theorem pourN_lo {v : Nat → Int32} {nt : Nat} {L : Nat → Int32} {cp lv : Nat → Nat} (hV : VT v nt cp lv) (hnt : nt ≤ 4) {j : Nat} (hj : j < 29 ∨ 77 ≤ j) (h2 : j ≠ 2) (h3 : j ≠ 3) : ∀ k, pourN v nt L k j = v j
  | 0 => rfl
  | k + 1 => by
    obtain ⟨lv2, h⟩ := pourN_VT (L := L) hV hnt k
    rw [pourN, pourF_lo h hnt hj h2 h3, pourN_lo hV hnt hj h2 h3 k]
theorem pourC_none {v : Nat → Int32} {nt k : Nat} {L : Nat → Int32} (h : bstV (pourN v nt L k) (L k) nt = none) : pourC v nt L (k + 1) = pourC v nt L k := by rw [pourC, h]; rfl
theorem pourC_some {v : Nat → Int32} {nt k q : Nat} {L : Nat → Int32} (h : bstV (pourN v nt L k) (L k) nt = some q) : pourC v nt L (k + 1) = pourC v nt L k + 1 := by rw [pourC, h]

theorem pourC_le (v : Nat → Int32) (nt : Nat) (L : Nat → Int32) : ∀ k, pourC v nt L k ≤ k
  | 0 => Nat.le_refl _
  | k + 1 => by
    have := pourC_le v nt L k
    cases h : bstV (pourN v nt L k) (L k) nt with
    | none => rw [pourC_none h]; omega
    | some q => rw [pourC_some h]; omega
theorem bstT_congr {c1 c2 l1 l2 t1 t2 : Nat → Int32} {x : Int32} : ∀ {n : Nat}, (∀ t, t < n → c1 t = c2 t ∧ l1 t = l2 t ∧ t1 t = t2 t) → bstT c1 l1 t1 x n = bstT c2 l2 t2 x n
  | 0, _ => rfl
  | n + 1, h => by
    have e := bstT_congr (x := x) (fun t ht => h t (Nat.lt_succ_of_lt ht))
    have hn := h n (Nat.lt_succ_self n)
    rw [bstT, bstT, e, hn.1, hn.2.1, hn.2.2]
    cases hb : bstT c2 l2 t2 x n with
    | none => rfl
    | some q =>
      have hq := h q (Nat.lt_succ_of_lt (bstT_lt hb).1)
      simp only [hq.1, hq.2.1]
theorem bstV_no {v : Nat → Int32} {nt t : Nat} {cp lv : Nat → Nat} {x : Int32} (h : VT v nt cp lv) (ht : t < nt) (hn : ¬ (lv t < cp t ∧ x ≤ v (29 + 12 * t + 1))) : bstV v x (t + 1) = bstV v x t :=
  bstT_no (fun h1 => hn ((VT_acc h ht x).mp h1))
theorem bstV_none {v : Nat → Int32} {nt t : Nat} {cp lv : Nat → Nat} {x : Int32} (h : VT v nt cp lv) (ht : t < nt) (hn : lv t < cp t ∧ x ≤ v (29 + 12 * t + 1)) (hb : bstV v x t = none) : bstV v x (t + 1) = some t :=
  bstT_none ((VT_acc h ht x).mpr hn) hb
theorem bstV_more {v : Nat → Int32} {nt t q : Nat} {cp lv : Nat → Nat} {x : Int32} (h : VT v nt cp lv) (ht : t < nt) (hn : lv t < cp t ∧ x ≤ v (29 + 12 * t + 1)) (hb : bstV v x t = some q) (h2 : cp q - lv q < cp t - lv t) : bstV v x (t + 1) = some t :=
  bstT_more ((VT_acc h ht x).mpr hn) hb ((VT_more h ht (Nat.lt_trans (bstT_lt hb).1 ht)).mpr h2)
theorem bstV_less {v : Nat → Int32} {nt t q : Nat} {cp lv : Nat → Nat} {x : Int32} (h : VT v nt cp lv) (ht : t < nt) (hn : lv t < cp t ∧ x ≤ v (29 + 12 * t + 1)) (hb : bstV v x t = some q) (h2 : ¬ cp q - lv q < cp t - lv t) : bstV v x (t + 1) = some q :=
  bstT_less ((VT_acc h ht x).mpr hn) hb (fun h3 => h2 ((VT_more h ht (Nat.lt_trans (bstT_lt hb).1 ht)).mp h3))
/-- what draining leaves -/
def dnV (v : Nat → Int32) (b j i : Nat) : Nat → Int32 := fun k => if b ≤ k ∧ k < b + i then (if k + j < b + 9 then v (k + j) else nI 0) else v k
theorem dnV_0 (v : Nat → Int32) (b j : Nat) : dnV v b j 0 = v := by
  funext k
  simp only [dnV]
  rw [if_neg (by omega)]
theorem dnV_step1 (v : Nat → Int32) {b j i : Nat} (hj : 1 ≤ j) (h : i + j < 9) {a c : Nat} (ha : a = b + i) (hc : c = b + i + j) : upd (dnV v b j i) a (dnV v b j i c) = dnV v b j (i + 1) := by
  funext k
  subst ha hc
  by_cases e : k = b + i
  · subst e
    rw [upd_s]
    simp only [dnV]
    rw [if_neg (by omega), if_pos (by omega), if_pos (by omega)]
  · rw [upd_o e]
    simp only [dnV]
    by_cases h3 : b ≤ k ∧ k < b + i
    · rw [if_pos h3, if_pos (show b ≤ k ∧ k < b + (i + 1) by omega)]
    · rw [if_neg h3, if_neg (show ¬ (b ≤ k ∧ k < b + (i + 1)) by omega)]
theorem dnV_step0 (v : Nat → Int32) {b j i : Nat} (h : ¬ i + j < 9) {a : Nat} (ha : a = b + i) : upd (dnV v b j i) a (nI 0) = dnV v b j (i + 1) := by
  funext k
  subst ha
  by_cases e : k = b + i
  · subst e
    rw [upd_s]
    simp only [dnV]
    rw [if_pos (by omega), if_neg (by omega)]
  · rw [upd_o e]
    simp only [dnV]
    by_cases h3 : b ≤ k ∧ k < b + i
    · rw [if_pos h3, if_pos (show b ≤ k ∧ k < b + (i + 1) by omega)]
    · rw [if_neg h3, if_neg (show ¬ (b ≤ k ∧ k < b + (i + 1)) by omega)]
def drnV (v : Nat → Int32) (t l j : Nat) : Nat → Int32 := upd (upd (dnV v (29 + 12 * t + 3) j 9) (29 + 12 * t + 2) (nI (l - j))) 4 (v 4 + nI j)
