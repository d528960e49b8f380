/-! THE RING'S STATES: made once, and then used again -/
def gS (g : Nat → Bool) (k : Nat) : Nat → Bool := fun j => if j = k then true else g j
theorem gS_id {g : Nat → Bool} {k : Nat} (h : g k = true) : gS g k = g := by
  funext j
  unfold gS
  split
  · next e => rw [e, h]
  · rfl
theorem ids_nd (g : Nat → Bool) : (ids g).Nodup := by
  unfold ids List.Nodup
  rw [List.pairwise_flatMap]
  refine ⟨fun b _ => ?_, ?_⟩
  · rw [List.pairwise_map]
    exact (List.nodup_range.sublist List.filter_sublist).imp (fun h e => h (by simpa using e))
  · refine List.nodup_range.imp (fun {a b} h x hx y hy e => ?_)
    simp only [List.mem_map] at hx hy
    obtain ⟨o, _, rfl⟩ := hx
    obtain ⟨o2, _, rfl⟩ := hy
    exact h (congrArg Prod.fst e)
theorem cwl_len {α : Type} (L : List α) (A : α → Nat) (E : α → va_E) : (cwl L A E).length = L.length := by simp [cwl]
/-- a world and a fresh state: the state becomes the ring's k-th, not yet in the ring's row -/
def aS (A : Nat × Nat → Nat) (a : Nat → Nat) (k : Nat) : Nat × Nat → Nat := fun x => if x.1 = k + 3 then a x.2 else A x
def mS0 (μ : CM) (k : Nat) : CM := fun b o => if b = k + 3 then (fun _ => nI 0) else μ b o
def eS (Z : ZT) (A : Nat × Nat → Nat) (a : Nat → Nat) (g : Nat → Bool) (k : Nat) (μ : CM) : Nat × Nat → va_E := fun x => if x = (0, 16) then cE Z A g μ (0, 16) else cE Z (aS A a k) (gS g k) (mS0 μ k) x
theorem gS_in {g : Nat → Bool} {k : Nat} {x : Nat × Nat} (h : x ∈ ids (gS g k)) (hx : x.1 ≠ k + 3) : x ∈ ids g := by
  obtain ⟨b, o⟩ := x
  rw [ids_mem] at h ⊢
  refine ⟨h.1, h.2.1, ?_⟩
  have h3 := h.2.2
  simp only [liveB, gS] at h3 ⊢
  by_cases hb : 3 ≤ b
  · rw [if_neg (by simp only at hx; omega)] at h3
    exact h3
  · simp [hb] at h3 ⊢
    exact h3
theorem gS_s {g : Nat → Bool} {k : Nat} {x : Nat × Nat} (h : x ∈ ids (gS g k)) (hk : k < 8) (hx : x.1 = k + 3) : x.2 < 14 := by
  obtain ⟨b, o⟩ := x
  rw [ids_mem] at h
  simp only at hx
  subst hx
  have h3 := h.2.2
  simp only [liveB] at h3
  have a1 : decide (k + 3 < 3) = false := by simp
  have a2 : decide (k + 3 = 0) = false := by simp
  have a3 : decide (k + 3 = 11) = false := by simp; omega
  rw [a1, a2, a3] at h3
  simp only [Bool.false_and, Bool.false_or, Bool.and_eq_true, decide_eq_true_eq] at h3
  exact h3.1.2
theorem gS_up {g : Nat → Bool} {k : Nat} {x : Nat × Nat} (h : x ∈ ids g) : x ∈ ids (gS g k) := by
  obtain ⟨b, o⟩ := x
  rw [ids_mem] at h ⊢
  refine ⟨h.1, h.2.1, ?_⟩
  have h3 := h.2.2
  simp only [liveB, gS] at h3 ⊢
  by_cases e : b - 3 = k
  · rw [if_pos e]
    simp only [Bool.or_eq_true, Bool.and_eq_true, decide_eq_true_eq] at h3 ⊢
    rcases h3 with h3 | h3
    · exact Or.inl h3
    · exact Or.inr ⟨h3.1, True.intro⟩
  · rw [if_neg e]
    exact h3
theorem cE_old {Z : ZT} {A : Nat × Nat → Nat} {a : Nat → Nat} {g : Nat → Bool} {k : Nat} {μ : CM} {x : Nat × Nat} (hk : k < 8) (hx : x.1 ≠ k + 3) (h16 : x.2 ≠ 16) : cE Z (aS A a k) (gS g k) (mS0 μ k) x = cE Z A g μ x := by
  obtain ⟨b, o⟩ := x
  simp only at hx
  have e1 : ∀ o2, aS A a k (b, o2) = A (b, o2) := fun o2 => by simp [aS, hx]
  have e2 : ∀ o2, mS0 μ k b o2 = μ b o2 := fun o2 => by simp [mS0, hx]
  have e3 : ∀ (b2 o2 : Nat), b2 < 3 ∨ b2 = 11 → aS A a k (b2, o2) = A (b2, o2) := fun b2 o2 h => by
    simp only [aS]
    rw [if_neg (by omega)]
  show cEo Z (aS A a k) (gS g k) (mS0 μ k) b o = cEo Z A g μ b o
  simp only at h16
  by_cases ho : 28 ≤ o
  · obtain ⟨j, rfl⟩ : ∃ j, o = j + 28 := ⟨o - 28, by omega⟩
    rfl
  · rcases (show o = 0 ∨ o = 1 ∨ o = 2 ∨ o = 3 ∨ o = 4 ∨ o = 5 ∨ o = 6 ∨ o = 7 ∨ o = 8 ∨ o = 9 ∨ o = 10 ∨ o = 11 ∨ o = 12 ∨ o = 13 ∨ o = 14 ∨ o = 15 ∨ o = 16 ∨ o = 17 ∨ o = 18 ∨ o = 19 ∨ o = 20 ∨ o = 21 ∨ o = 22 ∨ o = 23 ∨ o = 24 ∨ o = 25 ∨ o = 26 ∨ o = 27 by omega) with e | e | e | e | e | e | e | e | e | e | e | e | e | e | e | e | e | e | e | e | e | e | e | e | e | e | e | e <;> subst e
    all_goals first
      | exact absurd rfl h16
      | simp only [cEo, e1, e2, e3 0 _ (Or.inl (by decide)), e3 1 _ (Or.inl (by decide)), e3 2 _ (Or.inl (by decide)), e3 11 _ (Or.inr rfl)]
theorem in_16 {g : Nat → Bool} {x : Nat × Nat} (h : x ∈ ids g) (h16 : x.2 = 16) : x = (0, 16) := by
  obtain ⟨b, o⟩ := x
  simp only at h16
  subst h16
  rw [ids_mem] at h
  have h3 := h.2.2
  simp [liveB] at h3
  rw [h3]
theorem wX_grow {Z : ZT} {A : Nat × Nat → Nat} {a : Nat → Nat} {g : Nat → Bool} {k : Nat} {μ : CM} {A0 : Nat → Prop} {s : State} {H : Heap} {locs : List Loc} (h : wW Z (cwl (ids g) A (cE Z A g μ) ++ SB Z a) A0 s H locs) (hk : k < 8) : wX Z (ids (gS g k)) (aS A a k) (eS Z A a g k μ) A0 s H locs := by
  refine wX_of h (fun x => if x.1 = k + 3 then (ids g).length + x.2 else (ids g).idxOf x) (fun x hx => ?_) (fun x hx y hy e => ?_) (ids_nd _)
  · by_cases e : x.1 = k + 3
    · have h14 := gS_s hx hk e
      simp only [if_pos e]
      have hl := cwl_len (ids g) A (cE Z A g μ)
      rw [← hl]
      refine app_r ?_
      have h2 : (List.range 14)[x.2]? = some x.2 := by
        rw [List.getElem?_range h14]
      have h3 := cwl_at (A := a) (E := sE Z a) h2
      unfold SB
      rw [h3]
      obtain ⟨b, o⟩ := x
      simp only at e h14
      subst e
      have e4 : aS A a k (k + 3, o) = a o := by simp [aS]
      have e5 : eS Z A a g k μ (k + 3, o) = sE Z a o := by
        unfold eS
        rw [if_neg (fun z => by have := congrArg Prod.fst z; simp at this)]
        have ea : ∀ o2, aS A a k (k + 3, o2) = a o2 := fun o2 => by simp [aS]
        have em : ∀ o2, mS0 μ k (k + 3) o2 = (fun _ => nI 0) := fun o2 => by simp [mS0]
        show cEo Z (aS A a k) (gS g k) (mS0 μ k) (k + 3) o = cEo Z (fun x => a x.2) g0 μ0 0 o
        rcases (show o = 0 ∨ o = 1 ∨ o = 2 ∨ o = 3 ∨ o = 4 ∨ o = 5 ∨ o = 6 ∨ o = 7 ∨ o = 8 ∨ o = 9 ∨ o = 10 ∨ o = 11 ∨ o = 12 ∨ o = 13 by omega) with e | e | e | e | e | e | e | e | e | e | e | e | e | e <;> subst e <;> simp only [cEo, ea, em] <;> rfl
      rw [e4, e5]
    · simp only [if_neg e]
      have hx2 := gS_in hx e
      refine app_l ?_
      have h2 : (ids g)[(ids g).idxOf x]? = some x := by
        rw [List.getElem?_eq_getElem (List.idxOf_lt_length_of_mem hx2), List.getElem_idxOf]
      rw [cwl_at h2]
      have e4 : aS A a k x = A x := by simp [aS, e]
      rw [e4]
      unfold eS
      by_cases h16 : x = (0, 16)
      · rw [if_pos h16, h16]
      · rw [if_neg h16, cE_old hk e (fun z => h16 (in_16 hx2 z))]
  · have hlx : ∀ z ∈ ids (gS g k), z.1 ≠ k + 3 → (ids g).idxOf z < (ids g).length := fun z hz hz2 => List.idxOf_lt_length_of_mem (gS_in hz hz2)
    by_cases e1 : x.1 = k + 3 <;> by_cases e2 : y.1 = k + 3
    · simp only [if_pos e1, if_pos e2] at e
      exact Prod.ext (e1.trans e2.symm) (by omega)
    · simp only [if_pos e1, if_neg e2] at e
      have := hlx y hy e2
      omega
    · simp only [if_neg e1, if_pos e2] at e
      have := hlx x hx e1
      omega
    · simp only [if_neg e1, if_neg e2] at e
      have hx2 := gS_in hx e1
      have hy2 := gS_in hy e2
      have h2 : (ids g)[(ids g).idxOf x]? = some x := by
        rw [List.getElem?_eq_getElem (List.idxOf_lt_length_of_mem hx2), List.getElem_idxOf]
      have h3 : (ids g)[(ids g).idxOf y]? = some y := by
        rw [List.getElem?_eq_getElem (List.idxOf_lt_length_of_mem hy2), List.getElem_idxOf]
      rw [e] at h2
      exact Option.some.inj (h2.symm.trans h3)
