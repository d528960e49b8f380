/-! THE CLASSES' NUMBERS AND SLOTS, THE ARRAYS' CLASSES -/
theorem in_J0 : ∀ w ∈ u_ws RJ0 TJ0 2, w ∈ lw_tbl := by
  intro w hw
  obtain ⟨k, hk, rfl⟩ := List.mem_map.mp hw
  have hk := List.mem_range.mp hk
  match k, hk with
  | 0, _ => exact List.mem_of_getElem? (i := 719) (by decide +kernel)
  | 1, _ => exact List.mem_of_getElem? (i := 721) (by decide +kernel)
  | k + 2, h => omega
theorem in_Jx : ∀ w ∈ u_ws RJx00060 TJx00060 6, w ∈ lw_tbl := by
  intro w hw
  obtain ⟨k, hk, rfl⟩ := List.mem_map.mp hw
  have hk := List.mem_range.mp hk
  match k, hk with
  | 0, _ => exact List.mem_of_getElem? (i := 707) (by decide +kernel)
  | 1, _ => exact List.mem_of_getElem? (i := 708) (by decide +kernel)
  | 2, _ => exact List.mem_of_getElem? (i := 709) (by decide +kernel)
  | 3, _ => exact List.mem_of_getElem? (i := 710) (by decide +kernel)
  | 4, _ => exact List.mem_of_getElem? (i := 711) (by decide +kernel)
  | 5, _ => exact List.mem_of_getElem? (i := 712) (by decide +kernel)
  | k + 6, h => omega
theorem arr_ok {args : Array Value} {s : State} {t : FieldType} (h : (Cond.arrayClass t).before args s = true) (ht : ∀ C, t ≠ .object C) : ∃ c, ArrOfT s c t ∧ va_RA s c t := by
  obtain ⟨c, k, comp, a1, a2, a3⟩ := Cond.arrayClass_spec (args := args) (first := s) (o := none) (s := s) (idx := []) h
  refine ⟨c, fun n z => ⟨fun k h => (by cases h), k, a2, comp, a3⟩, ?_⟩
  unfold va_RA
  cases t with
  | object C => exact absurd rfl (ht C)
  | _ => exact a1
theorem K_ok {args : Array Value} {s : State} (hts : ∀ w ∈ lw_tbl, w.before args s = true) : ∃ (D : va_G) (i r j d : ClassId), va_K D vwCl [(i, .int), (r, .object "SongRefinery$State"), (j, .long), (d, .double)] s := by
  obtain ⟨c0, s0, h0⟩ := u_known (C := RJ0) (T := TJ0) (N := 2) hts in_J0 (hts _ (GT_tbl g_718))
  obtain ⟨c1, s1, h1⟩ := u_known (C := RJx00060) (T := TJx00060) (N := 6) hts in_Jx (hts _ (GT_tbl g_703))
  obtain ⟨c2, s2, h2⟩ := u_known (C := RX0) (T := TX0) (N := 3) hts (fun w hw => GT_tbl (in_RX0 w hw)) (hts _ (GT_tbl g_108))
  obtain ⟨c3, s3, h3⟩ := u_known (C := RX1) (T := TX1) (N := 6) hts (fun w hw => GT_tbl (in_RX1 w hw)) (hts _ (GT_tbl g_233))
  obtain ⟨c4, s4, h4⟩ := u_known (C := RX2) (T := TX2) (N := 3) hts (fun w hw => GT_tbl (in_RX2 w hw)) (hts _ (GT_tbl g_196))
  obtain ⟨c5, s5, h5⟩ := u_known (C := RX3) (T := TX3) (N := 2) hts (fun w hw => GT_tbl (in_RX3 w hw)) (hts _ (GT_tbl g_260))
  obtain ⟨c6, s6, h6⟩ := u_known (C := RX4) (T := TX4) (N := 3) hts (fun w hw => GT_tbl (in_RX4 w hw)) (hts _ (GT_tbl g_215))
  obtain ⟨c7, s7, h7⟩ := u_known (C := RX5) (T := TX5) (N := 4) hts (fun w hw => GT_tbl (in_RX5 w hw)) (hts _ (GT_tbl g_127))
  obtain ⟨c8, s8, h8⟩ := u_known (C := RX6) (T := TX6) (N := 3) hts (fun w hw => GT_tbl (in_RX6 w hw)) (hts _ (GT_tbl g_102))
  obtain ⟨c9, s9, h9⟩ := u_known (C := RX7) (T := TX7) (N := 8) hts (fun w hw => GT_tbl (in_RX7 w hw)) (hts _ (GT_tbl g_146))
  obtain ⟨c10, s10, h10⟩ := u_known (C := RX9) (T := TX9) (N := 12) hts (fun w hw => GT_tbl (in_RX9 w hw)) (hts _ (GT_tbl g_94))
  obtain ⟨c11, s11, h11⟩ := u_known (C := RX10) (T := TX10) (N := 23) hts (fun w hw => GT_tbl (in_RX10 w hw)) (hts _ (GT_tbl g_1260))
  obtain ⟨ti, i1, i2⟩ := arr_ok (t := .int) (hts _ (GT_tbl g_125)) (fun C h => by cases h)
  obtain ⟨tj, j1, j2⟩ := arr_ok (t := .long) (hts _ (GT_tbl g_1703)) (fun C h => by cases h)
  obtain ⟨td, d1, d2⟩ := arr_ok (t := .double) (hts _ (GT_tbl g_1704)) (fun C h => by cases h)
  obtain ⟨compr, cr, kr, b1, b2, b3, b4, b5⟩ := Cond.arrayOver_spec (args := args) (first := s) (o := none) (s := s) (idx := []) (n := "SongRefinery$State") (hts _ (List.mem_of_getElem? (i := 202) (by decide +kernel)))
  refine ⟨(fun c => [c0, c1, c2, c3, c4, c5, c6, c7, c8, c9, c10, c11].getD c 0, fun c => [s0, s1, s2, s3, s4, s5, s6, s7, s8, s9, s10, s11].getD c (fun _ => 0)), ti, cr, tj, td, fun c q hq => ?_, fun k q hq => ?_⟩
  · have hc : c < 12 := (List.getElem?_eq_some_iff.mp hq).1
    rcases (show c = 0 ∨ c = 1 ∨ c = 2 ∨ c = 3 ∨ c = 4 ∨ c = 5 ∨ c = 6 ∨ c = 7 ∨ c = 8 ∨ c = 9 ∨ c = 10 ∨ c = 11 by omega) with rfl | rfl | rfl | rfl | rfl | rfl | rfl | rfl | rfl | rfl | rfl | rfl
    · obtain rfl := Option.some.inj hq
      exact h0
    · obtain rfl := Option.some.inj hq
      exact h1
    · obtain rfl := Option.some.inj hq
      exact h2
    · obtain rfl := Option.some.inj hq
      exact h3
    · obtain rfl := Option.some.inj hq
      exact h4
    · obtain rfl := Option.some.inj hq
      exact h5
    · obtain rfl := Option.some.inj hq
      exact h6
    · obtain rfl := Option.some.inj hq
      exact h7
    · obtain rfl := Option.some.inj hq
      exact h8
    · obtain rfl := Option.some.inj hq
      exact h9
    · obtain rfl := Option.some.inj hq
      exact h10
    · obtain rfl := Option.some.inj hq
      exact h11
  · have hk : k < 4 := (List.getElem?_eq_some_iff.mp hq).1
    rcases (show k = 0 ∨ k = 1 ∨ k = 2 ∨ k = 3 by omega) with rfl | rfl | rfl | rfl
    · obtain rfl := Option.some.inj hq
      exact ⟨i1, i2⟩
    · obtain rfl := Option.some.inj hq
      exact ⟨fun n z => ⟨fun k h => (by cases h), kr, b3, compr, b4⟩, kr, compr, b3, b4, b1, b5⟩
    · obtain rfl := Option.some.inj hq
      exact ⟨j1, j2⟩
    · obtain rfl := Option.some.inj hq
      exact ⟨d1, d2⟩
