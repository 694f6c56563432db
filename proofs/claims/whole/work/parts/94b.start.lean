theorem nest_in : ∀ q ∈ xnws, Cond.methodLinkNest q.1 q.2.1 q.2.2.1 q.2.2.2 ∈ lw_tbl := by
  intro q hq
  have e : xnws.map (fun q => Cond.methodLinkNest q.1 q.2.1 q.2.2.1 q.2.2.2) = [460, 86, 301, 80, 205, 224, 246].filterMap (fun i => lw_tbl[i]?) := by decide +kernel
  have h : Cond.methodLinkNest q.1 q.2.1 q.2.2.1 q.2.2.2 ∈ xnws.map (fun q => Cond.methodLinkNest q.1 q.2.1 q.2.2.1 q.2.2.2) := List.mem_map.mpr ⟨q, hq, rfl⟩
  rw [e] at h
  obtain ⟨i, -, hi⟩ := List.mem_filterMap.mp h
  exact List.mem_of_getElem? hi
theorem over_in : Cond.arrayOver (.object "WhisperCrowd$State") ∈ lw_tbl := List.mem_of_getElem? (i := 210) (by decide +kernel)
theorem arrI_in : Cond.arrayClass .int ∈ wsL_law := (List.mem_of_getElem? (i := 28) (by decide +kernel))
theorem arrJ_in : Cond.arrayClass .long ∈ wsL_law := (List.mem_of_getElem? (i := 67) (by decide +kernel))
theorem inst_0 : Cond.instantiable RX0 3 ∈ wsL_law := (List.mem_of_getElem? (i := 17) (by decide +kernel))
theorem inst_1 : Cond.instantiable RX1 3 ∈ wsL_law := (List.mem_of_getElem? (i := 54) (by decide +kernel))
theorem inst_2 : Cond.instantiable RX2 3 ∈ wsL_law := (List.mem_of_getElem? (i := 21) (by decide +kernel))
theorem inst_3 : Cond.instantiable RX3 2 ∈ wsL_law := (List.mem_of_getElem? (i := 48) (by decide +kernel))
theorem inst_4 : Cond.instantiable RX4 5 ∈ wsL_law := (List.mem_of_getElem? (i := 25) (by decide +kernel))
theorem inst_5 : Cond.instantiable RX5 14 ∈ wsL_law := (List.mem_of_getElem? (i := 13) (by decide +kernel))
theorem inst_6 : Cond.instantiable RX6 3 ∈ wsL_law := (List.mem_of_getElem? (i := 44) (by decide +kernel))
theorem inst_7 : Cond.instantiable RX7 6 ∈ wsL_law := (List.mem_of_getElem? (i := 1) (by decide +kernel))
theorem inst_8 : Cond.instantiable RX8 13 ∈ wsL_law := (List.mem_of_getElem? (i := 4) (by decide +kernel))
/-- the tables, read: class numbers, the classes of arrays, the nest's links -/
theorem start_K {s : State} {av : Array Value} (hts : ∀ w ∈ lw_tbl, w.before av s = true) : ∃ (D : va_G) (cI cJ cQ : ClassId), va_K D vwCl [(cI, .int), (cJ, .long), (cQ, .object "WhisperCrowd$State")] s ∧ XN s := by
  have hts2 : ∀ w ∈ wsL_law, w.before av s = true := fun w h => hts w (wsL_law_in w h)
  obtain ⟨c0, i0, k0⟩ := u_known (C := RX0) (T := TX0) (N := 3) (n := 3) hts2 inlX0 (hts2 _ inst_0)
  obtain ⟨c1, i1, k1⟩ := u_known (C := RX1) (T := TX1) (N := 3) (n := 3) hts2 inlX1 (hts2 _ inst_1)
  obtain ⟨c2, i2, k2⟩ := u_known (C := RX2) (T := TX2) (N := 3) (n := 3) hts2 inlX2 (hts2 _ inst_2)
  obtain ⟨c3, i3, k3⟩ := u_known (C := RX3) (T := TX3) (N := 2) (n := 2) hts2 inlX3 (hts2 _ inst_3)
  obtain ⟨c4, i4, k4⟩ := u_known (C := RX4) (T := TX4) (N := 5) (n := 5) hts2 inlX4 (hts2 _ inst_4)
  obtain ⟨c5, i5, k5⟩ := u_known (C := RX5) (T := TX5) (N := 14) (n := 14) hts2 inlX5 (hts2 _ inst_5)
  obtain ⟨c6, i6, k6⟩ := u_known (C := RX6) (T := TX6) (N := 3) (n := 3) hts2 inlX6 (hts2 _ inst_6)
  obtain ⟨c7, i7, k7⟩ := u_known (C := RX7) (T := TX7) (N := 6) (n := 6) hts2 inlX7 (hts2 _ inst_7)
  obtain ⟨c8, i8, k8⟩ := u_known (C := RX8) (T := TX8) (N := 13) (n := 13) hts2 inlX8 (hts2 _ inst_8)
  obtain ⟨cI, kI, pI, hI1, hI2, hI3⟩ := Cond.arrayClass_spec (hts2 _ arrI_in)
  obtain ⟨cJ, kJ, pJ, hJ1, hJ2, hJ3⟩ := Cond.arrayClass_spec (hts2 _ arrJ_in)
  obtain ⟨pQ, cQ, kQ, hQ1, -, hQ2, hQ3, hQ4⟩ := Cond.arrayOver_spec (hts _ over_in)
  refine ⟨(fun k => [c0, c1, c2, c3, c4, c5, c6, c7, c8].getD k c0, fun k => [i0, i1, i2, i3, i4, i5, i6, i7, i8].getD k i0), cI, cJ, cQ, ⟨fun k q hq => ?_, fun k q hq => ?_⟩, fun q hq => va_Nw.of rfl (hts _ (nest_in q hq)), va_AO.of (hts _ over_in)⟩
  · match k, hq with
    | 0, hq => cases hq; exact k0
    | 1, hq => cases hq; exact k1
    | 2, hq => cases hq; exact k2
    | 3, hq => cases hq; exact k3
    | 4, hq => cases hq; exact k4
    | 5, hq => cases hq; exact k5
    | 6, hq => cases hq; exact k6
    | 7, hq => cases hq; exact k7
    | 8, hq => cases hq; exact k8
    | k + 9, hq => simp [vwCl] at hq
  · match k, hq with
    | 0, hq => cases hq; exact ⟨fun n z => ⟨(fun k h => by cases h), kI, hI2, pI, hI3⟩, hI1⟩
    | 1, hq => cases hq; exact ⟨fun n z => ⟨(fun k h => by cases h), kJ, hJ2, pJ, hJ3⟩, hJ1⟩
    | 2, hq => cases hq; exact ⟨fun n z => ⟨(fun k h => by cases h), kQ, hQ2, pQ, hQ3⟩, ⟨kQ, pQ, hQ2, hQ3, hQ1, hQ4⟩⟩
    | k + 3, hq => simp at hq
