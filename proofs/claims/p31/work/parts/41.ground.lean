/-! the law's start: the classes, the arrays' classes, the texts -/
abbrev aw_O (s : State) : Nat → Prop := fun q => s.heap.size ≤ q
theorem aw_D {args : Array Value} {s : State} (hts : ∀ w ∈ ah_T, w.before args s = true) : ∃ D : ah_G, va_K D.1 vwCl (ah_tys D) s := by
  obtain ⟨c0, i0, k0⟩ := u_known (C := RX0) (T := TX0) (N := 3) (n := 3) hts inT_0 (hts (.instantiable RX0 3) (ah_in 25 (by decide +kernel) rfl))
  obtain ⟨c1, i1, k1⟩ := u_known (C := RX1) (T := TX1) (N := 3) (n := 3) hts inT_1 (hts (.instantiable RX1 3) (ah_in 61 (by decide +kernel) rfl))
  obtain ⟨c2, i2, k2⟩ := u_known (C := RX2) (T := TX2) (N := 3) (n := 3) hts inT_2 (hts (.instantiable RX2 3) (ah_in 415 (by decide +kernel) rfl))
  obtain ⟨c3, i3, k3⟩ := u_known (C := RX3) (T := TX3) (N := 2) (n := 2) hts inT_3 (hts (.instantiable RX3 2) (ah_in 44 (by decide +kernel) rfl))
  obtain ⟨c4, i4, k4⟩ := u_known (C := RX4) (T := TX4) (N := 2) (n := 2) hts inT_4 (hts (.instantiable RX4 2) (ah_in 80 (by decide +kernel) rfl))
  obtain ⟨c5, i5, k5⟩ := u_known (C := RX5) (T := TX5) (N := 2) (n := 2) hts inT_5 (hts (.instantiable RX5 2) (ah_in 95 (by decide +kernel) rfl))
  obtain ⟨c6, i6, k6⟩ := u_known (C := RX6) (T := TX6) (N := 6) (n := 6) hts inT_6 (hts (.instantiable RX6 6) (ah_in 17 (by decide +kernel) rfl))
  obtain ⟨a0, ka0, ca0, fa0, ha0, ea0⟩ := Cond.arrayClass_spec (hts (.arrayClass .int) (ah_in 78 (by decide +kernel) rfl))
  obtain ⟨a1, ka1, ca1, fa1, ha1, ea1⟩ := Cond.arrayClass_spec (hts (.arrayClass .byte) (ah_in 289 (by decide +kernel) rfl))
  obtain ⟨a2, ka2, ca2, fa2, ha2, ea2⟩ := Cond.arrayClass_spec (hts (.arrayClass .long) (ah_in 59 (by decide +kernel) rfl))
  obtain ⟨a3, ka3, ca3, fa3, ha3, ea3⟩ := Cond.arrayClass_spec (hts (.arrayClass .char) (ah_in 93 (by decide +kernel) rfl))
  obtain ⟨cp, a4, ka4, hcp, -, ha4, ea4, fa4⟩ := Cond.arrayOver_spec (hts (.arrayOver (.object "Ahoarch$Pattern")) (ah_in 31 (by decide +kernel) rfl))
  refine ⟨((fun k => match k with | 0 => c0 | 1 => c1 | 2 => c2 | 3 => c3 | 4 => c4 | 5 => c5 | _ => c6, fun k => match k with | 0 => i0 | 1 => i1 | 2 => i2 | 3 => i3 | 4 => i4 | 5 => i5 | _ => i6), fun k => match k with | 0 => a0 | 1 => a1 | 2 => a2 | 3 => a3 | _ => a4), fun k q hq => ?_, fun k q hq => ?_⟩
  · match k, hq with
    | 0, hq => cases hq; exact k0
    | 1, hq => cases hq; exact k1
    | 2, hq => cases hq; exact k2
    | 3, hq => cases hq; exact k3
    | 4, hq => cases hq; exact k4
    | 5, hq => cases hq; exact k5
    | 6, hq => cases hq; exact k6
    | k + 7, hq => simp at hq
  · match k, hq with
    | 0, hq => cases hq; exact ⟨fun n z => ⟨fun k h => (by cases h), ka0, ha0, ca0, ea0⟩, fa0⟩
    | 1, hq => cases hq; exact ⟨fun n z => ⟨fun k h => (by cases h), ka1, ha1, ca1, ea1⟩, fa1⟩
    | 2, hq => cases hq; exact ⟨fun n z => ⟨fun k h => (by cases h), ka2, ha2, ca2, ea2⟩, fa2⟩
    | 3, hq => cases hq; exact ⟨fun n z => ⟨fun k h => (by cases h), ka3, ha3, ca3, ea3⟩, fa3⟩
    | 4, hq => cases hq; exact ⟨fun n z => ⟨fun k h => (by cases h), ka4, ha4, cp, ea4⟩, ka4, cp, ha4, ea4, hcp, fa4⟩
    | k + 5, hq => simp at hq
theorem aw_str {args : Array Value} {s : State} {own tx : String} {k : Nat} (h1 : (Cond.stringRef own k tx).before args s = true) (h2 : (Cond.exactly (.string own k) "java/lang/String").before args s = true) : ∃ sa : Nat, vk_R own k tx sa s := by
  obtain ⟨a, c, cell, kk, h3, -⟩ := Cond.exactly_spec h2
  exact ⟨a, vk_R.of h1 h3⟩
set_option maxRecDepth 100000 in
theorem aw_V {args : Array Value} {s : State} (hts0 : ∀ w ∈ lw_tbl, w.before args s = true) (hgv : (Jvm.Cond.and given_1 narrow_1).before args s = true) : ∃ D : ah_G, ah_V (aw_O s) D s s.heap := by
  have hts : ∀ w ∈ ah_T, w.before args s = true := fun w hw => hts0 w (List.mem_filter.mp hw).1
  obtain ⟨D, hK⟩ := aw_D hts
  have hs := flat_of_before _ hgv
  have hA : ∀ a : Nat, a < s.heap.size → ¬ aw_O s a := fun a h => Nat.not_le.mpr h
  refine ⟨D, hK, vx_Zqof (hts0 (.laysStatic Bundle.tN "UNASSIGNED_STACK" Bundle.steD) (List.mem_append_right _ (List.mem_of_getElem? (i := 248) (by decide +kernel)))) (hts (.initialized Bundle.tN) (ah_in 8 (by decide +kernel) rfl)) (hs (.isRef (.static "java/lang/Throwable" "UNASSIGNED_STACK" "[Ljava/lang/StackTraceElement;")) (by decide +kernel)) hA, vx_Zqof (hts0 (.laysStatic Bundle.tN "SUPPRESSED_SENTINEL" Bundle.listD) (List.mem_append_right _ (List.mem_of_getElem? (i := 250) (by decide +kernel)))) (hts (.initialized Bundle.tN) (ah_in 8 (by decide +kernel) rfl)) (hs (.isRef (.static "java/lang/Throwable" "SUPPRESSED_SENTINEL" "Ljava/util/List;")) (by decide +kernel)) hA, ?_, ?_⟩
  · intro q hq
    simp only [ah_Strs, List.mem_cons, List.not_mem_nil, or_false] at hq
    rcases hq with rfl | rfl | rfl | rfl | rfl | rfl | rfl | rfl | rfl | rfl
    · exact aw_str (hts0 (.stringRef "Ahoarch" 207 "a letter is a to z") (List.mem_append_right _ (List.mem_of_getElem? (i := 363) (by decide +kernel)))) (hs (.exactly (.string "Ahoarch" 207) "java/lang/String") (by decide +kernel))
    · exact aw_str (hts0 (.stringRef "Ahoarch" 59 "the draft has 8 letters") (List.mem_append_right _ (List.mem_of_getElem? (i := 373) (by decide +kernel)))) (hs (.exactly (.string "Ahoarch" 59) "java/lang/String") (by decide +kernel))
    · exact aw_str (hts0 (.stringRef "Ahoarch" 68 "the draft is empty") (List.mem_append_right _ (List.mem_of_getElem? (i := 400) (by decide +kernel)))) (hs (.exactly (.string "Ahoarch" 68) "java/lang/String") (by decide +kernel))
    · exact aw_str (hts0 (.stringRef "Ahoarch" 74 "there is a pattern with the same letters") (List.mem_append_right _ (List.mem_of_getElem? (i := 405) (by decide +kernel)))) (hs (.exactly (.string "Ahoarch" 74) "java/lang/String") (by decide +kernel))
    · exact aw_str (hts0 (.stringRef "Ahoarch" 80 "there are 20 patterns, or 40 were entered") (List.mem_append_right _ (List.mem_of_getElem? (i := 410) (by decide +kernel)))) (hs (.exactly (.string "Ahoarch" 80) "java/lang/String") (by decide +kernel))
    · exact aw_str (hts0 (.stringRef "Ahoarch" 217 "there is no such pattern") (List.mem_append_right _ (List.mem_of_getElem? (i := 459) (by decide +kernel)))) (hs (.exactly (.string "Ahoarch" 217) "java/lang/String") (by decide +kernel))
    · exact aw_str (hts0 (.stringRef "Ahoarch" 220 "the stream would have more than 200 letters") (List.mem_append_right _ (List.mem_of_getElem? (i := 495) (by decide +kernel)))) (hs (.exactly (.string "Ahoarch" 220) "java/lang/String") (by decide +kernel))
    · exact aw_str (hts0 (.stringRef "Ahoarch" 158 "there is no such occurrence") (List.mem_append_right _ (List.mem_of_getElem? (i := 588) (by decide +kernel)))) (hs (.exactly (.string "Ahoarch" 158) "java/lang/String") (by decide +kernel))
    · exact aw_str (hts0 (.stringRef "Ahoarch" 210 "a rule is 0 to 2") (List.mem_append_right _ (List.mem_of_getElem? (i := 263) (by decide +kernel)))) (hs (.exactly (.string "Ahoarch" 210) "java/lang/String") (by decide +kernel))
    · exact aw_str (hts0 (.stringRef "Ahoarch" 198 "there is no such letter") (List.mem_append_right _ (List.mem_of_getElem? (i := 549) (by decide +kernel)))) (hs (.exactly (.string "Ahoarch" 198) "java/lang/String") (by decide +kernel))
  · intro q hq
    exact absurd hq List.not_mem_nil
