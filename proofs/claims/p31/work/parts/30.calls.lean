/-! calls that do not throw, with their answers -/
section AHQ
variable {l : Launch} {y : MethodName} {ws : List Cond} {rm : Room} {Pc : Array Value → State → Prop} {A : Nat → Prop} {D : ah_G} {mc ms : Nat}
theorem ah_mono {post post' : Int32 → ah_F → Prop} (h : Met l y ws rm Pc (ah_Qi A D post) mc ms A) (hp : ∀ r F1, post r F1 → post' r F1) : Met l y ws rm Pc (ah_Qi A D post') mc ms A := by
  intro p e ha hc hk s m args below hf happ hP hK
  obtain ⟨n, o, h1, h2, h3, ⟨⟨v, F1, g1, g2, g3⟩, g4⟩, g5⟩ := h p e ha hc hk s m args below hf happ hP hK
  exact ⟨n, o, h1, h2, h3, ⟨⟨v, F1, g1, hp _ _ g2, g3⟩, g4⟩, g5⟩
theorem ah_nox {post post' : Int32 → ah_F → Prop} {px : String → ah_F → Prop} (h : vx_Met l y ws rm Pc (ah_Qi A D post) (ah_X A D px) mc ms A) (hx : ∀ E F1, px E F1 → False) (hp : ∀ r F1, post r F1 → post' r F1) : Met l y ws rm Pc (ah_Qi A D post') mc ms A := by
  intro p e ha hc hk s m args below hf happ hP hK
  obtain ⟨n, o, h1, h2, h3, h4⟩ := h p e ha hc hk s m args below hf happ hP hK
  refine ⟨n, o, h1, h2, h3, ?_⟩
  rcases h4 with ⟨⟨⟨v, F1, g1, g2, g3⟩, g4⟩, g5⟩ | ⟨q, -, E, ce, L, ⟨u, -, ⟨hb, -⟩, -⟩, -⟩
  · exact ⟨⟨⟨v, F1, g1, hp _ _ g2, g3⟩, g4⟩, g5⟩
  · exact (hx E u hb).elim
end AHQ
theorem ah_pi_j {P : ah_Pt} {j : Nat} {w r : List Nat} (hj : j < 40) (hp : P j = some (w, r)) : ah_pi P (nI j) = some j := by simp [ah_pi, ah_ix_in hj, hp]
theorem ah_pi_ne {P : ah_Pt} {j : Nat} {w r : List Nat} (hj : j < 40) (hp : P j = some (w, r)) : ah_pi P (nI j) ≠ none := by
  rw [ah_pi_j hj hp]
  exact fun h => by cases h
theorem ah_C_x {D : ah_G} {F : ah_F} {x n : Nat} {P : ah_Pt} {dr S : List Nat} {td : Int32} (h : ah_C D F x P n dr S td) : ∃ fs : List Value, F x = some (.inr (6, fs)) := by
  obtain ⟨b, ra, st, la, ch, cp, cl, tx, ta, dw, rf, lf, pf, plf, tf, cc, tc, pr, hxx, h9⟩ := h
  exact ⟨_, hxx⟩
theorem q_length (l : Launch) (A : Nat → Prop) (D : ah_G) (F : ah_F) {x n : Nat} {P : ah_Pt} {dr S : List Nat} {td : Int32} (hC : ah_C D F x P n dr S td) {j : Nat} {w r0 : List Nat} (hj : j < 40) (hp : P j = some (w, r0)) : Met l yX6_length (Cond.code yX6_length cX6_length 2 (some .int) :: ah_T) { frames := 2, cells := 0, slots := 0, locals := 43 } (va_Pc [.ref x, .int (nI j)] (ah_B A D F)) (ah_Qi A D (fun (r : Int32) F1 => F = F1 ∧ nI w.length = r)) 0 0 A :=
  ah_mono (z_length l A D F hC (ah_pi_ne hj hp)) (fun r F1 h => by
    obtain ⟨h0, i, w2, r2, h1, h2, h3⟩ := h
    rw [ah_pi_j hj hp] at h1; cases h1
    rw [hp] at h2; cases h2
    exact ⟨h0, h3⟩)
theorem q_link (l : Launch) (A : Nat → Prop) (D : ah_G) (F : ah_F) {x n : Nat} {P : ah_Pt} {dr S : List Nat} {td : Int32} (hC : ah_C D F x P n dr S td) {j : Nat} {w r0 : List Nat} (hj : j < 40) (hp : P j = some (w, r0)) : Met l yX6_link (Cond.code yX6_link cX6_link 3 (some .int) :: ah_T) { frames := 3, cells := 0, slots := 0, locals := 75 } (va_Pc [.ref x, .int (nI j)] (ah_B A D F)) (ah_Qi A D (fun (r : Int32) F1 => F = F1 ∧ nI (ah_le P w (w.length - 1)) = r)) 0 0 A :=
  ah_mono (z_link l A D F hC (ah_pi_ne hj hp)) (fun r F1 h => by
    obtain ⟨h0, i, w2, r2, h1, h2, h3⟩ := h
    rw [ah_pi_j hj hp] at h1; cases h1
    rw [hp] at h2; cases h2
    exact ⟨h0, h3⟩)
theorem q_occurrencesOf (l : Launch) (A : Nat → Prop) (D : ah_G) (F : ah_F) {x n : Nat} {P : ah_Pt} {dr S : List Nat} {td : Int32} (hC : ah_C D F x P n dr S td) {j : Nat} {w r0 : List Nat} (hj : j < 40) (hp : P j = some (w, r0)) : Met l yX6_occurrencesOf (Cond.code yX6_occurrencesOf cX6_occurrencesOf 2 (some .int) :: ah_T) { frames := 3, cells := 0, slots := 0, locals := 67 } (va_Pc [.ref x, .int (nI j)] (ah_B A D F)) (ah_Qi A D (fun (r : Int32) F1 => F = F1 ∧ nI (pu_cn (fun i => ah_at S i w) S.length) = r)) 0 0 A :=
  ah_mono (z_occurrencesOf l A D F hC (ah_pi_ne hj hp)) (fun r F1 h => by
    obtain ⟨h0, i, w2, r2, h1, h2, h3⟩ := h
    rw [ah_pi_j hj hp] at h1; cases h1
    rw [hp] at h2; cases h2
    exact ⟨h0, h3⟩)
theorem q_occurrence (l : Launch) (A : Nat → Prop) (D : ah_G) (F : ah_F) {x n : Nat} {P : ah_Pt} {dr S : List Nat} {td : Int32} (hC : ah_C D F x P n dr S td) {j : Nat} {w r0 : List Nat} (hj : j < 40) (hp : P j = some (w, r0)) {k i : Nat} (hk : ah_kt (fun i => ah_at S i w) S.length (nI k) = some i) : Met l yX6_occurrence (Cond.code yX6_occurrence cX6_occurrence 4 (some .int) :: ah_T) { frames := 3, cells := 0, slots := 0, locals := 68 } (va_Pc [.ref x, .int (nI j), .int (nI k)] (ah_B A D F)) (ah_Qi A D (fun (r : Int32) F1 => F = F1 ∧ nI i = r)) 0 0 A :=
  ah_mono (z_occurrence l A D F hC (ah_pi_ne hj hp) (fun i2 w2 r2 h1 h2 => by
    rw [ah_pi_j hj hp] at h1; cases h1
    rw [hp] at h2; cases h2
    rw [hk]; exact fun h => by cases h)) (fun r F1 h => by
    obtain ⟨h0, i2, w2, r2, k2, h1, h2, h3, h4⟩ := h
    rw [ah_pi_j hj hp] at h1; cases h1
    rw [hp] at h2; cases h2
    rw [hk] at h3; cases h3
    exact ⟨h0, h4⟩)
theorem q_overlap (l : Launch) (A : Nat → Prop) (D : ah_G) (F : ah_F) {x n : Nat} {P : ah_Pt} {dr S : List Nat} {td : Int32} (hC : ah_C D F x P n dr S td) {j : Nat} {w r0 : List Nat} (hj : j < 40) (hp : P j = some (w, r0)) {j2 : Nat} {w2 r2 : List Nat} (hj2 : j2 < 40) (hp2 : P j2 = some (w2, r2)) : Met l yX6_overlap (Cond.code yX6_overlap cX6_overlap 6 (some .int) :: ah_T) { frames := 2, cells := 0, slots := 0, locals := 43 } (va_Pc [.ref x, .int (nI j), .int (nI j2)] (ah_B A D F)) (ah_Qi A D (fun (r : Int32) F1 => F = F1 ∧ nI (ah_ov w w2 (min w.length w2.length - 1)) = r)) 0 0 A :=
  ah_mono (z_overlap l A D F hC (ah_pi_ne hj hp) (ah_pi_ne hj2 hp2)) (fun r F1 h => by
    obtain ⟨h0, i, u, s1, i2, u2, s2, h1, h2, h3, h4, h5⟩ := h
    rw [ah_pi_j hj hp] at h1; cases h1
    rw [hp] at h2; cases h2
    rw [ah_pi_j hj2 hp2] at h3; cases h3
    rw [hp2] at h4; cases h4
    exact ⟨h0, h5⟩)
theorem q_endingPattern (l : Launch) (A : Nat → Prop) (D : ah_G) (F : ah_F) {x n : Nat} {P : ah_Pt} {dr S : List Nat} {td : Int32} (hC : ah_C D F x P n dr S td) {k i : Nat} (hk : ah_ep P S (nI k) = some i) : Met l yX6_endingPattern (Cond.code yX6_endingPattern cX6_endingPattern 3 (some .int) :: ah_T) { frames := 4, cells := 0, slots := 0, locals := 95 } (va_Pc [.ref x, .int (nI k)] (ah_B A D F)) (ah_Qi A D (fun (r : Int32) F1 => F = F1 ∧ nI i = r)) 0 0 A :=
  ah_mono (z_endingPattern l A D F hC (by rw [hk]; exact fun h => by cases h)) (fun r F1 h => by
    obtain ⟨h0, i2, h1, h2⟩ := h
    rw [hk] at h1; cases h1
    exact ⟨h0, h2⟩)
theorem q_draft (l : Launch) (hl1 : l.stackTraces = false) (A : Nat → Prop) (D : ah_G) (F : ah_F) {x n : Nat} {P : ah_Pt} {dr S : List Nat} {td : Int32} (hC : ah_C D F x P n dr S td) {cv : Nat} (h1 : 97 ≤ cv) (h2 : cv ≤ 122) (hl : dr.length < 8) : Met l yX6_draft (Cond.code yX6_draft cX6_draft 2 (some .int) :: ah_T) { frames := 7, cells := 2, slots := 12, locals := 102 } (va_Pc [.ref x, .int (nI cv)] (ah_B A D F)) (ah_Qi A D (fun (r : Int32) F1 => nI (dr.length + 1) = r ∧ ah_C D F1 x P n (dr ++ [cv - 96]) S td ∧ ah_out D F F1)) 2 12 A :=
  ah_nox (c_draft l hl1 A D F hC (cv := cv) (by omega)) (fun E F1 h => by
    obtain ⟨-, ⟨-, h3⟩ | ⟨-, -, -, h3⟩⟩ := h <;> omega) (fun r F1 h => by
    obtain ⟨y, e, -, -, -, h3, h4⟩ := h
    rw [show cv - 96 = y by omega]; exact ⟨h3, h4⟩)
theorem q_feed (l : Launch) (hl1 : l.stackTraces = false) (A : Nat → Prop) (D : ah_G) (F : ah_F) {x n : Nat} {P : ah_Pt} {dr S : List Nat} {td : Int32} (hC : ah_C D F x P n dr S td) {cv : Nat} (h1 : 97 ≤ cv) (h2 : cv ≤ 122) (hl : S.length < 200) : Met l yX6_feed (Cond.code yX6_feed cX6_feed 2 (some .int) :: ah_T) { frames := 7, cells := 2, slots := 12, locals := 103 } (va_Pc [.ref x, .int (nI cv)] (ah_B A D F)) (ah_Qi A D (fun (r : Int32) F1 => nI (ah_e1 P (S ++ [cv - 96])) = r ∧ ah_C D F1 x P n dr (S ++ [cv - 96]) (td + r) ∧ ah_out D F F1)) 2 12 A :=
  ah_nox (c_feed l hl1 A D F hC (cv := cv) (by omega)) (fun E F1 h => by
    obtain ⟨-, ⟨-, h3⟩ | ⟨-, -, -, h3⟩⟩ := h <;> omega) (fun r F1 h => by
    obtain ⟨y, e, -, -, -, h3, h4⟩ := h
    rw [show cv - 96 = y by omega]; exact ⟨h3, h4⟩)
theorem q_feedPattern (l : Launch) (hl1 : l.stackTraces = false) (A : Nat → Prop) (D : ah_G) (F : ah_F) {x n : Nat} {P : ah_Pt} {dr S : List Nat} {td : Int32} (hC : ah_C D F x P n dr S td) {j : Nat} {w r0 : List Nat} (hj : j < 40) (hp : P j = some (w, r0)) (hl : S.length + w.length ≤ 200) : Met l yX6_feedPattern (Cond.code yX6_feedPattern cX6_feedPattern 5 (some .int) :: ah_T) { frames := 7, cells := 2, slots := 12, locals := 104 } (va_Pc [.ref x, .int (nI j)] (ah_B A D F)) (ah_Qi A D (fun (r : Int32) F1 => nI (ah_fs P S w w.length) = r ∧ ah_C D F1 x P n dr (S ++ w) (td + r) ∧ ah_out D F F1)) 2 12 A :=
  ah_nox (c_feedPattern l hl1 A D F hC (v0 := nI j)) (fun E F1 h => by
    obtain ⟨-, ⟨-, h3⟩ | ⟨-, i, u, s1, h1, h2, h3⟩⟩ := h
    · exact ah_pi_ne hj hp h3
    · rw [ah_pi_j hj hp] at h1; cases h1
      rw [hp] at h2; cases h2
      omega) (fun r F1 h => by
    obtain ⟨i, u, s1, h1, h2, -, h3⟩ := h
    rw [ah_pi_j hj hp] at h1; cases h1
    rw [hp] at h2; cases h2
    exact h3)
theorem q_setReplacement (l : Launch) (hl1 : l.stackTraces = false) (A : Nat → Prop) (D : ah_G) (F : ah_F) {x n : Nat} {P : ah_Pt} {dr S : List Nat} {td : Int32} (hC : ah_C D F x P n dr S td) {j : Nat} {w r0 : List Nat} (hj : j < 40) (hp : P j = some (w, r0)) : Met l yX6_setReplacement (Cond.code yX6_setReplacement cX6_setReplacement 4 (some .int) :: ah_T) { frames := 7, cells := 2, slots := 8, locals := 104 } (va_Pc [.ref x, .int (nI j)] (ah_B A D F)) (ah_Qi A D (fun (r : Int32) F1 => nI r0.length = r ∧ ah_C D F1 x (ah_rep P j w dr) n [] S td ∧ ah_out D F F1)) 2 8 A :=
  ah_nox (c_setReplacement l hl1 A D F hC (v0 := nI j)) (fun E F1 h => ah_pi_ne hj hp h.2.2) (fun r F1 h => by
    obtain ⟨i, u, s1, h1, h2, h3⟩ := h
    rw [ah_pi_j hj hp] at h1; cases h1
    rw [hp] at h2; cases h2
    exact h3)
theorem q_takeOut (l : Launch) (hl1 : l.stackTraces = false) (A : Nat → Prop) (D : ah_G) (F : ah_F) {x n : Nat} {P : ah_Pt} {dr S : List Nat} {td : Int32} (hC : ah_C D F x P n dr S td) {j : Nat} {w r0 : List Nat} (hj : j < 40) (hp : P j = some (w, r0)) : Met l yX6_takeOut (Cond.code yX6_takeOut cX6_takeOut 2 (some .int) :: ah_T) { frames := 7, cells := 1, slots := 6, locals := 104 } (va_Pc [.ref x, .int (nI j)] (ah_B A D F)) (ah_Qi A D (fun (r : Int32) F1 => nI (pu_cn (fun k => (ah_del P j k).isSome) 40) = r ∧ ah_C D F1 x (ah_del P j) n dr S td ∧ ah_out D F F1)) 1 6 A :=
  ah_nox (c_takeOut l hl1 A D F hC (v0 := nI j)) (fun E F1 h => ah_pi_ne hj hp h.2.2) (fun r F1 h => by
    obtain ⟨i, h1, h3⟩ := h
    rw [ah_pi_j hj hp] at h1; cases h1
    exact h3)
