theorem ah_rule {rv : Int32} (h : ¬ rv < 0) (h2 : rv ≤ nI 2) : ∃ ru : Nat, ru ≤ 2 ∧ rv = nI ru := by
  obtain ⟨j, hj, e⟩ := nI_of h
  subst e
  exact ⟨j, (nI_leI hj (by omega)).mp h2, rfl⟩
set_option maxHeartbeats 4000000 in
set_option maxRecDepth 100000 in
/-- needLetter -/
theorem c_needLetter (l : Launch) (hl1 : l.stackTraces = false) (A : Nat → Prop) (D : ah_G) (F : ah_F) {cv : Nat} (hcv : cv < 65536) : vx_Met l yX6_needLetter (Cond.code yX6_needLetter cX6_needLetter 1 none :: ah_T) { frames := 6, cells := 1, slots := 6, locals := 82 } (va_Pc [.int (nI cv)] (ah_B A D F)) (ah_Qv A D (fun F1 => F = F1 ∧ 97 ≤ cv ∧ cv ≤ 122)) (ah_X A D (fun E F1 => F = F1 ∧ E = "java/lang/IllegalArgumentException" ∧ (cv < 97 ∨ 122 < cv))) 1 6 A := by
  refine ah_xmet (own := "Ahoarch") (by decide) rfl (Nat.le_of_ble_eq_true rfl) ?_
  intro p e s m below meth c ls E hr htab hl hP hS Q hQ
  have hx := E.1
  have hb := E.2.1
  have hl : lv_has ls 1 [(0, .int (nI cv))] := hl
  refine lv_iload_n hx hb dX6_needLetter_0 rfl (lv_at hl 0 rfl) ?_
  refine lv_bipush (v := (nI 97)) hx hb dX6_needLetter_1 (by decide) ?_
  refine ah_icmp_lt (tgt := 12) hx hb (by omega) (by omega) dX6_needLetter_3 (by decide) (fun hc3 => ?_) (fun hc3 => ?_)
  · skip
    rw [hQ]
    exact ah_throw (text := "a letter is a to z") (px := (fun E F1 => F = F1 ∧ E = "java/lang/IllegalArgumentException" ∧ (cv < 97 ∨ 122 < cv))) hl1 E htab hP hS hl.1 tw_iae (by simp [ah_Strs]) dX6_needLetter_12 dX6_needLetter_15 dX6_needLetter_16 dX6_needLetter_18 dX6_needLetter_21 (Nat.le_of_ble_eq_true rfl) (Nat.le_of_ble_eq_true rfl) (Nat.le_of_ble_eq_true rfl) (Nat.le_of_ble_eq_true rfl) (Nat.le_of_ble_eq_true rfl) (Nat.le_of_ble_eq_true rfl) ⟨rfl, rfl, Or.inl hc3⟩
  · skip
    refine lv_iload_n hx hb dX6_needLetter_6 rfl (lv_at hl 0 rfl) ?_
    refine lv_bipush (v := (nI 122)) hx hb dX6_needLetter_7 (by decide) ?_
    refine ah_icmp_le (tgt := 22) hx hb (by omega) (by omega) dX6_needLetter_9 (by decide) (fun hc9 => ?_) (fun hc9 => ?_)
    · skip
      rw [hQ]
      exact vx_ret (ah_vret E hr hP hS ⟨rfl, hc3, hc9⟩ (Nat.le_of_ble_eq_true rfl) (Nat.le_of_ble_eq_true rfl) dX6_needLetter_22)
    · skip
      rw [hQ]
      exact ah_throw (text := "a letter is a to z") (px := (fun E F1 => F = F1 ∧ E = "java/lang/IllegalArgumentException" ∧ (cv < 97 ∨ 122 < cv))) hl1 E htab hP hS hl.1 tw_iae (by simp [ah_Strs]) dX6_needLetter_12 dX6_needLetter_15 dX6_needLetter_16 dX6_needLetter_18 dX6_needLetter_21 (Nat.le_of_ble_eq_true rfl) (Nat.le_of_ble_eq_true rfl) (Nat.le_of_ble_eq_true rfl) (Nat.le_of_ble_eq_true rfl) (Nat.le_of_ble_eq_true rfl) (Nat.le_of_ble_eq_true rfl) ⟨rfl, rfl, Or.inr hc9⟩

set_option maxHeartbeats 4000000 in
set_option maxRecDepth 100000 in
/-- needRule -/
theorem c_needRule (l : Launch) (hl1 : l.stackTraces = false) (A : Nat → Prop) (D : ah_G) (F : ah_F) {rv : Int32} : vx_Met l yX6_needRule (Cond.code yX6_needRule cX6_needRule 1 none :: ah_T) { frames := 6, cells := 1, slots := 6, locals := 82 } (va_Pc [.int rv] (ah_B A D F)) (ah_Qv A D (fun F1 => F = F1 ∧ ∃ ru : Nat, ru ≤ 2 ∧ rv = nI ru)) (ah_X A D (fun E F1 => F = F1 ∧ E = "java/lang/IllegalArgumentException" ∧ ∀ ru : Nat, ru ≤ 2 → rv ≠ nI ru)) 1 6 A := by
  refine ah_xmet (own := "Ahoarch") (by decide) rfl (Nat.le_of_ble_eq_true rfl) ?_
  intro p e s m below meth c ls E hr htab hl hP hS Q hQ
  have hx := E.1
  have hb := E.2.1
  have hl : lv_has ls 1 [(0, .int rv)] := hl
  refine lv_iload_n hx hb dX6_needRule_0 rfl (lv_at hl 0 rfl) ?_
  refine lv_if_lt (tgt := 9) hx hb dX6_needRule_1 (by decide) (fun hc1 => ?_) (fun hc1 => ?_)
  · skip
    rw [hQ]
    exact ah_throw (text := "a rule is 0 to 2") (px := (fun E F1 => F = F1 ∧ E = "java/lang/IllegalArgumentException" ∧ ∀ ru : Nat, ru ≤ 2 → rv ≠ nI ru)) hl1 E htab hP hS hl.1 tw_iae (by simp [ah_Strs]) dX6_needRule_9 dX6_needRule_12 dX6_needRule_13 dX6_needRule_15 dX6_needRule_18 (Nat.le_of_ble_eq_true rfl) (Nat.le_of_ble_eq_true rfl) (Nat.le_of_ble_eq_true rfl) (Nat.le_of_ble_eq_true rfl) (Nat.le_of_ble_eq_true rfl) (Nat.le_of_ble_eq_true rfl) ⟨rfl, rfl, fun ru h1 h2 => by subst h2; exact nI_pos (by omega) hc1⟩
  · skip
    refine lv_iload_n hx hb dX6_needRule_4 rfl (lv_at hl 0 rfl) ?_
    refine lv_iconst (v := (nI 2)) hx hb dX6_needRule_5 (by decide) ?_
    refine lv_icmp_le (tgt := 19) hx hb dX6_needRule_6 (by decide) (fun hc6 => ?_) (fun hc6 => ?_)
    · skip
      rw [hQ]
      exact vx_ret (ah_vret E hr hP hS ⟨rfl, ah_rule hc1 hc6⟩ (Nat.le_of_ble_eq_true rfl) (Nat.le_of_ble_eq_true rfl) dX6_needRule_19)
    · skip
      rw [hQ]
      exact ah_throw (text := "a rule is 0 to 2") (px := (fun E F1 => F = F1 ∧ E = "java/lang/IllegalArgumentException" ∧ ∀ ru : Nat, ru ≤ 2 → rv ≠ nI ru)) hl1 E htab hP hS hl.1 tw_iae (by simp [ah_Strs]) dX6_needRule_9 dX6_needRule_12 dX6_needRule_13 dX6_needRule_15 dX6_needRule_18 (Nat.le_of_ble_eq_true rfl) (Nat.le_of_ble_eq_true rfl) (Nat.le_of_ble_eq_true rfl) (Nat.le_of_ble_eq_true rfl) (Nat.le_of_ble_eq_true rfl) (Nat.le_of_ble_eq_true rfl) ⟨rfl, rfl, fun ru h1 h2 => by subst h2; exact hc6 (nI_le h1 (by omega))⟩

set_option maxHeartbeats 4000000 in
set_option maxRecDepth 100000 in
/-- need -/
theorem c_need (l : Launch) (hl1 : l.stackTraces = false) (A : Nat → Prop) (D : ah_G) (F : ah_F) {b ra : Nat} {rf : Nat → Option Nat} {P : ah_Pt} {n pr : Nat} (hbk : F b = some (.inr (0, [.ref ra, .int (nI n), .int (nI pr)]))) (hra : F ra = some (ah_aq D 40 rf)) (hrows : ah_rows F rf P) {x dw ch tx st : Nat} {td : Int32} (hxx : F x = some (.inr (6, [.ref b, .ref st, .ref ch, .ref tx, .ref dw, .int td]))) {v0 : Int32} : vx_Met l yX6_need (Cond.code yX6_need cX6_need 3 (some (.object "Ahoarch$Pattern")) :: ah_T) { frames := 6, cells := 1, slots := 6, locals := 82 } (va_Pc [.ref x, .int v0] (ah_B A D F)) (ah_Qq A D (fun (r : Option Nat) F1 => F = F1 ∧ ∃ (i : Nat) (q : Nat) (w r0 : List Nat) (lw lr : Nat), r = some q ∧ ah_pi P v0 = some i ∧ i < 40 ∧ v0 = nI i ∧ rf i = some q ∧ P i = some (w, r0) ∧ F q = some (.inr (2, [.int (nI i), .ref lw, .ref lr])) ∧ ah_wd F lw w ∧ ah_wd F lr r0 ∧ ah_ok w ∧ ah_ok r0 ∧ w ≠ [])) (ah_X A D (fun E F1 => F = F1 ∧ E = "java/util/NoSuchElementException" ∧ ah_pi P v0 = none)) 1 6 A := by
  refine ah_xmet (own := "Ahoarch") (by decide) rfl (Nat.le_of_ble_eq_true rfl) ?_
  intro p e s m below meth c ls E hr htab hl hP hS Q hQ
  have hx := E.1
  have hb := E.2.1
  have hl : lv_has ls 3 [(0, .ref x), (1, .int v0)] := hl
  refine lv_aload_n hx hb dX6_need_0 rfl (lv_at hl 0 rfl) ?_
  refine gf_Aho_10 E hP hxx rfl dX6_need_1 ?_
  refine lv_iload_n hx hb dX6_need_4 rfl (lv_at hl 1 rfl) ?_
  refine ah_callq (ah_runV E hP hS (As := [.int v0]) (rest := []) (b := b) (c_Book_find l A D _ hbk hra hrows (x := v0)) lk_Aho_212 li_Aho_212 hbk rfl ⟨rfl, rfl, (Nat.le_of_ble_eq_true rfl), (Nat.le_of_ble_eq_true rfl)⟩ rfl hl.1 rfl (Nat.le_of_ble_eq_true rfl) dX6_need_5 ⟨(Nat.le_of_ble_eq_true rfl), (Nat.le_of_ble_eq_true rfl)⟩) hS (fun r F1 H locs hq hP hS => ?_)
  obtain ⟨rfl, rfl⟩ := hq
  cases hq : (ah_ix v0).bind rf with
  | none =>
    refine lv_astore_nN (lv' := [(2, .null), (0, .ref x), (1, .int v0)]) hx hb dX6_need_8 rfl hl (by decide) rfl (fun ls hl => ?_)
    refine lv_aload_nN hx hb dX6_need_9 rfl (lv_at hl 0 rfl) ?_
    refine lv_ifnonnullN hx hb dX6_need_10 ?_
    rw [hQ]
    exact ah_throw (text := "there is no such pattern") (px := (fun E F1 => F = F1 ∧ E = "java/util/NoSuchElementException" ∧ ah_pi P v0 = none)) hl1 E htab hP hS hl.1 tw_nse (by simp [ah_Strs]) dX6_need_13 dX6_need_16 dX6_need_17 dX6_need_19 dX6_need_22 (Nat.le_of_ble_eq_true rfl) (Nat.le_of_ble_eq_true rfl) (Nat.le_of_ble_eq_true rfl) (Nat.le_of_ble_eq_true rfl) (Nat.le_of_ble_eq_true rfl) (Nat.le_of_ble_eq_true rfl) ⟨rfl, rfl, ah_pi_n hrows hq⟩
  | some q =>
    refine lv_astore_n (lv' := [(2, .ref q), (0, .ref x), (1, .int v0)]) hx hb dX6_need_8 rfl hl (by decide) rfl (fun ls hl => ?_)
    refine lv_aload_n hx hb dX6_need_9 rfl (lv_at hl 0 rfl) ?_
    refine lv_ifnonnull (tgt := 23) hx hb dX6_need_10 (by decide) ?_
    refine lv_aload_n hx hb dX6_need_23 rfl (lv_at hl 0 rfl) ?_
    rw [hQ]
    exact vx_ret (ah_qret (v := some q) E hr hP hS (by obtain ⟨i, w, r0, lw, lr, h1⟩ := ah_pi_s hrows hq; exact ⟨rfl, i, q, w, r0, lw, lr, rfl, h1⟩) (Nat.le_of_ble_eq_true rfl) (Nat.le_of_ble_eq_true rfl) dX6_need_24)

set_option maxHeartbeats 4000000 in
set_option maxRecDepth 100000 in
/-- needRoom -/
theorem c_needRoom (l : Launch) (hl1 : l.stackTraces = false) (A : Nat → Prop) (D : ah_G) (F : ah_F) {b : Nat} {st la : Nat} {lf : Nat → Int64} {S : List Nat} (hst : F st = some (.inr (3, [.ref la, .int (nI S.length)]))) (hla : F la = some (ah_al D 201 lf)) (hstr : ah_str lf S) {x dw ch tx : Nat} {td : Int32} (hxx : F x = some (.inr (6, [.ref b, .ref st, .ref ch, .ref tx, .ref dw, .int td]))) {k : Nat} (hk : k ≤ 8) : vx_Met l yX6_needRoom (Cond.code yX6_needRoom cX6_needRoom 2 none :: ah_T) { frames := 6, cells := 1, slots := 6, locals := 82 } (va_Pc [.ref x, .int (nI k)] (ah_B A D F)) (ah_Qv A D (fun F1 => F = F1 ∧ S.length + k ≤ 200)) (ah_X A D (fun E F1 => F = F1 ∧ E = "java/lang/IllegalStateException" ∧ 200 < S.length + k)) 1 6 A := by
  refine ah_xmet (own := "Ahoarch") (by decide) rfl (Nat.le_of_ble_eq_true rfl) ?_
  intro p e s m below meth c ls E hr htab hl hP hS Q hQ
  have hx := E.1
  have hb := E.2.1
  have hl : lv_has ls 2 [(0, .ref x), (1, .int (nI k))] := hl
  obtain ⟨hS1, hS2, hS3⟩ := id hstr
  refine lv_aload_n hx hb dX6_needRoom_0 rfl (lv_at hl 0 rfl) ?_
  refine gf_Aho_19 E hP hxx rfl dX6_needRoom_1 ?_
  refine gf_Aho_143 E hP hst rfl dX6_needRoom_4 ?_
  refine lv_iload_n hx hb dX6_needRoom_7 rfl (lv_at hl 1 rfl) ?_
  refine ah_iadd hx hb dX6_needRoom_8 ?_
  refine lv_sipush (v := (nI 200)) hx hb dX6_needRoom_9 (by decide) ?_
  refine ah_icmp_le (tgt := 25) hx hb (by omega) (by omega) dX6_needRoom_12 (by decide) (fun hc12 => ?_) (fun hc12 => ?_)
  · skip
    rw [hQ]
    exact vx_ret (ah_vret E hr hP hS ⟨rfl, hc12⟩ (Nat.le_of_ble_eq_true rfl) (Nat.le_of_ble_eq_true rfl) dX6_needRoom_25)
  · skip
    rw [hQ]
    exact ah_throw (text := "the stream would have more than 200 letters") (px := (fun E F1 => F = F1 ∧ E = "java/lang/IllegalStateException" ∧ 200 < S.length + k)) hl1 E htab hP hS hl.1 tw_ise (by simp [ah_Strs]) dX6_needRoom_15 dX6_needRoom_18 dX6_needRoom_19 dX6_needRoom_21 dX6_needRoom_24 (Nat.le_of_ble_eq_true rfl) (Nat.le_of_ble_eq_true rfl) (Nat.le_of_ble_eq_true rfl) (Nat.le_of_ble_eq_true rfl) (Nat.le_of_ble_eq_true rfl) (Nat.le_of_ble_eq_true rfl) ⟨rfl, rfl, hc12⟩
