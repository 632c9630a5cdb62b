set_option maxHeartbeats 4000000 in
set_option maxRecDepth 100000 in
/-- isFull -/
theorem c_Book_isFull (l : Launch) (A : Nat → Prop) (D : ah_G) (F : ah_F) {b ra : Nat} {rf : Nat → Option Nat} {P : ah_Pt} {n pr : Nat} (hbk : F b = some (.inr (0, [.ref ra, .int (nI n), .int (nI pr)]))) (hra : F ra = some (ah_aq D 40 rf)) (hrows : ah_rows F rf P) (hn40 : n ≤ 40) (hpr : pr ≤ 40) : Met l yX0_isFull (Cond.code yX0_isFull cX0_isFull 1 (some .boolean) :: ah_T) { frames := 0, cells := 0, slots := 0, locals := 0 } (va_Pc [.ref b] (ah_B A D F)) (ah_Qi A D (fun (r : Int32) F1 => F = F1 ∧ bI_ (decide (20 ≤ pr) || decide (40 ≤ n)) = r)) 0 0 A := by
  refine ah_met (own := "Ahoarch$Book") (by decide) rfl (Nat.le_of_ble_eq_true rfl) ?_
  intro p e s m below meth c ls E hr hini hl hP hS Q hQ
  have hx := E.1
  have hb := E.2.1
  have hl : lv_has ls 1 [(0, .ref b)] := hl
  refine lv_aload_n hx hb dX0_isFull_0 rfl (lv_at hl 0 rfl) ?_
  refine gf_Book_21 E hP hbk rfl dX0_isFull_1 ?_
  refine lv_bipush (v := (nI 20)) hx hb dX0_isFull_4 (by decide) ?_
  refine ah_icmp_ge (tgt := 18) hx hb (by omega) (by omega) dX0_isFull_6 (by decide) (fun hc6 => ?_) (fun hc6 => ?_)
  · skip
    refine lv_iconst (v := (nI 1)) hx hb dX0_isFull_18 (by decide) ?_
    refine lv_goto (tgt := 23) hx hb dX0_isFull_19 (by decide) ?_
    rw [hQ]
    exact ah_zret E hr (by first | exact bI_nz _ | decide) hP hS ⟨rfl, by simp [hc6]; rfl⟩ (Nat.le_of_ble_eq_true rfl) (Nat.le_of_ble_eq_true rfl) dX0_isFull_23
  · skip
    refine lv_aload_n hx hb dX0_isFull_9 rfl (lv_at hl 0 rfl) ?_
    refine gf_Book_17 E hP hbk rfl dX0_isFull_10 ?_
    refine lv_bipush (v := (nI 40)) hx hb dX0_isFull_13 (by decide) ?_
    refine ah_icmp_lt (tgt := 22) hx hb (by omega) (by omega) dX0_isFull_15 (by decide) (fun hc15 => ?_) (fun hc15 => ?_)
    · skip
      refine lv_iconst (v := (nI 0)) hx hb dX0_isFull_22 (by decide) ?_
      rw [hQ]
      exact ah_zret E hr (by first | exact bI_nz _ | decide) hP hS ⟨rfl, by simp [Nat.not_le.mpr hc6, Nat.not_le.mpr hc15]; rfl⟩ (Nat.le_of_ble_eq_true rfl) (Nat.le_of_ble_eq_true rfl) dX0_isFull_23
    · skip
      refine lv_iconst (v := (nI 1)) hx hb dX0_isFull_18 (by decide) ?_
      refine lv_goto (tgt := 23) hx hb dX0_isFull_19 (by decide) ?_
      rw [hQ]
      exact ah_zret E hr (by first | exact bI_nz _ | decide) hP hS ⟨rfl, by simp [hc15]; rfl⟩ (Nat.le_of_ble_eq_true rfl) (Nat.le_of_ble_eq_true rfl) dX0_isFull_23

set_option maxHeartbeats 4000000 in
set_option maxRecDepth 100000 in
/-- find -/
theorem c_Book_find (l : Launch) (A : Nat → Prop) (D : ah_G) (F : ah_F) {b ra : Nat} {rf : Nat → Option Nat} {P : ah_Pt} {n pr : Nat} (hbk : F b = some (.inr (0, [.ref ra, .int (nI n), .int (nI pr)]))) (hra : F ra = some (ah_aq D 40 rf)) (hrows : ah_rows F rf P) {x : Int32} : Met l yX0_find (Cond.code yX0_find cX0_find 2 (some (.object "Ahoarch$Pattern")) :: ah_T) { frames := 0, cells := 0, slots := 0, locals := 0 } (va_Pc [.ref b, .int x] (ah_B A D F)) (ah_Qq A D (fun (r : Option Nat) F1 => F = F1 ∧ (ah_ix x).bind rf = r)) 0 0 A := by
  refine ah_met (own := "Ahoarch$Book") (by decide) rfl (Nat.le_of_ble_eq_true rfl) ?_
  intro p e s m below meth c ls E hr hini hl hP hS Q hQ
  have hx := E.1
  have hb := E.2.1
  have hl : lv_has ls 2 [(0, .ref b), (1, .int x)] := hl
  refine lv_iload_n hx hb dX0_find_0 rfl (lv_at hl 1 rfl) ?_
  refine lv_if_lt (tgt := 22) hx hb dX0_find_1 (by decide) (fun hc1 => ?_) (fun hc1 => ?_)
  · skip
    refine lv_null hx hb dX0_find_22 ?_
    rw [hQ]
    exact ah_qret (v := none) E hr hP hS ⟨rfl, by rw [ah_ix_neg hc1]; rfl⟩ (Nat.le_of_ble_eq_true rfl) (Nat.le_of_ble_eq_true rfl) dX0_find_23
  · skip
    refine lv_iload_n hx hb dX0_find_4 rfl (lv_at hl 1 rfl) ?_
    refine lv_aload_n hx hb dX0_find_5 rfl (lv_at hl 0 rfl) ?_
    refine gf_Book_11 E hP hbk rfl dX0_find_6 ?_
    refine ah_len E hP hra 4 rfl dX0_find_9 ?_
    refine lv_icmp_ge (tgt := 22) hx hb dX0_find_10 (by decide) (fun hc10 => ?_) (fun hc10 => ?_)
    · skip
      refine lv_null hx hb dX0_find_22 ?_
      rw [hQ]
      exact ah_qret (v := none) E hr hP hS ⟨rfl, by rw [ah_ix_ge hc10]; rfl⟩ (Nat.le_of_ble_eq_true rfl) (Nat.le_of_ble_eq_true rfl) dX0_find_23
    · skip
      obtain ⟨i, hi, rfl⟩ : ∃ i : Nat, i < 40 ∧ x = nI i := by
        rcases pk_ix x (n := 40) (by omega) with h | h | h
        · exact absurd h hc1
        · exact absurd h hc10
        · exact h
      refine lv_aload_n hx hb dX0_find_13 rfl (lv_at hl 0 rfl) ?_
      refine gf_Book_11 E hP hbk rfl dX0_find_14 ?_
      refine lv_iload_n hx hb dX0_find_17 rfl (lv_at hl 1 rfl) ?_
      refine ah_qald E hP hra (by omega) (by omega) dX0_find_18 ?_
      cases hq : rf i with
      | none =>
        refine lv_goto (tgt := 23) hx hb dX0_find_19 (by decide) ?_
        rw [hQ]
        exact ah_qret (v := none) E hr hP hS ⟨rfl, by rw [ah_ix_in hi]; exact hq⟩ (Nat.le_of_ble_eq_true rfl) (Nat.le_of_ble_eq_true rfl) dX0_find_23
      | some q =>
        refine lv_goto (tgt := 23) hx hb dX0_find_19 (by decide) ?_
        rw [hQ]
        exact ah_qret (v := some q) E hr hP hS ⟨rfl, by rw [ah_ix_in hi]; exact hq⟩ (Nat.le_of_ble_eq_true rfl) (Nat.le_of_ble_eq_true rfl) dX0_find_23

set_option maxHeartbeats 4000000 in
set_option maxRecDepth 100000 in
/-- has -/
theorem c_Book_has (l : Launch) (A : Nat → Prop) (D : ah_G) (F : ah_F) {b ra : Nat} {rf : Nat → Option Nat} {P : ah_Pt} {n pr : Nat} (hbk : F b = some (.inr (0, [.ref ra, .int (nI n), .int (nI pr)]))) (hra : F ra = some (ah_aq D 40 rf)) (hrows : ah_rows F rf P) {wa : Nat} {w : List Nat} (hw : ah_wd F wa w) (hok : ah_ok w) : Met l yX0_has (Cond.code yX0_has cX0_has 6 (some .boolean) :: ah_T) { frames := 0, cells := 0, slots := 0, locals := 0 } (va_Pc [.ref b, .ref wa] (ah_B A D F)) (ah_Qi A D (fun (r : Int32) F1 => F = F1 ∧ bI_ (ah_any (ah_sat P (fun u => decide (u = w))) 40) = r)) 0 0 A := by
  refine ah_met (own := "Ahoarch$Book") (by decide) rfl (Nat.le_of_ble_eq_true rfl) ?_
  intro p e s m below meth c ls E hr hini hl hP hS Q hQ
  have hx := E.1
  have hb := E.2.1
  have hl : lv_has ls 6 [(0, .ref b), (1, .ref wa)] := hl
  refine lv_aload_n hx hb dX0_has_0 rfl (lv_at hl 0 rfl) ?_
  refine gf_Book_11 E hP hbk rfl dX0_has_1 ?_
  refine lv_astore_n (lv' := [(2, .ref ra), (0, .ref b), (1, .ref wa)]) hx hb dX0_has_4 rfl hl (by decide) rfl (fun ls hl => ?_)
  refine lv_aload_n hx hb dX0_has_5 rfl (lv_at hl 0 rfl) ?_
  refine ah_len E hP hra 4 rfl dX0_has_6 ?_
  refine lv_istore_n (lv' := [(3, .int (nI 40)), (2, .ref ra), (0, .ref b), (1, .ref wa)]) hx hb dX0_has_7 rfl hl (by decide) rfl (fun ls hl => ?_)
  refine lv_iconst (v := (nI 0)) hx hb dX0_has_8 (by decide) ?_
  refine lv_istore (lv' := [(4, .int (nI 0)), (3, .int (nI 40)), (2, .ref ra), (0, .ref b), (1, .ref wa)]) hx hb dX0_has_9 hl (by decide) rfl (fun ls hl => ?_)
  have L11 : ∀ (n : Nat), ∀ (k : Nat), 40 - k < n → k ≤ 40 → ah_any (ah_sat P (fun u => decide (u = w))) k = false → ∀ (H : Heap) (locs : List Loc), ah_K A D F H → va_S A s.heap H locs → ∀ (ls : Array Slot), lv_has ls 6 [(0, .ref b), (1, .ref wa), (2, .ref ra), (3, .int (nI 40)), (4, .int (nI k))] → W p l e { frames := 0, cells := 0, slots := 0, locals := 0 } s m [.ref b, .ref wa].toArray below meth c H locs 0 0 Q (F0 m 11 ls []) := by
    intro n
    induction n with
    | zero =>
      intro k hm
      exact absurd hm (Nat.not_lt_zero _)
    | succ n ih =>
      intro k hm hk ha H locs hP hS ls hl
      refine lv_iload hx hb dX0_has_11 (lv_at hl 4 rfl) ?_
      refine lv_iload_n hx hb dX0_has_13 rfl (lv_at hl 3 rfl) ?_
      refine ah_icmp_ge (tgt := 52) hx hb (by omega) (by omega) dX0_has_14 (by decide) (fun hc14 => ?_) (fun hc14 => ?_)
      · skip
        refine lv_iconst (v := (nI 0)) hx hb dX0_has_52 (by decide) ?_
        rw [hQ]
        exact ah_zret E hr (by first | exact bI_nz _ | decide) hP hS ⟨rfl, by rw [show 40 = k by omega, ha]; rfl⟩ (Nat.le_of_ble_eq_true rfl) (Nat.le_of_ble_eq_true rfl) dX0_has_53
      · skip
        refine lv_aload_n hx hb dX0_has_17 rfl (lv_at hl 2 rfl) ?_
        refine lv_iload hx hb dX0_has_18 (lv_at hl 4 rfl) ?_
        refine ah_qald E hP hra (by omega) (by omega) dX0_has_20 ?_
        cases hq : rf k with
        | none =>
          have hPk := hrows.n (i := k) (by omega) hq
          refine lv_astoreN (lv' := [(5, .null), (0, .ref b), (1, .ref wa), (2, .ref ra), (3, .int (nI 40)), (4, .int (nI k))]) hx hb dX0_has_21 hl (by decide) rfl (fun ls hl => ?_)
          refine lv_aloadN hx hb dX0_has_23 (lv_at hl 0 rfl) ?_
          refine lv_ifnullN (tgt := 46) hx hb dX0_has_25 (by decide) ?_
          refine lv_iinc (v := (nI (k + 1))) (lv' := [(4, .int (nI (k + 1))), (5, .null), (0, .ref b), (1, .ref wa), (2, .ref ra), (3, .int (nI 40))]) hx hb dX0_has_46 hl (k := 5) rfl (ah_inc _) (by decide) rfl (fun ls hl => ?_)
          refine lv_goto (tgt := 11) hx hb dX0_has_49 (by decide) ?_
          exact ih _ (by omega) (by omega) (ah_any_f ha (ah_sat_n hPk)) _ _ hP hS ls (lv_sub hl [2, 3, 4, 5, 0] rfl)
        | some q =>
          obtain ⟨u, r, lw, lr, hPk, hqo, hlw, hlr, hok_u, hokr, hne⟩ := hrows.s (i := k) (by omega) hq
          have hwl := hok_u.1
          refine lv_astore (lv' := [(5, .ref q), (0, .ref b), (1, .ref wa), (2, .ref ra), (3, .int (nI 40)), (4, .int (nI k))]) hx hb dX0_has_21 hl (by decide) rfl (fun ls hl => ?_)
          refine lv_aload hx hb dX0_has_23 (lv_at hl 0 rfl) ?_
          refine lv_ifnull hx hb dX0_has_25 ?_
          refine lv_aload hx hb dX0_has_28 (lv_at hl 0 rfl) ?_
          refine gf_Book_24 E hP hqo rfl dX0_has_30 ?_
          refine gf_Book_28 E hP hlw rfl dX0_has_33 ?_
          refine lv_aload_n hx hb dX0_has_36 rfl (lv_at hl 2 rfl) ?_
          refine gf_Book_28 E hP hw rfl dX0_has_37 ?_
          refine W.lcmp hx hb dX0_has_40 ?_
          refine lv_if_ne (tgt := 46) hx hb dX0_has_41 (by decide) (fun hc41 => ?_) (fun hc41 => ?_)
          · skip
            refine lv_iinc (v := (nI (k + 1))) (lv' := [(4, .int (nI (k + 1))), (5, .ref q), (0, .ref b), (1, .ref wa), (2, .ref ra), (3, .int (nI 40))]) hx hb dX0_has_46 hl (k := 5) rfl (ah_inc _) (by decide) rfl (fun ls hl => ?_)
            refine lv_goto (tgt := 11) hx hb dX0_has_49 (by decide) ?_
            exact ih _ (by omega) (by omega) (ah_any_f ha (by rw [ah_sat_s hPk]; simp only [decide_eq_false_iff_not]; exact fun h => hc41 (ah_cmp0.mpr ((ah_code_eq hok_u hok).mpr h)))) _ _ hP hS ls (lv_sub hl [2, 3, 4, 5, 0] rfl)
          · skip
            refine lv_iconst (v := (nI 1)) hx hb dX0_has_44 (by decide) ?_
            rw [hQ]
            exact ah_zret E hr (by first | exact bI_nz _ | decide) hP hS ⟨rfl, by rw [ah_any_t (k := k) (by omega) (by rw [ah_sat_s hPk]; simp only [decide_eq_true_eq]; exact (ah_code_eq hok_u hok).mp (ah_cmp0.mp hc41))]; rfl⟩ (Nat.le_of_ble_eq_true rfl) (Nat.le_of_ble_eq_true rfl) dX0_has_45
  exact L11 (41) 0 (by omega) (by omega) rfl _ _ hP hS ls (lv_sub hl [3, 4, 2, 1, 0] rfl)

set_option maxHeartbeats 4000000 in
set_option maxRecDepth 100000 in
/-- hasBeginning -/
theorem c_Book_hasBeginning (l : Launch) (A : Nat → Prop) (D : ah_G) (F : ah_F) {b ra : Nat} {rf : Nat → Option Nat} {P : ah_Pt} {n pr : Nat} (hbk : F b = some (.inr (0, [.ref ra, .int (nI n), .int (nI pr)]))) (hra : F ra = some (ah_aq D 40 rf)) (hrows : ah_rows F rf P) {u : List Nat} {c0 m0 : Nat} (hu : ah_ok u) (hc0 : c0 = u.length) (hm0 : m0 < 2 ^ 31) : Met l yX0_hasBeginning (Cond.code yX0_hasBeginning cX0_hasBeginning 9 (some .boolean) :: ah_T) { frames := 1, cells := 0, slots := 0, locals := 23 } (va_Pc [.ref b, .long (lN (ah_enc u)), .int (nI c0), .int (nI m0)] (ah_B A D F)) (ah_Qi A D (fun (r : Int32) F1 => F = F1 ∧ bI_ (ah_any (ah_sat P (fun w => decide (m0 ≤ w.length) && ah_bw u w)) 40) = r)) 0 0 A := by
  refine ah_met (own := "Ahoarch$Book") (by decide) rfl (Nat.le_of_ble_eq_true rfl) ?_
  intro p e s m below meth c ls E hr hini hl hP hS Q hQ
  have hx := E.1
  have hb := E.2.1
  have hl : lv_has ls 9 [(0, .ref b), (1, .long (lN (ah_enc u))), (3, .int (nI c0)), (4, .int (nI m0))] := hl
  refine lv_aload_n hx hb dX0_hasBeginning_0 rfl (lv_at hl 0 rfl) ?_
  refine gf_Book_11 E hP hbk rfl dX0_hasBeginning_1 ?_
  refine lv_astore (lv' := [(5, .ref ra), (0, .ref b), (1, .long (lN (ah_enc u))), (3, .int (nI c0)), (4, .int (nI m0))]) hx hb dX0_hasBeginning_4 hl (by decide) rfl (fun ls hl => ?_)
  refine lv_aload hx hb dX0_hasBeginning_6 (lv_at hl 0 rfl) ?_
  refine ah_len E hP hra 4 rfl dX0_hasBeginning_8 ?_
  refine lv_istore (lv' := [(6, .int (nI 40)), (5, .ref ra), (0, .ref b), (1, .long (lN (ah_enc u))), (3, .int (nI c0)), (4, .int (nI m0))]) hx hb dX0_hasBeginning_9 hl (by decide) rfl (fun ls hl => ?_)
  refine lv_iconst (v := (nI 0)) hx hb dX0_hasBeginning_11 (by decide) ?_
  refine lv_istore (lv' := [(7, .int (nI 0)), (6, .int (nI 40)), (5, .ref ra), (0, .ref b), (1, .long (lN (ah_enc u))), (3, .int (nI c0)), (4, .int (nI m0))]) hx hb dX0_hasBeginning_12 hl (by decide) rfl (fun ls hl => ?_)
  have L14 : ∀ (n : Nat), ∀ (k : Nat), 40 - k < n → k ≤ 40 → ah_any (ah_sat P (fun w => decide (m0 ≤ w.length) && ah_bw u w)) k = false → ∀ (H : Heap) (locs : List Loc), ah_K A D F H → va_S A s.heap H locs → ∀ (ls : Array Slot), lv_has ls 9 [(0, .ref b), (1, .long (lN (ah_enc u))), (3, .int (nI c0)), (4, .int (nI m0)), (5, .ref ra), (6, .int (nI 40)), (7, .int (nI k))] → W p l e { frames := 1, cells := 0, slots := 0, locals := 23 } s m [.ref b, .long (lN (ah_enc u)), .int (nI c0), .int (nI m0)].toArray below meth c H locs 0 0 Q (F0 m 14 ls []) := by
    intro n
    induction n with
    | zero =>
      intro k hm
      exact absurd hm (Nat.not_lt_zero _)
    | succ n ih =>
      intro k hm hk ha H locs hP hS ls hl
      refine lv_iload hx hb dX0_hasBeginning_14 (lv_at hl 6 rfl) ?_
      refine lv_iload hx hb dX0_hasBeginning_16 (lv_at hl 5 rfl) ?_
      refine ah_icmp_ge (tgt := 67) hx hb (by omega) (by omega) dX0_hasBeginning_18 (by decide) (fun hc18 => ?_) (fun hc18 => ?_)
      · skip
        refine lv_iconst (v := (nI 0)) hx hb dX0_hasBeginning_67 (by decide) ?_
        rw [hQ]
        exact ah_zret E hr (by first | exact bI_nz _ | decide) hP hS ⟨rfl, by rw [show 40 = k by omega, ha]; rfl⟩ (Nat.le_of_ble_eq_true rfl) (Nat.le_of_ble_eq_true rfl) dX0_hasBeginning_68
      · skip
        refine lv_aload hx hb dX0_hasBeginning_21 (lv_at hl 4 rfl) ?_
        refine lv_iload hx hb dX0_hasBeginning_23 (lv_at hl 6 rfl) ?_
        refine ah_qald E hP hra (by omega) (by omega) dX0_hasBeginning_25 ?_
        cases hq : rf k with
        | none =>
          have hPk := hrows.n (i := k) (by omega) hq
          refine lv_astoreN (lv' := [(8, .null), (0, .ref b), (1, .long (lN (ah_enc u))), (3, .int (nI c0)), (4, .int (nI m0)), (5, .ref ra), (6, .int (nI 40)), (7, .int (nI k))]) hx hb dX0_hasBeginning_26 hl (by decide) rfl (fun ls hl => ?_)
          refine lv_aloadN hx hb dX0_hasBeginning_28 (lv_at hl 0 rfl) ?_
          refine lv_ifnullN (tgt := 61) hx hb dX0_hasBeginning_30 (by decide) ?_
          refine lv_iinc (v := (nI (k + 1))) (lv' := [(7, .int (nI (k + 1))), (8, .null), (0, .ref b), (1, .long (lN (ah_enc u))), (3, .int (nI c0)), (4, .int (nI m0)), (5, .ref ra), (6, .int (nI 40))]) hx hb dX0_hasBeginning_61 hl (k := 7) rfl (ah_inc _) (by decide) rfl (fun ls hl => ?_)
          refine lv_goto (tgt := 14) hx hb dX0_hasBeginning_64 (by decide) ?_
          exact ih _ (by omega) (by omega) (ah_any_f ha (ah_sat_n hPk)) _ _ hP hS ls (lv_sub hl [2, 3, 4, 5, 6, 7, 0] rfl)
        | some q =>
          obtain ⟨w, r, lw, lr, hPk, hqo, hlw, hlr, hok, hokr, hne⟩ := hrows.s (i := k) (by omega) hq
          have hwl := hok.1
          refine lv_astore (lv' := [(8, .ref q), (0, .ref b), (1, .long (lN (ah_enc u))), (3, .int (nI c0)), (4, .int (nI m0)), (5, .ref ra), (6, .int (nI 40)), (7, .int (nI k))]) hx hb dX0_hasBeginning_26 hl (by decide) rfl (fun ls hl => ?_)
          refine lv_aload hx hb dX0_hasBeginning_28 (lv_at hl 0 rfl) ?_
          refine lv_ifnull hx hb dX0_hasBeginning_30 ?_
          refine lv_aload hx hb dX0_hasBeginning_33 (lv_at hl 0 rfl) ?_
          refine gf_Book_24 E hP hqo rfl dX0_hasBeginning_35 ?_
          refine gf_Book_44 E hP hlw rfl dX0_hasBeginning_38 ?_
          refine lv_iload hx hb dX0_hasBeginning_41 (lv_at hl 4 rfl) ?_
          refine ah_icmp_lt (tgt := 61) hx hb (by omega) (by omega) dX0_hasBeginning_43 (by decide) (fun hc43 => ?_) (fun hc43 => ?_)
          · skip
            refine lv_iinc (v := (nI (k + 1))) (lv' := [(7, .int (nI (k + 1))), (8, .ref q), (0, .ref b), (1, .long (lN (ah_enc u))), (3, .int (nI c0)), (4, .int (nI m0)), (5, .ref ra), (6, .int (nI 40))]) hx hb dX0_hasBeginning_61 hl (k := 7) rfl (ah_inc _) (by decide) rfl (fun ls hl => ?_)
            refine lv_goto (tgt := 14) hx hb dX0_hasBeginning_64 (by decide) ?_
            exact ih _ (by omega) (by omega) (ah_any_f ha (by rw [ah_sat_s hPk]; simp [Nat.not_le.mpr hc43])) _ _ hP hS ls (lv_sub hl [2, 3, 4, 5, 6, 7, 0] rfl)
          · skip
            refine lv_aload hx hb dX0_hasBeginning_46 (lv_at hl 0 rfl) ?_
            refine gf_Book_24 E hP hqo rfl dX0_hasBeginning_48 ?_
            refine lv_lload_n hx hb dX0_hasBeginning_51 rfl (lv_at hl 2 rfl) ?_
            refine lv_iload_n hx hb dX0_hasBeginning_52 rfl (lv_at hl 3 rfl) ?_
            refine ah_calli (ah_runV E hP hS (As := [.long (lN (ah_enc u)), .int (nI c0)]) (rest := []) (b := lw) (c_Word_beginsWith l A D _ hc0 hlw hok hu) lk_Book_47 li_Book_47 hlw rfl ⟨rfl, rfl, (Nat.le_of_ble_eq_true rfl), (Nat.le_of_ble_eq_true rfl)⟩ rfl hl.1 rfl (Nat.le_of_ble_eq_true rfl) dX0_hasBeginning_53 ⟨(Nat.le_of_ble_eq_true rfl), (Nat.le_of_ble_eq_true rfl)⟩) hS (fun r F1 H locs hq hP hS => ?_)
            obtain ⟨rfl, rfl⟩ := hq
            refine ah_ifb_eq (tgt := 61) hx hb dX0_hasBeginning_56 (by decide) (fun hc56 => ?_) (fun hc56 => ?_)
            · skip
              refine lv_iinc (v := (nI (k + 1))) (lv' := [(7, .int (nI (k + 1))), (8, .ref q), (0, .ref b), (1, .long (lN (ah_enc u))), (3, .int (nI c0)), (4, .int (nI m0)), (5, .ref ra), (6, .int (nI 40))]) hx hb dX0_hasBeginning_61 hl (k := 7) rfl (ah_inc _) (by decide) rfl (fun ls hl => ?_)
              refine lv_goto (tgt := 14) hx hb dX0_hasBeginning_64 (by decide) ?_
              exact ih _ (by omega) (by omega) (ah_any_f ha (by rw [ah_sat_s hPk]; simp [hc56])) _ _ hP hS ls (lv_sub hl [2, 3, 4, 5, 6, 7, 0] rfl)
            · skip
              refine lv_iconst (v := (nI 1)) hx hb dX0_hasBeginning_59 (by decide) ?_
              rw [hQ]
              exact ah_zret E hr (by first | exact bI_nz _ | decide) hP hS ⟨rfl, by rw [ah_any_t (k := k) (by omega) (by rw [ah_sat_s hPk]; simp [hc43, hc56])]; rfl⟩ (Nat.le_of_ble_eq_true rfl) (Nat.le_of_ble_eq_true rfl) dX0_hasBeginning_60
  exact L14 (41) 0 (by omega) (by omega) rfl _ _ hP hS ls (lv_sub hl [3, 4, 5, 6, 2, 1, 0] rfl)

set_option maxHeartbeats 4000000 in
set_option maxRecDepth 100000 in
/-- longestEnd -/
theorem c_Book_longestEnd (l : Launch) (A : Nat → Prop) (D : ah_G) (F : ah_F) {b ra : Nat} {rf : Nat → Option Nat} {P : ah_Pt} {n pr : Nat} (hbk : F b = some (.inr (0, [.ref ra, .int (nI n), .int (nI pr)]))) (hra : F ra = some (ah_aq D 40 rf)) (hrows : ah_rows F rf P) {t : List Nat} {mo : Nat} (ht : ah_ok t) (hmo : mo ≤ t.length) : Met l yX0_longestEnd (Cond.code yX0_longestEnd cX0_longestEnd 5 (some .int) :: ah_T) { frames := 2, cells := 0, slots := 0, locals := 51 } (va_Pc [.ref b, .long (lN (ah_enc t)), .int (nI mo)] (ah_B A D F)) (ah_Qi A D (fun (r : Int32) F1 => F = F1 ∧ nI (ah_le P t mo) = r)) 0 0 A := by
  refine ah_met (own := "Ahoarch$Book") (by decide) rfl (Nat.le_of_ble_eq_true rfl) ?_
  intro p e s m below meth c ls E hr hini hl hP hS Q hQ
  have hx := E.1
  have hb := E.2.1
  have hl : lv_has ls 5 [(0, .ref b), (1, .long (lN (ah_enc t))), (3, .int (nI mo))] := hl
  have htl := ht.1
  refine lv_iload_n hx hb dX0_longestEnd_0 rfl (lv_at hl 2 rfl) ?_
  refine lv_istore (lv' := [(4, .int (nI mo)), (0, .ref b), (1, .long (lN (ah_enc t))), (3, .int (nI mo))]) hx hb dX0_longestEnd_1 hl (by decide) rfl (fun ls hl => ?_)
  have L3 : ∀ (n : Nat), ∀ (c0 : Nat), c0 < n → c0 ≤ mo → ah_le P t c0 = ah_le P t mo → ∀ (H : Heap) (locs : List Loc), ah_K A D F H → va_S A s.heap H locs → ∀ (ls : Array Slot), lv_has ls 5 [(0, .ref b), (1, .long (lN (ah_enc t))), (3, .int (nI mo)), (4, .int (nI c0))] → W p l e { frames := 2, cells := 0, slots := 0, locals := 51 } s m [.ref b, .long (lN (ah_enc t)), .int (nI mo)].toArray below meth c H locs 0 0 Q (F0 m 3 ls []) := by
    intro n
    induction n with
    | zero =>
      intro c0 hm
      exact absurd hm (Nat.not_lt_zero _)
    | succ n ih =>
      intro c0 hm hk ha H locs hP hS ls hl
      refine lv_iload hx hb dX0_longestEnd_3 (lv_at hl 3 rfl) ?_
      refine ah_if_le (tgt := 34) hx hb (by omega) dX0_longestEnd_5 (by decide) (fun hc5 => ?_) (fun hc5 => ?_)
      · skip
        refine lv_iconst (v := (nI 0)) hx hb dX0_longestEnd_34 (by decide) ?_
        rw [hQ]
        exact ah_iret E hr hP hS ⟨rfl, by rw [← ha, hc5]; rfl⟩ (Nat.le_of_ble_eq_true rfl) (Nat.le_of_ble_eq_true rfl) dX0_longestEnd_35
      · skip
        refine lv_aload_n hx hb dX0_longestEnd_8 rfl (lv_at hl 0 rfl) ?_
        refine lv_lload_n hx hb dX0_longestEnd_9 rfl (lv_at hl 1 rfl) ?_
        refine lv_iload hx hb dX0_longestEnd_10 (lv_at hl 3 rfl) ?_
        refine ah_calll (ah_runSN E hP hS (As := [.long (lN (ah_enc t)), .int (nI c0)]) (rest := [.ref b]) (c_tail l A D _ (a := ah_enc t) (k := c0) (by have := ah_enc_40 ht; omega) (by omega)) lk_Book_51 li_Book_51 ⟨rfl, rfl, (Nat.le_of_ble_eq_true rfl), (Nat.le_of_ble_eq_true rfl)⟩ rfl hl.1 rfl (Nat.le_of_ble_eq_true rfl) dX0_longestEnd_12 ⟨(Nat.le_of_ble_eq_true rfl), (Nat.le_of_ble_eq_true rfl)⟩) hS (fun r F1 H locs hq hP hS => ?_)
        obtain ⟨rfl, rfl⟩ := hq
        rw [ah_enc_mod ht.2]
        refine lv_iload hx hb dX0_longestEnd_15 (lv_at hl 3 rfl) ?_
        refine lv_iload hx hb dX0_longestEnd_17 (lv_at hl 3 rfl) ?_
        refine ah_calli (ah_runV E hP hS (As := [.long (lN (ah_enc (t.drop (t.length - c0)))), .int (nI c0), .int (nI c0)]) (rest := []) (b := b) (c_Book_hasBeginning l A D _ hbk hra hrows (u := t.drop (t.length - c0)) (m0 := c0) ⟨by rw [List.length_drop]; omega, ah_lt_drop ht.2 _⟩ (by rw [List.length_drop]; omega) (by omega)) lk_Book_55 li_Book_55 hbk rfl ⟨rfl, rfl, (Nat.le_of_ble_eq_true rfl), (Nat.le_of_ble_eq_true rfl)⟩ rfl hl.1 rfl (Nat.le_of_ble_eq_true rfl) dX0_longestEnd_19 ⟨(Nat.le_of_ble_eq_true rfl), (Nat.le_of_ble_eq_true rfl)⟩) hS (fun r F2 H locs hq hP hS => ?_)
        obtain ⟨rfl, rfl⟩ := hq
        refine ah_ifb_eq (tgt := 28) hx hb dX0_longestEnd_22 (by decide) (fun hc22 => ?_) (fun hc22 => ?_)
        · skip
          refine lv_iinc (v := (nI (c0 - 1))) (lv' := [(4, .int (nI (c0 - 1))), (0, .ref b), (1, .long (lN (ah_enc t))), (3, .int (nI mo))]) hx hb dX0_longestEnd_28 hl (k := 3) rfl (ah_dec (by omega)) (by decide) rfl (fun ls hl => ?_)
          refine lv_goto (tgt := 3) hx hb dX0_longestEnd_31 (by decide) ?_
          exact ih _ (by omega) (by omega) (by rw [ah_le_f hc5 hc22]; exact ha) _ _ hP hS ls (lv_sub hl [1, 2, 3, 0] rfl)
        · skip
          refine lv_iload hx hb dX0_longestEnd_25 (lv_at hl 3 rfl) ?_
          rw [hQ]
          exact ah_iret E hr hP hS ⟨rfl, by rw [← ha, ah_le_t hc5 hc22]⟩ (Nat.le_of_ble_eq_true rfl) (Nat.le_of_ble_eq_true rfl) dX0_longestEnd_27
  exact L3 (mo + 1) mo (by omega) (Nat.le_refl _) rfl _ _ hP hS ls (lv_sub hl [1, 2, 3, 0] rfl)

set_option maxHeartbeats 4000000 in
set_option maxRecDepth 100000 in
/-- shared -/
theorem c_Book_shared (l : Launch) (A : Nat → Prop) (D : ah_G) (F : ah_F) {lu lw : Nat} {u w : List Nat} (hlu : ah_wd F lu u) (hlw : ah_wd F lw w) (hoku : ah_ok u) (hok : ah_ok w) : Met l yX0_shared (Cond.code yX0_shared cX0_shared 3 (some .int) :: ah_T) { frames := 1, cells := 0, slots := 0, locals := 23 } (va_Pc [.ref lu, .ref lw] (ah_B A D F)) (ah_Qi A D (fun (r : Int32) F1 => F = F1 ∧ nI (ah_sh u w (min u.length w.length)) = r)) 0 0 A := by
  refine ah_met (own := "Ahoarch$Book") (by decide) rfl (Nat.le_of_ble_eq_true rfl) ?_
  intro p e s m below meth c ls E hr hini hl hP hS Q hQ
  have hx := E.1
  have hb := E.2.1
  have hl : lv_has ls 3 [(0, .ref lu), (1, .ref lw)] := hl
  have hul := hoku.1
  have hwl := hok.1
  refine lv_aload_n hx hb dX0_shared_0 rfl (lv_at hl 0 rfl) ?_
  refine gf_Book_44 E hP hlu rfl dX0_shared_1 ?_
  refine lv_aload_n hx hb dX0_shared_4 rfl (lv_at hl 1 rfl) ?_
  refine gf_Book_44 E hP hlw rfl dX0_shared_5 ?_
  refine mi_Book_73 E hl.1 (by omega) (by omega) (Nat.le_of_ble_eq_true rfl) (Nat.le_of_ble_eq_true rfl) (Nat.le_of_ble_eq_true rfl) (Nat.le_of_ble_eq_true rfl) dX0_shared_8 ?_
  refine lv_istore_n (lv' := [(2, .int (nI (min u.length w.length))), (0, .ref lu), (1, .ref lw)]) hx hb dX0_shared_11 rfl hl (by decide) rfl (fun ls hl => ?_)
  have L12 : ∀ (n : Nat), ∀ (c0 : Nat), c0 < n → c0 ≤ min u.length w.length → ah_sh u w c0 = ah_sh u w (min u.length w.length) → ∀ (H : Heap) (locs : List Loc), ah_K A D F H → va_S A s.heap H locs → ∀ (ls : Array Slot), lv_has ls 3 [(0, .ref lu), (1, .ref lw), (2, .int (nI c0))] → W p l e { frames := 1, cells := 0, slots := 0, locals := 23 } s m [.ref lu, .ref lw].toArray below meth c H locs 0 0 Q (F0 m 12 ls []) := by
    intro n
    induction n with
    | zero =>
      intro c0 hm
      exact absurd hm (Nat.not_lt_zero _)
    | succ n ih =>
      intro c0 hm hk ha H locs hP hS ls hl
      refine lv_iload_n hx hb dX0_shared_12 rfl (lv_at hl 2 rfl) ?_
      refine ah_if_le (tgt := 37) hx hb (by omega) dX0_shared_13 (by decide) (fun hc13 => ?_) (fun hc13 => ?_)
      · skip
        refine lv_iconst (v := (nI 0)) hx hb dX0_shared_37 (by decide) ?_
        rw [hQ]
        exact ah_iret E hr hP hS ⟨rfl, by rw [← ha, hc13]; rfl⟩ (Nat.le_of_ble_eq_true rfl) (Nat.le_of_ble_eq_true rfl) dX0_shared_38
      · skip
        refine lv_aload_n hx hb dX0_shared_16 rfl (lv_at hl 0 rfl) ?_
        refine lv_aload_n hx hb dX0_shared_17 rfl (lv_at hl 1 rfl) ?_
        refine lv_iload_n hx hb dX0_shared_18 rfl (lv_at hl 2 rfl) ?_
        refine ah_calll (ah_runV E hP hS (As := [.int (nI c0)]) (rest := [.ref lu]) (b := lw) (c_Word_head l A D _ hlw hok (k := c0) (by omega)) lk_Book_76 li_Book_76 hlw rfl ⟨rfl, rfl, (Nat.le_of_ble_eq_true rfl), (Nat.le_of_ble_eq_true rfl)⟩ rfl hl.1 rfl (Nat.le_of_ble_eq_true rfl) dX0_shared_19 ⟨(Nat.le_of_ble_eq_true rfl), (Nat.le_of_ble_eq_true rfl)⟩) hS (fun r F1 H locs hq hP hS => ?_)
        obtain ⟨rfl, rfl⟩ := hq
        refine lv_iload_n hx hb dX0_shared_22 rfl (lv_at hl 2 rfl) ?_
        refine ah_calli (ah_runV E hP hS (As := [.long (lN (ah_enc (w.take c0))), .int (nI c0)]) (rest := []) (b := lu) (c_Word_beginsWith l A D _ (u := w.take c0) (k := c0) (by rw [List.length_take]; omega) hlu hoku (ah_ok_take hok _)) lk_Book_47 li_Book_47 hlu rfl ⟨rfl, rfl, (Nat.le_of_ble_eq_true rfl), (Nat.le_of_ble_eq_true rfl)⟩ rfl hl.1 rfl (Nat.le_of_ble_eq_true rfl) dX0_shared_23 ⟨(Nat.le_of_ble_eq_true rfl), (Nat.le_of_ble_eq_true rfl)⟩) hS (fun r F2 H locs hq hP hS => ?_)
        obtain ⟨rfl, rfl⟩ := hq
        refine ah_ifb_eq (tgt := 31) hx hb dX0_shared_26 (by decide) (fun hc26 => ?_) (fun hc26 => ?_)
        · skip
          refine lv_iinc (v := (nI (c0 - 1))) (lv' := [(2, .int (nI (c0 - 1))), (0, .ref lu), (1, .ref lw)]) hx hb dX0_shared_31 hl (k := 2) rfl (ah_dec (by omega)) (by decide) rfl (fun ls hl => ?_)
          refine lv_goto (tgt := 12) hx hb dX0_shared_34 (by decide) ?_
          exact ih _ (by omega) (by omega) (by rw [ah_sh_f hc13 hc26]; exact ha) _ _ hP hS ls (lv_sub hl [1, 2, 0] rfl)
        · skip
          refine lv_iload_n hx hb dX0_shared_29 rfl (lv_at hl 2 rfl) ?_
          rw [hQ]
          exact ah_iret E hr hP hS ⟨rfl, by rw [← ha, ah_sh_t hc13 hc26]⟩ (Nat.le_of_ble_eq_true rfl) (Nat.le_of_ble_eq_true rfl) dX0_shared_30
  exact L12 (min u.length w.length + 1) _ (by omega) (Nat.le_refl _) rfl _ _ hP hS ls (lv_sub hl [1, 2, 0] rfl)

set_option maxHeartbeats 4000000 in
set_option maxRecDepth 100000 in
/-- longestSharedBefore -/
theorem c_Book_longestSharedBefore (l : Launch) (A : Nat → Prop) (D : ah_G) (F : ah_F) {b ra : Nat} {rf : Nat → Option Nat} {P : ah_Pt} {n pr : Nat} (hbk : F b = some (.inr (0, [.ref ra, .int (nI n), .int (nI pr)]))) (hra : F ra = some (ah_aq D 40 rf)) (hrows : ah_rows F rf P) {pa i lw lr : Nat} {w : List Nat} (hpa : F pa = some (.inr (2, [.int (nI i), .ref lw, .ref lr]))) (hlw : ah_wd F lw w) (hok : ah_ok w) (hi : i < 40) : Met l yX0_longestSharedBefore (Cond.code yX0_longestSharedBefore cX0_longestSharedBefore 7 (some .int) :: ah_T) { frames := 2, cells := 0, slots := 0, locals := 45 } (va_Pc [.ref b, .ref pa] (ah_B A D F)) (ah_Qi A D (fun (r : Int32) F1 => F = F1 ∧ nI (ah_ls P i w 40) = r)) 0 0 A := by
  refine ah_met (own := "Ahoarch$Book") (by decide) rfl (Nat.le_of_ble_eq_true rfl) ?_
  intro p e s m below meth c ls E hr hini hl hP hS Q hQ
  have hx := E.1
  have hb := E.2.1
  have hl : lv_has ls 7 [(0, .ref b), (1, .ref pa)] := hl
  have hwl := hok.1
  refine lv_iconst (v := (nI 0)) hx hb dX0_longestSharedBefore_0 (by decide) ?_
  refine lv_istore_n (lv' := [(2, .int (nI 0)), (0, .ref b), (1, .ref pa)]) hx hb dX0_longestSharedBefore_1 rfl hl (by decide) rfl (fun ls hl => ?_)
  refine lv_aload_n hx hb dX0_longestSharedBefore_2 rfl (lv_at hl 1 rfl) ?_
  refine gf_Book_11 E hP hbk rfl dX0_longestSharedBefore_3 ?_
  refine lv_astore_n (lv' := [(3, .ref ra), (2, .int (nI 0)), (0, .ref b), (1, .ref pa)]) hx hb dX0_longestSharedBefore_6 rfl hl (by decide) rfl (fun ls hl => ?_)
  refine lv_aload_n hx hb dX0_longestSharedBefore_7 rfl (lv_at hl 0 rfl) ?_
  refine ah_len E hP hra 4 rfl dX0_longestSharedBefore_8 ?_
  refine lv_istore (lv' := [(4, .int (nI 40)), (3, .ref ra), (2, .int (nI 0)), (0, .ref b), (1, .ref pa)]) hx hb dX0_longestSharedBefore_9 hl (by decide) rfl (fun ls hl => ?_)
  refine lv_iconst (v := (nI 0)) hx hb dX0_longestSharedBefore_11 (by decide) ?_
  refine lv_istore (lv' := [(5, .int (nI 0)), (4, .int (nI 40)), (3, .ref ra), (2, .int (nI 0)), (0, .ref b), (1, .ref pa)]) hx hb dX0_longestSharedBefore_12 hl (by decide) rfl (fun ls hl => ?_)
  have L14 : ∀ (n : Nat), ∀ (k a : Nat), 40 - k < n → k ≤ 40 → a = ah_ls P i w k → ∀ (H : Heap) (locs : List Loc), ah_K A D F H → va_S A s.heap H locs → ∀ (ls : Array Slot), lv_has ls 7 [(0, .ref b), (1, .ref pa), (2, .int (nI a)), (3, .ref ra), (4, .int (nI 40)), (5, .int (nI k))] → W p l e { frames := 2, cells := 0, slots := 0, locals := 45 } s m [.ref b, .ref pa].toArray below meth c H locs 0 0 Q (F0 m 14 ls []) := by
    intro n
    induction n with
    | zero =>
      intro k a hm
      exact absurd hm (Nat.not_lt_zero _)
    | succ n ih =>
      intro k a hm hk ha H locs hP hS ls hl
      have hb2 := ah_ls_le P i w k
      refine lv_iload hx hb dX0_longestSharedBefore_14 (lv_at hl 5 rfl) ?_
      refine lv_iload hx hb dX0_longestSharedBefore_16 (lv_at hl 4 rfl) ?_
      refine ah_icmp_ge (tgt := 67) hx hb (by omega) (by omega) dX0_longestSharedBefore_18 (by decide) (fun hc18 => ?_) (fun hc18 => ?_)
      · skip
        refine lv_iload_n hx hb dX0_longestSharedBefore_67 rfl (lv_at hl 2 rfl) ?_
        rw [hQ]
        exact ah_iret E hr hP hS ⟨rfl, by rw [ha, show k = 40 by omega]⟩ (Nat.le_of_ble_eq_true rfl) (Nat.le_of_ble_eq_true rfl) dX0_longestSharedBefore_68
      · skip
        refine lv_aload_n hx hb dX0_longestSharedBefore_21 rfl (lv_at hl 3 rfl) ?_
        refine lv_iload hx hb dX0_longestSharedBefore_22 (lv_at hl 5 rfl) ?_
        refine ah_qald E hP hra (by omega) (by omega) dX0_longestSharedBefore_24 ?_
        cases hq2 : rf k with
        | none =>
          have hPk2 := hrows.n (i := k) (by omega) hq2
          refine lv_astoreN (lv' := [(6, .null), (0, .ref b), (1, .ref pa), (2, .int (nI a)), (3, .ref ra), (4, .int (nI 40)), (5, .int (nI k))]) hx hb dX0_longestSharedBefore_25 hl (by decide) rfl (fun ls hl => ?_)
          refine lv_aloadN hx hb dX0_longestSharedBefore_27 (lv_at hl 0 rfl) ?_
          refine lv_ifnullN (tgt := 61) hx hb dX0_longestSharedBefore_29 (by decide) ?_
          refine lv_iinc (v := (nI (k + 1))) (lv' := [(5, .int (nI (k + 1))), (6, .null), (0, .ref b), (1, .ref pa), (2, .int (nI a)), (3, .ref ra), (4, .int (nI 40))]) hx hb dX0_longestSharedBefore_61 hl (k := 6) rfl (ah_inc _) (by decide) rfl (fun ls hl => ?_)
          refine lv_goto (tgt := 14) hx hb dX0_longestSharedBefore_64 (by decide) ?_
          exact ih _ _ (by omega) (by omega) (by rw [ah_ls_n hPk2]; exact ha) _ _ hP hS ls (lv_sub hl [2, 3, 4, 5, 6, 0] rfl)
        | some q =>
          obtain ⟨u, r, lw2, lr2, hPk2, hqo2, hlw2, hlr2, hok2, hokr2, hne2⟩ := hrows.s (i := k) (by omega) hq2
          have hwl2 := hok2.1
          refine lv_astore (lv' := [(6, .ref q), (0, .ref b), (1, .ref pa), (2, .int (nI a)), (3, .ref ra), (4, .int (nI 40)), (5, .int (nI k))]) hx hb dX0_longestSharedBefore_25 hl (by decide) rfl (fun ls hl => ?_)
          refine lv_aload hx hb dX0_longestSharedBefore_27 (lv_at hl 0 rfl) ?_
          refine lv_ifnull hx hb dX0_longestSharedBefore_29 ?_
          refine lv_aload hx hb dX0_longestSharedBefore_32 (lv_at hl 0 rfl) ?_
          refine gf_Book_37 E hP hqo2 rfl dX0_longestSharedBefore_34 ?_
          refine lv_aload_n hx hb dX0_longestSharedBefore_37 rfl (lv_at hl 2 rfl) ?_
          refine gf_Book_37 E hP hpa rfl dX0_longestSharedBefore_38 ?_
          refine ah_icmp_ge (tgt := 61) hx hb (by omega) (by omega) dX0_longestSharedBefore_41 (by decide) (fun hc41 => ?_) (fun hc41 => ?_)
          · skip
            refine lv_iinc (v := (nI (k + 1))) (lv' := [(5, .int (nI (k + 1))), (6, .ref q), (0, .ref b), (1, .ref pa), (2, .int (nI a)), (3, .ref ra), (4, .int (nI 40))]) hx hb dX0_longestSharedBefore_61 hl (k := 6) rfl (ah_inc _) (by decide) rfl (fun ls hl => ?_)
            refine lv_goto (tgt := 14) hx hb dX0_longestSharedBefore_64 (by decide) ?_
            exact ih _ _ (by omega) (by omega) (by rw [ah_ls_f hPk2 hc41]; exact ha) _ _ hP hS ls (lv_sub hl [2, 3, 4, 5, 6, 0] rfl)
          · skip
            refine lv_iload_n hx hb dX0_longestSharedBefore_44 rfl (lv_at hl 3 rfl) ?_
            refine lv_aload hx hb dX0_longestSharedBefore_45 (lv_at hl 0 rfl) ?_
            refine gf_Book_24 E hP hqo2 rfl dX0_longestSharedBefore_47 ?_
            refine lv_aload_n hx hb dX0_longestSharedBefore_50 rfl (lv_at hl 2 rfl) ?_
            refine gf_Book_24 E hP hpa rfl dX0_longestSharedBefore_51 ?_
            refine ah_calli (ah_runS E hP hS (As := [.ref lw2, .ref lw]) (rest := [.int (nI a)]) (c_Book_shared l A D _ hlw2 hlw hok2 hok) lk_Book_63 li_Book_63 ⟨rfl, rfl, (Nat.le_of_ble_eq_true rfl), (Nat.le_of_ble_eq_true rfl)⟩ rfl hl.1 rfl (Nat.le_of_ble_eq_true rfl) dX0_longestSharedBefore_54 ⟨(Nat.le_of_ble_eq_true rfl), (Nat.le_of_ble_eq_true rfl)⟩) hS (fun r F1 H locs hq hP hS => ?_)
            obtain ⟨rfl, rfl⟩ := hq
            have hsh := ah_sh_le u w (min u.length w.length)
            refine ma_Book_67 E hl.1 (by omega) (by omega) (Nat.le_of_ble_eq_true rfl) (Nat.le_of_ble_eq_true rfl) (Nat.le_of_ble_eq_true rfl) (Nat.le_of_ble_eq_true rfl) dX0_longestSharedBefore_57 ?_
            refine lv_istore_n (lv' := [(2, .int (nI (max a (ah_sh u w (min u.length w.length))))), (6, .ref q), (0, .ref b), (1, .ref pa), (3, .ref ra), (4, .int (nI 40)), (5, .int (nI k))]) hx hb dX0_longestSharedBefore_60 rfl hl (by decide) rfl (fun ls hl => ?_)
            refine lv_iinc (v := (nI (k + 1))) (lv' := [(5, .int (nI (k + 1))), (2, .int (nI (max a (ah_sh u w (min u.length w.length))))), (6, .ref q), (0, .ref b), (1, .ref pa), (3, .ref ra), (4, .int (nI 40))]) hx hb dX0_longestSharedBefore_61 hl (k := 6) rfl (ah_inc _) (by decide) rfl (fun ls hl => ?_)
            refine lv_goto (tgt := 14) hx hb dX0_longestSharedBefore_64 (by decide) ?_
            exact ih _ _ (by omega) (by omega) (by rw [ah_ls_t hPk2 hc41, ha]) _ _ hP hS ls (lv_sub hl [3, 4, 1, 5, 6, 0] rfl)
  exact L14 (41) 0 0 (by omega) (by omega) rfl _ _ hP hS ls (lv_sub hl [4, 5, 3, 2, 1, 0] rfl)

set_option maxHeartbeats 4000000 in
set_option maxRecDepth 100000 in
/-- countBeginnings -/
theorem c_Book_countBeginnings (l : Launch) (A : Nat → Prop) (D : ah_G) (F : ah_F) {b ra : Nat} {rf : Nat → Option Nat} {P : ah_Pt} {n pr : Nat} (hbk : F b = some (.inr (0, [.ref ra, .int (nI n), .int (nI pr)]))) (hra : F ra = some (ah_aq D 40 rf)) (hrows : ah_rows F rf P) : Met l yX0_countBeginnings (Cond.code yX0_countBeginnings cX0_countBeginnings 6 (some .int) :: ah_T) { frames := 3, cells := 0, slots := 0, locals := 71 } (va_Pc [.ref b] (ah_B A D F)) (ah_Qi A D (fun (r : Int32) F1 => F = F1 ∧ nI (pu_cb P 40) = r)) 0 0 A := by
  refine ah_met (own := "Ahoarch$Book") (by decide) rfl (Nat.le_of_ble_eq_true rfl) ?_
  intro p e s m below meth c ls E hr hini hl hP hS Q hQ
  have hx := E.1
  have hb := E.2.1
  have hl : lv_has ls 6 [(0, .ref b)] := hl
  refine lv_iconst (v := (nI 0)) hx hb dX0_countBeginnings_0 (by decide) ?_
  refine lv_istore_n (lv' := [(1, .int (nI 0)), (0, .ref b)]) hx hb dX0_countBeginnings_1 rfl hl (by decide) rfl (fun ls hl => ?_)
  refine lv_aload_n hx hb dX0_countBeginnings_2 rfl (lv_at hl 1 rfl) ?_
  refine gf_Book_11 E hP hbk rfl dX0_countBeginnings_3 ?_
  refine lv_astore_n (lv' := [(2, .ref ra), (1, .int (nI 0)), (0, .ref b)]) hx hb dX0_countBeginnings_6 rfl hl (by decide) rfl (fun ls hl => ?_)
  refine lv_aload_n hx hb dX0_countBeginnings_7 rfl (lv_at hl 0 rfl) ?_
  refine ah_len E hP hra 4 rfl dX0_countBeginnings_8 ?_
  refine lv_istore_n (lv' := [(3, .int (nI 40)), (2, .ref ra), (1, .int (nI 0)), (0, .ref b)]) hx hb dX0_countBeginnings_9 rfl hl (by decide) rfl (fun ls hl => ?_)
  refine lv_iconst (v := (nI 0)) hx hb dX0_countBeginnings_10 (by decide) ?_
  refine lv_istore (lv' := [(4, .int (nI 0)), (3, .int (nI 40)), (2, .ref ra), (1, .int (nI 0)), (0, .ref b)]) hx hb dX0_countBeginnings_11 hl (by decide) rfl (fun ls hl => ?_)
  have L13 : ∀ (n : Nat), ∀ (k a : Nat), 40 - k < n → k ≤ 40 → a = pu_cb P k → a ≤ 8 * k → ∀ (H : Heap) (locs : List Loc), ah_K A D F H → va_S A s.heap H locs → ∀ (ls : Array Slot), lv_has ls 6 [(0, .ref b), (1, .int (nI a)), (2, .ref ra), (3, .int (nI 40)), (4, .int (nI k))] → W p l e { frames := 3, cells := 0, slots := 0, locals := 71 } s m [.ref b].toArray below meth c H locs 0 0 Q (F0 m 13 ls []) := by
    intro n
    induction n with
    | zero =>
      intro k a hm
      exact absurd hm (Nat.not_lt_zero _)
    | succ n ih =>
      intro k a hm hk ha hab H locs hP hS ls hl
      refine lv_iload hx hb dX0_countBeginnings_13 (lv_at hl 4 rfl) ?_
      refine lv_iload_n hx hb dX0_countBeginnings_15 rfl (lv_at hl 3 rfl) ?_
      refine ah_icmp_ge (tgt := 54) hx hb (by omega) (by omega) dX0_countBeginnings_16 (by decide) (fun hc16 => ?_) (fun hc16 => ?_)
      · skip
        refine lv_iload_n hx hb dX0_countBeginnings_54 rfl (lv_at hl 1 rfl) ?_
        rw [hQ]
        exact ah_iret E hr hP hS ⟨rfl, by rw [ha, show k = 40 by omega]⟩ (Nat.le_of_ble_eq_true rfl) (Nat.le_of_ble_eq_true rfl) dX0_countBeginnings_55
      · skip
        refine lv_aload_n hx hb dX0_countBeginnings_19 rfl (lv_at hl 2 rfl) ?_
        refine lv_iload hx hb dX0_countBeginnings_20 (lv_at hl 4 rfl) ?_
        refine ah_qald E hP hra (by omega) (by omega) dX0_countBeginnings_22 ?_
        cases hq : rf k with
        | none =>
          have hPk := hrows.n (i := k) (by omega) hq
          refine lv_astoreN (lv' := [(5, .null), (0, .ref b), (1, .int (nI a)), (2, .ref ra), (3, .int (nI 40)), (4, .int (nI k))]) hx hb dX0_countBeginnings_23 hl (by decide) rfl (fun ls hl => ?_)
          refine lv_aloadN hx hb dX0_countBeginnings_25 (lv_at hl 0 rfl) ?_
          refine lv_ifnullN (tgt := 48) hx hb dX0_countBeginnings_27 (by decide) ?_
          refine lv_iinc (v := (nI (k + 1))) (lv' := [(4, .int (nI (k + 1))), (5, .null), (0, .ref b), (1, .int (nI a)), (2, .ref ra), (3, .int (nI 40))]) hx hb dX0_countBeginnings_48 hl (k := 5) rfl (ah_inc _) (by decide) rfl (fun ls hl => ?_)
          refine lv_goto (tgt := 13) hx hb dX0_countBeginnings_51 (by decide) ?_
          exact ih _ _ (by omega) (by omega) (by rw [pu_cb_n hPk]; exact ha) (by omega) _ _ hP hS ls (lv_sub hl [2, 3, 4, 5, 0] rfl)
        | some q =>
          obtain ⟨w, r, lw, lr, hPk, hqo, hlw, hlr, hok, hokr, hne⟩ := hrows.s (i := k) (by omega) hq
          have hwl := hok.1
          refine lv_astore (lv' := [(5, .ref q), (0, .ref b), (1, .int (nI a)), (2, .ref ra), (3, .int (nI 40)), (4, .int (nI k))]) hx hb dX0_countBeginnings_23 hl (by decide) rfl (fun ls hl => ?_)
          refine lv_aload hx hb dX0_countBeginnings_25 (lv_at hl 0 rfl) ?_
          refine lv_ifnull hx hb dX0_countBeginnings_27 ?_
          refine lv_iload_n hx hb dX0_countBeginnings_30 rfl (lv_at hl 2 rfl) ?_
          refine lv_aload hx hb dX0_countBeginnings_31 (lv_at hl 0 rfl) ?_
          refine gf_Book_24 E hP hqo rfl dX0_countBeginnings_33 ?_
          refine gf_Book_44 E hP hlw rfl dX0_countBeginnings_36 ?_
          refine lv_aload_n hx hb dX0_countBeginnings_39 rfl (lv_at hl 1 rfl) ?_
          refine lv_aload hx hb dX0_countBeginnings_40 (lv_at hl 0 rfl) ?_
          refine ah_calli (ah_runV E hP hS (As := [.ref q]) (rest := [.int (nI w.length), .int (nI a)]) (b := b) (c_Book_longestSharedBefore l A D _ hbk hra hrows hqo hlw hok (by omega)) lk_Book_59 li_Book_59 hbk rfl ⟨rfl, rfl, (Nat.le_of_ble_eq_true rfl), (Nat.le_of_ble_eq_true rfl)⟩ rfl hl.1 rfl (Nat.le_of_ble_eq_true rfl) dX0_countBeginnings_42 ⟨(Nat.le_of_ble_eq_true rfl), (Nat.le_of_ble_eq_true rfl)⟩) hS (fun r F1 H locs hq hP hS => ?_)
          obtain ⟨rfl, rfl⟩ := hq
          have hls := ah_ls_le P k w 40
          refine ah_isub hx hb (by omega) dX0_countBeginnings_45 ?_
          refine ah_iadd hx hb dX0_countBeginnings_46 ?_
          refine lv_istore_n (lv' := [(1, .int (nI (a + (w.length - (ah_ls P k w 40))))), (5, .ref q), (0, .ref b), (2, .ref ra), (3, .int (nI 40)), (4, .int (nI k))]) hx hb dX0_countBeginnings_47 rfl hl (by decide) rfl (fun ls hl => ?_)
          refine lv_iinc (v := (nI (k + 1))) (lv' := [(4, .int (nI (k + 1))), (1, .int (nI (a + (w.length - (ah_ls P k w 40))))), (5, .ref q), (0, .ref b), (2, .ref ra), (3, .int (nI 40))]) hx hb dX0_countBeginnings_48 hl (k := 5) rfl (ah_inc _) (by decide) rfl (fun ls hl => ?_)
          refine lv_goto (tgt := 13) hx hb dX0_countBeginnings_51 (by decide) ?_
          exact ih _ _ (by omega) (by omega) (by rw [pu_cb_s hPk, ha]) (by omega) _ _ hP hS ls (lv_sub hl [3, 1, 4, 5, 0] rfl)
  exact L13 (41) 0 0 (by omega) (by omega) rfl (by omega) _ _ hP hS ls (lv_sub hl [4, 3, 2, 1, 0] rfl)

set_option maxHeartbeats 4000000 in
set_option maxRecDepth 100000 in
/-- countBefore -/
theorem c_Book_countBefore (l : Launch) (A : Nat → Prop) (D : ah_G) (F : ah_F) {b ra : Nat} {rf : Nat → Option Nat} {P : ah_Pt} {n pr : Nat} (hbk : F b = some (.inr (0, [.ref ra, .int (nI n), .int (nI pr)]))) (hra : F ra = some (ah_aq D 40 rf)) (hrows : ah_rows F rf P) {st la : Nat} {lf : Nat → Int64} {S : List Nat} (hst : F st = some (.inr (3, [.ref la, .int (nI S.length)]))) (hla : F la = some (ah_al D 201 lf)) (hstr : ah_str lf S) {e0 : Nat} (he0 : e0 ≤ S.length) : Met l yX0_countBefore (Cond.code yX0_countBefore cX0_countBefore 8 (some .int) :: ah_T) { frames := 2, cells := 0, slots := 0, locals := 44 } (va_Pc [.ref b, .ref st, .int (nI e0)] (ah_B A D F)) (ah_Qi A D (fun (r : Int32) F1 => F = F1 ∧ nI (pu_cn (ah_sat P (fun w => ah_en S e0 w)) 40) = r)) 0 0 A := by
  refine ah_met (own := "Ahoarch$Book") (by decide) rfl (Nat.le_of_ble_eq_true rfl) ?_
  intro p e s m below meth c ls E hr hini hl hP hS Q hQ
  have hx := E.1
  have hb := E.2.1
  have hl : lv_has ls 8 [(0, .ref b), (1, .ref st), (2, .int (nI e0))] := hl
  obtain ⟨hS1, hS2, hS3⟩ := id hstr
  refine lv_iconst (v := (nI 0)) hx hb dX0_countBefore_0 (by decide) ?_
  refine lv_istore_n (lv' := [(3, .int (nI 0)), (0, .ref b), (1, .ref st), (2, .int (nI e0))]) hx hb dX0_countBefore_1 rfl hl (by decide) rfl (fun ls hl => ?_)
  refine lv_aload_n hx hb dX0_countBefore_2 rfl (lv_at hl 1 rfl) ?_
  refine gf_Book_11 E hP hbk rfl dX0_countBefore_3 ?_
  refine lv_astore (lv' := [(4, .ref ra), (3, .int (nI 0)), (0, .ref b), (1, .ref st), (2, .int (nI e0))]) hx hb dX0_countBefore_6 hl (by decide) rfl (fun ls hl => ?_)
  refine lv_aload hx hb dX0_countBefore_8 (lv_at hl 0 rfl) ?_
  refine ah_len E hP hra 4 rfl dX0_countBefore_10 ?_
  refine lv_istore (lv' := [(5, .int (nI 40)), (4, .ref ra), (3, .int (nI 0)), (0, .ref b), (1, .ref st), (2, .int (nI e0))]) hx hb dX0_countBefore_11 hl (by decide) rfl (fun ls hl => ?_)
  refine lv_iconst (v := (nI 0)) hx hb dX0_countBefore_13 (by decide) ?_
  refine lv_istore (lv' := [(6, .int (nI 0)), (5, .int (nI 40)), (4, .ref ra), (3, .int (nI 0)), (0, .ref b), (1, .ref st), (2, .int (nI e0))]) hx hb dX0_countBefore_14 hl (by decide) rfl (fun ls hl => ?_)
  have L16 : ∀ (n : Nat), ∀ (k a : Nat), 40 - k < n → k ≤ 40 → a = pu_cn (ah_sat P (fun w => ah_en S e0 w)) k → ∀ (H : Heap) (locs : List Loc), ah_K A D F H → va_S A s.heap H locs → ∀ (ls : Array Slot), lv_has ls 8 [(0, .ref b), (1, .ref st), (2, .int (nI e0)), (3, .int (nI a)), (4, .ref ra), (5, .int (nI 40)), (6, .int (nI k))] → W p l e { frames := 2, cells := 0, slots := 0, locals := 44 } s m [.ref b, .ref st, .int (nI e0)].toArray below meth c H locs 0 0 Q (F0 m 16 ls []) := by
    intro n
    induction n with
    | zero =>
      intro k a hm
      exact absurd hm (Nat.not_lt_zero _)
    | succ n ih =>
      intro k a hm hk ha H locs hP hS ls hl
      have hb2 := pu_cn_le (ah_sat P (fun w => ah_en S e0 w)) k
      refine lv_iload hx hb dX0_countBefore_16 (lv_at hl 6 rfl) ?_
      refine lv_iload hx hb dX0_countBefore_18 (lv_at hl 5 rfl) ?_
      refine ah_icmp_ge (tgt := 57) hx hb (by omega) (by omega) dX0_countBefore_20 (by decide) (fun hc20 => ?_) (fun hc20 => ?_)
      · skip
        refine lv_iload_n hx hb dX0_countBefore_57 rfl (lv_at hl 3 rfl) ?_
        rw [hQ]
        exact ah_iret E hr hP hS ⟨rfl, by rw [ha, show k = 40 by omega]⟩ (Nat.le_of_ble_eq_true rfl) (Nat.le_of_ble_eq_true rfl) dX0_countBefore_58
      · skip
        refine lv_aload hx hb dX0_countBefore_23 (lv_at hl 4 rfl) ?_
        refine lv_iload hx hb dX0_countBefore_25 (lv_at hl 6 rfl) ?_
        refine ah_qald E hP hra (by omega) (by omega) dX0_countBefore_27 ?_
        cases hq : rf k with
        | none =>
          have hPk := hrows.n (i := k) (by omega) hq
          refine lv_astoreN (lv' := [(7, .null), (0, .ref b), (1, .ref st), (2, .int (nI e0)), (3, .int (nI a)), (4, .ref ra), (5, .int (nI 40)), (6, .int (nI k))]) hx hb dX0_countBefore_28 hl (by decide) rfl (fun ls hl => ?_)
          refine lv_aloadN hx hb dX0_countBefore_30 (lv_at hl 0 rfl) ?_
          refine lv_ifnullN (tgt := 51) hx hb dX0_countBefore_32 (by decide) ?_
          refine lv_iinc (v := (nI (k + 1))) (lv' := [(6, .int (nI (k + 1))), (7, .null), (0, .ref b), (1, .ref st), (2, .int (nI e0)), (3, .int (nI a)), (4, .ref ra), (5, .int (nI 40))]) hx hb dX0_countBefore_51 hl (k := 7) rfl (ah_inc _) (by decide) rfl (fun ls hl => ?_)
          refine lv_goto (tgt := 16) hx hb dX0_countBefore_54 (by decide) ?_
          exact ih _ _ (by omega) (by omega) (by rw [pu_cn_f (ah_sat_n hPk)]; exact ha) _ _ hP hS ls (lv_sub hl [2, 3, 4, 5, 6, 7, 0] rfl)
        | some q =>
          obtain ⟨w, r, lw, lr, hPk, hqo, hlw, hlr, hok, hokr, hne⟩ := hrows.s (i := k) (by omega) hq
          have hwl := hok.1
          refine lv_astore (lv' := [(7, .ref q), (0, .ref b), (1, .ref st), (2, .int (nI e0)), (3, .int (nI a)), (4, .ref ra), (5, .int (nI 40)), (6, .int (nI k))]) hx hb dX0_countBefore_28 hl (by decide) rfl (fun ls hl => ?_)
          refine lv_aload hx hb dX0_countBefore_30 (lv_at hl 0 rfl) ?_
          refine lv_ifnull hx hb dX0_countBefore_32 ?_
          refine lv_aload_n hx hb dX0_countBefore_35 rfl (lv_at hl 2 rfl) ?_
          refine lv_iload_n hx hb dX0_countBefore_36 rfl (lv_at hl 3 rfl) ?_
          refine lv_aload hx hb dX0_countBefore_37 (lv_at hl 0 rfl) ?_
          refine gf_Book_24 E hP hqo rfl dX0_countBefore_39 ?_
          refine ah_calli (ah_runV E hP hS (As := [.int (nI e0), .ref lw]) (rest := []) (b := st) (c_Stream_holdsBefore l A D _ hst hla hstr hlw hok he0) lk_Book_80 li_Book_80 hst rfl ⟨rfl, rfl, (Nat.le_of_ble_eq_true rfl), (Nat.le_of_ble_eq_true rfl)⟩ rfl hl.1 rfl (Nat.le_of_ble_eq_true rfl) dX0_countBefore_42 ⟨(Nat.le_of_ble_eq_true rfl), (Nat.le_of_ble_eq_true rfl)⟩) hS (fun r F1 H locs hq hP hS => ?_)
          obtain ⟨rfl, rfl⟩ := hq
          refine ah_ifb_eq (tgt := 51) hx hb dX0_countBefore_45 (by decide) (fun hc45 => ?_) (fun hc45 => ?_)
          · skip
            refine lv_iinc (v := (nI (k + 1))) (lv' := [(6, .int (nI (k + 1))), (7, .ref q), (0, .ref b), (1, .ref st), (2, .int (nI e0)), (3, .int (nI a)), (4, .ref ra), (5, .int (nI 40))]) hx hb dX0_countBefore_51 hl (k := 7) rfl (ah_inc _) (by decide) rfl (fun ls hl => ?_)
            refine lv_goto (tgt := 16) hx hb dX0_countBefore_54 (by decide) ?_
            exact ih _ _ (by omega) (by omega) (by rw [pu_cn_f ((ah_sat_s hPk).trans hc45)]; exact ha) _ _ hP hS ls (lv_sub hl [2, 3, 4, 5, 6, 7, 0] rfl)
          · skip
            refine lv_iinc (v := (nI (a + 1))) (lv' := [(3, .int (nI (a + 1))), (7, .ref q), (0, .ref b), (1, .ref st), (2, .int (nI e0)), (4, .ref ra), (5, .int (nI 40)), (6, .int (nI k))]) hx hb dX0_countBefore_48 hl (k := 4) rfl (ah_inc _) (by decide) rfl (fun ls hl => ?_)
            refine lv_iinc (v := (nI (k + 1))) (lv' := [(6, .int (nI (k + 1))), (3, .int (nI (a + 1))), (7, .ref q), (0, .ref b), (1, .ref st), (2, .int (nI e0)), (4, .ref ra), (5, .int (nI 40))]) hx hb dX0_countBefore_51 hl (k := 7) rfl (ah_inc _) (by decide) rfl (fun ls hl => ?_)
            refine lv_goto (tgt := 16) hx hb dX0_countBefore_54 (by decide) ?_
            exact ih _ _ (by omega) (by omega) (by rw [pu_cn_t ((ah_sat_s hPk).trans hc45), ha]) _ _ hP hS ls (lv_sub hl [3, 4, 5, 1, 6, 7, 0] rfl)
  exact L16 (41) 0 0 (by omega) (by omega) rfl _ _ hP hS ls (lv_sub hl [4, 5, 6, 3, 2, 1, 0] rfl)

set_option maxHeartbeats 4000000 in
set_option maxRecDepth 100000 in
/-- endingOfSize -/
theorem c_Book_endingOfSize (l : Launch) (A : Nat → Prop) (D : ah_G) (F : ah_F) {b ra : Nat} {rf : Nat → Option Nat} {P : ah_Pt} {n pr : Nat} (hbk : F b = some (.inr (0, [.ref ra, .int (nI n), .int (nI pr)]))) (hra : F ra = some (ah_aq D 40 rf)) (hrows : ah_rows F rf P) {st la : Nat} {lf : Nat → Int64} {S : List Nat} (hst : F st = some (.inr (3, [.ref la, .int (nI S.length)]))) (hla : F la = some (ah_al D 201 lf)) (hstr : ah_str lf S) {z : Nat} (hz : z < 2 ^ 31) : Met l yX0_endingOfSize (Cond.code yX0_endingOfSize cX0_endingOfSize 7 (some (.object "Ahoarch$Pattern")) :: ah_T) { frames := 2, cells := 0, slots := 0, locals := 44 } (va_Pc [.ref b, .ref st, .int (nI z)] (ah_B A D F)) (ah_Qq A D (fun (r : Option Nat) F1 => F = F1 ∧ (ah_es P S z).bind rf = r)) 0 0 A := by
  refine ah_met (own := "Ahoarch$Book") (by decide) rfl (Nat.le_of_ble_eq_true rfl) ?_
  intro p e s m below meth c ls E hr hini hl hP hS Q hQ
  have hx := E.1
  have hb := E.2.1
  have hl : lv_has ls 7 [(0, .ref b), (1, .ref st), (2, .int (nI z))] := hl
  obtain ⟨hS1, hS2, hS3⟩ := id hstr
  refine lv_aload_n hx hb dX0_endingOfSize_0 rfl (lv_at hl 0 rfl) ?_
  refine gf_Book_11 E hP hbk rfl dX0_endingOfSize_1 ?_
  refine lv_astore_n (lv' := [(3, .ref ra), (0, .ref b), (1, .ref st), (2, .int (nI z))]) hx hb dX0_endingOfSize_4 rfl hl (by decide) rfl (fun ls hl => ?_)
  refine lv_aload_n hx hb dX0_endingOfSize_5 rfl (lv_at hl 0 rfl) ?_
  refine ah_len E hP hra 4 rfl dX0_endingOfSize_6 ?_
  refine lv_istore (lv' := [(4, .int (nI 40)), (3, .ref ra), (0, .ref b), (1, .ref st), (2, .int (nI z))]) hx hb dX0_endingOfSize_7 hl (by decide) rfl (fun ls hl => ?_)
  refine lv_iconst (v := (nI 0)) hx hb dX0_endingOfSize_9 (by decide) ?_
  refine lv_istore (lv' := [(5, .int (nI 0)), (4, .int (nI 40)), (3, .ref ra), (0, .ref b), (1, .ref st), (2, .int (nI z))]) hx hb dX0_endingOfSize_10 hl (by decide) rfl (fun ls hl => ?_)
  have L12 : ∀ (n : Nat), ∀ (k : Nat), 40 - k < n → k ≤ 40 → ah_fst (ah_sat P (fun w => decide (w.length = z) && ah_en S S.length w)) k = none → ∀ (H : Heap) (locs : List Loc), ah_K A D F H → va_S A s.heap H locs → ∀ (ls : Array Slot), lv_has ls 7 [(0, .ref b), (1, .ref st), (2, .int (nI z)), (3, .ref ra), (4, .int (nI 40)), (5, .int (nI k))] → W p l e { frames := 2, cells := 0, slots := 0, locals := 44 } s m [.ref b, .ref st, .int (nI z)].toArray below meth c H locs 0 0 Q (F0 m 12 ls []) := by
    intro n
    induction n with
    | zero =>
      intro k hm
      exact absurd hm (Nat.not_lt_zero _)
    | succ n ih =>
      intro k hm hk ha H locs hP hS ls hl
      refine lv_iload hx hb dX0_endingOfSize_12 (lv_at hl 5 rfl) ?_
      refine lv_iload hx hb dX0_endingOfSize_14 (lv_at hl 4 rfl) ?_
      refine ah_icmp_ge (tgt := 67) hx hb (by omega) (by omega) dX0_endingOfSize_16 (by decide) (fun hc16 => ?_) (fun hc16 => ?_)
      · skip
        refine lv_null hx hb dX0_endingOfSize_67 ?_
        rw [hQ]
        exact ah_qret (v := none) E hr hP hS ⟨rfl, by rw [ah_es, show 40 = k by omega, ha]; rfl⟩ (Nat.le_of_ble_eq_true rfl) (Nat.le_of_ble_eq_true rfl) dX0_endingOfSize_68
      · skip
        refine lv_aload_n hx hb dX0_endingOfSize_19 rfl (lv_at hl 3 rfl) ?_
        refine lv_iload hx hb dX0_endingOfSize_20 (lv_at hl 5 rfl) ?_
        refine ah_qald E hP hra (by omega) (by omega) dX0_endingOfSize_22 ?_
        cases hq : rf k with
        | none =>
          have hPk := hrows.n (i := k) (by omega) hq
          refine lv_astoreN (lv' := [(6, .null), (0, .ref b), (1, .ref st), (2, .int (nI z)), (3, .ref ra), (4, .int (nI 40)), (5, .int (nI k))]) hx hb dX0_endingOfSize_23 hl (by decide) rfl (fun ls hl => ?_)
          refine lv_aloadN hx hb dX0_endingOfSize_25 (lv_at hl 0 rfl) ?_
          refine lv_ifnullN (tgt := 61) hx hb dX0_endingOfSize_27 (by decide) ?_
          refine lv_iinc (v := (nI (k + 1))) (lv' := [(5, .int (nI (k + 1))), (6, .null), (0, .ref b), (1, .ref st), (2, .int (nI z)), (3, .ref ra), (4, .int (nI 40))]) hx hb dX0_endingOfSize_61 hl (k := 6) rfl (ah_inc _) (by decide) rfl (fun ls hl => ?_)
          refine lv_goto (tgt := 12) hx hb dX0_endingOfSize_64 (by decide) ?_
          exact ih _ (by omega) (by omega) (ah_fst_0 ha (ah_sat_n hPk)) _ _ hP hS ls (lv_sub hl [2, 3, 4, 5, 6, 0] rfl)
        | some q =>
          obtain ⟨w, r, lw, lr, hPk, hqo, hlw, hlr, hok, hokr, hne⟩ := hrows.s (i := k) (by omega) hq
          have hwl := hok.1
          refine lv_astore (lv' := [(6, .ref q), (0, .ref b), (1, .ref st), (2, .int (nI z)), (3, .ref ra), (4, .int (nI 40)), (5, .int (nI k))]) hx hb dX0_endingOfSize_23 hl (by decide) rfl (fun ls hl => ?_)
          refine lv_aload hx hb dX0_endingOfSize_25 (lv_at hl 0 rfl) ?_
          refine lv_ifnull hx hb dX0_endingOfSize_27 ?_
          refine lv_aload hx hb dX0_endingOfSize_30 (lv_at hl 0 rfl) ?_
          refine gf_Book_24 E hP hqo rfl dX0_endingOfSize_32 ?_
          refine gf_Book_44 E hP hlw rfl dX0_endingOfSize_35 ?_
          refine lv_iload_n hx hb dX0_endingOfSize_38 rfl (lv_at hl 3 rfl) ?_
          refine ah_icmp_ne (tgt := 61) hx hb (by omega) (by omega) dX0_endingOfSize_39 (by decide) (fun hc39 => ?_) (fun hc39 => ?_)
          · skip
            refine lv_iinc (v := (nI (k + 1))) (lv' := [(5, .int (nI (k + 1))), (6, .ref q), (0, .ref b), (1, .ref st), (2, .int (nI z)), (3, .ref ra), (4, .int (nI 40))]) hx hb dX0_endingOfSize_61 hl (k := 6) rfl (ah_inc _) (by decide) rfl (fun ls hl => ?_)
            refine lv_goto (tgt := 12) hx hb dX0_endingOfSize_64 (by decide) ?_
            exact ih _ (by omega) (by omega) (ah_fst_0 ha (by rw [ah_sat_s hPk]; simp [hc39])) _ _ hP hS ls (lv_sub hl [2, 3, 4, 5, 6, 0] rfl)
          · skip
            refine lv_aload_n hx hb dX0_endingOfSize_42 rfl (lv_at hl 2 rfl) ?_
            refine lv_aload_n hx hb dX0_endingOfSize_43 rfl (lv_at hl 2 rfl) ?_
            refine gf_Book_90 E hP hst rfl dX0_endingOfSize_44 ?_
            refine lv_aload hx hb dX0_endingOfSize_47 (lv_at hl 0 rfl) ?_
            refine gf_Book_24 E hP hqo rfl dX0_endingOfSize_49 ?_
            refine ah_calli (ah_runV E hP hS (As := [.int (nI S.length), .ref lw]) (rest := []) (b := st) (c_Stream_holdsBefore l A D _ hst hla hstr hlw hok (Nat.le_refl _)) lk_Book_80 li_Book_80 hst rfl ⟨rfl, rfl, (Nat.le_of_ble_eq_true rfl), (Nat.le_of_ble_eq_true rfl)⟩ rfl hl.1 rfl (Nat.le_of_ble_eq_true rfl) dX0_endingOfSize_52 ⟨(Nat.le_of_ble_eq_true rfl), (Nat.le_of_ble_eq_true rfl)⟩) hS (fun r F1 H locs hq hP hS => ?_)
            obtain ⟨rfl, rfl⟩ := hq
            refine ah_ifb_eq (tgt := 61) hx hb dX0_endingOfSize_55 (by decide) (fun hc55 => ?_) (fun hc55 => ?_)
            · skip
              refine lv_iinc (v := (nI (k + 1))) (lv' := [(5, .int (nI (k + 1))), (6, .ref q), (0, .ref b), (1, .ref st), (2, .int (nI z)), (3, .ref ra), (4, .int (nI 40))]) hx hb dX0_endingOfSize_61 hl (k := 6) rfl (ah_inc _) (by decide) rfl (fun ls hl => ?_)
              refine lv_goto (tgt := 12) hx hb dX0_endingOfSize_64 (by decide) ?_
              exact ih _ (by omega) (by omega) (ah_fst_0 ha (by rw [ah_sat_s hPk]; simp [hc55])) _ _ hP hS ls (lv_sub hl [2, 3, 4, 5, 6, 0] rfl)
            · skip
              refine lv_aload hx hb dX0_endingOfSize_58 (lv_at hl 0 rfl) ?_
              rw [hQ]
              exact ah_qret (v := some q) E hr hP hS ⟨rfl, by rw [ah_es, ah_fst_hit (k := k) (by omega) (by rw [ah_sat_s hPk]; simp [hc39, hc55]) ha]; exact hq⟩ (Nat.le_of_ble_eq_true rfl) (Nat.le_of_ble_eq_true rfl) dX0_endingOfSize_60
  exact L12 (41) 0 (by omega) (by omega) rfl _ _ hP hS ls (lv_sub hl [3, 4, 5, 2, 1, 0] rfl)

set_option maxHeartbeats 4000000 in
set_option maxRecDepth 100000 in
/-- endingAt -/
theorem c_Book_endingAt (l : Launch) (A : Nat → Prop) (D : ah_G) (F : ah_F) {b ra : Nat} {rf : Nat → Option Nat} {P : ah_Pt} {n pr : Nat} (hbk : F b = some (.inr (0, [.ref ra, .int (nI n), .int (nI pr)]))) (hra : F ra = some (ah_aq D 40 rf)) (hrows : ah_rows F rf P) {st la : Nat} {lf : Nat → Int64} {S : List Nat} (hst : F st = some (.inr (3, [.ref la, .int (nI S.length)]))) (hla : F la = some (ah_al D 201 lf)) (hstr : ah_str lf S) {x : Int32} : Met l yX0_endingAt (Cond.code yX0_endingAt cX0_endingAt 6 (some (.object "Ahoarch$Pattern")) :: ah_T) { frames := 3, cells := 0, slots := 0, locals := 70 } (va_Pc [.ref b, .ref st, .int x] (ah_B A D F)) (ah_Qq A D (fun (r : Option Nat) F1 => F = F1 ∧ (ah_kt (fun j => (ah_es P S (8 - j)).isSome) 8 x).bind (fun j => (ah_es P S (8 - j)).bind rf) = r)) 0 0 A := by
  refine ah_met (own := "Ahoarch$Book") (by decide) rfl (Nat.le_of_ble_eq_true rfl) ?_
  intro p e s m below meth c ls E hr hini hl hP hS Q hQ
  have hx := E.1
  have hb := E.2.1
  have hl : lv_has ls 6 [(0, .ref b), (1, .ref st), (2, .int x)] := hl
  obtain ⟨hS1, hS2, hS3⟩ := id hstr
  refine lv_iconst (v := (nI 0)) hx hb dX0_endingAt_0 (by decide) ?_
  refine lv_istore_n (lv' := [(3, .int (nI 0)), (0, .ref b), (1, .ref st), (2, .int x)]) hx hb dX0_endingAt_1 rfl hl (by decide) rfl (fun ls hl => ?_)
  refine lv_bipush (v := (nI 8)) hx hb dX0_endingAt_2 (by decide) ?_
  refine lv_istore (lv' := [(4, .int (nI 8)), (3, .int (nI 0)), (0, .ref b), (1, .ref st), (2, .int x)]) hx hb dX0_endingAt_4 hl (by decide) rfl (fun ls hl => ?_)
  have L6 : ∀ (n : Nat), ∀ (j a c0 : Nat), c0 < n → c0 + j = 8 → a = pu_cn (fun j => (ah_es P S (8 - j)).isSome) j → ah_kt (fun j => (ah_es P S (8 - j)).isSome) j x = none → ∀ (H : Heap) (locs : List Loc), ah_K A D F H → va_S A s.heap H locs → ∀ (ls : Array Slot), lv_has ls 6 [(0, .ref b), (1, .ref st), (2, .int x), (3, .int (nI a)), (4, .int (nI c0))] → W p l e { frames := 3, cells := 0, slots := 0, locals := 70 } s m [.ref b, .ref st, .int x].toArray below meth c H locs 0 0 Q (F0 m 6 ls []) := by
    intro n
    induction n with
    | zero =>
      intro j a c0 hm
      exact absurd hm (Nat.not_lt_zero _)
    | succ n ih =>
      intro j a c0 hm hk ha hf H locs hP hS ls hl
      have hb2 := pu_cn_le (fun j => (ah_es P S (8 - j)).isSome) j
      refine lv_iload hx hb dX0_endingAt_6 (lv_at hl 4 rfl) ?_
      refine ah_if_le (tgt := 42) hx hb (by omega) dX0_endingAt_8 (by decide) (fun hc8 => ?_) (fun hc8 => ?_)
      · skip
        have e8 : j = 8 := by omega
        subst e8
        refine lv_null hx hb dX0_endingAt_42 ?_
        rw [hQ]
        exact ah_qret (v := none) E hr hP hS ⟨rfl, by rw [hf]; rfl⟩ (Nat.le_of_ble_eq_true rfl) (Nat.le_of_ble_eq_true rfl) dX0_endingAt_43
      · skip
        refine lv_aload_n hx hb dX0_endingAt_11 rfl (lv_at hl 0 rfl) ?_
        refine lv_aload_n hx hb dX0_endingAt_12 rfl (lv_at hl 1 rfl) ?_
        refine lv_iload hx hb dX0_endingAt_13 (lv_at hl 4 rfl) ?_
        refine ah_callq (ah_runV E hP hS (As := [.ref st, .int (nI c0)]) (rest := []) (b := b) (c_Book_endingOfSize l A D _ hbk hra hrows hst hla hstr (z := c0) (by omega)) lk_Book_86 li_Book_86 hbk rfl ⟨rfl, rfl, (Nat.le_of_ble_eq_true rfl), (Nat.le_of_ble_eq_true rfl)⟩ rfl hl.1 rfl (Nat.le_of_ble_eq_true rfl) dX0_endingAt_15 ⟨(Nat.le_of_ble_eq_true rfl), (Nat.le_of_ble_eq_true rfl)⟩) hS (fun r F1 H locs hq hP hS => ?_)
        obtain ⟨rfl, rfl⟩ := hq
        cases hq2 : (ah_es P S c0).bind rf with
        | none =>
          have hes : (ah_es P S (8 - j)).isSome = false := by rw [show 8 - j = c0 by omega, show ah_es P S c0 = none from ah_fst_bn hrows (Nat.le_refl _) hq2]; rfl
          refine lv_astoreN (lv' := [(5, .null), (0, .ref b), (1, .ref st), (2, .int x), (3, .int (nI a)), (4, .int (nI c0))]) hx hb dX0_endingAt_18 hl (by decide) rfl (fun ls hl => ?_)
          refine lv_aloadN hx hb dX0_endingAt_20 (lv_at hl 0 rfl) ?_
          refine lv_ifnullN (tgt := 36) hx hb dX0_endingAt_22 (by decide) ?_
          refine lv_iinc (v := (nI (c0 - 1))) (lv' := [(4, .int (nI (c0 - 1))), (5, .null), (0, .ref b), (1, .ref st), (2, .int x), (3, .int (nI a))]) hx hb dX0_endingAt_36 hl (k := 5) rfl (ah_dec (by omega)) (by decide) rfl (fun ls hl => ?_)
          refine lv_goto (tgt := 6) hx hb dX0_endingAt_39 (by decide) ?_
          exact ih (j + 1) _ _ (by omega) (by omega) (by rw [pu_cn_f hes]; exact ha) (ah_kt_f hf hes) _ _ hP hS ls (lv_sub hl [2, 3, 4, 5, 0] rfl)
        | some q =>
          have hes : (ah_es P S (8 - j)).isSome = true := by
            rw [show 8 - j = c0 by omega]
            cases hz : ah_es P S c0 with
            | none => rw [hz] at hq2; cases hq2
            | some i => rfl
          refine lv_astore (lv' := [(5, .ref q), (0, .ref b), (1, .ref st), (2, .int x), (3, .int (nI a)), (4, .int (nI c0))]) hx hb dX0_endingAt_18 hl (by decide) rfl (fun ls hl => ?_)
          refine lv_aload hx hb dX0_endingAt_20 (lv_at hl 0 rfl) ?_
          refine lv_ifnull hx hb dX0_endingAt_22 ?_
          refine lv_iload_n hx hb dX0_endingAt_25 rfl (lv_at hl 4 rfl) ?_
          refine lv_iload_n hx hb dX0_endingAt_26 rfl (lv_at hl 3 rfl) ?_
          refine lv_icmp_ne (tgt := 33) hx hb dX0_endingAt_27 (by decide) (fun hc27 => ?_) (fun hc27 => ?_)
          · skip
            refine lv_iinc (v := (nI (a + 1))) (lv' := [(3, .int (nI (a + 1))), (5, .ref q), (0, .ref b), (1, .ref st), (2, .int x), (4, .int (nI c0))]) hx hb dX0_endingAt_33 hl (k := 4) rfl (ah_inc _) (by decide) rfl (fun ls hl => ?_)
            refine lv_iinc (v := (nI (c0 - 1))) (lv' := [(4, .int (nI (c0 - 1))), (3, .int (nI (a + 1))), (5, .ref q), (0, .ref b), (1, .ref st), (2, .int x)]) hx hb dX0_endingAt_36 hl (k := 5) rfl (ah_dec (by omega)) (by decide) rfl (fun ls hl => ?_)
            refine lv_goto (tgt := 6) hx hb dX0_endingAt_39 (by decide) ?_
            exact ih (j + 1) _ _ (by omega) (by omega) (by rw [pu_cn_t hes, ha]) (ah_kt_s hf (by rw [← ha]; exact hc27)) _ _ hP hS ls (lv_sub hl [3, 4, 5, 1, 0] rfl)
          · skip
            refine lv_aload hx hb dX0_endingAt_30 (lv_at hl 0 rfl) ?_
            rw [hQ]
            exact ah_qret (v := some q) E hr hP hS ⟨rfl, by rw [ah_kt_hit (k := j) (by omega) hes (by rw [← ha]; exact hc27) hf]; show (ah_es P S (8 - j)).bind rf = _; rw [show 8 - j = c0 by omega]; exact hq2⟩ (Nat.le_of_ble_eq_true rfl) (Nat.le_of_ble_eq_true rfl) dX0_endingAt_32
  exact L6 (9) 0 0 8 (by omega) rfl rfl rfl _ _ hP hS ls (lv_sub hl [2, 3, 4, 1, 0] rfl)

set_option maxHeartbeats 4000000 in
set_option maxRecDepth 100000 in
/-- firstAt -/
theorem c_Book_firstAt (l : Launch) (A : Nat → Prop) (D : ah_G) (F : ah_F) {b ra : Nat} {rf : Nat → Option Nat} {P : ah_Pt} {n pr : Nat} (hbk : F b = some (.inr (0, [.ref ra, .int (nI n), .int (nI pr)]))) (hra : F ra = some (ah_aq D 40 rf)) (hrows : ah_rows F rf P) {st la : Nat} {lf : Nat → Int64} {S : List Nat} (hst : F st = some (.inr (3, [.ref la, .int (nI S.length)]))) (hla : F la = some (ah_al D 201 lf)) (hstr : ah_str lf S) {i : Nat} (hi : i < 2 ^ 30) : Met l yX0_firstAt (Cond.code yX0_firstAt cX0_firstAt 7 (some (.object "Ahoarch$Pattern")) :: ah_T) { frames := 2, cells := 0, slots := 0, locals := 44 } (va_Pc [.ref b, .ref st, .int (nI i)] (ah_B A D F)) (ah_Qq A D (fun (r : Option Nat) F1 => F = F1 ∧ (ah_fst (ah_sat P (fun w => ah_at S i w)) 40).bind rf = r)) 0 0 A := by
  refine ah_met (own := "Ahoarch$Book") (by decide) rfl (Nat.le_of_ble_eq_true rfl) ?_
  intro p e s m below meth c ls E hr hini hl hP hS Q hQ
  have hx := E.1
  have hb := E.2.1
  have hl : lv_has ls 7 [(0, .ref b), (1, .ref st), (2, .int (nI i))] := hl
  obtain ⟨hS1, hS2, hS3⟩ := id hstr
  refine lv_aload_n hx hb dX0_firstAt_0 rfl (lv_at hl 0 rfl) ?_
  refine gf_Book_11 E hP hbk rfl dX0_firstAt_1 ?_
  refine lv_astore_n (lv' := [(3, .ref ra), (0, .ref b), (1, .ref st), (2, .int (nI i))]) hx hb dX0_firstAt_4 rfl hl (by decide) rfl (fun ls hl => ?_)
  refine lv_aload_n hx hb dX0_firstAt_5 rfl (lv_at hl 0 rfl) ?_
  refine ah_len E hP hra 4 rfl dX0_firstAt_6 ?_
  refine lv_istore (lv' := [(4, .int (nI 40)), (3, .ref ra), (0, .ref b), (1, .ref st), (2, .int (nI i))]) hx hb dX0_firstAt_7 hl (by decide) rfl (fun ls hl => ?_)
  refine lv_iconst (v := (nI 0)) hx hb dX0_firstAt_9 (by decide) ?_
  refine lv_istore (lv' := [(5, .int (nI 0)), (4, .int (nI 40)), (3, .ref ra), (0, .ref b), (1, .ref st), (2, .int (nI i))]) hx hb dX0_firstAt_10 hl (by decide) rfl (fun ls hl => ?_)
  have L12 : ∀ (n : Nat), ∀ (k : Nat), 40 - k < n → k ≤ 40 → ah_fst (ah_sat P (fun w => ah_at S i w)) k = none → ∀ (H : Heap) (locs : List Loc), ah_K A D F H → va_S A s.heap H locs → ∀ (ls : Array Slot), lv_has ls 7 [(0, .ref b), (1, .ref st), (2, .int (nI i)), (3, .ref ra), (4, .int (nI 40)), (5, .int (nI k))] → W p l e { frames := 2, cells := 0, slots := 0, locals := 44 } s m [.ref b, .ref st, .int (nI i)].toArray below meth c H locs 0 0 Q (F0 m 12 ls []) := by
    intro n
    induction n with
    | zero =>
      intro k hm
      exact absurd hm (Nat.not_lt_zero _)
    | succ n ih =>
      intro k hm hk ha H locs hP hS ls hl
      refine lv_iload hx hb dX0_firstAt_12 (lv_at hl 5 rfl) ?_
      refine lv_iload hx hb dX0_firstAt_14 (lv_at hl 4 rfl) ?_
      refine ah_icmp_ge (tgt := 52) hx hb (by omega) (by omega) dX0_firstAt_16 (by decide) (fun hc16 => ?_) (fun hc16 => ?_)
      · skip
        refine lv_null hx hb dX0_firstAt_52 ?_
        rw [hQ]
        exact ah_qret (v := none) E hr hP hS ⟨rfl, by rw [show 40 = k by omega, ha]; rfl⟩ (Nat.le_of_ble_eq_true rfl) (Nat.le_of_ble_eq_true rfl) dX0_firstAt_53
      · skip
        refine lv_aload_n hx hb dX0_firstAt_19 rfl (lv_at hl 3 rfl) ?_
        refine lv_iload hx hb dX0_firstAt_20 (lv_at hl 5 rfl) ?_
        refine ah_qald E hP hra (by omega) (by omega) dX0_firstAt_22 ?_
        cases hq : rf k with
        | none =>
          have hPk := hrows.n (i := k) (by omega) hq
          refine lv_astoreN (lv' := [(6, .null), (0, .ref b), (1, .ref st), (2, .int (nI i)), (3, .ref ra), (4, .int (nI 40)), (5, .int (nI k))]) hx hb dX0_firstAt_23 hl (by decide) rfl (fun ls hl => ?_)
          refine lv_aloadN hx hb dX0_firstAt_25 (lv_at hl 0 rfl) ?_
          refine lv_ifnullN (tgt := 46) hx hb dX0_firstAt_27 (by decide) ?_
          refine lv_iinc (v := (nI (k + 1))) (lv' := [(5, .int (nI (k + 1))), (6, .null), (0, .ref b), (1, .ref st), (2, .int (nI i)), (3, .ref ra), (4, .int (nI 40))]) hx hb dX0_firstAt_46 hl (k := 6) rfl (ah_inc _) (by decide) rfl (fun ls hl => ?_)
          refine lv_goto (tgt := 12) hx hb dX0_firstAt_49 (by decide) ?_
          exact ih _ (by omega) (by omega) (ah_fst_0 ha (ah_sat_n hPk)) _ _ hP hS ls (lv_sub hl [2, 3, 4, 5, 6, 0] rfl)
        | some q =>
          obtain ⟨w, r, lw, lr, hPk, hqo, hlw, hlr, hok, hokr, hne⟩ := hrows.s (i := k) (by omega) hq
          have hwl := hok.1
          refine lv_astore (lv' := [(6, .ref q), (0, .ref b), (1, .ref st), (2, .int (nI i)), (3, .ref ra), (4, .int (nI 40)), (5, .int (nI k))]) hx hb dX0_firstAt_23 hl (by decide) rfl (fun ls hl => ?_)
          refine lv_aload hx hb dX0_firstAt_25 (lv_at hl 0 rfl) ?_
          refine lv_ifnull hx hb dX0_firstAt_27 ?_
          refine lv_aload_n hx hb dX0_firstAt_30 rfl (lv_at hl 2 rfl) ?_
          refine lv_iload_n hx hb dX0_firstAt_31 rfl (lv_at hl 3 rfl) ?_
          refine lv_aload hx hb dX0_firstAt_32 (lv_at hl 0 rfl) ?_
          refine gf_Book_24 E hP hqo rfl dX0_firstAt_34 ?_
          refine ah_calli (ah_runV E hP hS (As := [.int (nI i), .ref lw]) (rest := []) (b := st) (c_Stream_holdsAt l A D _ hst hla hstr hlw hok hi hne) lk_Book_91 li_Book_91 hst rfl ⟨rfl, rfl, (Nat.le_of_ble_eq_true rfl), (Nat.le_of_ble_eq_true rfl)⟩ rfl hl.1 rfl (Nat.le_of_ble_eq_true rfl) dX0_firstAt_37 ⟨(Nat.le_of_ble_eq_true rfl), (Nat.le_of_ble_eq_true rfl)⟩) hS (fun r F1 H locs hq hP hS => ?_)
          obtain ⟨rfl, rfl⟩ := hq
          refine ah_ifb_eq (tgt := 46) hx hb dX0_firstAt_40 (by decide) (fun hc40 => ?_) (fun hc40 => ?_)
          · skip
            refine lv_iinc (v := (nI (k + 1))) (lv' := [(5, .int (nI (k + 1))), (6, .ref q), (0, .ref b), (1, .ref st), (2, .int (nI i)), (3, .ref ra), (4, .int (nI 40))]) hx hb dX0_firstAt_46 hl (k := 6) rfl (ah_inc _) (by decide) rfl (fun ls hl => ?_)
            refine lv_goto (tgt := 12) hx hb dX0_firstAt_49 (by decide) ?_
            exact ih _ (by omega) (by omega) (ah_fst_0 ha ((ah_sat_s hPk).trans hc40)) _ _ hP hS ls (lv_sub hl [2, 3, 4, 5, 6, 0] rfl)
          · skip
            refine lv_aload hx hb dX0_firstAt_43 (lv_at hl 0 rfl) ?_
            rw [hQ]
            exact ah_qret (v := some q) E hr hP hS ⟨rfl, by rw [ah_fst_hit (k := k) (by omega) ((ah_sat_s hPk).trans hc40) ha]; exact hq⟩ (Nat.le_of_ble_eq_true rfl) (Nat.le_of_ble_eq_true rfl) dX0_firstAt_45
  exact L12 (41) 0 (by omega) (by omega) rfl _ _ hP hS ls (lv_sub hl [3, 4, 5, 2, 1, 0] rfl)

set_option maxHeartbeats 4000000 in
set_option maxRecDepth 100000 in
/-- longestAt -/
theorem c_Book_longestAt (l : Launch) (A : Nat → Prop) (D : ah_G) (F : ah_F) {b ra : Nat} {rf : Nat → Option Nat} {P : ah_Pt} {n pr : Nat} (hbk : F b = some (.inr (0, [.ref ra, .int (nI n), .int (nI pr)]))) (hra : F ra = some (ah_aq D 40 rf)) (hrows : ah_rows F rf P) {st la : Nat} {lf : Nat → Int64} {S : List Nat} (hst : F st = some (.inr (3, [.ref la, .int (nI S.length)]))) (hla : F la = some (ah_al D 201 lf)) (hstr : ah_str lf S) {i : Nat} (hi : i < 2 ^ 30) : Met l yX0_longestAt (Cond.code yX0_longestAt cX0_longestAt 8 (some (.object "Ahoarch$Pattern")) :: ah_T) { frames := 2, cells := 0, slots := 0, locals := 44 } (va_Pc [.ref b, .ref st, .int (nI i)] (ah_B A D F)) (ah_Qq A D (fun (r : Option Nat) F1 => F = F1 ∧ (ah_best P (fun w => ah_at S i w) 40).bind rf = r)) 0 0 A := by
  refine ah_met (own := "Ahoarch$Book") (by decide) rfl (Nat.le_of_ble_eq_true rfl) ?_
  intro p e s m below meth c ls E hr hini hl hP hS Q hQ
  have hx := E.1
  have hb := E.2.1
  have hl : lv_has ls 8 [(0, .ref b), (1, .ref st), (2, .int (nI i))] := hl
  obtain ⟨hS1, hS2, hS3⟩ := id hstr
  refine lv_null hx hb dX0_longestAt_0 ?_
  refine lv_astore_nN (lv' := [(3, .null), (0, .ref b), (1, .ref st), (2, .int (nI i))]) hx hb dX0_longestAt_1 rfl hl (by decide) rfl (fun ls hl => ?_)
  refine lv_aload_n hx hb dX0_longestAt_2 rfl (lv_at hl 1 rfl) ?_
  refine gf_Book_11 E hP hbk rfl dX0_longestAt_3 ?_
  refine lv_astore (lv' := [(4, .ref ra), (3, .null), (0, .ref b), (1, .ref st), (2, .int (nI i))]) hx hb dX0_longestAt_6 hl (by decide) rfl (fun ls hl => ?_)
  refine lv_aload hx hb dX0_longestAt_8 (lv_at hl 0 rfl) ?_
  refine ah_len E hP hra 4 rfl dX0_longestAt_10 ?_
  refine lv_istore (lv' := [(5, .int (nI 40)), (4, .ref ra), (3, .null), (0, .ref b), (1, .ref st), (2, .int (nI i))]) hx hb dX0_longestAt_11 hl (by decide) rfl (fun ls hl => ?_)
  refine lv_iconst (v := (nI 0)) hx hb dX0_longestAt_13 (by decide) ?_
  refine lv_istore (lv' := [(6, .int (nI 0)), (5, .int (nI 40)), (4, .ref ra), (3, .null), (0, .ref b), (1, .ref st), (2, .int (nI i))]) hx hb dX0_longestAt_14 hl (by decide) rfl (fun ls hl => ?_)
  have L16 : ∀ (n : Nat), ∀ (k : Nat) (bst : Option Nat), 40 - k < n → k ≤ 40 → bst = (ah_best P (fun w => ah_at S i w) k).bind rf → ∀ (H : Heap) (locs : List Loc), ah_K A D F H → va_S A s.heap H locs → ∀ (ls : Array Slot), lv_has ls 8 [(0, .ref b), (1, .ref st), (2, .int (nI i)), (3, va_rf bst), (4, .ref ra), (5, .int (nI 40)), (6, .int (nI k))] → W p l e { frames := 2, cells := 0, slots := 0, locals := 44 } s m [.ref b, .ref st, .int (nI i)].toArray below meth c H locs 0 0 Q (F0 m 16 ls []) := by
    intro n
    induction n with
    | zero =>
      intro k bst hm
      exact absurd hm (Nat.not_lt_zero _)
    | succ n ih =>
      intro k bst hm hk hbst H locs hP hS ls hl
      refine lv_iload hx hb dX0_longestAt_16 (lv_at hl 6 rfl) ?_
      refine lv_iload hx hb dX0_longestAt_18 (lv_at hl 5 rfl) ?_
      refine ah_icmp_ge (tgt := 79) hx hb (by omega) (by omega) dX0_longestAt_20 (by decide) (fun hc20 => ?_) (fun hc20 => ?_)
      · skip
        cases bst with
        | none =>
          refine lv_aload_nN hx hb dX0_longestAt_79 rfl (lv_at hl 3 rfl) ?_
          rw [hQ]
          exact ah_qret (v := none) E hr hP hS ⟨rfl, by rw [show 40 = k by omega]; exact hbst.symm⟩ (Nat.le_of_ble_eq_true rfl) (Nat.le_of_ble_eq_true rfl) dX0_longestAt_80
        | some b0 =>
          refine lv_aload_n hx hb dX0_longestAt_79 rfl (lv_at hl 3 rfl) ?_
          rw [hQ]
          exact ah_qret (v := some b0) E hr hP hS ⟨rfl, by rw [show 40 = k by omega]; exact hbst.symm⟩ (Nat.le_of_ble_eq_true rfl) (Nat.le_of_ble_eq_true rfl) dX0_longestAt_80
      · skip
        refine lv_aload hx hb dX0_longestAt_23 (lv_at hl 4 rfl) ?_
        refine lv_iload hx hb dX0_longestAt_25 (lv_at hl 6 rfl) ?_
        refine ah_qald E hP hra (by omega) (by omega) dX0_longestAt_27 ?_
        cases hq : rf k with
        | none =>
          have hPk := hrows.n (i := k) (by omega) hq
          refine lv_astoreN (lv' := [(7, .null), (0, .ref b), (1, .ref st), (2, .int (nI i)), (3, va_rf bst), (4, .ref ra), (5, .int (nI 40)), (6, .int (nI k))]) hx hb dX0_longestAt_28 hl (by decide) rfl (fun ls hl => ?_)
          refine lv_aloadN hx hb dX0_longestAt_30 (lv_at hl 0 rfl) ?_
          refine lv_ifnullN (tgt := 73) hx hb dX0_longestAt_32 (by decide) ?_
          refine lv_iinc (v := (nI (k + 1))) (lv' := [(6, .int (nI (k + 1))), (7, .null), (0, .ref b), (1, .ref st), (2, .int (nI i)), (3, va_rf bst), (4, .ref ra), (5, .int (nI 40))]) hx hb dX0_longestAt_73 hl (k := 7) rfl (ah_inc _) (by decide) rfl (fun ls hl => ?_)
          refine lv_goto (tgt := 16) hx hb dX0_longestAt_76 (by decide) ?_
          exact ih _ bst (by omega) (by omega) (by rw [ah_best_f (ah_sat_n hPk)]; exact hbst) _ _ hP hS ls (lv_sub hl [2, 3, 4, 5, 6, 7, 0] rfl)
        | some q =>
          obtain ⟨w, r, lw, lr, hPk, hqo, hlw, hlr, hok, hokr, hne⟩ := hrows.s (i := k) (by omega) hq
          have hwl := hok.1
          refine lv_astore (lv' := [(7, .ref q), (0, .ref b), (1, .ref st), (2, .int (nI i)), (3, va_rf bst), (4, .ref ra), (5, .int (nI 40)), (6, .int (nI k))]) hx hb dX0_longestAt_28 hl (by decide) rfl (fun ls hl => ?_)
          refine lv_aload hx hb dX0_longestAt_30 (lv_at hl 0 rfl) ?_
          refine lv_ifnull hx hb dX0_longestAt_32 ?_
          refine lv_aload_n hx hb dX0_longestAt_35 rfl (lv_at hl 2 rfl) ?_
          refine lv_iload_n hx hb dX0_longestAt_36 rfl (lv_at hl 3 rfl) ?_
          refine lv_aload hx hb dX0_longestAt_37 (lv_at hl 0 rfl) ?_
          refine gf_Book_24 E hP hqo rfl dX0_longestAt_39 ?_
          refine ah_calli (ah_runV E hP hS (As := [.int (nI i), .ref lw]) (rest := []) (b := st) (c_Stream_holdsAt l A D _ hst hla hstr hlw hok hi hne) lk_Book_91 li_Book_91 hst rfl ⟨rfl, rfl, (Nat.le_of_ble_eq_true rfl), (Nat.le_of_ble_eq_true rfl)⟩ rfl hl.1 rfl (Nat.le_of_ble_eq_true rfl) dX0_longestAt_42 ⟨(Nat.le_of_ble_eq_true rfl), (Nat.le_of_ble_eq_true rfl)⟩) hS (fun r F1 H locs hq hP hS => ?_)
          obtain ⟨rfl, rfl⟩ := hq
          refine ah_ifb_eq (tgt := 73) hx hb dX0_longestAt_45 (by decide) (fun hc45 => ?_) (fun hc45 => ?_)
          · skip
            have hsat := (ah_sat_s (f := (fun w => ah_at S i w)) hPk).trans hc45
            refine lv_iinc (v := (nI (k + 1))) (lv' := [(6, .int (nI (k + 1))), (7, .ref q), (0, .ref b), (1, .ref st), (2, .int (nI i)), (3, va_rf bst), (4, .ref ra), (5, .int (nI 40))]) hx hb dX0_longestAt_73 hl (k := 7) rfl (ah_inc _) (by decide) rfl (fun ls hl => ?_)
            refine lv_goto (tgt := 16) hx hb dX0_longestAt_76 (by decide) ?_
            exact ih _ bst (by omega) (by omega) (by rw [ah_best_f hsat]; exact hbst) _ _ hP hS ls (lv_sub hl [2, 3, 4, 5, 6, 7, 0] rfl)
          · skip
            have hsat := (ah_sat_s (f := (fun w => ah_at S i w)) hPk).trans hc45
            cases bst with
            | none =>
              have hb0 := ah_best_bn hrows (by omega) hbst
              refine lv_aload_nN hx hb dX0_longestAt_48 rfl (lv_at hl 4 rfl) ?_
              refine lv_ifnullN (tgt := 70) hx hb dX0_longestAt_49 (by decide) ?_
              refine lv_aload hx hb dX0_longestAt_70 (lv_at hl 0 rfl) ?_
              refine lv_astore_n (lv' := [(3, .ref q), (7, .ref q), (0, .ref b), (1, .ref st), (2, .int (nI i)), (4, .ref ra), (5, .int (nI 40)), (6, .int (nI k))]) hx hb dX0_longestAt_72 rfl hl (by decide) rfl (fun ls hl => ?_)
              refine lv_iinc (v := (nI (k + 1))) (lv' := [(6, .int (nI (k + 1))), (3, .ref q), (7, .ref q), (0, .ref b), (1, .ref st), (2, .int (nI i)), (4, .ref ra), (5, .int (nI 40))]) hx hb dX0_longestAt_73 hl (k := 7) rfl (ah_inc _) (by decide) rfl (fun ls hl => ?_)
              refine lv_goto (tgt := 16) hx hb dX0_longestAt_76 (by decide) ?_
              exact ih _ (some q) (by omega) (by omega) (by rw [ah_best_0 hsat hb0]; exact hq.symm) _ _ hP hS ls (lv_sub hl [3, 4, 5, 1, 6, 7, 0] rfl)
            | some b0 =>
              obtain ⟨j, w0, r0, lw0, lr0, hbj, hj, hrj, hPj, hbo, hlw0, hlr0, hok0, hokr0, hne0, hf0⟩ := ah_best_bs hrows (by omega) hbst
              have hwl0 := hok0.1
              refine lv_aload_n hx hb dX0_longestAt_48 rfl (lv_at hl 4 rfl) ?_
              refine lv_ifnull hx hb dX0_longestAt_49 ?_
              refine lv_aload hx hb dX0_longestAt_52 (lv_at hl 0 rfl) ?_
              refine gf_Book_24 E hP hqo rfl dX0_longestAt_54 ?_
              refine gf_Book_44 E hP hlw rfl dX0_longestAt_57 ?_
              refine lv_aload_n hx hb dX0_longestAt_60 rfl (lv_at hl 4 rfl) ?_
              refine gf_Book_24 E hP hbo rfl dX0_longestAt_61 ?_
              refine gf_Book_44 E hP hlw0 rfl dX0_longestAt_64 ?_
              refine ah_icmp_le (tgt := 73) hx hb (by omega) (by omega) dX0_longestAt_67 (by decide) (fun hc67 => ?_) (fun hc67 => ?_)
              · skip
                refine lv_iinc (v := (nI (k + 1))) (lv' := [(6, .int (nI (k + 1))), (7, .ref q), (0, .ref b), (1, .ref st), (2, .int (nI i)), (3, .ref b0), (4, .ref ra), (5, .int (nI 40))]) hx hb dX0_longestAt_73 hl (k := 7) rfl (ah_inc _) (by decide) rfl (fun ls hl => ?_)
                refine lv_goto (tgt := 16) hx hb dX0_longestAt_76 (by decide) ?_
                exact ih _ (some b0) (by omega) (by omega) (by rw [ah_best_k hsat hbj (by rw [ah_w_s hPj, ah_w_s hPk]; exact hc67)]; exact hrj.symm) _ _ hP hS ls (lv_sub hl [2, 3, 4, 5, 6, 7, 0] rfl)
              · skip
                refine lv_aload hx hb dX0_longestAt_70 (lv_at hl 0 rfl) ?_
                refine lv_astore_n (lv' := [(3, .ref q), (7, .ref q), (0, .ref b), (1, .ref st), (2, .int (nI i)), (4, .ref ra), (5, .int (nI 40)), (6, .int (nI k))]) hx hb dX0_longestAt_72 rfl hl (by decide) rfl (fun ls hl => ?_)
                refine lv_iinc (v := (nI (k + 1))) (lv' := [(6, .int (nI (k + 1))), (3, .ref q), (7, .ref q), (0, .ref b), (1, .ref st), (2, .int (nI i)), (4, .ref ra), (5, .int (nI 40))]) hx hb dX0_longestAt_73 hl (k := 7) rfl (ah_inc _) (by decide) rfl (fun ls hl => ?_)
                refine lv_goto (tgt := 16) hx hb dX0_longestAt_76 (by decide) ?_
                exact ih _ (some q) (by omega) (by omega) (by rw [ah_best_g hsat hbj (by rw [ah_w_s hPj, ah_w_s hPk]; exact hc67)]; exact hq.symm) _ _ hP hS ls (lv_sub hl [3, 4, 5, 1, 6, 7, 0] rfl)
  exact L16 (41) 0 none (by omega) (by omega) rfl _ _ hP hS ls (lv_sub hl [4, 5, 6, 3, 2, 1, 0] rfl)

set_option maxHeartbeats 4000000 in
set_option maxRecDepth 100000 in
/-- longestWithin -/
theorem c_Book_longestWithin (l : Launch) (A : Nat → Prop) (D : ah_G) (F : ah_F) {b ra : Nat} {rf : Nat → Option Nat} {P : ah_Pt} {n pr : Nat} (hbk : F b = some (.inr (0, [.ref ra, .int (nI n), .int (nI pr)]))) (hra : F ra = some (ah_aq D 40 rf)) (hrows : ah_rows F rf P) {st la : Nat} {lf : Nat → Int64} {S : List Nat} (hst : F st = some (.inr (3, [.ref la, .int (nI S.length)]))) (hla : F la = some (ah_al D 201 lf)) (hstr : ah_str lf S) {i e0 : Nat} (hi : i ≤ e0) (he0 : e0 ≤ S.length) : Met l yX0_longestWithin (Cond.code yX0_longestWithin cX0_longestWithin 9 (some (.object "Ahoarch$Pattern")) :: ah_T) { frames := 2, cells := 0, slots := 0, locals := 44 } (va_Pc [.ref b, .ref st, .int (nI i), .int (nI e0)] (ah_B A D F)) (ah_Qq A D (fun (r : Option Nat) F1 => F = F1 ∧ (ah_best P (fun w => decide (w.length ≤ e0 - i) && ah_en S e0 w) 40).bind rf = r)) 0 0 A := by
  refine ah_met (own := "Ahoarch$Book") (by decide) rfl (Nat.le_of_ble_eq_true rfl) ?_
  intro p e s m below meth c ls E hr hini hl hP hS Q hQ
  have hx := E.1
  have hb := E.2.1
  have hl : lv_has ls 9 [(0, .ref b), (1, .ref st), (2, .int (nI i)), (3, .int (nI e0))] := hl
  obtain ⟨hS1, hS2, hS3⟩ := id hstr
  refine lv_null hx hb dX0_longestWithin_0 ?_
  refine lv_astoreN (lv' := [(4, .null), (0, .ref b), (1, .ref st), (2, .int (nI i)), (3, .int (nI e0))]) hx hb dX0_longestWithin_1 hl (by decide) rfl (fun ls hl => ?_)
  refine lv_aload_n hx hb dX0_longestWithin_3 rfl (lv_at hl 1 rfl) ?_
  refine gf_Book_11 E hP hbk rfl dX0_longestWithin_4 ?_
  refine lv_astore (lv' := [(5, .ref ra), (4, .null), (0, .ref b), (1, .ref st), (2, .int (nI i)), (3, .int (nI e0))]) hx hb dX0_longestWithin_7 hl (by decide) rfl (fun ls hl => ?_)
  refine lv_aload hx hb dX0_longestWithin_9 (lv_at hl 0 rfl) ?_
  refine ah_len E hP hra 4 rfl dX0_longestWithin_11 ?_
  refine lv_istore (lv' := [(6, .int (nI 40)), (5, .ref ra), (4, .null), (0, .ref b), (1, .ref st), (2, .int (nI i)), (3, .int (nI e0))]) hx hb dX0_longestWithin_12 hl (by decide) rfl (fun ls hl => ?_)
  refine lv_iconst (v := (nI 0)) hx hb dX0_longestWithin_14 (by decide) ?_
  refine lv_istore (lv' := [(7, .int (nI 0)), (6, .int (nI 40)), (5, .ref ra), (4, .null), (0, .ref b), (1, .ref st), (2, .int (nI i)), (3, .int (nI e0))]) hx hb dX0_longestWithin_15 hl (by decide) rfl (fun ls hl => ?_)
  have L17 : ∀ (n : Nat), ∀ (k : Nat) (bst : Option Nat), 40 - k < n → k ≤ 40 → bst = (ah_best P (fun w => decide (w.length ≤ e0 - i) && ah_en S e0 w) k).bind rf → ∀ (H : Heap) (locs : List Loc), ah_K A D F H → va_S A s.heap H locs → ∀ (ls : Array Slot), lv_has ls 9 [(0, .ref b), (1, .ref st), (2, .int (nI i)), (3, .int (nI e0)), (4, va_rf bst), (5, .ref ra), (6, .int (nI 40)), (7, .int (nI k))] → W p l e { frames := 2, cells := 0, slots := 0, locals := 44 } s m [.ref b, .ref st, .int (nI i), .int (nI e0)].toArray below meth c H locs 0 0 Q (F0 m 17 ls []) := by
    intro n
    induction n with
    | zero =>
      intro k bst hm
      exact absurd hm (Nat.not_lt_zero _)
    | succ n ih =>
      intro k bst hm hk hbst H locs hP hS ls hl
      refine lv_iload hx hb dX0_longestWithin_17 (lv_at hl 7 rfl) ?_
      refine lv_iload hx hb dX0_longestWithin_19 (lv_at hl 6 rfl) ?_
      refine ah_icmp_ge (tgt := 97) hx hb (by omega) (by omega) dX0_longestWithin_21 (by decide) (fun hc21 => ?_) (fun hc21 => ?_)
      · skip
        cases bst with
        | none =>
          refine lv_aloadN hx hb dX0_longestWithin_97 (lv_at hl 4 rfl) ?_
          rw [hQ]
          exact ah_qret (v := none) E hr hP hS ⟨rfl, by rw [show 40 = k by omega]; exact hbst.symm⟩ (Nat.le_of_ble_eq_true rfl) (Nat.le_of_ble_eq_true rfl) dX0_longestWithin_99
        | some b0 =>
          refine lv_aload hx hb dX0_longestWithin_97 (lv_at hl 4 rfl) ?_
          rw [hQ]
          exact ah_qret (v := some b0) E hr hP hS ⟨rfl, by rw [show 40 = k by omega]; exact hbst.symm⟩ (Nat.le_of_ble_eq_true rfl) (Nat.le_of_ble_eq_true rfl) dX0_longestWithin_99
      · skip
        refine lv_aload hx hb dX0_longestWithin_24 (lv_at hl 5 rfl) ?_
        refine lv_iload hx hb dX0_longestWithin_26 (lv_at hl 7 rfl) ?_
        refine ah_qald E hP hra (by omega) (by omega) dX0_longestWithin_28 ?_
        cases hq : rf k with
        | none =>
          have hPk := hrows.n (i := k) (by omega) hq
          refine lv_astoreN (lv' := [(8, .null), (0, .ref b), (1, .ref st), (2, .int (nI i)), (3, .int (nI e0)), (4, va_rf bst), (5, .ref ra), (6, .int (nI 40)), (7, .int (nI k))]) hx hb dX0_longestWithin_29 hl (by decide) rfl (fun ls hl => ?_)
          refine lv_aloadN hx hb dX0_longestWithin_31 (lv_at hl 0 rfl) ?_
          refine lv_ifnullN (tgt := 91) hx hb dX0_longestWithin_33 (by decide) ?_
          refine lv_iinc (v := (nI (k + 1))) (lv' := [(7, .int (nI (k + 1))), (8, .null), (0, .ref b), (1, .ref st), (2, .int (nI i)), (3, .int (nI e0)), (4, va_rf bst), (5, .ref ra), (6, .int (nI 40))]) hx hb dX0_longestWithin_91 hl (k := 8) rfl (ah_inc _) (by decide) rfl (fun ls hl => ?_)
          refine lv_goto (tgt := 17) hx hb dX0_longestWithin_94 (by decide) ?_
          exact ih _ bst (by omega) (by omega) (by rw [ah_best_f (ah_sat_n hPk)]; exact hbst) _ _ hP hS ls (lv_sub hl [2, 3, 4, 5, 6, 7, 8, 0] rfl)
        | some q =>
          obtain ⟨w, r, lw, lr, hPk, hqo, hlw, hlr, hok, hokr, hne⟩ := hrows.s (i := k) (by omega) hq
          have hwl := hok.1
          refine lv_astore (lv' := [(8, .ref q), (0, .ref b), (1, .ref st), (2, .int (nI i)), (3, .int (nI e0)), (4, va_rf bst), (5, .ref ra), (6, .int (nI 40)), (7, .int (nI k))]) hx hb dX0_longestWithin_29 hl (by decide) rfl (fun ls hl => ?_)
          refine lv_aload hx hb dX0_longestWithin_31 (lv_at hl 0 rfl) ?_
          refine lv_ifnull hx hb dX0_longestWithin_33 ?_
          refine lv_aload hx hb dX0_longestWithin_36 (lv_at hl 0 rfl) ?_
          refine gf_Book_24 E hP hqo rfl dX0_longestWithin_38 ?_
          refine gf_Book_44 E hP hlw rfl dX0_longestWithin_41 ?_
          refine lv_iload_n hx hb dX0_longestWithin_44 rfl (lv_at hl 4 rfl) ?_
          refine lv_iload_n hx hb dX0_longestWithin_45 rfl (lv_at hl 3 rfl) ?_
          refine ah_isub hx hb (by omega) dX0_longestWithin_46 ?_
          refine ah_icmp_gt (tgt := 91) hx hb (by omega) (by omega) dX0_longestWithin_47 (by decide) (fun hc47 => ?_) (fun hc47 => ?_)
          · skip
            have hsat : ah_sat P (fun w => decide (w.length ≤ e0 - i) && ah_en S e0 w) k = false := by rw [ah_sat_s hPk]; simp [Nat.not_le.mpr hc47]
            refine lv_iinc (v := (nI (k + 1))) (lv' := [(7, .int (nI (k + 1))), (8, .ref q), (0, .ref b), (1, .ref st), (2, .int (nI i)), (3, .int (nI e0)), (4, va_rf bst), (5, .ref ra), (6, .int (nI 40))]) hx hb dX0_longestWithin_91 hl (k := 8) rfl (ah_inc _) (by decide) rfl (fun ls hl => ?_)
            refine lv_goto (tgt := 17) hx hb dX0_longestWithin_94 (by decide) ?_
            exact ih _ bst (by omega) (by omega) (by rw [ah_best_f hsat]; exact hbst) _ _ hP hS ls (lv_sub hl [2, 3, 4, 5, 6, 7, 8, 0] rfl)
          · skip
            refine lv_aload_n hx hb dX0_longestWithin_50 rfl (lv_at hl 2 rfl) ?_
            refine lv_iload_n hx hb dX0_longestWithin_51 rfl (lv_at hl 4 rfl) ?_
            refine lv_aload hx hb dX0_longestWithin_52 (lv_at hl 0 rfl) ?_
            refine gf_Book_24 E hP hqo rfl dX0_longestWithin_54 ?_
            refine ah_calli (ah_runV E hP hS (As := [.int (nI e0), .ref lw]) (rest := []) (b := st) (c_Stream_holdsBefore l A D _ hst hla hstr hlw hok he0) lk_Book_80 li_Book_80 hst rfl ⟨rfl, rfl, (Nat.le_of_ble_eq_true rfl), (Nat.le_of_ble_eq_true rfl)⟩ rfl hl.1 rfl (Nat.le_of_ble_eq_true rfl) dX0_longestWithin_57 ⟨(Nat.le_of_ble_eq_true rfl), (Nat.le_of_ble_eq_true rfl)⟩) hS (fun r F1 H locs hq hP hS => ?_)
            obtain ⟨rfl, rfl⟩ := hq
            refine ah_ifb_eq (tgt := 91) hx hb dX0_longestWithin_60 (by decide) (fun hc60 => ?_) (fun hc60 => ?_)
            · skip
              have hsat : ah_sat P (fun w => decide (w.length ≤ e0 - i) && ah_en S e0 w) k = false := by rw [ah_sat_s hPk]; simp [hc60]
              refine lv_iinc (v := (nI (k + 1))) (lv' := [(7, .int (nI (k + 1))), (8, .ref q), (0, .ref b), (1, .ref st), (2, .int (nI i)), (3, .int (nI e0)), (4, va_rf bst), (5, .ref ra), (6, .int (nI 40))]) hx hb dX0_longestWithin_91 hl (k := 8) rfl (ah_inc _) (by decide) rfl (fun ls hl => ?_)
              refine lv_goto (tgt := 17) hx hb dX0_longestWithin_94 (by decide) ?_
              exact ih _ bst (by omega) (by omega) (by rw [ah_best_f hsat]; exact hbst) _ _ hP hS ls (lv_sub hl [2, 3, 4, 5, 6, 7, 8, 0] rfl)
            · skip
              have hsat : ah_sat P (fun w => decide (w.length ≤ e0 - i) && ah_en S e0 w) k = true := by rw [ah_sat_s hPk]; simp [hc47, hc60]
              cases bst with
              | none =>
                have hb0 := ah_best_bn hrows (by omega) hbst
                refine lv_aloadN hx hb dX0_longestWithin_63 (lv_at hl 5 rfl) ?_
                refine lv_ifnullN (tgt := 87) hx hb dX0_longestWithin_65 (by decide) ?_
                refine lv_aload hx hb dX0_longestWithin_87 (lv_at hl 0 rfl) ?_
                refine lv_astore (lv' := [(4, .ref q), (8, .ref q), (0, .ref b), (1, .ref st), (2, .int (nI i)), (3, .int (nI e0)), (5, .ref ra), (6, .int (nI 40)), (7, .int (nI k))]) hx hb dX0_longestWithin_89 hl (by decide) rfl (fun ls hl => ?_)
                refine lv_iinc (v := (nI (k + 1))) (lv' := [(7, .int (nI (k + 1))), (4, .ref q), (8, .ref q), (0, .ref b), (1, .ref st), (2, .int (nI i)), (3, .int (nI e0)), (5, .ref ra), (6, .int (nI 40))]) hx hb dX0_longestWithin_91 hl (k := 8) rfl (ah_inc _) (by decide) rfl (fun ls hl => ?_)
                refine lv_goto (tgt := 17) hx hb dX0_longestWithin_94 (by decide) ?_
                exact ih _ (some q) (by omega) (by omega) (by rw [ah_best_0 hsat hb0]; exact hq.symm) _ _ hP hS ls (lv_sub hl [3, 4, 5, 6, 1, 7, 8, 0] rfl)
              | some b0 =>
                obtain ⟨j, w0, r0, lw0, lr0, hbj, hj, hrj, hPj, hbo, hlw0, hlr0, hok0, hokr0, hne0, hf0⟩ := ah_best_bs hrows (by omega) hbst
                have hwl0 := hok0.1
                refine lv_aload hx hb dX0_longestWithin_63 (lv_at hl 5 rfl) ?_
                refine lv_ifnull hx hb dX0_longestWithin_65 ?_
                refine lv_aload hx hb dX0_longestWithin_68 (lv_at hl 0 rfl) ?_
                refine gf_Book_24 E hP hqo rfl dX0_longestWithin_70 ?_
                refine gf_Book_44 E hP hlw rfl dX0_longestWithin_73 ?_
                refine lv_aload hx hb dX0_longestWithin_76 (lv_at hl 5 rfl) ?_
                refine gf_Book_24 E hP hbo rfl dX0_longestWithin_78 ?_
                refine gf_Book_44 E hP hlw0 rfl dX0_longestWithin_81 ?_
                refine ah_icmp_le (tgt := 91) hx hb (by omega) (by omega) dX0_longestWithin_84 (by decide) (fun hc84 => ?_) (fun hc84 => ?_)
                · skip
                  refine lv_iinc (v := (nI (k + 1))) (lv' := [(7, .int (nI (k + 1))), (8, .ref q), (0, .ref b), (1, .ref st), (2, .int (nI i)), (3, .int (nI e0)), (4, .ref b0), (5, .ref ra), (6, .int (nI 40))]) hx hb dX0_longestWithin_91 hl (k := 8) rfl (ah_inc _) (by decide) rfl (fun ls hl => ?_)
                  refine lv_goto (tgt := 17) hx hb dX0_longestWithin_94 (by decide) ?_
                  exact ih _ (some b0) (by omega) (by omega) (by rw [ah_best_k hsat hbj (by rw [ah_w_s hPj, ah_w_s hPk]; exact hc84)]; exact hrj.symm) _ _ hP hS ls (lv_sub hl [2, 3, 4, 5, 6, 7, 8, 0] rfl)
                · skip
                  refine lv_aload hx hb dX0_longestWithin_87 (lv_at hl 0 rfl) ?_
                  refine lv_astore (lv' := [(4, .ref q), (8, .ref q), (0, .ref b), (1, .ref st), (2, .int (nI i)), (3, .int (nI e0)), (5, .ref ra), (6, .int (nI 40)), (7, .int (nI k))]) hx hb dX0_longestWithin_89 hl (by decide) rfl (fun ls hl => ?_)
                  refine lv_iinc (v := (nI (k + 1))) (lv' := [(7, .int (nI (k + 1))), (4, .ref q), (8, .ref q), (0, .ref b), (1, .ref st), (2, .int (nI i)), (3, .int (nI e0)), (5, .ref ra), (6, .int (nI 40))]) hx hb dX0_longestWithin_91 hl (k := 8) rfl (ah_inc _) (by decide) rfl (fun ls hl => ?_)
                  refine lv_goto (tgt := 17) hx hb dX0_longestWithin_94 (by decide) ?_
                  exact ih _ (some q) (by omega) (by omega) (by rw [ah_best_g hsat hbj (by rw [ah_w_s hPj, ah_w_s hPk]; exact hc84)]; exact hq.symm) _ _ hP hS ls (lv_sub hl [3, 4, 5, 6, 1, 7, 8, 0] rfl)
  exact L17 (41) 0 none (by omega) (by omega) rfl _ _ hP hS ls (lv_sub hl [4, 5, 6, 7, 3, 2, 1, 0] rfl)
