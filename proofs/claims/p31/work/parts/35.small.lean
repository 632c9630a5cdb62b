set_option maxHeartbeats 4000000 in
set_option maxRecDepth 100000 in
/-- letter -/
theorem w_letter (l : Launch) (A : Nat → Prop) (D : ah_G) (F : ah_F) {v : Nat} (hv : v < 2 ^ 31) : Met l yL_letter (Cond.code yL_letter cL_letter 1 (some .char) :: ah_T) { frames := 0, cells := 0, slots := 0, locals := 0 } (va_Pc [.int (nI v)] (ah_B A D F)) (ah_Qi A D (fun (r : Int32) F1 => F = F1 ∧ ∃ cv : Nat, 97 ≤ cv ∧ cv ≤ 122 ∧ nI cv = r)) 0 0 A := by
  refine ah_met (own := "AhoarchLaw") (by decide) rfl (Nat.le_of_ble_eq_true rfl) ?_
  intro p e s m below meth c ls E hr hini hl hP hS Q hQ
  have hx := E.1
  have hb := E.2.1
  have hl : lv_has ls 1 [(0, .int (nI v))] := hl
  refine lv_bipush (v := (nI 97)) hx hb dL_letter_0 (by decide) ?_
  refine lv_iload_n hx hb dL_letter_2 rfl (lv_at hl 0 rfl) ?_
  refine lv_iload_n hx hb dL_letter_3 rfl (lv_at hl 0 rfl) ?_
  refine lv_bipush (v := (nI 7)) hx hb dL_letter_4 (by decide) ?_
  refine lv_irem hx hb dL_letter_6 (nI_ne0 (by omega) (by omega)) ?_
  rw [pk_rem (a := v) (d := 7) (by omega) (by omega) (by omega)]
  refine ah_if_ne (tgt := 15) hx hb (by omega) dL_letter_7 (by decide) (fun hc7 => ?_) (fun hc7 => ?_)
  · skip
    refine lv_iconst (v := (nI 2)) hx hb dL_letter_15 (by decide) ?_
    refine lv_irem hx hb dL_letter_16 (nI_ne0 (by omega) (by omega)) ?_
    rw [pk_rem (a := v) (d := 2) (by omega) (by omega) (by omega)]
    refine ah_iadd hx hb dL_letter_17 ?_
    refine lv_i2c (v := (nI (97 + v % 2))) hx hb dL_letter_18 (ah_i2c (by omega)) ?_
    rw [hQ]
    exact ah_zret E hr (pk_charN (by omega)).1 hP hS ⟨rfl, _, by omega, by omega, rfl⟩ (Nat.le_of_ble_eq_true rfl) (Nat.le_of_ble_eq_true rfl) dL_letter_19
  · skip
    refine lv_bipush (v := (nI 26)) hx hb dL_letter_10 (by decide) ?_
    refine lv_goto (tgt := 16) hx hb dL_letter_12 (by decide) ?_
    refine lv_irem hx hb dL_letter_16 (nI_ne0 (by omega) (by omega)) ?_
    rw [pk_rem (a := v) (d := 26) (by omega) (by omega) (by omega)]
    refine ah_iadd hx hb dL_letter_17 ?_
    refine lv_i2c (v := (nI (97 + v % 26))) hx hb dL_letter_18 (ah_i2c (by omega)) ?_
    rw [hQ]
    exact ah_zret E hr (pk_charN (by omega)).1 hP hS ⟨rfl, _, by omega, by omega, rfl⟩ (Nat.le_of_ble_eq_true rfl) (Nat.le_of_ble_eq_true rfl) dL_letter_19

set_option maxHeartbeats 4000000 in
set_option maxRecDepth 100000 in
/-- isOccurrence -/
theorem w_isOccurrence (l : Launch) (A : Nat → Prop) (D : ah_G) (F : ah_F) {x n : Nat} {P : ah_Pt} {dr S : List Nat} {td : Int32} (hC : ah_C D F x P n dr S td) {j : Nat} {w r0 : List Nat} (hj : j < 40) (hp : P j = some (w, r0)) {i : Nat} (hat : ah_at S i w = true) : Met l yL_isOccurrence (Cond.code yL_isOccurrence cL_isOccurrence 5 (some .boolean) :: ah_T) { frames := 4, cells := 0, slots := 0, locals := 91 } (va_Pc [.ref x, .int (nI j), .int (nI i)] (ah_B A D F)) (ah_Qi A D (fun (r : Int32) F1 => F = F1 ∧ nI 1 = r)) 0 0 A := by
  refine ah_met (own := "AhoarchLaw") (by decide) rfl (Nat.le_of_ble_eq_true rfl) ?_
  intro p e s m below meth c ls E hr hini hl hP hS Q hQ
  have hx := E.1
  have hb := E.2.1
  have hl : lv_has ls 5 [(0, .ref x), (1, .int (nI j)), (2, .int (nI i))] := hl
  obtain ⟨hPok, hn40, hPn, hS200, hSlt, hdok, hcnt⟩ := ah_C_ok hC
  obtain ⟨fs0, hxx⟩ := ah_C_x hC
  have hne := (hPok _ _ _ hp).2.2
  have hiS : i < S.length := by have := List.length_pos_iff.mpr hne; have := ah_at_in hat hne; omega
  have hidx : pu_cn (fun i => ah_at S i w) i < pu_cn (fun i => ah_at S i w) S.length := pc_idx (p := (fun i => ah_at S i w)) hiS hat
  have hml := pu_cn_le (fun i => ah_at S i w) S.length
  refine lv_iconst (v := (bI_ false)) hx hb dL_isOccurrence_0 (by decide) ?_
  refine lv_istore_n (lv' := [(3, .int (bI_ false)), (0, .ref x), (1, .int (nI j)), (2, .int (nI i))]) hx hb dL_isOccurrence_1 rfl hl (by decide) rfl (fun ls hl => ?_)
  refine lv_iconst (v := (nI 0)) hx hb dL_isOccurrence_2 (by decide) ?_
  refine lv_istore (lv' := [(4, .int (nI 0)), (3, .int (bI_ false)), (0, .ref x), (1, .int (nI j)), (2, .int (nI i))]) hx hb dL_isOccurrence_3 hl (by decide) rfl (fun ls hl => ?_)
  have L5 : ∀ (fuel : Nat), ∀ (k : Nat) (is : Bool), pu_cn (fun i => ah_at S i w) S.length - k < fuel → k ≤ pu_cn (fun i => ah_at S i w) S.length → is = decide (pu_cn (fun i => ah_at S i w) i < k) → ∀ (H : Heap) (locs : List Loc), ah_K A D F H → va_S A s.heap H locs → ∀ (ls : Array Slot), lv_has ls 5 [(0, .ref x), (1, .int (nI j)), (2, .int (nI i)), (3, .int (bI_ is)), (4, .int (nI k))] → W p l e { frames := 4, cells := 0, slots := 0, locals := 91 } s m [.ref x, .int (nI j), .int (nI i)].toArray below meth c H locs 0 0 Q (F0 m 5 ls []) := by
    intro fuel
    induction fuel with
    | zero =>
      intro k is hm
      exact absurd hm (Nat.not_lt_zero _)
    | succ fuel ih5 =>
      intro k is hm hk hib H locs hP hS ls hl
      refine lv_iload hx hb dL_isOccurrence_5 (lv_at hl 4 rfl) ?_
      refine lv_aload_n hx hb dL_isOccurrence_7 rfl (lv_at hl 0 rfl) ?_
      refine lv_iload_n hx hb dL_isOccurrence_8 rfl (lv_at hl 1 rfl) ?_
      refine ah_calli (ah_runV E hP hS (As := [.int (nI j)]) (rest := [.int (nI k)]) (b := x) (q_occurrencesOf l A D _ hC hj hp) lk_Law_84 li_Law_84 hxx rfl ⟨rfl, rfl, (Nat.le_of_ble_eq_true rfl), (Nat.le_of_ble_eq_true rfl)⟩ rfl hl.1 rfl (Nat.le_of_ble_eq_true rfl) dL_isOccurrence_9 ⟨(Nat.le_of_ble_eq_true rfl), (Nat.le_of_ble_eq_true rfl)⟩) hS (fun r F1 H locs hq hP hS => ?_)
      obtain ⟨rfl, rfl⟩ := hq
      refine ah_icmp_ge (tgt := 42) hx hb (by omega) (by omega) dL_isOccurrence_12 (by decide) (fun hc12 => ?_) (fun hc12 => ?_)
      · skip
        refine lv_iload_n hx hb dL_isOccurrence_42 rfl (lv_at hl 3 rfl) ?_
        rw [hQ]
        exact ah_zret E hr (by first | exact bI_nz _ | decide) hP hS ⟨rfl, by rw [hib, decide_eq_true (by omega)]; rfl⟩ (Nat.le_of_ble_eq_true rfl) (Nat.le_of_ble_eq_true rfl) dL_isOccurrence_43
      · skip
        refine lv_iload_n hx hb dL_isOccurrence_15 rfl (lv_at hl 3 rfl) ?_
        refine ah_ifb_ne (tgt := 30) hx hb dL_isOccurrence_16 (by decide) (fun hc16 => ?_) (fun hc16 => ?_)
        · skip
          refine lv_iconst (v := (bI_ true)) hx hb dL_isOccurrence_30 (by decide) ?_
          refine lv_goto (tgt := 35) hx hb dL_isOccurrence_31 (by decide) ?_
          refine lv_istore_n (lv' := [(3, .int (bI_ true)), (0, .ref x), (1, .int (nI j)), (2, .int (nI i)), (4, .int (nI k))]) hx hb dL_isOccurrence_35 rfl hl (by decide) rfl (fun ls hl => ?_)
          refine lv_iinc (v := (nI (k + 1))) (lv' := [(4, .int (nI (k + 1))), (3, .int (bI_ true)), (0, .ref x), (1, .int (nI j)), (2, .int (nI i))]) hx hb dL_isOccurrence_36 hl (k := 4) rfl (ah_inc _) (by decide) rfl (fun ls hl => ?_)
          refine lv_goto (tgt := 5) hx hb dL_isOccurrence_39 (by decide) ?_
          exact ih5 (k + 1) true (by omega) (by omega) (by rw [hc16] at hib; have h9 := of_decide_eq_true hib.symm; exact (decide_eq_true (by omega)).symm) _ _ hP hS ls (lv_sub hl [2, 3, 4, 1, 0] rfl)
        · skip
          refine lv_aload_n hx hb dL_isOccurrence_19 rfl (lv_at hl 0 rfl) ?_
          refine lv_iload_n hx hb dL_isOccurrence_20 rfl (lv_at hl 1 rfl) ?_
          refine lv_iload hx hb dL_isOccurrence_21 (lv_at hl 4 rfl) ?_
          obtain ⟨i2, hi2, hat2, hk2⟩ := pc_ex (p := (fun i => ah_at S i w)) (k := k) (n := S.length) (by omega)
          have hkt := pc_kt (p := (fun i => ah_at S i w)) (n := S.length) (by omega) hi2 hat2 hk2
          refine ah_calli (ah_runV E hP hS (As := [.int (nI j), .int (nI k)]) (rest := []) (b := x) (q_occurrence l A D _ hC hj hp hkt) lk_Law_90 li_Law_90 hxx rfl ⟨rfl, rfl, (Nat.le_of_ble_eq_true rfl), (Nat.le_of_ble_eq_true rfl)⟩ rfl hl.1 rfl (Nat.le_of_ble_eq_true rfl) dL_isOccurrence_23 ⟨(Nat.le_of_ble_eq_true rfl), (Nat.le_of_ble_eq_true rfl)⟩) hS (fun r F2 H locs hq hP hS => ?_)
          obtain ⟨rfl, rfl⟩ := hq
          refine lv_iload_n hx hb dL_isOccurrence_26 rfl (lv_at hl 2 rfl) ?_
          refine ah_icmp_ne (tgt := 34) hx hb (by omega) (by omega) dL_isOccurrence_27 (by decide) (fun hc27 => ?_) (fun hc27 => ?_)
          · skip
            refine lv_iconst (v := (bI_ false)) hx hb dL_isOccurrence_34 (by decide) ?_
            refine lv_istore_n (lv' := [(3, .int (bI_ false)), (0, .ref x), (1, .int (nI j)), (2, .int (nI i)), (4, .int (nI k))]) hx hb dL_isOccurrence_35 rfl hl (by decide) rfl (fun ls hl => ?_)
            refine lv_iinc (v := (nI (k + 1))) (lv' := [(4, .int (nI (k + 1))), (3, .int (bI_ false)), (0, .ref x), (1, .int (nI j)), (2, .int (nI i))]) hx hb dL_isOccurrence_36 hl (k := 4) rfl (ah_inc _) (by decide) rfl (fun ls hl => ?_)
            refine lv_goto (tgt := 5) hx hb dL_isOccurrence_39 (by decide) ?_
            exact ih5 (k + 1) false (by omega) (by omega) (by rw [hc16] at hib; have h9 := of_decide_eq_false hib.symm; exact (decide_eq_false (fun h => hc27 (pc_inj (p := (fun i => ah_at S i w)) hat2 hat (by omega)))).symm) _ _ hP hS ls (lv_sub hl [2, 3, 4, 1, 0] rfl)
          · skip
            refine lv_iconst (v := (bI_ true)) hx hb dL_isOccurrence_30 (by decide) ?_
            refine lv_goto (tgt := 35) hx hb dL_isOccurrence_31 (by decide) ?_
            refine lv_istore_n (lv' := [(3, .int (bI_ true)), (0, .ref x), (1, .int (nI j)), (2, .int (nI i)), (4, .int (nI k))]) hx hb dL_isOccurrence_35 rfl hl (by decide) rfl (fun ls hl => ?_)
            refine lv_iinc (v := (nI (k + 1))) (lv' := [(4, .int (nI (k + 1))), (3, .int (bI_ true)), (0, .ref x), (1, .int (nI j)), (2, .int (nI i))]) hx hb dL_isOccurrence_36 hl (k := 4) rfl (ah_inc _) (by decide) rfl (fun ls hl => ?_)
            refine lv_goto (tgt := 5) hx hb dL_isOccurrence_39 (by decide) ?_
            exact ih5 (k + 1) true (by omega) (by omega) (by have h9 := hk2; rw [hc27] at h9; exact (decide_eq_true (by omega)).symm) _ _ hP hS ls (lv_sub hl [2, 3, 4, 1, 0] rfl)
  exact L5 (pu_cn (fun i => ah_at S i w) S.length + 1) 0 false (by omega) (Nat.zero_le _) (by simp) _ _ hP hS ls (lv_sub hl [2, 3, 4, 1, 0] rfl)

set_option maxHeartbeats 4000000 in
set_option maxRecDepth 100000 in
/-- areEnding -/
theorem w_areEnding (l : Launch) (A : Nat → Prop) (D : ah_G) (F : ah_F) {x n : Nat} {P : ah_Pt} {dr S : List Nat} {td : Int32} (hC : ah_C D F x P n dr S td) (hD : pd_D P) : Met l yL_areEnding (Cond.code yL_areEnding cL_areEnding 5 (some .boolean) :: ah_T) { frames := 5, cells := 0, slots := 0, locals := 117 } (va_Pc [.ref x] (ah_B A D F)) (ah_Qi A D (fun (r : Int32) F1 => F = F1 ∧ nI 1 = r)) 0 0 A := by
  refine ah_met (own := "AhoarchLaw") (by decide) rfl (Nat.le_of_ble_eq_true rfl) ?_
  intro p e s m below meth c ls E hr hini hl hP hS Q hQ
  have hx := E.1
  have hb := E.2.1
  have hl : lv_has ls 5 [(0, .ref x)] := hl
  obtain ⟨hPok, hn40, hPn, hS200, hSlt, hdok, hcnt⟩ := ah_C_ok hC
  obtain ⟨fs0, hxx⟩ := ah_C_x hC
  have hdp := pl_le P (ah_l8 S) (min S.length 8)
  have hE40 : pu_cn (ah_sat P (fun w => ah_en S S.length w)) 40 ≤ 40 := pu_cn_le _ _
  refine lv_aload_n hx hb dL_areEnding_0 rfl (lv_at hl 0 rfl) ?_
  refine ah_calli (ah_runV E hP hS (As := []) (rest := []) (b := x) (c_depth l A D _ hC) lk_Law_55 li_Law_55 hxx rfl ⟨rfl, rfl, (Nat.le_of_ble_eq_true rfl), (Nat.le_of_ble_eq_true rfl)⟩ rfl hl.1 rfl (Nat.le_of_ble_eq_true rfl) dL_areEnding_1 ⟨(Nat.le_of_ble_eq_true rfl), (Nat.le_of_ble_eq_true rfl)⟩) hS (fun r F1 H locs hq hP hS => ?_)
  obtain ⟨rfl, rfl⟩ := hq
  refine lv_bipush (v := (nI 8)) hx hb dL_areEnding_4 (by decide) ?_
  refine ah_icmp_gt (tgt := 24) hx hb (by omega) (by omega) dL_areEnding_6 (by decide) (fun hc6 => ?_) (fun hc6 => ?_)
  · skip
    exact absurd hc6 (by omega)
  · skip
    refine lv_aload_n hx hb dL_areEnding_9 rfl (lv_at hl 0 rfl) ?_
    refine ah_calli (ah_runV E hP hS (As := []) (rest := []) (b := x) (c_depth l A D _ hC) lk_Law_55 li_Law_55 hxx rfl ⟨rfl, rfl, (Nat.le_of_ble_eq_true rfl), (Nat.le_of_ble_eq_true rfl)⟩ rfl hl.1 rfl (Nat.le_of_ble_eq_true rfl) dL_areEnding_10 ⟨(Nat.le_of_ble_eq_true rfl), (Nat.le_of_ble_eq_true rfl)⟩) hS (fun r F2 H locs hq hP hS => ?_)
    obtain ⟨rfl, rfl⟩ := hq
    refine lv_aload_n hx hb dL_areEnding_13 rfl (lv_at hl 0 rfl) ?_
    refine ah_calli (ah_runV E hP hS (As := []) (rest := [.int (nI (ah_le P (ah_l8 S) (min S.length 8)))]) (b := x) (c_streamLength l A D _ hC) lk_Law_37 li_Law_37 hxx rfl ⟨rfl, rfl, (Nat.le_of_ble_eq_true rfl), (Nat.le_of_ble_eq_true rfl)⟩ rfl hl.1 rfl (Nat.le_of_ble_eq_true rfl) dL_areEnding_14 ⟨(Nat.le_of_ble_eq_true rfl), (Nat.le_of_ble_eq_true rfl)⟩) hS (fun r F3 H locs hq hP hS => ?_)
    obtain ⟨rfl, rfl⟩ := hq
    refine ah_icmp_gt (tgt := 24) hx hb (by omega) (by omega) dL_areEnding_17 (by decide) (fun hc17 => ?_) (fun hc17 => ?_)
    · skip
      exact absurd hc17 (by omega)
    · skip
      refine lv_iconst (v := (nI 1)) hx hb dL_areEnding_20 (by decide) ?_
      refine lv_goto (tgt := 25) hx hb dL_areEnding_21 (by decide) ?_
      refine lv_istore_n (lv' := [(1, .int (nI 1)), (0, .ref x)]) hx hb dL_areEnding_25 rfl hl (by decide) rfl (fun ls hl => ?_)
      refine lv_bipush (v := (nI 9)) hx hb dL_areEnding_26 (by decide) ?_
      refine lv_istore_n (lv' := [(2, .int (nI 9)), (1, .int (nI 1)), (0, .ref x)]) hx hb dL_areEnding_28 rfl hl (by decide) rfl (fun ls hl => ?_)
      refine lv_iconst (v := (nI 0)) hx hb dL_areEnding_29 (by decide) ?_
      refine lv_istore_n (lv' := [(3, .int (nI 0)), (2, .int (nI 9)), (1, .int (nI 1)), (0, .ref x)]) hx hb dL_areEnding_30 rfl hl (by decide) rfl (fun ls hl => ?_)
      have L31 : ∀ (fuel : Nat), ∀ (k La : Nat), pu_cn (ah_sat P (fun w => ah_en S S.length w)) 40 - k < fuel → k ≤ pu_cn (ah_sat P (fun w => ah_en S S.length w)) 40 → (∀ j, j < 8 → (ah_es P S (8 - j)).isSome = true → k ≤ pu_cn (fun j => (ah_es P S (8 - j)).isSome) j → 8 - j < La) → La ≤ 9 → ∀ (H : Heap) (locs : List Loc), ah_K A D F H → va_S A s.heap H locs → ∀ (ls : Array Slot), lv_has ls 5 [(0, .ref x), (1, .int (nI 1)), (2, .int (nI La)), (3, .int (nI k))] → W p l e { frames := 5, cells := 0, slots := 0, locals := 117 } s m [.ref x].toArray below meth c H locs (((0 + 0) + 0) + 0) (((0 + 0) + 0) + 0) Q (F0 m 31 ls []) := by
        intro fuel
        induction fuel with
        | zero =>
          intro k La hm
          exact absurd hm (Nat.not_lt_zero _)
        | succ fuel ih31 =>
          intro k La hm hk hLa hL9 H locs hP hS ls hl
          refine lv_iload_n hx hb dL_areEnding_31 rfl (lv_at hl 3 rfl) ?_
          refine lv_aload_n hx hb dL_areEnding_32 rfl (lv_at hl 0 rfl) ?_
          refine ah_calli (ah_runV E hP hS (As := []) (rest := [.int (nI k)]) (b := x) (c_ending l A D _ hC) lk_Law_49 li_Law_49 hxx rfl ⟨rfl, rfl, (Nat.le_of_ble_eq_true rfl), (Nat.le_of_ble_eq_true rfl)⟩ rfl hl.1 rfl (Nat.le_of_ble_eq_true rfl) dL_areEnding_33 ⟨(Nat.le_of_ble_eq_true rfl), (Nat.le_of_ble_eq_true rfl)⟩) hS (fun r F4 H locs hq hP hS => ?_)
          obtain ⟨rfl, rfl⟩ := hq
          refine ah_icmp_ge (tgt := 120) hx hb (by omega) (by omega) dL_areEnding_36 (by decide) (fun hc36 => ?_) (fun hc36 => ?_)
          · skip
            refine lv_iload_n hx hb dL_areEnding_120 rfl (lv_at hl 1 rfl) ?_
            rw [hQ]
            exact ah_zret E hr (by first | exact bI_nz _ | decide) hP hS ⟨rfl, rfl⟩ (Nat.le_of_ble_eq_true rfl) (Nat.le_of_ble_eq_true rfl) dL_areEnding_121
          · skip
            refine lv_iload_n hx hb dL_areEnding_39 rfl (lv_at hl 1 rfl) ?_
            refine ah_if_eq (tgt := 120) hx hb (by omega) dL_areEnding_40 (by decide) (fun hc40 => ?_) (fun hc40 => ?_)
            · skip
              exact absurd hc40 (by decide)
            · skip
              refine lv_aload_n hx hb dL_areEnding_43 rfl (lv_at hl 0 rfl) ?_
              refine lv_iload_n hx hb dL_areEnding_44 rfl (lv_at hl 3 rfl) ?_
              obtain ⟨j, i, w, r0, hj8, hjs, hjk, hep, hi40, hPi, hwl, hen⟩ := pe_ep hPok hD (show k < pu_cn (ah_sat P (fun w => ah_en S S.length w)) 40 by omega)
              have hok := hPok _ _ _ hPi
              have hpd := pe_depth hi40 hPi hok.1 hok.2.2 hen
              have hpl := pe_last hok.2.2 hS200 hen
              have hpr := (pe_drop hen).1
              have hlt := hLa j hj8 hjs (by omega)
              have hml := pu_cn_le (fun i => ah_at S i w) S.length
              have hpl1 := hpl.1
              refine ah_calli (ah_runV E hP hS (As := [.int (nI k)]) (rest := []) (b := x) (q_endingPattern l A D _ hC hep) lk_Law_100 li_Law_100 hxx rfl ⟨rfl, rfl, (Nat.le_of_ble_eq_true rfl), (Nat.le_of_ble_eq_true rfl)⟩ rfl hl.1 rfl (Nat.le_of_ble_eq_true rfl) dL_areEnding_45 ⟨(Nat.le_of_ble_eq_true rfl), (Nat.le_of_ble_eq_true rfl)⟩) hS (fun r F5 H locs hq hP hS => ?_)
              obtain ⟨rfl, rfl⟩ := hq
              refine lv_istore (lv' := [(4, .int (nI i)), (0, .ref x), (1, .int (nI 1)), (2, .int (nI La)), (3, .int (nI k))]) hx hb dL_areEnding_48 hl (by decide) rfl (fun ls hl => ?_)
              refine lv_aload_n hx hb dL_areEnding_50 rfl (lv_at hl 1 rfl) ?_
              refine lv_iload hx hb dL_areEnding_51 (lv_at hl 0 rfl) ?_
              refine ah_calli (ah_runV E hP hS (As := [.int (nI i)]) (rest := []) (b := x) (q_length l A D _ hC hi40 hPi) lk_Law_40 li_Law_40 hxx rfl ⟨rfl, rfl, (Nat.le_of_ble_eq_true rfl), (Nat.le_of_ble_eq_true rfl)⟩ rfl hl.1 rfl (Nat.le_of_ble_eq_true rfl) dL_areEnding_53 ⟨(Nat.le_of_ble_eq_true rfl), (Nat.le_of_ble_eq_true rfl)⟩) hS (fun r F6 H locs hq hP hS => ?_)
              obtain ⟨rfl, rfl⟩ := hq
              refine lv_iload_n hx hb dL_areEnding_56 rfl (lv_at hl 3 rfl) ?_
              refine ah_icmp_ge (tgt := 105) hx hb (by omega) (by omega) dL_areEnding_57 (by decide) (fun hc57 => ?_) (fun hc57 => ?_)
              · skip
                exact absurd hc57 (by omega)
              · skip
                refine lv_aload_n hx hb dL_areEnding_60 rfl (lv_at hl 1 rfl) ?_
                refine lv_iload hx hb dL_areEnding_61 (lv_at hl 0 rfl) ?_
                refine ah_calli (ah_runV E hP hS (As := [.int (nI i)]) (rest := []) (b := x) (q_length l A D _ hC hi40 hPi) lk_Law_40 li_Law_40 hxx rfl ⟨rfl, rfl, (Nat.le_of_ble_eq_true rfl), (Nat.le_of_ble_eq_true rfl)⟩ rfl hl.1 rfl (Nat.le_of_ble_eq_true rfl) dL_areEnding_63 ⟨(Nat.le_of_ble_eq_true rfl), (Nat.le_of_ble_eq_true rfl)⟩) hS (fun r F7 H locs hq hP hS => ?_)
                obtain ⟨rfl, rfl⟩ := hq
                refine lv_aload_n hx hb dL_areEnding_66 rfl (lv_at hl 1 rfl) ?_
                refine ah_calli (ah_runV E hP hS (As := []) (rest := [.int (nI w.length)]) (b := x) (c_depth l A D _ hC) lk_Law_55 li_Law_55 hxx rfl ⟨rfl, rfl, (Nat.le_of_ble_eq_true rfl), (Nat.le_of_ble_eq_true rfl)⟩ rfl hl.1 rfl (Nat.le_of_ble_eq_true rfl) dL_areEnding_67 ⟨(Nat.le_of_ble_eq_true rfl), (Nat.le_of_ble_eq_true rfl)⟩) hS (fun r F8 H locs hq hP hS => ?_)
                obtain ⟨rfl, rfl⟩ := hq
                refine ah_icmp_gt (tgt := 105) hx hb (by omega) (by omega) dL_areEnding_70 (by decide) (fun hc70 => ?_) (fun hc70 => ?_)
                · skip
                  exact absurd hc70 (by omega)
                · skip
                  refine lv_aload_n hx hb dL_areEnding_73 rfl (lv_at hl 1 rfl) ?_
                  refine lv_iload hx hb dL_areEnding_74 (lv_at hl 0 rfl) ?_
                  refine lv_aload_n hx hb dL_areEnding_76 rfl (lv_at hl 1 rfl) ?_
                  refine lv_iload hx hb dL_areEnding_77 (lv_at hl 0 rfl) ?_
                  refine ah_calli (ah_runV E hP hS (As := [.int (nI i)]) (rest := [.int (nI i), .ref x]) (b := x) (q_occurrencesOf l A D _ hC hi40 hPi) lk_Law_84 li_Law_84 hxx rfl ⟨rfl, rfl, (Nat.le_of_ble_eq_true rfl), (Nat.le_of_ble_eq_true rfl)⟩ rfl hl.1 rfl (Nat.le_of_ble_eq_true rfl) dL_areEnding_79 ⟨(Nat.le_of_ble_eq_true rfl), (Nat.le_of_ble_eq_true rfl)⟩) hS (fun r F9 H locs hq hP hS => ?_)
                  obtain ⟨rfl, rfl⟩ := hq
                  refine lv_iconst (v := (nI 1)) hx hb dL_areEnding_82 (by decide) ?_
                  refine ah_isub hx hb (by omega) dL_areEnding_83 ?_
                  refine ah_calli (ah_runV E hP hS (As := [.int (nI i), .int (nI ((pu_cn (fun i => ah_at S i w) S.length) - 1))]) (rest := []) (b := x) (q_occurrence l A D _ hC hi40 hPi hpl.2) lk_Law_90 li_Law_90 hxx rfl ⟨rfl, rfl, (Nat.le_of_ble_eq_true rfl), (Nat.le_of_ble_eq_true rfl)⟩ rfl hl.1 rfl (Nat.le_of_ble_eq_true rfl) dL_areEnding_84 ⟨(Nat.le_of_ble_eq_true rfl), (Nat.le_of_ble_eq_true rfl)⟩) hS (fun r F10 H locs hq hP hS => ?_)
                  obtain ⟨rfl, rfl⟩ := hq
                  refine lv_aload_n hx hb dL_areEnding_87 rfl (lv_at hl 1 rfl) ?_
                  refine lv_iload hx hb dL_areEnding_88 (lv_at hl 0 rfl) ?_
                  refine ah_calli (ah_runV E hP hS (As := [.int (nI i)]) (rest := [.int (nI (S.length - w.length))]) (b := x) (q_length l A D _ hC hi40 hPi) lk_Law_40 li_Law_40 hxx rfl ⟨rfl, rfl, (Nat.le_of_ble_eq_true rfl), (Nat.le_of_ble_eq_true rfl)⟩ rfl hl.1 rfl (Nat.le_of_ble_eq_true rfl) dL_areEnding_90 ⟨(Nat.le_of_ble_eq_true rfl), (Nat.le_of_ble_eq_true rfl)⟩) hS (fun r F11 H locs hq hP hS => ?_)
                  obtain ⟨rfl, rfl⟩ := hq
                  refine ah_iadd hx hb dL_areEnding_93 ?_
                  refine lv_aload_n hx hb dL_areEnding_94 rfl (lv_at hl 1 rfl) ?_
                  refine ah_calli (ah_runV E hP hS (As := []) (rest := [.int (nI ((S.length - w.length) + w.length))]) (b := x) (c_streamLength l A D _ hC) lk_Law_37 li_Law_37 hxx rfl ⟨rfl, rfl, (Nat.le_of_ble_eq_true rfl), (Nat.le_of_ble_eq_true rfl)⟩ rfl hl.1 rfl (Nat.le_of_ble_eq_true rfl) dL_areEnding_95 ⟨(Nat.le_of_ble_eq_true rfl), (Nat.le_of_ble_eq_true rfl)⟩) hS (fun r F12 H locs hq hP hS => ?_)
                  obtain ⟨rfl, rfl⟩ := hq
                  refine ah_icmp_ne (tgt := 105) hx hb (by omega) (by omega) dL_areEnding_98 (by decide) (fun hc98 => ?_) (fun hc98 => ?_)
                  · skip
                    exact (hc98 (by omega)).elim
                  · skip
                    refine lv_iconst (v := (nI 1)) hx hb dL_areEnding_101 (by decide) ?_
                    refine lv_goto (tgt := 106) hx hb dL_areEnding_102 (by decide) ?_
                    refine lv_istore_n (lv' := [(1, .int (nI 1)), (4, .int (nI i)), (0, .ref x), (2, .int (nI La)), (3, .int (nI k))]) hx hb dL_areEnding_106 rfl hl (by decide) rfl (fun ls hl => ?_)
                    refine lv_aload_n hx hb dL_areEnding_107 rfl (lv_at hl 2 rfl) ?_
                    refine lv_iload hx hb dL_areEnding_108 (lv_at hl 1 rfl) ?_
                    refine ah_calli (ah_runV E hP hS (As := [.int (nI i)]) (rest := []) (b := x) (q_length l A D _ hC hi40 hPi) lk_Law_40 li_Law_40 hxx rfl ⟨rfl, rfl, (Nat.le_of_ble_eq_true rfl), (Nat.le_of_ble_eq_true rfl)⟩ rfl hl.1 rfl (Nat.le_of_ble_eq_true rfl) dL_areEnding_110 ⟨(Nat.le_of_ble_eq_true rfl), (Nat.le_of_ble_eq_true rfl)⟩) hS (fun r F13 H locs hq hP hS => ?_)
                    obtain ⟨rfl, rfl⟩ := hq
                    refine lv_istore_n (lv' := [(2, .int (nI w.length)), (1, .int (nI 1)), (4, .int (nI i)), (0, .ref x), (3, .int (nI k))]) hx hb dL_areEnding_113 rfl hl (by decide) rfl (fun ls hl => ?_)
                    refine lv_iinc (v := (nI (k + 1))) (lv' := [(3, .int (nI (k + 1))), (2, .int (nI w.length)), (1, .int (nI 1)), (4, .int (nI i)), (0, .ref x)]) hx hb dL_areEnding_114 hl (k := 4) rfl (ah_inc _) (by decide) rfl (fun ls hl => ?_)
                    refine lv_goto (tgt := 31) hx hb dL_areEnding_117 (by decide) ?_
                    exact ih31 (k + 1) w.length (by omega) (by omega) (fun j2 h1 h2 h3 => by have h9 : j < j2 := pc_lt (p := (fun j => (ah_es P S (8 - j)).isSome)) (by omega); omega) (by omega) _ _ hP hS ls (lv_sub hl [4, 2, 1, 0] rfl)
      exact L31 (pu_cn (ah_sat P (fun w => ah_en S S.length w)) 40 + 1) 0 9 (by omega) (Nat.zero_le _) (fun j _ _ _ => by omega) (by omega) _ _ hP hS ls (lv_sub hl [3, 2, 1, 0] rfl)
