set_option maxHeartbeats 4000000 in
set_option maxRecDepth 100000 in
/-- feeds -/
theorem w_feeds (l : Launch) (A : Nat → Prop) (D : ah_G) (F : ah_F) (hl1 : l.stackTraces = false) {x n : Nat} {P : ah_Pt} {dr S : List Nat} {td : Int32} (hC : ah_C D F x P n dr S td) {cv : Nat} (h1 : 97 ≤ cv) (h2 : cv ≤ 122) (hl6 : S.length < 60) {o : Nat} {rv : Nat → Int32} (ho : F o = some (ah_ai D 42 rv)) : Met l yL_feeds (Cond.code yL_feeds cL_feeds 8 (some .boolean) :: ah_T) { frames := 8, cells := 2, slots := 12, locals := 166 } (va_Pc [.ref x, .int (nI cv)] (ah_B A D F)) (ah_Qi A D (fun (r : Int32) F1 => nI 1 = r ∧ ah_C D F1 x P n dr (S ++ [cv - 96]) (td + nI (ah_e1 P (S ++ [cv - 96]))) ∧ F1 o = some (ah_ai D 42 rv))) 2 12 A := by
  refine ah_met (own := "AhoarchLaw") (by decide) rfl (Nat.le_of_ble_eq_true rfl) ?_
  intro p e s m below meth c ls E hr hini hl hP hS Q hQ
  have hx := E.1
  have hb := E.2.1
  have hl : lv_has ls 8 [(0, .ref x), (1, .int (nI cv))] := hl
  obtain ⟨hPok, hn40, hPn, hS200, hSlt, hdok, hcnt⟩ := ah_C_ok hC
  obtain ⟨fs0, hxx⟩ := ah_C_x hC
  have hz0 := pz_le (S := S) hPok
  have hz1 := pq_tx (S := S) hPok 0
  obtain ⟨hz2, hz3⟩ := pz_feed (S := S) (y := cv - 96) hPok
  have hl2 : (S ++ [cv - 96]).length = S.length + 1 := by simp
  have hz4 := pz_le (S := (S ++ [cv - 96])) hPok
  have hz5 := pq_tx (S := (S ++ [cv - 96])) hPok 0
  have he1 : ah_e1 P (S ++ [cv - 96]) ≤ 40 := pu_cn_le _ _
  have hed : pu_cn (ah_sat P (fun w => ah_en (S ++ [cv - 96]) (S ++ [cv - 96]).length w)) 40 ≤ 40 := pu_cn_le _ _
  have hoc0 := ah_oc_le P S S.length
  have hoc1 := ah_oc_le P (S ++ [cv - 96]) (S ++ [cv - 96]).length
  have hlt2 : ah_lt (S ++ [cv - 96]) := ah_lt_app.mpr ⟨hSlt, fun y hy => by simp at hy; omega⟩
  have hb0 := pf_tx hPok hSlt ((ah_ct P S S.length).2.1 - 1)
  have hb1 := pf_tx hPok hlt2 ((ah_ct P S S.length).2.1 - 1)
  refine lv_aload_n hx hb dL_feeds_0 rfl (lv_at hl 0 rfl) ?_
  refine ah_calli (ah_runV E hP hS (As := []) (rest := []) (b := x) (c_streamLength l A D _ hC) lk_Law_37 li_Law_37 hxx rfl ⟨rfl, rfl, (Nat.le_of_ble_eq_true rfl), (Nat.le_of_ble_eq_true rfl)⟩ rfl hl.1 rfl (Nat.le_of_ble_eq_true rfl) dL_feeds_1 ⟨(Nat.le_of_ble_eq_true rfl), (Nat.le_of_ble_eq_true rfl)⟩) hS (fun r F1 H locs hq hP hS => ?_)
  obtain ⟨rfl, rfl⟩ := hq
  refine lv_istore_n (lv' := [(2, .int (nI S.length)), (0, .ref x), (1, .int (nI cv))]) hx hb dL_feeds_4 rfl hl (by decide) rfl (fun ls hl => ?_)
  refine lv_aload_n hx hb dL_feeds_5 rfl (lv_at hl 1 rfl) ?_
  refine ah_calli (ah_runV E hP hS (As := []) (rest := []) (b := x) (c_certain l A D _ hC) lk_Law_74 li_Law_74 hxx rfl ⟨rfl, rfl, (Nat.le_of_ble_eq_true rfl), (Nat.le_of_ble_eq_true rfl)⟩ rfl hl.1 rfl (Nat.le_of_ble_eq_true rfl) dL_feeds_6 ⟨(Nat.le_of_ble_eq_true rfl), (Nat.le_of_ble_eq_true rfl)⟩) hS (fun r F2 H locs hq hP hS => ?_)
  obtain ⟨rfl, rfl⟩ := hq
  refine lv_istore_n (lv' := [(3, .int (nI ((ah_ct P S S.length).2.1))), (2, .int (nI S.length)), (0, .ref x), (1, .int (nI cv))]) hx hb dL_feeds_9 rfl hl (by decide) rfl (fun ls hl => ?_)
  refine lv_iload_n hx hb dL_feeds_10 rfl (lv_at hl 0 rfl) ?_
  refine ah_if_ne (tgt := 19) hx hb (by omega) dL_feeds_11 (by decide) (fun hc11 => ?_) (fun hc11 => ?_)
  · skip
    refine lv_aload_n hx hb dL_feeds_19 rfl (lv_at hl 2 rfl) ?_
    refine lv_iconst (v := (nI 0)) hx hb dL_feeds_20 (by decide) ?_
    refine lv_iload_n hx hb dL_feeds_21 rfl (lv_at hl 0 rfl) ?_
    refine lv_iconst (v := (nI 1)) hx hb dL_feeds_22 (by decide) ?_
    refine ah_isub hx hb (by omega) dL_feeds_23 ?_
    refine ah_calli (ah_runV E hP hS (As := [.int (nI 0), .int (nI (((ah_ct P S S.length).2.1) - 1))]) (rest := []) (b := x) (z_replaced l A D _ hC (ru := 0) (k := (ah_ct P S S.length).2.1 - 1) (by omega) (by omega)) lk_Law_77 li_Law_77 hxx rfl ⟨rfl, rfl, (Nat.le_of_ble_eq_true rfl), (Nat.le_of_ble_eq_true rfl)⟩ rfl hl.1 rfl (Nat.le_of_ble_eq_true rfl) dL_feeds_24 ⟨(Nat.le_of_ble_eq_true rfl), (Nat.le_of_ble_eq_true rfl)⟩) hS (fun r F3 H locs hq hP hS => ?_)
    obtain ⟨rfl, hCw4, houtw4⟩ := hq
    have how4 := (houtw4 _ _ ho).trans ho
    obtain ⟨fsw4, hxxw4⟩ := ah_C_x hCw4
    refine lv_istore (lv' := [(4, .int (nI (96 + (ah_tx P S (ah_chs P S 0)).getD ((ah_ct P S S.length).2.1 - 1) 0))), (3, .int (nI ((ah_ct P S S.length).2.1))), (2, .int (nI S.length)), (0, .ref x), (1, .int (nI cv))]) hx hb dL_feeds_27 hl (by decide) rfl (fun ls hl => ?_)
    refine lv_aload_n hx hb dL_feeds_29 rfl (lv_at hl 3 rfl) ?_
    refine ah_calli (ah_runV E hP hS (As := []) (rest := []) (b := x) (c_told l A D _ hCw4) lk_Law_43 li_Law_43 hxxw4 rfl ⟨rfl, rfl, (Nat.le_of_ble_eq_true rfl), (Nat.le_of_ble_eq_true rfl)⟩ rfl hl.1 rfl (Nat.le_of_ble_eq_true rfl) dL_feeds_30 ⟨(Nat.le_of_ble_eq_true rfl), (Nat.le_of_ble_eq_true rfl)⟩) hS (fun r F5 H locs hq hP hS => ?_)
    obtain ⟨rfl, rfl⟩ := hq
    refine lv_istore (lv' := [(5, .int td), (4, .int (nI (96 + (ah_tx P S (ah_chs P S 0)).getD ((ah_ct P S S.length).2.1 - 1) 0))), (3, .int (nI ((ah_ct P S S.length).2.1))), (2, .int (nI S.length)), (0, .ref x), (1, .int (nI cv))]) hx hb dL_feeds_33 hl (by decide) rfl (fun ls hl => ?_)
    refine lv_aload_n hx hb dL_feeds_35 rfl (lv_at hl 4 rfl) ?_
    refine ah_calli (ah_runV E hP hS (As := []) (rest := []) (b := x) (c_occurrences l A D _ hCw4) lk_Law_58 li_Law_58 hxxw4 rfl ⟨rfl, rfl, (Nat.le_of_ble_eq_true rfl), (Nat.le_of_ble_eq_true rfl)⟩ rfl hl.1 rfl (Nat.le_of_ble_eq_true rfl) dL_feeds_36 ⟨(Nat.le_of_ble_eq_true rfl), (Nat.le_of_ble_eq_true rfl)⟩) hS (fun r F6 H locs hq hP hS => ?_)
    obtain ⟨rfl, rfl⟩ := hq
    refine lv_istore (lv' := [(6, .int (nI (ah_oc P S S.length))), (5, .int td), (4, .int (nI (96 + (ah_tx P S (ah_chs P S 0)).getD ((ah_ct P S S.length).2.1 - 1) 0))), (3, .int (nI ((ah_ct P S S.length).2.1))), (2, .int (nI S.length)), (0, .ref x), (1, .int (nI cv))]) hx hb dL_feeds_39 hl (by decide) rfl (fun ls hl => ?_)
    refine lv_aload_n hx hb dL_feeds_41 rfl (lv_at hl 5 rfl) ?_
    refine lv_iload_n hx hb dL_feeds_42 rfl (lv_at hl 6 rfl) ?_
    refine ah_calli (ah_runV E hP hS (As := [.int (nI cv)]) (rest := []) (b := x) (q_feed l hl1 A D _ hCw4 h1 h2 (by omega)) lk_Law_81 li_Law_81 hxxw4 rfl ⟨rfl, rfl, (Nat.le_of_ble_eq_true rfl), (Nat.le_of_ble_eq_true rfl)⟩ rfl hl.1 rfl (Nat.le_of_ble_eq_true rfl) dL_feeds_43 ⟨(Nat.le_of_ble_eq_true rfl), (Nat.le_of_ble_eq_true rfl)⟩) hS (fun r F7 H locs hq hP hS => ?_)
    obtain ⟨rfl, hCw8, houtw8⟩ := hq
    have how8 := (houtw8 _ _ how4).trans how4
    obtain ⟨fsw8, hxxw8⟩ := ah_C_x hCw8
    refine lv_istore (lv' := [(7, .int (nI (ah_e1 P (S ++ [cv - 96])))), (6, .int (nI (ah_oc P S S.length))), (5, .int td), (4, .int (nI (96 + (ah_tx P S (ah_chs P S 0)).getD ((ah_ct P S S.length).2.1 - 1) 0))), (3, .int (nI ((ah_ct P S S.length).2.1))), (2, .int (nI S.length)), (0, .ref x), (1, .int (nI cv))]) hx hb dL_feeds_46 hl (by decide) rfl (fun ls hl => ?_)
    refine lv_iload hx hb dL_feeds_48 (lv_at hl 0 rfl) ?_
    refine lv_aload_n hx hb dL_feeds_50 rfl (lv_at hl 6 rfl) ?_
    refine ah_calli (ah_runV E hP hS (As := []) (rest := [.int (nI (ah_e1 P (S ++ [cv - 96])))]) (b := x) (c_ending l A D _ hCw8) lk_Law_49 li_Law_49 hxxw8 rfl ⟨rfl, rfl, (Nat.le_of_ble_eq_true rfl), (Nat.le_of_ble_eq_true rfl)⟩ rfl hl.1 rfl (Nat.le_of_ble_eq_true rfl) dL_feeds_51 ⟨(Nat.le_of_ble_eq_true rfl), (Nat.le_of_ble_eq_true rfl)⟩) hS (fun r F9 H locs hq hP hS => ?_)
    obtain ⟨rfl, rfl⟩ := hq
    refine ah_icmp_ne (tgt := 120) hx hb (by omega) (by omega) dL_feeds_54 (by decide) (fun hc54 => ?_) (fun hc54 => ?_)
    · skip
      exact (hc54 rfl).elim
    · skip
      refine lv_aload_n hx hb dL_feeds_57 rfl (lv_at hl 6 rfl) ?_
      refine ah_calli (ah_runV E hP hS (As := []) (rest := []) (b := x) (c_told l A D _ hCw8) lk_Law_43 li_Law_43 hxxw8 rfl ⟨rfl, rfl, (Nat.le_of_ble_eq_true rfl), (Nat.le_of_ble_eq_true rfl)⟩ rfl hl.1 rfl (Nat.le_of_ble_eq_true rfl) dL_feeds_58 ⟨(Nat.le_of_ble_eq_true rfl), (Nat.le_of_ble_eq_true rfl)⟩) hS (fun r F10 H locs hq hP hS => ?_)
      obtain ⟨rfl, rfl⟩ := hq
      refine lv_iload hx hb dL_feeds_61 (lv_at hl 2 rfl) ?_
      refine lv_iload hx hb dL_feeds_63 (lv_at hl 0 rfl) ?_
      refine lv_iadd hx hb dL_feeds_65 ?_
      refine lv_icmp_ne (tgt := 120) hx hb dL_feeds_66 (by decide) (fun hc66 => ?_) (fun hc66 => ?_)
      · skip
        exact (hc66 rfl).elim
      · skip
        refine lv_aload_n hx hb dL_feeds_69 rfl (lv_at hl 6 rfl) ?_
        refine ah_calli (ah_runV E hP hS (As := []) (rest := []) (b := x) (c_occurrences l A D _ hCw8) lk_Law_58 li_Law_58 hxxw8 rfl ⟨rfl, rfl, (Nat.le_of_ble_eq_true rfl), (Nat.le_of_ble_eq_true rfl)⟩ rfl hl.1 rfl (Nat.le_of_ble_eq_true rfl) dL_feeds_70 ⟨(Nat.le_of_ble_eq_true rfl), (Nat.le_of_ble_eq_true rfl)⟩) hS (fun r F11 H locs hq hP hS => ?_)
        obtain ⟨rfl, rfl⟩ := hq
        refine lv_iload hx hb dL_feeds_73 (lv_at hl 1 rfl) ?_
        refine lv_iload hx hb dL_feeds_75 (lv_at hl 0 rfl) ?_
        refine ah_iadd hx hb dL_feeds_77 ?_
        refine ah_icmp_ne (tgt := 120) hx hb (by omega) (by omega) dL_feeds_78 (by decide) (fun hc78 => ?_) (fun hc78 => ?_)
        · skip
          exact (hc78 pf_oc).elim
        · skip
          refine lv_aload_n hx hb dL_feeds_81 rfl (lv_at hl 6 rfl) ?_
          refine ah_calli (ah_runV E hP hS (As := []) (rest := []) (b := x) (c_streamLength l A D _ hCw8) lk_Law_37 li_Law_37 hxxw8 rfl ⟨rfl, rfl, (Nat.le_of_ble_eq_true rfl), (Nat.le_of_ble_eq_true rfl)⟩ rfl hl.1 rfl (Nat.le_of_ble_eq_true rfl) dL_feeds_82 ⟨(Nat.le_of_ble_eq_true rfl), (Nat.le_of_ble_eq_true rfl)⟩) hS (fun r F12 H locs hq hP hS => ?_)
          obtain ⟨rfl, rfl⟩ := hq
          refine lv_iload_n hx hb dL_feeds_85 rfl (lv_at hl 5 rfl) ?_
          refine lv_iconst (v := (nI 1)) hx hb dL_feeds_86 (by decide) ?_
          refine ah_iadd hx hb dL_feeds_87 ?_
          refine ah_icmp_ne (tgt := 120) hx hb (by omega) (by omega) dL_feeds_88 (by decide) (fun hc88 => ?_) (fun hc88 => ?_)
          · skip
            exact (hc88 hl2).elim
          · skip
            refine lv_aload_n hx hb dL_feeds_91 rfl (lv_at hl 6 rfl) ?_
            refine ah_calli (ah_runV E hP hS (As := []) (rest := []) (b := x) (c_certain l A D _ hCw8) lk_Law_74 li_Law_74 hxxw8 rfl ⟨rfl, rfl, (Nat.le_of_ble_eq_true rfl), (Nat.le_of_ble_eq_true rfl)⟩ rfl hl.1 rfl (Nat.le_of_ble_eq_true rfl) dL_feeds_92 ⟨(Nat.le_of_ble_eq_true rfl), (Nat.le_of_ble_eq_true rfl)⟩) hS (fun r F13 H locs hq hP hS => ?_)
            obtain ⟨rfl, rfl⟩ := hq
            refine lv_iload_n hx hb dL_feeds_95 rfl (lv_at hl 4 rfl) ?_
            refine ah_icmp_lt (tgt := 120) hx hb (by omega) (by omega) dL_feeds_96 (by decide) (fun hc96 => ?_) (fun hc96 => ?_)
            · skip
              exact absurd hc96 (by omega)
            · skip
              refine lv_iload_n hx hb dL_feeds_99 rfl (lv_at hl 4 rfl) ?_
              refine ah_if_eq (tgt := 116) hx hb (by omega) dL_feeds_100 (by decide) (fun hc100 => ?_) (fun hc100 => ?_)
              · skip
                exact absurd hc100 (by omega)
              · skip
                refine lv_aload_n hx hb dL_feeds_103 rfl (lv_at hl 6 rfl) ?_
                refine lv_iconst (v := (nI 0)) hx hb dL_feeds_104 (by decide) ?_
                refine lv_iload_n hx hb dL_feeds_105 rfl (lv_at hl 4 rfl) ?_
                refine lv_iconst (v := (nI 1)) hx hb dL_feeds_106 (by decide) ?_
                refine ah_isub hx hb (by omega) dL_feeds_107 ?_
                refine ah_calli (ah_runV E hP hS (As := [.int (nI 0), .int (nI (((ah_ct P S S.length).2.1) - 1))]) (rest := []) (b := x) (z_replaced l A D _ hCw8 (ru := 0) (k := (ah_ct P S S.length).2.1 - 1) (by omega) (by omega)) lk_Law_77 li_Law_77 hxxw8 rfl ⟨rfl, rfl, (Nat.le_of_ble_eq_true rfl), (Nat.le_of_ble_eq_true rfl)⟩ rfl hl.1 rfl (Nat.le_of_ble_eq_true rfl) dL_feeds_108 ⟨(Nat.le_of_ble_eq_true rfl), (Nat.le_of_ble_eq_true rfl)⟩) hS (fun r F14 H locs hq hP hS => ?_)
                obtain ⟨rfl, hCw15, houtw15⟩ := hq
                have how15 := (houtw15 _ _ how8).trans how8
                obtain ⟨fsw15, hxxw15⟩ := ah_C_x hCw15
                refine lv_iload hx hb dL_feeds_111 (lv_at hl 3 rfl) ?_
                refine ah_icmp_ne (tgt := 120) hx hb (by omega) (by omega) dL_feeds_113 (by decide) (fun hc113 => ?_) (fun hc113 => ?_)
                · skip
                  exact (hc113 (by rw [hz3 _ (by omega)])).elim
                · skip
                  refine lv_iconst (v := (nI 1)) hx hb dL_feeds_116 (by decide) ?_
                  refine lv_goto (tgt := 121) hx hb dL_feeds_117 (by decide) ?_
                  rw [hQ]
                  exact ah_zret E hr (by first | exact bI_nz _ | decide) hP hS ⟨rfl, hCw15, how15⟩ (Nat.le_of_ble_eq_true rfl) (Nat.le_of_ble_eq_true rfl) dL_feeds_121
  · skip
    refine lv_bipush (v := (nI 97)) hx hb dL_feeds_14 (by decide) ?_
    refine lv_goto (tgt := 27) hx hb dL_feeds_16 (by decide) ?_
    refine lv_istore (lv' := [(4, .int (nI 97)), (3, .int (nI ((ah_ct P S S.length).2.1))), (2, .int (nI S.length)), (0, .ref x), (1, .int (nI cv))]) hx hb dL_feeds_27 hl (by decide) rfl (fun ls hl => ?_)
    refine lv_aload_n hx hb dL_feeds_29 rfl (lv_at hl 3 rfl) ?_
    refine ah_calli (ah_runV E hP hS (As := []) (rest := []) (b := x) (c_told l A D _ hC) lk_Law_43 li_Law_43 hxx rfl ⟨rfl, rfl, (Nat.le_of_ble_eq_true rfl), (Nat.le_of_ble_eq_true rfl)⟩ rfl hl.1 rfl (Nat.le_of_ble_eq_true rfl) dL_feeds_30 ⟨(Nat.le_of_ble_eq_true rfl), (Nat.le_of_ble_eq_true rfl)⟩) hS (fun r F16 H locs hq hP hS => ?_)
    obtain ⟨rfl, rfl⟩ := hq
    refine lv_istore (lv' := [(5, .int td), (4, .int (nI 97)), (3, .int (nI ((ah_ct P S S.length).2.1))), (2, .int (nI S.length)), (0, .ref x), (1, .int (nI cv))]) hx hb dL_feeds_33 hl (by decide) rfl (fun ls hl => ?_)
    refine lv_aload_n hx hb dL_feeds_35 rfl (lv_at hl 4 rfl) ?_
    refine ah_calli (ah_runV E hP hS (As := []) (rest := []) (b := x) (c_occurrences l A D _ hC) lk_Law_58 li_Law_58 hxx rfl ⟨rfl, rfl, (Nat.le_of_ble_eq_true rfl), (Nat.le_of_ble_eq_true rfl)⟩ rfl hl.1 rfl (Nat.le_of_ble_eq_true rfl) dL_feeds_36 ⟨(Nat.le_of_ble_eq_true rfl), (Nat.le_of_ble_eq_true rfl)⟩) hS (fun r F17 H locs hq hP hS => ?_)
    obtain ⟨rfl, rfl⟩ := hq
    refine lv_istore (lv' := [(6, .int (nI (ah_oc P S S.length))), (5, .int td), (4, .int (nI 97)), (3, .int (nI ((ah_ct P S S.length).2.1))), (2, .int (nI S.length)), (0, .ref x), (1, .int (nI cv))]) hx hb dL_feeds_39 hl (by decide) rfl (fun ls hl => ?_)
    refine lv_aload_n hx hb dL_feeds_41 rfl (lv_at hl 5 rfl) ?_
    refine lv_iload_n hx hb dL_feeds_42 rfl (lv_at hl 6 rfl) ?_
    refine ah_calli (ah_runV E hP hS (As := [.int (nI cv)]) (rest := []) (b := x) (q_feed l hl1 A D _ hC h1 h2 (by omega)) lk_Law_81 li_Law_81 hxx rfl ⟨rfl, rfl, (Nat.le_of_ble_eq_true rfl), (Nat.le_of_ble_eq_true rfl)⟩ rfl hl.1 rfl (Nat.le_of_ble_eq_true rfl) dL_feeds_43 ⟨(Nat.le_of_ble_eq_true rfl), (Nat.le_of_ble_eq_true rfl)⟩) hS (fun r F18 H locs hq hP hS => ?_)
    obtain ⟨rfl, hCw19, houtw19⟩ := hq
    have how19 := (houtw19 _ _ ho).trans ho
    obtain ⟨fsw19, hxxw19⟩ := ah_C_x hCw19
    refine lv_istore (lv' := [(7, .int (nI (ah_e1 P (S ++ [cv - 96])))), (6, .int (nI (ah_oc P S S.length))), (5, .int td), (4, .int (nI 97)), (3, .int (nI ((ah_ct P S S.length).2.1))), (2, .int (nI S.length)), (0, .ref x), (1, .int (nI cv))]) hx hb dL_feeds_46 hl (by decide) rfl (fun ls hl => ?_)
    refine lv_iload hx hb dL_feeds_48 (lv_at hl 0 rfl) ?_
    refine lv_aload_n hx hb dL_feeds_50 rfl (lv_at hl 6 rfl) ?_
    refine ah_calli (ah_runV E hP hS (As := []) (rest := [.int (nI (ah_e1 P (S ++ [cv - 96])))]) (b := x) (c_ending l A D _ hCw19) lk_Law_49 li_Law_49 hxxw19 rfl ⟨rfl, rfl, (Nat.le_of_ble_eq_true rfl), (Nat.le_of_ble_eq_true rfl)⟩ rfl hl.1 rfl (Nat.le_of_ble_eq_true rfl) dL_feeds_51 ⟨(Nat.le_of_ble_eq_true rfl), (Nat.le_of_ble_eq_true rfl)⟩) hS (fun r F20 H locs hq hP hS => ?_)
    obtain ⟨rfl, rfl⟩ := hq
    refine ah_icmp_ne (tgt := 120) hx hb (by omega) (by omega) dL_feeds_54 (by decide) (fun hc54 => ?_) (fun hc54 => ?_)
    · skip
      exact (hc54 rfl).elim
    · skip
      refine lv_aload_n hx hb dL_feeds_57 rfl (lv_at hl 6 rfl) ?_
      refine ah_calli (ah_runV E hP hS (As := []) (rest := []) (b := x) (c_told l A D _ hCw19) lk_Law_43 li_Law_43 hxxw19 rfl ⟨rfl, rfl, (Nat.le_of_ble_eq_true rfl), (Nat.le_of_ble_eq_true rfl)⟩ rfl hl.1 rfl (Nat.le_of_ble_eq_true rfl) dL_feeds_58 ⟨(Nat.le_of_ble_eq_true rfl), (Nat.le_of_ble_eq_true rfl)⟩) hS (fun r F21 H locs hq hP hS => ?_)
      obtain ⟨rfl, rfl⟩ := hq
      refine lv_iload hx hb dL_feeds_61 (lv_at hl 2 rfl) ?_
      refine lv_iload hx hb dL_feeds_63 (lv_at hl 0 rfl) ?_
      refine lv_iadd hx hb dL_feeds_65 ?_
      refine lv_icmp_ne (tgt := 120) hx hb dL_feeds_66 (by decide) (fun hc66 => ?_) (fun hc66 => ?_)
      · skip
        exact (hc66 rfl).elim
      · skip
        refine lv_aload_n hx hb dL_feeds_69 rfl (lv_at hl 6 rfl) ?_
        refine ah_calli (ah_runV E hP hS (As := []) (rest := []) (b := x) (c_occurrences l A D _ hCw19) lk_Law_58 li_Law_58 hxxw19 rfl ⟨rfl, rfl, (Nat.le_of_ble_eq_true rfl), (Nat.le_of_ble_eq_true rfl)⟩ rfl hl.1 rfl (Nat.le_of_ble_eq_true rfl) dL_feeds_70 ⟨(Nat.le_of_ble_eq_true rfl), (Nat.le_of_ble_eq_true rfl)⟩) hS (fun r F22 H locs hq hP hS => ?_)
        obtain ⟨rfl, rfl⟩ := hq
        refine lv_iload hx hb dL_feeds_73 (lv_at hl 1 rfl) ?_
        refine lv_iload hx hb dL_feeds_75 (lv_at hl 0 rfl) ?_
        refine ah_iadd hx hb dL_feeds_77 ?_
        refine ah_icmp_ne (tgt := 120) hx hb (by omega) (by omega) dL_feeds_78 (by decide) (fun hc78 => ?_) (fun hc78 => ?_)
        · skip
          exact (hc78 pf_oc).elim
        · skip
          refine lv_aload_n hx hb dL_feeds_81 rfl (lv_at hl 6 rfl) ?_
          refine ah_calli (ah_runV E hP hS (As := []) (rest := []) (b := x) (c_streamLength l A D _ hCw19) lk_Law_37 li_Law_37 hxxw19 rfl ⟨rfl, rfl, (Nat.le_of_ble_eq_true rfl), (Nat.le_of_ble_eq_true rfl)⟩ rfl hl.1 rfl (Nat.le_of_ble_eq_true rfl) dL_feeds_82 ⟨(Nat.le_of_ble_eq_true rfl), (Nat.le_of_ble_eq_true rfl)⟩) hS (fun r F23 H locs hq hP hS => ?_)
          obtain ⟨rfl, rfl⟩ := hq
          refine lv_iload_n hx hb dL_feeds_85 rfl (lv_at hl 5 rfl) ?_
          refine lv_iconst (v := (nI 1)) hx hb dL_feeds_86 (by decide) ?_
          refine ah_iadd hx hb dL_feeds_87 ?_
          refine ah_icmp_ne (tgt := 120) hx hb (by omega) (by omega) dL_feeds_88 (by decide) (fun hc88 => ?_) (fun hc88 => ?_)
          · skip
            exact (hc88 hl2).elim
          · skip
            refine lv_aload_n hx hb dL_feeds_91 rfl (lv_at hl 6 rfl) ?_
            refine ah_calli (ah_runV E hP hS (As := []) (rest := []) (b := x) (c_certain l A D _ hCw19) lk_Law_74 li_Law_74 hxxw19 rfl ⟨rfl, rfl, (Nat.le_of_ble_eq_true rfl), (Nat.le_of_ble_eq_true rfl)⟩ rfl hl.1 rfl (Nat.le_of_ble_eq_true rfl) dL_feeds_92 ⟨(Nat.le_of_ble_eq_true rfl), (Nat.le_of_ble_eq_true rfl)⟩) hS (fun r F24 H locs hq hP hS => ?_)
            obtain ⟨rfl, rfl⟩ := hq
            refine lv_iload_n hx hb dL_feeds_95 rfl (lv_at hl 4 rfl) ?_
            refine ah_icmp_lt (tgt := 120) hx hb (by omega) (by omega) dL_feeds_96 (by decide) (fun hc96 => ?_) (fun hc96 => ?_)
            · skip
              exact absurd hc96 (by omega)
            · skip
              refine lv_iload_n hx hb dL_feeds_99 rfl (lv_at hl 4 rfl) ?_
              refine ah_if_eq (tgt := 116) hx hb (by omega) dL_feeds_100 (by decide) (fun hc100 => ?_) (fun hc100 => ?_)
              · skip
                refine lv_iconst (v := (nI 1)) hx hb dL_feeds_116 (by decide) ?_
                refine lv_goto (tgt := 121) hx hb dL_feeds_117 (by decide) ?_
                rw [hQ]
                exact ah_zret E hr (by first | exact bI_nz _ | decide) hP hS ⟨rfl, hCw19, how19⟩ (Nat.le_of_ble_eq_true rfl) (Nat.le_of_ble_eq_true rfl) dL_feeds_121
              · skip
                exact absurd hc100 (by omega)
