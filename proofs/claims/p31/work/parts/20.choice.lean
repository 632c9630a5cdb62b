set_option maxHeartbeats 4000000 in
set_option maxRecDepth 100000 in
/-- chooseByPlace -/
theorem c_Choice_chooseByPlace (l : Launch) (A : Nat → Prop) (D : ah_G) (F : ah_F) {ch cp cl : Nat} {pf : Nat → Option Nat} {plf : Nat → Int32} (hch : F ch = some (.inr (1, [.ref cp, .ref cl, .int (nI 0)]))) (hcp : F cp = some (ah_aq D 200 pf)) (hcl : F cl = some (ah_ai D 200 plf)) {b ra : Nat} {rf : Nat → Option Nat} {P : ah_Pt} {n pr : Nat} (hbk : F b = some (.inr (0, [.ref ra, .int (nI n), .int (nI pr)]))) (hra : F ra = some (ah_aq D 40 rf)) (hrows : ah_rows F rf P) {st la : Nat} {lf : Nat → Int64} {S : List Nat} (hst : F st = some (.inr (3, [.ref la, .int (nI S.length)]))) (hla : F la = some (ah_al D 201 lf)) (hstr : ah_str lf S) {z : Nat} (hz : z ≤ 1) : Met l yX1_chooseByPlace (Cond.code yX1_chooseByPlace cX1_chooseByPlace 7 none :: ah_T) { frames := 3, cells := 0, slots := 0, locals := 71 } (va_Pc [.ref ch, .int (nI z), .ref b, .ref st] (ah_B A D F)) (ah_Qv A D (fun F1 => ∃ (pf1 : Nat → Option Nat) (lf1 : Nat → Int32), F1 ch = some (.inr (1, [.ref cp, .ref cl, .int (nI (ah_cpl P (if z = 0 then ah_n1 P S else ah_n0 P S) S.length).2.length)])) ∧ F1 cp = some (ah_aq D 200 pf1) ∧ F1 cl = some (ah_ai D 200 lf1) ∧ ah_cho rf pf1 lf1 (ah_cpl P (if z = 0 then ah_n1 P S else ah_n0 P S) S.length).2 ∧ (ah_cpl P (if z = 0 then ah_n1 P S else ah_n0 P S) S.length).2.length ≤ S.length ∧ ah_ch F F1 [ch, cl, cp])) 0 0 A := by
  refine ah_met (own := "Ahoarch$Choice") (by decide) rfl (Nat.le_of_ble_eq_true rfl) ?_
  intro p e s m below meth c ls E hr hini hl hP hS Q hQ
  have hx := E.1
  have hb := E.2.1
  have hl : lv_has ls 7 [(0, .ref ch), (1, .int (nI z)), (2, .ref b), (3, .ref st)] := hl
  obtain ⟨hS1, hS2, hS3⟩ := id hstr
  refine lv_iconst (v := (nI 0)) hx hb dX1_chooseByPlace_0 (by decide) ?_
  refine lv_istore (lv' := [(4, .int (nI 0)), (0, .ref ch), (1, .int (nI z)), (2, .ref b), (3, .ref st)]) hx hb dX1_chooseByPlace_1 hl (by decide) rfl (fun ls hl => ?_)
  refine lv_iconst (v := (nI 0)) hx hb dX1_chooseByPlace_3 (by decide) ?_
  refine lv_istore (lv' := [(5, .int (nI 0)), (4, .int (nI 0)), (0, .ref ch), (1, .int (nI z)), (2, .ref b), (3, .ref st)]) hx hb dX1_chooseByPlace_4 hl (by decide) rfl (fun ls hl => ?_)
  have L6 : ∀ (fuel : Nat), ∀ (Fv : ah_F) (k fr cc : Nat) (Lc : ah_Ch) (pf1 : Nat → Option Nat) (lf1 : Nat → Int32), S.length - k < fuel → k ≤ S.length → ah_cpl P (if z = 0 then ah_n1 P S else ah_n0 P S) k = (fr, Lc) → cc = Lc.length → cc ≤ k → fr ≤ S.length + 8 → ah_cho rf pf1 lf1 Lc → ah_ch F Fv [ch, cl, cp] → Fv ch = some (.inr (1, [.ref cp, .ref cl, .int (nI cc)])) → Fv cp = some (ah_aq D 200 pf1) → Fv cl = some (ah_ai D 200 lf1) → Fv b = some (.inr (0, [.ref ra, .int (nI n), .int (nI pr)])) → Fv ra = some (ah_aq D 40 rf) → Fv st = some (.inr (3, [.ref la, .int (nI S.length)])) → Fv la = some (ah_al D 201 lf) → ∀ (H : Heap) (locs : List Loc), ah_K A D Fv H → va_S A s.heap H locs → ∀ (ls : Array Slot), lv_has ls 7 [(0, .ref ch), (1, .int (nI z)), (2, .ref b), (3, .ref st), (4, .int (nI fr)), (5, .int (nI k))] → W p l e { frames := 3, cells := 0, slots := 0, locals := 71 } s m [.ref ch, .int (nI z), .ref b, .ref st].toArray below meth c H locs 0 0 Q (F0 m 6 ls []) := by
    intro fuel
    induction fuel with
    | zero =>
      intro Fv k fr cc Lc pf1 lf1 hm
      exact absurd hm (Nat.not_lt_zero _)
    | succ fuel ih =>
      intro Fv k fr cc Lc pf1 lf1 hm hk hcpl hcc hcck hfr hcho hcv hk1 hk2 hk3 hk4 hk5 hk6 hk7 H locs hP hS ls hl
      have hrows1 : ah_rows Fv rf P := hrows.fr hcv (ah_all3 (ah_nr_t hch rfl rfl) (ah_nr_t hcl rfl rfl) (ah_nr_t hcp rfl rfl))
      refine lv_iload hx hb dX1_chooseByPlace_6 (lv_at hl 5 rfl) ?_
      refine lv_aload_n hx hb dX1_chooseByPlace_8 rfl (lv_at hl 3 rfl) ?_
      refine gf_Choice_33 E hP hk6 rfl dX1_chooseByPlace_9 ?_
      refine ah_icmp_ge (tgt := 77) hx hb (by omega) (by omega) dX1_chooseByPlace_12 (by decide) (fun hc12 => ?_) (fun hc12 => ?_)
      · skip
        have hkk : k = S.length := by omega
        rw [hkk] at hcpl
        rw [hQ]
        exact ah_vret E hr hP hS ⟨pf1, lf1, by rw [hcpl]; show Fv ch = some (.inr (1, [.ref cp, .ref cl, .int (nI Lc.length)])); rw [← hcc]; exact hk1, hk2, hk3, by rw [hcpl]; exact hcho, by rw [hcpl]; show Lc.length ≤ _; omega, hcv⟩ (Nat.le_of_ble_eq_true rfl) (Nat.le_of_ble_eq_true rfl) dX1_chooseByPlace_77
      · skip
        refine lv_iload hx hb dX1_chooseByPlace_15 (lv_at hl 5 rfl) ?_
        refine lv_iload hx hb dX1_chooseByPlace_17 (lv_at hl 4 rfl) ?_
        refine ah_icmp_lt (tgt := 71) hx hb (by omega) (by omega) dX1_chooseByPlace_19 (by decide) (fun hc19 => ?_) (fun hc19 => ?_)
        · skip
          refine lv_iinc (v := (nI (k + 1))) (lv' := [(5, .int (nI (k + 1))), (0, .ref ch), (1, .int (nI z)), (2, .ref b), (3, .ref st), (4, .int (nI fr))]) hx hb dX1_chooseByPlace_71 hl (k := 5) rfl (ah_inc _) (by decide) rfl (fun ls hl => ?_)
          refine lv_goto (tgt := 6) hx hb dX1_chooseByPlace_74 (by decide) ?_
          exact ih _ _ _ _ _ _ _ (by omega) (by omega) (by rw [ah_cpl_o (by rw [hcpl]; exact hc19)]; exact hcpl) hcc (by omega) hfr hcho hcv hk1 hk2 hk3 hk4 hk5 hk6 hk7 _ _ hP hS ls (lv_sub hl [1, 2, 3, 4, 5, 0] rfl)
        · skip
          refine lv_iload_n hx hb dX1_chooseByPlace_22 rfl (lv_at hl 1 rfl) ?_
          refine ah_if_eq (tgt := 36) hx hb (by omega) dX1_chooseByPlace_23 (by decide) (fun hc23 => ?_) (fun hc23 => ?_)
          · skip
            refine lv_aload_n hx hb dX1_chooseByPlace_36 rfl (lv_at hl 2 rfl) ?_
            refine lv_aload_n hx hb dX1_chooseByPlace_37 rfl (lv_at hl 3 rfl) ?_
            refine lv_iload hx hb dX1_chooseByPlace_38 (lv_at hl 5 rfl) ?_
            refine ah_callq (ah_runV E hP hS (As := [.ref st, .int (nI k)]) (rest := []) (b := b) (c_Book_firstAt l A D _ hk4 hk5 hrows1 hk6 hk7 hstr (i := k) (by omega)) lk_Choice_44 li_Choice_44 hk4 rfl ⟨rfl, rfl, (Nat.le_of_ble_eq_true rfl), (Nat.le_of_ble_eq_true rfl)⟩ rfl hl.1 rfl (Nat.le_of_ble_eq_true rfl) dX1_chooseByPlace_40 ⟨(Nat.le_of_ble_eq_true rfl), (Nat.le_of_ble_eq_true rfl)⟩) hS (fun r F8 H locs hq hP hS => ?_)
            obtain ⟨rfl, rfl⟩ := hq
            cases hq : (ah_fst (ah_sat P (fun w => ah_at S k w)) 40).bind rf with
            | none =>
              have hnx : (if z = 0 then ah_n1 P S else ah_n0 P S) k = none := by rw [if_pos (by omega)]; exact ah_fst_bn hrows1 (by omega) hq
              refine lv_astoreN (lv' := [(6, .null), (0, .ref ch), (1, .int (nI z)), (2, .ref b), (3, .ref st), (4, .int (nI fr)), (5, .int (nI k))]) hx hb dX1_chooseByPlace_43 hl (by decide) rfl (fun ls hl => ?_)
              refine lv_aloadN hx hb dX1_chooseByPlace_45 (lv_at hl 0 rfl) ?_
              refine lv_ifnullN (tgt := 71) hx hb dX1_chooseByPlace_47 (by decide) ?_
              refine lv_iinc (v := (nI (k + 1))) (lv' := [(5, .int (nI (k + 1))), (6, .null), (0, .ref ch), (1, .int (nI z)), (2, .ref b), (3, .ref st), (4, .int (nI fr))]) hx hb dX1_chooseByPlace_71 hl (k := 6) rfl (ah_inc _) (by decide) rfl (fun ls hl => ?_)
              refine lv_goto (tgt := 6) hx hb dX1_chooseByPlace_74 (by decide) ?_
              exact ih _ _ _ _ _ _ _ (by omega) (by omega) (by rw [ah_cpl_n hnx]; exact hcpl) hcc (by omega) hfr hcho hcv hk1 hk2 hk3 hk4 hk5 hk6 hk7 _ _ hP hS ls (lv_sub hl [2, 3, 4, 5, 6, 0] rfl)
            | some q =>
              obtain ⟨j, w, r, lw, lr, hnx0, hj, hrj, hPj, hqo, hlw, hlr, hok, hokr, hne, hfw⟩ := ah_fst_bs hrows1 hq.symm
              have hwl := hok.1
              have hnx : (if z = 0 then ah_n1 P S else ah_n0 P S) k = some j := by rw [if_pos (by omega)]; exact hnx0
              refine lv_astore (lv' := [(6, .ref q), (0, .ref ch), (1, .int (nI z)), (2, .ref b), (3, .ref st), (4, .int (nI fr)), (5, .int (nI k))]) hx hb dX1_chooseByPlace_43 hl (by decide) rfl (fun ls hl => ?_)
              refine lv_aload hx hb dX1_chooseByPlace_45 (lv_at hl 0 rfl) ?_
              refine lv_ifnull hx hb dX1_chooseByPlace_47 ?_
              refine lv_aload_n hx hb dX1_chooseByPlace_50 rfl (lv_at hl 1 rfl) ?_
              refine lv_aload hx hb dX1_chooseByPlace_51 (lv_at hl 0 rfl) ?_
              refine lv_iload hx hb dX1_chooseByPlace_53 (lv_at hl 6 rfl) ?_
              refine ah_callv (ah_runV E hP hS (As := [.ref q, .int (nI k)]) (rest := []) (b := ch) (c_Choice_keep l A D _ hk1 hk2 hk3 (i := k) hqo (by omega)) lk_Choice_47 li_Choice_47 hk1 rfl ⟨rfl, rfl, (Nat.le_of_ble_eq_true rfl), (Nat.le_of_ble_eq_true rfl)⟩ rfl hl.1 rfl (Nat.le_of_ble_eq_true rfl) dX1_chooseByPlace_55 ⟨(Nat.le_of_ble_eq_true rfl), (Nat.le_of_ble_eq_true rfl)⟩) hS (fun F9 H locs hkp hP hS => ?_)
              obtain ⟨hu1, hu2, hu3, hu4⟩ := hkp
              have hG10 : F9 b = some (.inr (0, [.ref ra, .int (nI n), .int (nI pr)])) := (hu4 b (ah_nin3 (ah_ne hk4 hk1 rfl) (ah_ne hk4 hk3 rfl) (ah_ne hk4 hk2 rfl))).trans hk4
              have hG11 : F9 ra = some (ah_aq D 40 rf) := (hu4 ra (ah_nin3 (ah_ne hk5 hk1 rfl) (ah_ne hk5 hk3 rfl) (ah_ne hk5 hk2 rfl))).trans hk5
              have hG12 : F9 st = some (.inr (3, [.ref la, .int (nI S.length)])) := (hu4 st (ah_nin3 (ah_ne hk6 hk1 rfl) (ah_ne hk6 hk3 rfl) (ah_ne hk6 hk2 rfl))).trans hk6
              have hG13 : F9 la = some (ah_al D 201 lf) := (hu4 la (ah_nin3 (ah_ne hk7 hk1 rfl) (ah_ne hk7 hk3 rfl) (ah_ne hk7 hk2 rfl))).trans hk7
              have hG14 : F9 q = some (.inr (2, [.int (nI j), .ref lw, .ref lr])) := (hu4 q (ah_nin3 (ah_ne hqo hk1 rfl) (ah_ne hqo hk3 rfl) (ah_ne hqo hk2 rfl))).trans hqo
              have hG15 : F9 lw = some (.inr (5, [.long (lN (ah_enc w)), .int (nI w.length)])) := (hu4 lw (ah_nin3 (ah_ne hlw hk1 rfl) (ah_ne hlw hk3 rfl) (ah_ne hlw hk2 rfl))).trans hlw
              have hC16 : ah_ch F F9 [ch, cl, cp] := ah_ch_t hcv hu4 (by intro a ha; simp only [List.mem_cons, List.not_mem_nil, or_false] at ha ⊢; omega)
              refine lv_iload hx hb dX1_chooseByPlace_58 (lv_at hl 6 rfl) ?_
              refine lv_aload hx hb dX1_chooseByPlace_60 (lv_at hl 0 rfl) ?_
              refine gf_Choice_51 E hP hG14 rfl dX1_chooseByPlace_62 ?_
              refine gf_Choice_55 E hP hG15 rfl dX1_chooseByPlace_65 ?_
              refine ah_iadd hx hb dX1_chooseByPlace_68 ?_
              refine lv_istore (lv' := [(4, .int (nI (k + w.length))), (6, .ref q), (0, .ref ch), (1, .int (nI z)), (2, .ref b), (3, .ref st), (5, .int (nI k))]) hx hb dX1_chooseByPlace_69 hl (by decide) rfl (fun ls hl => ?_)
              refine lv_iinc (v := (nI (k + 1))) (lv' := [(5, .int (nI (k + 1))), (4, .int (nI (k + w.length))), (6, .ref q), (0, .ref ch), (1, .int (nI z)), (2, .ref b), (3, .ref st)]) hx hb dX1_chooseByPlace_71 hl (k := 6) rfl (ah_inc _) (by decide) rfl (fun ls hl => ?_)
              refine lv_goto (tgt := 6) hx hb dX1_chooseByPlace_74 (by decide) ?_
              exact ih _ _ _ (cc + 1) (Lc ++ [(j, k)]) _ _ (by omega) (by omega) (by rw [ah_cpl_s (by rw [hcpl]; exact hc19) hnx, hcpl, ah_w_s hPj]) (by rw [List.length_append, ← hcc]; rfl) (by omega) (by omega) (by rw [hcc]; exact ah_cho_s hcho hrj) hC16 hu1 hu2 hu3 hG10 hG11 hG12 hG13 _ _ hP hS ls (lv_sub hl [3, 4, 5, 6, 1, 0] rfl)
          · skip
            refine lv_aload_n hx hb dX1_chooseByPlace_26 rfl (lv_at hl 2 rfl) ?_
            refine lv_aload_n hx hb dX1_chooseByPlace_27 rfl (lv_at hl 3 rfl) ?_
            refine lv_iload hx hb dX1_chooseByPlace_28 (lv_at hl 5 rfl) ?_
            refine ah_callq (ah_runV E hP hS (As := [.ref st, .int (nI k)]) (rest := []) (b := b) (c_Book_longestAt l A D _ hk4 hk5 hrows1 hk6 hk7 hstr (i := k) (by omega)) lk_Choice_38 li_Choice_38 hk4 rfl ⟨rfl, rfl, (Nat.le_of_ble_eq_true rfl), (Nat.le_of_ble_eq_true rfl)⟩ rfl hl.1 rfl (Nat.le_of_ble_eq_true rfl) dX1_chooseByPlace_30 ⟨(Nat.le_of_ble_eq_true rfl), (Nat.le_of_ble_eq_true rfl)⟩) hS (fun r F17 H locs hq hP hS => ?_)
            obtain ⟨rfl, rfl⟩ := hq
            cases hq : (ah_best P (fun w => ah_at S k w) 40).bind rf with
            | none =>
              have hnx : (if z = 0 then ah_n1 P S else ah_n0 P S) k = none := by rw [if_neg (by omega)]; exact ah_best_bn hrows1 (by omega) hq.symm
              refine lv_goto (tgt := 43) hx hb dX1_chooseByPlace_33 (by decide) ?_
              refine lv_astoreN (lv' := [(6, .null), (0, .ref ch), (1, .int (nI z)), (2, .ref b), (3, .ref st), (4, .int (nI fr)), (5, .int (nI k))]) hx hb dX1_chooseByPlace_43 hl (by decide) rfl (fun ls hl => ?_)
              refine lv_aloadN hx hb dX1_chooseByPlace_45 (lv_at hl 0 rfl) ?_
              refine lv_ifnullN (tgt := 71) hx hb dX1_chooseByPlace_47 (by decide) ?_
              refine lv_iinc (v := (nI (k + 1))) (lv' := [(5, .int (nI (k + 1))), (6, .null), (0, .ref ch), (1, .int (nI z)), (2, .ref b), (3, .ref st), (4, .int (nI fr))]) hx hb dX1_chooseByPlace_71 hl (k := 6) rfl (ah_inc _) (by decide) rfl (fun ls hl => ?_)
              refine lv_goto (tgt := 6) hx hb dX1_chooseByPlace_74 (by decide) ?_
              exact ih _ _ _ _ _ _ _ (by omega) (by omega) (by rw [ah_cpl_n hnx]; exact hcpl) hcc (by omega) hfr hcho hcv hk1 hk2 hk3 hk4 hk5 hk6 hk7 _ _ hP hS ls (lv_sub hl [2, 3, 4, 5, 6, 0] rfl)
            | some q =>
              obtain ⟨j, w, r, lw, lr, hnx0, hj, hrj, hPj, hqo, hlw, hlr, hok, hokr, hne, hfw⟩ := ah_best_bs2 hrows1 hq.symm
              have hwl := hok.1
              have hnx : (if z = 0 then ah_n1 P S else ah_n0 P S) k = some j := by rw [if_neg (by omega)]; exact hnx0
              refine lv_goto (tgt := 43) hx hb dX1_chooseByPlace_33 (by decide) ?_
              refine lv_astore (lv' := [(6, .ref q), (0, .ref ch), (1, .int (nI z)), (2, .ref b), (3, .ref st), (4, .int (nI fr)), (5, .int (nI k))]) hx hb dX1_chooseByPlace_43 hl (by decide) rfl (fun ls hl => ?_)
              refine lv_aload hx hb dX1_chooseByPlace_45 (lv_at hl 0 rfl) ?_
              refine lv_ifnull hx hb dX1_chooseByPlace_47 ?_
              refine lv_aload_n hx hb dX1_chooseByPlace_50 rfl (lv_at hl 1 rfl) ?_
              refine lv_aload hx hb dX1_chooseByPlace_51 (lv_at hl 0 rfl) ?_
              refine lv_iload hx hb dX1_chooseByPlace_53 (lv_at hl 6 rfl) ?_
              refine ah_callv (ah_runV E hP hS (As := [.ref q, .int (nI k)]) (rest := []) (b := ch) (c_Choice_keep l A D _ hk1 hk2 hk3 (i := k) hqo (by omega)) lk_Choice_47 li_Choice_47 hk1 rfl ⟨rfl, rfl, (Nat.le_of_ble_eq_true rfl), (Nat.le_of_ble_eq_true rfl)⟩ rfl hl.1 rfl (Nat.le_of_ble_eq_true rfl) dX1_chooseByPlace_55 ⟨(Nat.le_of_ble_eq_true rfl), (Nat.le_of_ble_eq_true rfl)⟩) hS (fun F18 H locs hkp hP hS => ?_)
              obtain ⟨hu1, hu2, hu3, hu4⟩ := hkp
              have hG19 : F18 b = some (.inr (0, [.ref ra, .int (nI n), .int (nI pr)])) := (hu4 b (ah_nin3 (ah_ne hk4 hk1 rfl) (ah_ne hk4 hk3 rfl) (ah_ne hk4 hk2 rfl))).trans hk4
              have hG20 : F18 ra = some (ah_aq D 40 rf) := (hu4 ra (ah_nin3 (ah_ne hk5 hk1 rfl) (ah_ne hk5 hk3 rfl) (ah_ne hk5 hk2 rfl))).trans hk5
              have hG21 : F18 st = some (.inr (3, [.ref la, .int (nI S.length)])) := (hu4 st (ah_nin3 (ah_ne hk6 hk1 rfl) (ah_ne hk6 hk3 rfl) (ah_ne hk6 hk2 rfl))).trans hk6
              have hG22 : F18 la = some (ah_al D 201 lf) := (hu4 la (ah_nin3 (ah_ne hk7 hk1 rfl) (ah_ne hk7 hk3 rfl) (ah_ne hk7 hk2 rfl))).trans hk7
              have hG23 : F18 q = some (.inr (2, [.int (nI j), .ref lw, .ref lr])) := (hu4 q (ah_nin3 (ah_ne hqo hk1 rfl) (ah_ne hqo hk3 rfl) (ah_ne hqo hk2 rfl))).trans hqo
              have hG24 : F18 lw = some (.inr (5, [.long (lN (ah_enc w)), .int (nI w.length)])) := (hu4 lw (ah_nin3 (ah_ne hlw hk1 rfl) (ah_ne hlw hk3 rfl) (ah_ne hlw hk2 rfl))).trans hlw
              have hC25 : ah_ch F F18 [ch, cl, cp] := ah_ch_t hcv hu4 (by intro a ha; simp only [List.mem_cons, List.not_mem_nil, or_false] at ha ⊢; omega)
              refine lv_iload hx hb dX1_chooseByPlace_58 (lv_at hl 6 rfl) ?_
              refine lv_aload hx hb dX1_chooseByPlace_60 (lv_at hl 0 rfl) ?_
              refine gf_Choice_51 E hP hG23 rfl dX1_chooseByPlace_62 ?_
              refine gf_Choice_55 E hP hG24 rfl dX1_chooseByPlace_65 ?_
              refine ah_iadd hx hb dX1_chooseByPlace_68 ?_
              refine lv_istore (lv' := [(4, .int (nI (k + w.length))), (6, .ref q), (0, .ref ch), (1, .int (nI z)), (2, .ref b), (3, .ref st), (5, .int (nI k))]) hx hb dX1_chooseByPlace_69 hl (by decide) rfl (fun ls hl => ?_)
              refine lv_iinc (v := (nI (k + 1))) (lv' := [(5, .int (nI (k + 1))), (4, .int (nI (k + w.length))), (6, .ref q), (0, .ref ch), (1, .int (nI z)), (2, .ref b), (3, .ref st)]) hx hb dX1_chooseByPlace_71 hl (k := 6) rfl (ah_inc _) (by decide) rfl (fun ls hl => ?_)
              refine lv_goto (tgt := 6) hx hb dX1_chooseByPlace_74 (by decide) ?_
              exact ih _ _ _ (cc + 1) (Lc ++ [(j, k)]) _ _ (by omega) (by omega) (by rw [ah_cpl_s (by rw [hcpl]; exact hc19) hnx, hcpl, ah_w_s hPj]) (by rw [List.length_append, ← hcc]; rfl) (by omega) (by omega) (by rw [hcc]; exact ah_cho_s hcho hrj) hC25 hu1 hu2 hu3 hG19 hG20 hG21 hG22 _ _ hP hS ls (lv_sub hl [3, 4, 5, 6, 1, 0] rfl)
  exact L6 (S.length + 1) F 0 0 0 [] pf plf (by omega) (Nat.zero_le _) rfl rfl (Nat.le_refl _) (by omega) (ah_cho_0 _ _ _) (ah_ch_r _ _) hch hcp hcl hbk hra hst hla _ _ hP hS ls (lv_sub hl [2, 3, 4, 5, 1, 0] rfl)

set_option maxHeartbeats 4000000 in
set_option maxRecDepth 100000 in
/-- chooseByEnd -/
theorem c_Choice_chooseByEnd (l : Launch) (A : Nat → Prop) (D : ah_G) (F : ah_F) {ch cp cl : Nat} {pf : Nat → Option Nat} {plf : Nat → Int32} (hch : F ch = some (.inr (1, [.ref cp, .ref cl, .int (nI 0)]))) (hcp : F cp = some (ah_aq D 200 pf)) (hcl : F cl = some (ah_ai D 200 plf)) {b ra : Nat} {rf : Nat → Option Nat} {P : ah_Pt} {n pr : Nat} (hbk : F b = some (.inr (0, [.ref ra, .int (nI n), .int (nI pr)]))) (hra : F ra = some (ah_aq D 40 rf)) (hrows : ah_rows F rf P) {st la : Nat} {lf : Nat → Int64} {S : List Nat} (hst : F st = some (.inr (3, [.ref la, .int (nI S.length)]))) (hla : F la = some (ah_al D 201 lf)) (hstr : ah_str lf S) : Met l yX1_chooseByEnd (Cond.code yX1_chooseByEnd cX1_chooseByEnd 6 none :: ah_T) { frames := 3, cells := 0, slots := 0, locals := 72 } (va_Pc [.ref ch, .ref b, .ref st] (ah_B A D F)) (ah_Qv A D (fun F1 => ∃ (pf1 : Nat → Option Nat) (lf1 : Nat → Int32), F1 ch = some (.inr (1, [.ref cp, .ref cl, .int (nI (ah_cel P S S.length).2.length)])) ∧ F1 cp = some (ah_aq D 200 pf1) ∧ F1 cl = some (ah_ai D 200 lf1) ∧ ah_cho rf pf1 lf1 (ah_cel P S S.length).2 ∧ (ah_cel P S S.length).2.length ≤ S.length ∧ ah_ch F F1 [ch, cl, cp])) 0 0 A := by
  refine ah_met (own := "Ahoarch$Choice") (by decide) rfl (Nat.le_of_ble_eq_true rfl) ?_
  intro p e s m below meth c ls E hr hini hl hP hS Q hQ
  have hx := E.1
  have hb := E.2.1
  have hl : lv_has ls 6 [(0, .ref ch), (1, .ref b), (2, .ref st)] := hl
  obtain ⟨hS1, hS2, hS3⟩ := id hstr
  refine lv_iconst (v := (nI 0)) hx hb dX1_chooseByEnd_0 (by decide) ?_
  refine lv_istore_n (lv' := [(3, .int (nI 0)), (0, .ref ch), (1, .ref b), (2, .ref st)]) hx hb dX1_chooseByEnd_1 rfl hl (by decide) rfl (fun ls hl => ?_)
  refine lv_iconst (v := (nI 1)) hx hb dX1_chooseByEnd_2 (by decide) ?_
  refine lv_istore (lv' := [(4, .int (nI 1)), (3, .int (nI 0)), (0, .ref ch), (1, .ref b), (2, .ref st)]) hx hb dX1_chooseByEnd_3 hl (by decide) rfl (fun ls hl => ?_)
  have L5 : ∀ (fuel : Nat), ∀ (Fv : ah_F) (k fr cc : Nat) (Lc : ah_Ch) (pf1 : Nat → Option Nat) (lf1 : Nat → Int32), S.length - k < fuel → k ≤ S.length → ah_cel P S k = (fr, Lc) → cc = Lc.length → cc ≤ k → fr ≤ k → ah_cho rf pf1 lf1 Lc → ah_ch F Fv [ch, cl, cp] → Fv ch = some (.inr (1, [.ref cp, .ref cl, .int (nI cc)])) → Fv cp = some (ah_aq D 200 pf1) → Fv cl = some (ah_ai D 200 lf1) → Fv b = some (.inr (0, [.ref ra, .int (nI n), .int (nI pr)])) → Fv ra = some (ah_aq D 40 rf) → Fv st = some (.inr (3, [.ref la, .int (nI S.length)])) → Fv la = some (ah_al D 201 lf) → ∀ (H : Heap) (locs : List Loc), ah_K A D Fv H → va_S A s.heap H locs → ∀ (ls : Array Slot), lv_has ls 6 [(0, .ref ch), (1, .ref b), (2, .ref st), (3, .int (nI fr)), (4, .int (nI (k + 1)))] → W p l e { frames := 3, cells := 0, slots := 0, locals := 72 } s m [.ref ch, .ref b, .ref st].toArray below meth c H locs 0 0 Q (F0 m 5 ls []) := by
    intro fuel
    induction fuel with
    | zero =>
      intro Fv k fr cc Lc pf1 lf1 hm
      exact absurd hm (Nat.not_lt_zero _)
    | succ fuel ih =>
      intro Fv k fr cc Lc pf1 lf1 hm hk hcpl hcc hcck hfr hcho hcv hk1 hk2 hk3 hk4 hk5 hk6 hk7 H locs hP hS ls hl
      have hrows1 : ah_rows Fv rf P := hrows.fr hcv (ah_all3 (ah_nr_t hch rfl rfl) (ah_nr_t hcl rfl rfl) (ah_nr_t hcp rfl rfl))
      refine lv_iload hx hb dX1_chooseByEnd_5 (lv_at hl 4 rfl) ?_
      refine lv_aload_n hx hb dX1_chooseByEnd_7 rfl (lv_at hl 2 rfl) ?_
      refine gf_Choice_33 E hP hk6 rfl dX1_chooseByEnd_8 ?_
      refine ah_icmp_gt (tgt := 55) hx hb (by omega) (by omega) dX1_chooseByEnd_11 (by decide) (fun hc11 => ?_) (fun hc11 => ?_)
      · skip
        have hkk : k = S.length := by omega
        rw [hkk] at hcpl
        rw [hQ]
        exact ah_vret E hr hP hS ⟨pf1, lf1, by rw [hcpl]; show Fv ch = some (.inr (1, [.ref cp, .ref cl, .int (nI Lc.length)])); rw [← hcc]; exact hk1, hk2, hk3, by rw [hcpl]; exact hcho, by rw [hcpl]; show Lc.length ≤ _; omega, hcv⟩ (Nat.le_of_ble_eq_true rfl) (Nat.le_of_ble_eq_true rfl) dX1_chooseByEnd_55
      · skip
        refine lv_aload_n hx hb dX1_chooseByEnd_14 rfl (lv_at hl 1 rfl) ?_
        refine lv_aload_n hx hb dX1_chooseByEnd_15 rfl (lv_at hl 2 rfl) ?_
        refine lv_iload_n hx hb dX1_chooseByEnd_16 rfl (lv_at hl 3 rfl) ?_
        refine lv_iload hx hb dX1_chooseByEnd_17 (lv_at hl 4 rfl) ?_
        refine ah_callq (ah_runV E hP hS (As := [.ref st, .int (nI fr), .int (nI (k + 1))]) (rest := []) (b := b) (c_Book_longestWithin l A D _ hk4 hk5 hrows1 hk6 hk7 hstr (i := fr) (e0 := k + 1) (by omega) (by omega)) lk_Choice_58 li_Choice_58 hk4 rfl ⟨rfl, rfl, (Nat.le_of_ble_eq_true rfl), (Nat.le_of_ble_eq_true rfl)⟩ rfl hl.1 rfl (Nat.le_of_ble_eq_true rfl) dX1_chooseByEnd_19 ⟨(Nat.le_of_ble_eq_true rfl), (Nat.le_of_ble_eq_true rfl)⟩) hS (fun r F8 H locs hq hP hS => ?_)
        obtain ⟨rfl, rfl⟩ := hq
        cases hq : (ah_best P (fun w => decide (w.length ≤ k + 1 - fr) && ah_en S (k + 1) w) 40).bind rf with
        | none =>
          have hnx : ah_wi P S fr (k + 1) = none := ah_best_bn hrows1 (by omega) hq.symm
          refine lv_astoreN (lv' := [(5, .null), (0, .ref ch), (1, .ref b), (2, .ref st), (3, .int (nI fr)), (4, .int (nI (k + 1)))]) hx hb dX1_chooseByEnd_22 hl (by decide) rfl (fun ls hl => ?_)
          refine lv_aloadN hx hb dX1_chooseByEnd_24 (lv_at hl 0 rfl) ?_
          refine lv_ifnullN (tgt := 49) hx hb dX1_chooseByEnd_26 (by decide) ?_
          refine lv_iinc (v := (nI ((k + 1) + 1))) (lv' := [(4, .int (nI ((k + 1) + 1))), (5, .null), (0, .ref ch), (1, .ref b), (2, .ref st), (3, .int (nI fr))]) hx hb dX1_chooseByEnd_49 hl (k := 5) rfl (ah_inc _) (by decide) rfl (fun ls hl => ?_)
          refine lv_goto (tgt := 5) hx hb dX1_chooseByEnd_52 (by decide) ?_
          exact ih _ (k + 1) _ _ _ _ _ (by omega) (by omega) (by rw [ah_cel_n (by rw [hcpl]; exact hnx)]; exact hcpl) hcc (by omega) (by omega) hcho hcv hk1 hk2 hk3 hk4 hk5 hk6 hk7 _ _ hP hS ls (lv_sub hl [2, 3, 4, 5, 0] rfl)
        | some q =>
          obtain ⟨j, w, r, lw, lr, hnx0, hj, hrj, hPj, hqo, hlw, hlr, hok, hokr, hne, hfw⟩ := ah_best_bs2 hrows1 hq.symm
          have hwl := hok.1
          have hnx : ah_wi P S fr (k + 1) = some j := hnx0
          have hwk : w.length ≤ k + 1 - fr := by simp only [Bool.and_eq_true, decide_eq_true_eq] at hfw; exact hfw.1
          refine lv_astore (lv' := [(5, .ref q), (0, .ref ch), (1, .ref b), (2, .ref st), (3, .int (nI fr)), (4, .int (nI (k + 1)))]) hx hb dX1_chooseByEnd_22 hl (by decide) rfl (fun ls hl => ?_)
          refine lv_aload hx hb dX1_chooseByEnd_24 (lv_at hl 0 rfl) ?_
          refine lv_ifnull hx hb dX1_chooseByEnd_26 ?_
          refine lv_aload_n hx hb dX1_chooseByEnd_29 rfl (lv_at hl 1 rfl) ?_
          refine lv_aload hx hb dX1_chooseByEnd_30 (lv_at hl 0 rfl) ?_
          refine lv_iload hx hb dX1_chooseByEnd_32 (lv_at hl 5 rfl) ?_
          refine lv_aload hx hb dX1_chooseByEnd_34 (lv_at hl 0 rfl) ?_
          refine gf_Choice_51 E hP hqo rfl dX1_chooseByEnd_36 ?_
          refine gf_Choice_55 E hP hlw rfl dX1_chooseByEnd_39 ?_
          refine ah_isub hx hb (by omega) dX1_chooseByEnd_42 ?_
          refine ah_callv (ah_runV E hP hS (As := [.ref q, .int (nI ((k + 1) - w.length))]) (rest := []) (b := ch) (c_Choice_keep l A D _ hk1 hk2 hk3 (i := (k + 1) - w.length) hqo (by omega)) lk_Choice_47 li_Choice_47 hk1 rfl ⟨rfl, rfl, (Nat.le_of_ble_eq_true rfl), (Nat.le_of_ble_eq_true rfl)⟩ rfl hl.1 rfl (Nat.le_of_ble_eq_true rfl) dX1_chooseByEnd_43 ⟨(Nat.le_of_ble_eq_true rfl), (Nat.le_of_ble_eq_true rfl)⟩) hS (fun F9 H locs hkp hP hS => ?_)
          obtain ⟨hu1, hu2, hu3, hu4⟩ := hkp
          have hG10 : F9 b = some (.inr (0, [.ref ra, .int (nI n), .int (nI pr)])) := (hu4 b (ah_nin3 (ah_ne hk4 hk1 rfl) (ah_ne hk4 hk3 rfl) (ah_ne hk4 hk2 rfl))).trans hk4
          have hG11 : F9 ra = some (ah_aq D 40 rf) := (hu4 ra (ah_nin3 (ah_ne hk5 hk1 rfl) (ah_ne hk5 hk3 rfl) (ah_ne hk5 hk2 rfl))).trans hk5
          have hG12 : F9 st = some (.inr (3, [.ref la, .int (nI S.length)])) := (hu4 st (ah_nin3 (ah_ne hk6 hk1 rfl) (ah_ne hk6 hk3 rfl) (ah_ne hk6 hk2 rfl))).trans hk6
          have hG13 : F9 la = some (ah_al D 201 lf) := (hu4 la (ah_nin3 (ah_ne hk7 hk1 rfl) (ah_ne hk7 hk3 rfl) (ah_ne hk7 hk2 rfl))).trans hk7
          have hG14 : F9 q = some (.inr (2, [.int (nI j), .ref lw, .ref lr])) := (hu4 q (ah_nin3 (ah_ne hqo hk1 rfl) (ah_ne hqo hk3 rfl) (ah_ne hqo hk2 rfl))).trans hqo
          have hG15 : F9 lw = some (.inr (5, [.long (lN (ah_enc w)), .int (nI w.length)])) := (hu4 lw (ah_nin3 (ah_ne hlw hk1 rfl) (ah_ne hlw hk3 rfl) (ah_ne hlw hk2 rfl))).trans hlw
          have hC16 : ah_ch F F9 [ch, cl, cp] := ah_ch_t hcv hu4 (by intro a ha; simp only [List.mem_cons, List.not_mem_nil, or_false] at ha ⊢; omega)
          refine lv_iload hx hb dX1_chooseByEnd_46 (lv_at hl 5 rfl) ?_
          refine lv_istore_n (lv' := [(3, .int (nI (k + 1))), (5, .ref q), (0, .ref ch), (1, .ref b), (2, .ref st), (4, .int (nI (k + 1)))]) hx hb dX1_chooseByEnd_48 rfl hl (by decide) rfl (fun ls hl => ?_)
          refine lv_iinc (v := (nI ((k + 1) + 1))) (lv' := [(4, .int (nI ((k + 1) + 1))), (3, .int (nI (k + 1))), (5, .ref q), (0, .ref ch), (1, .ref b), (2, .ref st)]) hx hb dX1_chooseByEnd_49 hl (k := 5) rfl (ah_inc _) (by decide) rfl (fun ls hl => ?_)
          refine lv_goto (tgt := 5) hx hb dX1_chooseByEnd_52 (by decide) ?_
          exact ih _ (k + 1) _ (cc + 1) (Lc ++ [(j, k + 1 - w.length)]) _ _ (by omega) (by omega) (by rw [ah_cel_s (by rw [hcpl]; exact hnx), hcpl, ah_w_s hPj]) (by rw [List.length_append, ← hcc]; rfl) (by omega) (by omega) (by rw [hcc]; exact ah_cho_s hcho hrj) hC16 hu1 hu2 hu3 hG10 hG11 hG12 hG13 _ _ hP hS ls (lv_sub hl [3, 4, 5, 1, 0] rfl)
  exact L5 (S.length + 1) F 0 0 0 [] pf plf (by omega) (Nat.zero_le _) rfl rfl (Nat.le_refl _) (by omega) (ah_cho_0 _ _ _) (ah_ch_r _ _) hch hcp hcl hbk hra hst hla _ _ hP hS ls (lv_sub hl [2, 3, 4, 1, 0] rfl)

set_option maxHeartbeats 4000000 in
set_option maxRecDepth 100000 in
/-- choose -/
theorem c_Choice_choose (l : Launch) (A : Nat → Prop) (D : ah_G) (F : ah_F) {ch cp cl : Nat} {pf : Nat → Option Nat} {plf : Nat → Int32} {cc : Nat} (hch : F ch = some (.inr (1, [.ref cp, .ref cl, .int (nI cc)]))) (hcp : F cp = some (ah_aq D 200 pf)) (hcl : F cl = some (ah_ai D 200 plf)) {b ra : Nat} {rf : Nat → Option Nat} {P : ah_Pt} {n pr : Nat} (hbk : F b = some (.inr (0, [.ref ra, .int (nI n), .int (nI pr)]))) (hra : F ra = some (ah_aq D 40 rf)) (hrows : ah_rows F rf P) {st la : Nat} {lf : Nat → Int64} {S : List Nat} (hst : F st = some (.inr (3, [.ref la, .int (nI S.length)]))) (hla : F la = some (ah_al D 201 lf)) (hstr : ah_str lf S) {ru : Nat} (hru : ru ≤ 2) : Met l yX1_choose (Cond.code yX1_choose cX1_choose 4 none :: ah_T) { frames := 4, cells := 0, slots := 0, locals := 97 } (va_Pc [.ref ch, .int (nI ru), .ref b, .ref st] (ah_B A D F)) (ah_Qv A D (fun F1 => ∃ (pf1 : Nat → Option Nat) (lf1 : Nat → Int32), F1 ch = some (.inr (1, [.ref cp, .ref cl, .int (nI (ah_chs P S ru).length)])) ∧ F1 cp = some (ah_aq D 200 pf1) ∧ F1 cl = some (ah_ai D 200 lf1) ∧ ah_cho rf pf1 lf1 (ah_chs P S ru) ∧ (ah_chs P S ru).length ≤ S.length ∧ ah_ch F F1 [ch, cl, cp])) 0 0 A := by
  refine ah_met (own := "Ahoarch$Choice") (by decide) rfl (Nat.le_of_ble_eq_true rfl) ?_
  intro p e s m below meth c ls E hr hini hl hP hS Q hQ
  have hx := E.1
  have hb := E.2.1
  have hl : lv_has ls 4 [(0, .ref ch), (1, .int (nI ru)), (2, .ref b), (3, .ref st)] := hl
  refine lv_aload_n hx hb dX1_choose_0 rfl (lv_at hl 0 rfl) ?_
  refine lv_iconst (v := (nI 0)) hx hb dX1_choose_1 (by decide) ?_
  refine pf_Choice_21 E hP hS hch (Nat.le_of_ble_eq_true rfl) dX1_choose_2 (fun H locs hP hS => ?_)
  obtain ⟨F1, eF1⟩ : ∃ Fz : ah_F, Fz = ah_up F ch (.inr (1, [.ref cp, .ref cl, .int (nI 0)])) := ⟨_, rfl⟩
  have hP : ah_K A D F1 H := by rw [eF1]; exact hP
  have hF2 : F1 ch = some (.inr (1, [.ref cp, .ref cl, .int (nI 0)])) := by rw [eF1]; exact ah_up_s _ _ _
  have hF3 : F1 cp = some (ah_aq D 200 pf) := by rw [eF1]; exact ah_keep hch hcp rfl
  have hF4 : F1 cl = some (ah_ai D 200 plf) := by rw [eF1]; exact ah_keep hch hcl rfl
  have hF5 : F1 b = some (.inr (0, [.ref ra, .int (nI n), .int (nI pr)])) := by rw [eF1]; exact ah_keep hch hbk rfl
  have hF6 : F1 ra = some (ah_aq D 40 rf) := by rw [eF1]; exact ah_keep hch hra rfl
  have hF7 : F1 st = some (.inr (3, [.ref la, .int (nI S.length)])) := by rw [eF1]; exact ah_keep hch hst rfl
  have hF8 : F1 la = some (ah_al D 201 lf) := by rw [eF1]; exact ah_keep hch hla rfl
  have hC9 : ah_ch F F1 [ch] := by rw [eF1]; exact ah_ch_u (ah_ch_r _ _) (by simp)
  have hrows1 := hrows.fr (F1 := F1) (L := [ch]) (by rw [eF1]; exact ah_ch_u (ah_ch_r _ _) (by simp)) (ah_all1 (ah_nr_t hch rfl rfl))
  refine lv_iload_n hx hb dX1_choose_5 rfl (lv_at hl 1 rfl) ?_
  refine lv_iconst (v := (nI 2)) hx hb dX1_choose_6 (by decide) ?_
  refine ah_icmp_ne (tgt := 19) hx hb (by omega) (by omega) dX1_choose_7 (by decide) (fun hc7 => ?_) (fun hc7 => ?_)
  · skip
    refine lv_aload_n hx hb dX1_choose_19 rfl (lv_at hl 0 rfl) ?_
    refine lv_iload_n hx hb dX1_choose_20 rfl (lv_at hl 1 rfl) ?_
    refine ah_if_ne (tgt := 28) hx hb (by omega) dX1_choose_21 (by decide) (fun hc21 => ?_) (fun hc21 => ?_)
    · skip
      refine lv_iconst (v := (nI 0)) hx hb dX1_choose_28 (by decide) ?_
      refine lv_aload_n hx hb dX1_choose_29 rfl (lv_at hl 2 rfl) ?_
      refine lv_aload_n hx hb dX1_choose_30 rfl (lv_at hl 3 rfl) ?_
      refine ah_callv (ah_runV E hP hS (As := [.int (nI 0), .ref b, .ref st]) (rest := []) (b := ch) (c_Choice_chooseByPlace l A D _ hF2 hF3 hF4 hF5 hF6 hrows1 hF7 hF8 hstr (z := 0) (by omega)) lk_Choice_29 li_Choice_29 hF2 rfl ⟨rfl, rfl, (Nat.le_of_ble_eq_true rfl), (Nat.le_of_ble_eq_true rfl)⟩ rfl hl.1 rfl (Nat.le_of_ble_eq_true rfl) dX1_choose_31 ⟨(Nat.le_of_ble_eq_true rfl), (Nat.le_of_ble_eq_true rfl)⟩) hS (fun F10 H locs hcp2 hP hS => ?_)
      obtain ⟨pf2, lf2, hy1, hy2, hy3, hy4, hy5, hy6⟩ := hcp2
      have hG11 : F10 b = some (.inr (0, [.ref ra, .int (nI n), .int (nI pr)])) := (hy6 b (ah_nin3 (ah_ne hF5 hF2 rfl) (ah_ne hF5 hF4 rfl) (ah_ne hF5 hF3 rfl))).trans hF5
      have hG12 : F10 ra = some (ah_aq D 40 rf) := (hy6 ra (ah_nin3 (ah_ne hF6 hF2 rfl) (ah_ne hF6 hF4 rfl) (ah_ne hF6 hF3 rfl))).trans hF6
      have hG13 : F10 st = some (.inr (3, [.ref la, .int (nI S.length)])) := (hy6 st (ah_nin3 (ah_ne hF7 hF2 rfl) (ah_ne hF7 hF4 rfl) (ah_ne hF7 hF3 rfl))).trans hF7
      have hG14 : F10 la = some (ah_al D 201 lf) := (hy6 la (ah_nin3 (ah_ne hF8 hF2 rfl) (ah_ne hF8 hF4 rfl) (ah_ne hF8 hF3 rfl))).trans hF8
      have hC15 : ah_ch F F10 [cl, cp, ch] := ah_ch_t (ah_ch_w (ah_ch_w hC9)) hy6 (by intro a ha; simp only [List.mem_cons, List.not_mem_nil, or_false] at ha ⊢; omega)
      rw [hQ]
      exact ah_vret E hr hP hS (by rw [show ah_chs P S ru = (ah_cpl P (if 0 = 0 then ah_n1 P S else ah_n0 P S) S.length).2 from by rw [ah_chs, if_neg hc7, if_neg (by omega)]; rfl]; exact ⟨pf2, lf2, hy1, hy2, hy3, hy4, hy5, (ah_ch_m hC15 (by intro a ha; simp only [List.mem_cons, List.not_mem_nil, or_false] at ha ⊢; omega))⟩) (Nat.le_of_ble_eq_true rfl) (Nat.le_of_ble_eq_true rfl) dX1_choose_34
    · skip
      refine lv_iconst (v := (nI 1)) hx hb dX1_choose_24 (by decide) ?_
      refine lv_goto (tgt := 29) hx hb dX1_choose_25 (by decide) ?_
      refine lv_aload_n hx hb dX1_choose_29 rfl (lv_at hl 2 rfl) ?_
      refine lv_aload_n hx hb dX1_choose_30 rfl (lv_at hl 3 rfl) ?_
      refine ah_callv (ah_runV E hP hS (As := [.int (nI 1), .ref b, .ref st]) (rest := []) (b := ch) (c_Choice_chooseByPlace l A D _ hF2 hF3 hF4 hF5 hF6 hrows1 hF7 hF8 hstr (z := 1) (by omega)) lk_Choice_29 li_Choice_29 hF2 rfl ⟨rfl, rfl, (Nat.le_of_ble_eq_true rfl), (Nat.le_of_ble_eq_true rfl)⟩ rfl hl.1 rfl (Nat.le_of_ble_eq_true rfl) dX1_choose_31 ⟨(Nat.le_of_ble_eq_true rfl), (Nat.le_of_ble_eq_true rfl)⟩) hS (fun F16 H locs hcp2 hP hS => ?_)
      obtain ⟨pf2, lf2, hy1, hy2, hy3, hy4, hy5, hy6⟩ := hcp2
      have hG17 : F16 b = some (.inr (0, [.ref ra, .int (nI n), .int (nI pr)])) := (hy6 b (ah_nin3 (ah_ne hF5 hF2 rfl) (ah_ne hF5 hF4 rfl) (ah_ne hF5 hF3 rfl))).trans hF5
      have hG18 : F16 ra = some (ah_aq D 40 rf) := (hy6 ra (ah_nin3 (ah_ne hF6 hF2 rfl) (ah_ne hF6 hF4 rfl) (ah_ne hF6 hF3 rfl))).trans hF6
      have hG19 : F16 st = some (.inr (3, [.ref la, .int (nI S.length)])) := (hy6 st (ah_nin3 (ah_ne hF7 hF2 rfl) (ah_ne hF7 hF4 rfl) (ah_ne hF7 hF3 rfl))).trans hF7
      have hG20 : F16 la = some (ah_al D 201 lf) := (hy6 la (ah_nin3 (ah_ne hF8 hF2 rfl) (ah_ne hF8 hF4 rfl) (ah_ne hF8 hF3 rfl))).trans hF8
      have hC21 : ah_ch F F16 [cl, cp, ch] := ah_ch_t (ah_ch_w (ah_ch_w hC9)) hy6 (by intro a ha; simp only [List.mem_cons, List.not_mem_nil, or_false] at ha ⊢; omega)
      rw [hQ]
      exact ah_vret E hr hP hS (by rw [show ah_chs P S ru = (ah_cpl P (if 1 = 0 then ah_n1 P S else ah_n0 P S) S.length).2 from by rw [ah_chs, if_neg hc7, if_pos hc21]; rfl]; exact ⟨pf2, lf2, hy1, hy2, hy3, hy4, hy5, (ah_ch_m hC21 (by intro a ha; simp only [List.mem_cons, List.not_mem_nil, or_false] at ha ⊢; omega))⟩) (Nat.le_of_ble_eq_true rfl) (Nat.le_of_ble_eq_true rfl) dX1_choose_34
  · skip
    refine lv_aload_n hx hb dX1_choose_10 rfl (lv_at hl 0 rfl) ?_
    refine lv_aload_n hx hb dX1_choose_11 rfl (lv_at hl 2 rfl) ?_
    refine lv_aload_n hx hb dX1_choose_12 rfl (lv_at hl 3 rfl) ?_
    refine ah_callv (ah_runV E hP hS (As := [.ref b, .ref st]) (rest := []) (b := ch) (c_Choice_chooseByEnd l A D _ hF2 hF3 hF4 hF5 hF6 hrows1 hF7 hF8 hstr) lk_Choice_25 li_Choice_25 hF2 rfl ⟨rfl, rfl, (Nat.le_of_ble_eq_true rfl), (Nat.le_of_ble_eq_true rfl)⟩ rfl hl.1 rfl (Nat.le_of_ble_eq_true rfl) dX1_choose_13 ⟨(Nat.le_of_ble_eq_true rfl), (Nat.le_of_ble_eq_true rfl)⟩) hS (fun F22 H locs hce hP hS => ?_)
    obtain ⟨pf2, lf2, hy1, hy2, hy3, hy4, hy5, hy6⟩ := hce
    have hG23 : F22 b = some (.inr (0, [.ref ra, .int (nI n), .int (nI pr)])) := (hy6 b (ah_nin3 (ah_ne hF5 hF2 rfl) (ah_ne hF5 hF4 rfl) (ah_ne hF5 hF3 rfl))).trans hF5
    have hG24 : F22 ra = some (ah_aq D 40 rf) := (hy6 ra (ah_nin3 (ah_ne hF6 hF2 rfl) (ah_ne hF6 hF4 rfl) (ah_ne hF6 hF3 rfl))).trans hF6
    have hG25 : F22 st = some (.inr (3, [.ref la, .int (nI S.length)])) := (hy6 st (ah_nin3 (ah_ne hF7 hF2 rfl) (ah_ne hF7 hF4 rfl) (ah_ne hF7 hF3 rfl))).trans hF7
    have hG26 : F22 la = some (ah_al D 201 lf) := (hy6 la (ah_nin3 (ah_ne hF8 hF2 rfl) (ah_ne hF8 hF4 rfl) (ah_ne hF8 hF3 rfl))).trans hF8
    have hC27 : ah_ch F F22 [cl, cp, ch] := ah_ch_t (ah_ch_w (ah_ch_w hC9)) hy6 (by intro a ha; simp only [List.mem_cons, List.not_mem_nil, or_false] at ha ⊢; omega)
    refine lv_goto (tgt := 34) hx hb dX1_choose_16 (by decide) ?_
    rw [hQ]
    exact ah_vret E hr hP hS (by rw [show ah_chs P S ru = (ah_cel P S S.length).2 from by rw [ah_chs, if_pos hc7]]; exact ⟨pf2, lf2, hy1, hy2, hy3, hy4, hy5, (ah_ch_m hC27 (by intro a ha; simp only [List.mem_cons, List.not_mem_nil, or_false] at ha ⊢; omega))⟩) (Nat.le_of_ble_eq_true rfl) (Nat.le_of_ble_eq_true rfl) dX1_choose_34
