def md_cx (P : ah_Pt) (S : List Nat) (k rc o : Nat) : Nat := match ah_best P (fun w => ah_at S k w) o with
  | none => rc
  | some j => max rc (k + (ah_w P j).length)
theorem md_cx_f {P : ah_Pt} {S : List Nat} {k rc o : Nat} (h : ah_sat P (fun w => ah_at S k w) o = false) : md_cx P S k rc (o + 1) = md_cx P S k rc o := by rw [md_cx, ah_best_f h]; rfl
theorem md_cx_t {P : ah_Pt} {S : List Nat} {k rc o : Nat} (h : ah_sat P (fun w => ah_at S k w) o = true) : md_cx P S k rc (o + 1) = max (md_cx P S k rc o) (k + (ah_w P o).length) := by
  rw [md_cx, md_cx]
  cases e : ah_best P (fun w => ah_at S k w) o with
  | none => rw [ah_best_0 h e]
  | some j =>
    by_cases q : (ah_w P j).length < (ah_w P o).length
    · rw [ah_best_g h e q]; simp only; omega
    · rw [ah_best_k h e (by omega)]; simp only; omega
theorem ah_best_off {P : ah_Pt} {f : List Nat → Bool} {n : Nat} (hP : ∀ i, n ≤ i → P i = none) : ∀ {N : Nat}, n ≤ N → ah_best P f N = ah_best P f n
  | 0, h => by rw [show n = 0 by omega]
  | N + 1, h => by
    by_cases e : n = N + 1
    · rw [e]
    · rw [ah_best_f (md_sat_n (by rw [hP N (by omega)]; rfl)), ah_best_off hP (by omega)]
theorem md_cx_n {P : ah_Pt} {S : List Nat} {k rc n : Nat} (hn : n ≤ 40) (hP : ∀ i, n ≤ i → P i = none) : ah_cvr P S k rc = md_cx P S k rc n := by
  rw [ah_cvr, md_cx, ah_n0, ah_best_off hP hn]
  cases ah_best P (fun w => ah_at S k w) n <;> rfl
theorem md_sat_w {P : ah_Pt} {f : List Nat → Bool} {o c : Nat} (h : ∀ w r, P o = some (w, r) → c = w.length) (hs : ah_sat P f o = true) : (ah_w P o).length = c := by
  obtain ⟨w, r, hp, -⟩ := ah_sat_t hs
  rw [ah_w_s hp, h w r hp]
set_option maxHeartbeats 4000000 in
set_option maxRecDepth 100000 in
/-- covered -/
theorem m_covered (l : Launch) (A : Nat → Prop) (D : ah_G) (F : ah_F) {mo n : Nat} {P : ah_Pt} {dr S : List Nat} {td th : Int32} (hC : md_C D F mo P n dr S td th)  : Met l yX7_covered (Cond.code yX7_covered cX7_covered 6 (some .int) :: ah_T) { frames := 1, cells := 0, slots := 0, locals := 24 } (va_Pc [.ref mo] (ah_B A D F)) (ah_Qi A D (fun (r : Int32) F1 => md_An D F1 mo (0, nI (ah_cv P S S.length).2, (P, n, dr, S, td)) r)) 0 0 A := by
  refine ah_met (own := "AhoarchModel") (by decide) rfl (Nat.le_of_ble_eq_true rfl) ?_
  intro p e s m below meth c ls E hr hini hl hP hS Q hQ
  have hx := E.1
  have hb := E.2.1
  have hl : lv_has ls 6 [(0, .ref mo)] := hl
  obtain ⟨dA, tA, lA, eA, nlA, neA, sA, ip, il, ln, df, tf, lf, ef, nlf, nef, sf, hmo, hdA, htA, hlA, heA, hnlA, hneA, hsA, hne1, hne2, hne3, hne4, hL⟩ := id hC
  obtain ⟨hn40, hPn, hdok, hSl, hS200, hPok, hdis, hp20, hln, hlP, hdd, hss⟩ := id hL
  have hdl := hdok.1
  refine lv_aload_n hx hb dX7_covered_0 rfl (lv_at hl 0 rfl) ?_
  refine lv_iconst (v := (nI 0)) hx hb dX7_covered_1 (by decide) ?_
  refine pf_Mod_32 E hP hS hmo (Nat.le_of_ble_eq_true rfl) dX7_covered_2 (fun H locs hP hS => ?_)
  obtain ⟨F1, eF1⟩ : ∃ Fz : ah_F, Fz = ah_up F mo (.inr (7, [.int (nI 0), .ref dA, .int (nI dr.length), .int (nI n), .ref tA, .ref lA, .ref eA, .ref nlA, .ref neA, .ref sA, .int (nI S.length), .int td, .int ip, .int il])) := ⟨_, rfl⟩
  have hP : ah_K A D F1 H := by rw [eF1]; exact hP
  have hF2 : F1 mo = some (.inr (7, [.int (nI 0), .ref dA, .int (nI dr.length), .int (nI n), .ref tA, .ref lA, .ref eA, .ref nlA, .ref neA, .ref sA, .int (nI S.length), .int td, .int ip, .int il])) := by rw [eF1]; exact ah_up_s _ _ _
  have hF3 : F1 dA = some (ah_ai D 8 df) := by rw [eF1]; exact ah_keep hmo hdA rfl
  have hF4 : F1 tA = some (ah_az D 40 tf) := by rw [eF1]; exact ah_keep hmo htA rfl
  have hF5 : F1 lA = some (ah_ai D 40 lf) := by rw [eF1]; exact ah_keep hmo hlA rfl
  have hF6 : F1 eA = some (ah_ai D 320 ef) := by rw [eF1]; exact ah_keep hmo heA rfl
  have hF7 : F1 nlA = some (ah_ai D 40 nlf) := by rw [eF1]; exact ah_keep hmo hnlA rfl
  have hF8 : F1 neA = some (ah_ai D 320 nef) := by rw [eF1]; exact ah_keep hmo hneA rfl
  have hF9 : F1 sA = some (ah_ai D 200 sf) := by rw [eF1]; exact ah_keep hmo hsA rfl
  refine lv_iconst (v := (nI 0)) hx hb dX7_covered_5 (by decide) ?_
  refine lv_istore_n (lv' := [(1, .int (nI 0)), (0, .ref mo)]) hx hb dX7_covered_6 rfl hl (by decide) rfl (fun ls hl => ?_)
  refine lv_iconst (v := (nI 0)) hx hb dX7_covered_7 (by decide) ?_
  refine lv_istore_n (lv' := [(2, .int (nI 0)), (1, .int (nI 0)), (0, .ref mo)]) hx hb dX7_covered_8 rfl hl (by decide) rfl (fun ls hl => ?_)
  refine lv_iconst (v := (nI 0)) hx hb dX7_covered_9 (by decide) ?_
  refine lv_istore_n (lv' := [(3, .int (nI 0)), (2, .int (nI 0)), (1, .int (nI 0)), (0, .ref mo)]) hx hb dX7_covered_10 rfl hl (by decide) rfl (fun ls hl => ?_)
  have L11 : ∀ (fuel : Nat), ∀ (k rc a : Nat), S.length - k < fuel → k ≤ S.length → ah_cv P S k = (rc, a) → rc ≤ S.length + 8 → a ≤ k → ∀ (H : Heap) (locs : List Loc), ah_K A D F1 H → va_S A s.heap H locs → ∀ (ls : Array Slot), lv_has ls 6 [(0, .ref mo), (1, .int (nI a)), (2, .int (nI rc)), (3, .int (nI k))] → W p l e { frames := 1, cells := 0, slots := 0, locals := 24 } s m [.ref mo].toArray below meth c H locs 0 0 Q (F0 m 11 ls []) := by
    intro fuel
    induction fuel with
    | zero =>
      intro k rc a hm
      exact absurd hm (Nat.not_lt_zero _)
    | succ fuel ih11 =>
      intro k rc a hm hk ha hrc hak H locs hP hS ls hl
      refine lv_iload_n hx hb dX7_covered_11 rfl (lv_at hl 3 rfl) ?_
      refine lv_aload_n hx hb dX7_covered_12 rfl (lv_at hl 0 rfl) ?_
      refine gf_Mod_67 E hP hF2 rfl dX7_covered_13 ?_
      refine ah_icmp_ge (tgt := 105) hx hb (by omega) (by omega) dX7_covered_16 (by decide) (fun hc16 => ?_) (fun hc16 => ?_)
      · skip
        refine lv_iload_n hx hb dX7_covered_105 rfl (lv_at hl 1 rfl) ?_
        rw [hQ]
        exact ah_iret E hr hP hS (md_An_i (k := 0) (v := _) (rfl) ⟨dA, tA, lA, eA, nlA, neA, sA, _, _, ln, _, _, _, _, _, _, _, hF2, hF3, hF4, hF5, hF6, hF7, hF8, hF9, hne1, hne2, hne3, hne4, hL⟩ (fun _ => by rw [← show k = S.length by omega, ha])) (Nat.le_of_ble_eq_true rfl) (Nat.le_of_ble_eq_true rfl) dX7_covered_106
      · skip
        refine lv_iconst (v := (nI 0)) hx hb dX7_covered_19 (by decide) ?_
        refine lv_istore (lv' := [(4, .int (nI 0)), (0, .ref mo), (1, .int (nI a)), (2, .int (nI rc)), (3, .int (nI k))]) hx hb dX7_covered_20 hl (by decide) rfl (fun ls hl => ?_)
        have L22 : ∀ (fuel : Nat), ∀ (o x : Nat), n - o < fuel → o ≤ n → x = md_cx P S k rc o → x ≤ S.length + 8 → ∀ (H : Heap) (locs : List Loc), ah_K A D F1 H → va_S A s.heap H locs → ∀ (ls : Array Slot), lv_has ls 6 [(0, .ref mo), (1, .int (nI a)), (2, .int (nI x)), (3, .int (nI k)), (4, .int (nI o))] → W p l e { frames := 1, cells := 0, slots := 0, locals := 24 } s m [.ref mo].toArray below meth c H locs 0 0 Q (F0 m 22 ls []) := by
          intro fuel
          induction fuel with
          | zero =>
            intro o x hm
            exact absurd hm (Nat.not_lt_zero _)
          | succ fuel ih22 =>
            intro o x hm ho hxe hx8 H locs hP hS ls hl
            refine lv_iload hx hb dX7_covered_22 (lv_at hl 4 rfl) ?_
            refine lv_aload_n hx hb dX7_covered_24 rfl (lv_at hl 0 rfl) ?_
            refine gf_Mod_36 E hP hF2 rfl dX7_covered_25 ?_
            refine ah_icmp_ge (tgt := 86) hx hb (by omega) (by omega) dX7_covered_28 (by decide) (fun hc28 => ?_) (fun hc28 => ?_)
            · skip
              refine lv_iload_n hx hb dX7_covered_86 rfl (lv_at hl 1 rfl) ?_
              refine lv_iload_n hx hb dX7_covered_87 rfl (lv_at hl 3 rfl) ?_
              refine lv_iload_n hx hb dX7_covered_88 rfl (lv_at hl 2 rfl) ?_
              refine ah_icmp_ge (tgt := 96) hx hb (by omega) (by omega) dX7_covered_89 (by decide) (fun hc89 => ?_) (fun hc89 => ?_)
              · skip
                refine lv_iconst (v := (nI 0)) hx hb dX7_covered_96 (by decide) ?_
                refine ah_iadd hx hb dX7_covered_97 ?_
                refine lv_istore_n (lv' := [(1, .int (nI (a + 0))), (0, .ref mo), (2, .int (nI x)), (3, .int (nI k)), (4, .int (nI o))]) hx hb dX7_covered_98 rfl hl (by decide) rfl (fun ls hl => ?_)
                refine lv_iinc (v := (nI (k + 1))) (lv' := [(3, .int (nI (k + 1))), (1, .int (nI (a + 0))), (0, .ref mo), (2, .int (nI x)), (4, .int (nI o))]) hx hb dX7_covered_99 hl (k := 3) rfl (ah_inc _) (by decide) rfl (fun ls hl => ?_)
                refine lv_goto (tgt := 11) hx hb dX7_covered_102 (by decide) ?_
                exact ih11 (k + 1) x _ (by omega) (by omega) (ah_cv_f ha (by rw [md_cx_n hn40 hPn, show n = o by omega]; exact hxe.symm) (by omega)) (by omega) (by omega) _ _ hP hS ls (lv_sub hl [2, 1, 3, 0] rfl)
              · skip
                refine lv_iconst (v := (nI 1)) hx hb dX7_covered_92 (by decide) ?_
                refine lv_goto (tgt := 97) hx hb dX7_covered_93 (by decide) ?_
                refine ah_iadd hx hb dX7_covered_97 ?_
                refine lv_istore_n (lv' := [(1, .int (nI (a + 1))), (0, .ref mo), (2, .int (nI x)), (3, .int (nI k)), (4, .int (nI o))]) hx hb dX7_covered_98 rfl hl (by decide) rfl (fun ls hl => ?_)
                refine lv_iinc (v := (nI (k + 1))) (lv' := [(3, .int (nI (k + 1))), (1, .int (nI (a + 1))), (0, .ref mo), (2, .int (nI x)), (4, .int (nI o))]) hx hb dX7_covered_99 hl (k := 3) rfl (ah_inc _) (by decide) rfl (fun ls hl => ?_)
                refine lv_goto (tgt := 11) hx hb dX7_covered_102 (by decide) ?_
                exact ih11 (k + 1) x _ (by omega) (by omega) (ah_cv_t ha (by rw [md_cx_n hn40 hPn, show n = o by omega]; exact hxe.symm) (by omega)) (by omega) (by omega) _ _ hP hS ls (lv_sub hl [2, 1, 3, 0] rfl)
            · skip
              obtain ⟨hl8, hlf, htf⟩ := hln o (by omega)
              have hlk := fun w r h => (hlP o w r h).1
              refine lv_aload_n hx hb dX7_covered_31 rfl (lv_at hl 0 rfl) ?_
              refine lv_iload hx hb dX7_covered_32 (lv_at hl 4 rfl) ?_
              refine lv_iload_n hx hb dX7_covered_34 rfl (lv_at hl 3 rfl) ?_
              refine ah_calli (ah_runV E hP hS (As := [.int (nI o), .int (nI k)]) (rest := []) (b := mo) (m_stands l A D _ hF2 hF3 hF4 hF5 hF6 hF7 hF8 hF9 hL (pl := k) (i := o) (by omega) (by omega)) lk_Mod_70 li_Mod_70 hF2 rfl ⟨rfl, rfl, (Nat.le_of_ble_eq_true rfl), (Nat.le_of_ble_eq_true rfl)⟩ rfl hl.1 rfl (Nat.le_of_ble_eq_true rfl) dX7_covered_35 ⟨(Nat.le_of_ble_eq_true rfl), (Nat.le_of_ble_eq_true rfl)⟩) hS (fun r F10 H locs hq hP hS => ?_)
              obtain ⟨rfl, rfl⟩ := hq
              refine ah_ifb_eq (tgt := 58) hx hb dX7_covered_38 (by decide) (fun hc38 => ?_) (fun hc38 => ?_)
              · skip
                refine lv_iconst (v := (bI_ false)) hx hb dX7_covered_58 (by decide) ?_
                refine lv_istore (lv' := [(5, .int (bI_ false)), (0, .ref mo), (1, .int (nI a)), (2, .int (nI x)), (3, .int (nI k)), (4, .int (nI o))]) hx hb dX7_covered_59 hl (by decide) rfl (fun ls hl => ?_)
                refine lv_iload hx hb dX7_covered_61 (lv_at hl 0 rfl) ?_
                refine ah_ifb_eq (tgt := 78) hx hb dX7_covered_63 (by decide) (fun hc63 => ?_) (fun hc63 => ?_)
                · skip
                  refine lv_iload_n hx hb dX7_covered_78 rfl (lv_at hl 3 rfl) ?_
                  refine lv_istore_n (lv' := [(2, .int (nI x)), (5, .int (bI_ false)), (0, .ref mo), (1, .int (nI a)), (3, .int (nI k)), (4, .int (nI o))]) hx hb dX7_covered_79 rfl hl (by decide) rfl (fun ls hl => ?_)
                  refine lv_iinc (v := (nI (o + 1))) (lv' := [(4, .int (nI (o + 1))), (2, .int (nI x)), (5, .int (bI_ false)), (0, .ref mo), (1, .int (nI a)), (3, .int (nI k))]) hx hb dX7_covered_80 hl (k := 5) rfl (ah_inc _) (by decide) rfl (fun ls hl => ?_)
                  refine lv_goto (tgt := 22) hx hb dX7_covered_83 (by decide) ?_
                  exact ih22 (o + 1) _ (by omega) (by omega) (by rw [md_cx_f hc38]; exact hxe) hx8 _ _ hP hS ls (lv_sub hl [3, 4, 1, 5, 0] rfl)
                · skip
                  exact absurd hc63 (by decide)
              · skip
                refine lv_iload_n hx hb dX7_covered_41 rfl (lv_at hl 3 rfl) ?_
                refine lv_aload_n hx hb dX7_covered_42 rfl (lv_at hl 0 rfl) ?_
                refine gf_Mod_17 E hP hF2 rfl dX7_covered_43 ?_
                refine lv_iload hx hb dX7_covered_46 (lv_at hl 4 rfl) ?_
                refine ah_iald E hP hF5 (by omega) (by omega) dX7_covered_48 ?_
                rw [hlf]
                refine ah_iadd hx hb dX7_covered_49 ?_
                refine lv_iload_n hx hb dX7_covered_50 rfl (lv_at hl 2 rfl) ?_
                refine ah_icmp_le (tgt := 58) hx hb (by omega) (by omega) dX7_covered_51 (by decide) (fun hc51 => ?_) (fun hc51 => ?_)
                · skip
                  refine lv_iconst (v := (bI_ false)) hx hb dX7_covered_58 (by decide) ?_
                  refine lv_istore (lv' := [(5, .int (bI_ false)), (0, .ref mo), (1, .int (nI a)), (2, .int (nI x)), (3, .int (nI k)), (4, .int (nI o))]) hx hb dX7_covered_59 hl (by decide) rfl (fun ls hl => ?_)
                  refine lv_iload hx hb dX7_covered_61 (lv_at hl 0 rfl) ?_
                  refine ah_ifb_eq (tgt := 78) hx hb dX7_covered_63 (by decide) (fun hc63 => ?_) (fun hc63 => ?_)
                  · skip
                    refine lv_iload_n hx hb dX7_covered_78 rfl (lv_at hl 3 rfl) ?_
                    refine lv_istore_n (lv' := [(2, .int (nI x)), (5, .int (bI_ false)), (0, .ref mo), (1, .int (nI a)), (3, .int (nI k)), (4, .int (nI o))]) hx hb dX7_covered_79 rfl hl (by decide) rfl (fun ls hl => ?_)
                    refine lv_iinc (v := (nI (o + 1))) (lv' := [(4, .int (nI (o + 1))), (2, .int (nI x)), (5, .int (bI_ false)), (0, .ref mo), (1, .int (nI a)), (3, .int (nI k))]) hx hb dX7_covered_80 hl (k := 5) rfl (ah_inc _) (by decide) rfl (fun ls hl => ?_)
                    refine lv_goto (tgt := 22) hx hb dX7_covered_83 (by decide) ?_
                    exact ih22 (o + 1) _ (by omega) (by omega) (by rw [md_cx_t hc38, md_sat_w hlk hc38]; omega) hx8 _ _ hP hS ls (lv_sub hl [3, 4, 1, 5, 0] rfl)
                  · skip
                    exact absurd hc63 (by decide)
                · skip
                  refine lv_iconst (v := (bI_ true)) hx hb dX7_covered_54 (by decide) ?_
                  refine lv_goto (tgt := 59) hx hb dX7_covered_55 (by decide) ?_
                  refine lv_istore (lv' := [(5, .int (bI_ true)), (0, .ref mo), (1, .int (nI a)), (2, .int (nI x)), (3, .int (nI k)), (4, .int (nI o))]) hx hb dX7_covered_59 hl (by decide) rfl (fun ls hl => ?_)
                  refine lv_iload hx hb dX7_covered_61 (lv_at hl 0 rfl) ?_
                  refine ah_ifb_eq (tgt := 78) hx hb dX7_covered_63 (by decide) (fun hc63 => ?_) (fun hc63 => ?_)
                  · skip
                    exact absurd hc63 (by decide)
                  · skip
                    refine lv_iload_n hx hb dX7_covered_66 rfl (lv_at hl 4 rfl) ?_
                    refine lv_aload_n hx hb dX7_covered_67 rfl (lv_at hl 1 rfl) ?_
                    refine gf_Mod_17 E hP hF2 rfl dX7_covered_68 ?_
                    refine lv_iload hx hb dX7_covered_71 (lv_at hl 5 rfl) ?_
                    refine ah_iald E hP hF5 (by omega) (by omega) dX7_covered_73 ?_
                    rw [hlf]
                    refine ah_iadd hx hb dX7_covered_74 ?_
                    refine lv_goto (tgt := 79) hx hb dX7_covered_75 (by decide) ?_
                    refine lv_istore_n (lv' := [(2, .int (nI (k + (ln o)))), (5, .int (bI_ true)), (0, .ref mo), (1, .int (nI a)), (3, .int (nI k)), (4, .int (nI o))]) hx hb dX7_covered_79 rfl hl (by decide) rfl (fun ls hl => ?_)
                    refine lv_iinc (v := (nI (o + 1))) (lv' := [(4, .int (nI (o + 1))), (2, .int (nI (k + (ln o)))), (5, .int (bI_ true)), (0, .ref mo), (1, .int (nI a)), (3, .int (nI k))]) hx hb dX7_covered_80 hl (k := 5) rfl (ah_inc _) (by decide) rfl (fun ls hl => ?_)
                    refine lv_goto (tgt := 22) hx hb dX7_covered_83 (by decide) ?_
                    exact ih22 (o + 1) _ (by omega) (by omega) (by rw [md_cx_t hc38, md_sat_w hlk hc38]; omega) (by omega) _ _ hP hS ls (lv_sub hl [3, 4, 1, 5, 0] rfl)
        exact L22 (n + 1) 0 rc (by omega) (Nat.zero_le _) rfl hrc _ _ hP hS ls (lv_sub hl [1, 2, 3, 4, 0] rfl)
  exact L11 (S.length + 1) 0 0 0 (by omega) (Nat.zero_le _) rfl (by omega) (by omega) _ _ hP hS ls (lv_sub hl [3, 2, 1, 0] rfl)
