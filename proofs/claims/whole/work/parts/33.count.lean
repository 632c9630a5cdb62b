theorem md_sat_en_t {P : ah_Pt} {S : List Nat} {k e c : Nat} (h : ∀ w r, P k = some (w, r) → c = w.length) (hle : c ≤ e) : ah_sat P (fun u => ah_at S (e - c) u) k = ah_sat P (fun w => ah_en S e w) k := by
  cases hp : P k with
  | none => rw [md_sat_n (by rw [hp]; rfl), md_sat_n (by rw [hp]; rfl)]
  | some q =>
    obtain ⟨w, r⟩ := q
    have := h w r hp
    rw [md_sat_s hp, md_sat_s hp, ah_en, ← this, decide_eq_true hle, Bool.true_and]
theorem md_sat_en_f {P : ah_Pt} {S : List Nat} {k e c : Nat} (h : ∀ w r, P k = some (w, r) → c = w.length) (hle : ¬ c ≤ e) : ah_sat P (fun w => ah_en S e w) k = false := by
  cases hp : P k with
  | none => rw [md_sat_n (by rw [hp]; rfl)]
  | some q =>
    obtain ⟨w, r⟩ := q
    have := h w r hp
    rw [md_sat_s hp, ah_en, ← this, decide_eq_false hle, Bool.false_and]
theorem md_neg {a b : Nat} (ha : a < 2 ^ 30) (hb : b < 2 ^ 30) (h : ¬ b ≤ a) : nI a - nI b < 0 := by
  apply Int32.lt_iff_toInt_lt.mpr
  rw [Int32.toInt_sub, nI_toInt (by omega), nI_toInt (by omega)]
  show Int.bmod _ _ < 0
  rw [Int.bmod_eq_of_le (by omega) (by omega)]
  omega
set_option maxHeartbeats 4000000 in
set_option maxRecDepth 100000 in
/-- stands -/
theorem m_stands_neg (l : Launch) (A : Nat → Prop) (D : ah_G) (F : ah_F) {mo dA tA lA eA nlA neA sA n : Nat} {P : ah_Pt} {dr S : List Nat} {td th ip il : Int32} {ln : Nat → Nat} {df tf lf ef nlf nef sf : Nat → Int32} (hmo : F mo = some (.inr (7, [.int th, .ref dA, .int (nI dr.length), .int (nI n), .ref tA, .ref lA, .ref eA, .ref nlA, .ref neA, .ref sA, .int (nI S.length), .int td, .int ip, .int il]))) (hdA : F dA = some (ah_ai D 8 df)) (htA : F tA = some (ah_az D 40 tf)) (hlA : F lA = some (ah_ai D 40 lf)) (heA : F eA = some (ah_ai D 320 ef)) (hnlA : F nlA = some (ah_ai D 40 nlf)) (hneA : F neA = some (ah_ai D 320 nef)) (hsA : F sA = some (ah_ai D 200 sf)) (hL : md_L P n dr S ln df tf lf ef nlf nef sf) {i : Nat} {v0 : Int32} (hi : i < n) (hv : v0 < 0) : Met l yX7_stands (Cond.code yX7_stands cX7_stands 5 (some .boolean) :: ah_T) { frames := 0, cells := 0, slots := 0, locals := 0 } (va_Pc [.ref mo, .int (nI i), .int v0] (ah_B A D F)) (ah_Qi A D (fun (r : Int32) F1 => F = F1 ∧ bI_ false = r)) 0 0 A := by
  refine ah_met (own := "AhoarchModel") (by decide) rfl (Nat.le_of_ble_eq_true rfl) ?_
  intro p e s m below meth c ls E hr hini hl hP hS Q hQ
  have hx := E.1
  have hb := E.2.1
  have hl : lv_has ls 5 [(0, .ref mo), (1, .int (nI i)), (2, .int v0)] := hl
  obtain ⟨hn40, hPn, hdok, hSl, hS200, hPok, hdis, hp20, hln, hlP, hdd, hss⟩ := id hL
  have hdl := hdok.1
  obtain ⟨hl8, hlf, htf⟩ := hln i hi
  refine lv_aload_n hx hb dX7_stands_0 rfl (lv_at hl 0 rfl) ?_
  refine gf_Mod_13 E hP hmo rfl dX7_stands_1 ?_
  refine lv_iload_n hx hb dX7_stands_4 rfl (lv_at hl 1 rfl) ?_
  refine ah_zald E hP htA (by omega) (by omega) dX7_stands_5 ?_
  rw [htf]
  refine ah_ifb_eq (tgt := 32) hx hb dX7_stands_6 (by decide) (fun hc6 => ?_) (fun hc6 => ?_)
  · skip
    refine lv_iconst (v := (bI_ false)) hx hb dX7_stands_32 (by decide) ?_
    refine lv_istore_n (lv' := [(3, .int (bI_ false)), (0, .ref mo), (1, .int (nI i)), (2, .int v0)]) hx hb dX7_stands_33 rfl hl (by decide) rfl (fun ls hl => ?_)
    refine lv_iconst (v := (nI 0)) hx hb dX7_stands_34 (by decide) ?_
    refine lv_istore (lv' := [(4, .int (nI 0)), (3, .int (bI_ false)), (0, .ref mo), (1, .int (nI i)), (2, .int v0)]) hx hb dX7_stands_35 hl (by decide) rfl (fun ls hl => ?_)
    refine lv_iload hx hb dX7_stands_37 (lv_at hl 0 rfl) ?_
    refine lv_aload_n hx hb dX7_stands_39 rfl (lv_at hl 2 rfl) ?_
    refine gf_Mod_17 E hP hmo rfl dX7_stands_40 ?_
    refine lv_iload_n hx hb dX7_stands_43 rfl (lv_at hl 3 rfl) ?_
    refine ah_iald E hP hlA (by omega) (by omega) dX7_stands_44 ?_
    rw [hlf]
    refine ah_icmp_ge (tgt := 88) hx hb (by omega) (by omega) dX7_stands_45 (by decide) (fun hc45 => ?_) (fun hc45 => ?_)
    · skip
      refine lv_iload_n hx hb dX7_stands_88 rfl (lv_at hl 1 rfl) ?_
      rw [hQ]
      exact ah_zret E hr (by first | exact bI_nz _ | decide) hP hS ⟨rfl, rfl⟩ (Nat.le_of_ble_eq_true rfl) (Nat.le_of_ble_eq_true rfl) dX7_stands_89
    · skip
      refine lv_iload_n hx hb dX7_stands_48 rfl (lv_at hl 1 rfl) ?_
      refine ah_ifb_eq (tgt := 88) hx hb dX7_stands_49 (by decide) (fun hc49 => ?_) (fun hc49 => ?_)
      · skip
        refine lv_iload_n hx hb dX7_stands_88 rfl (lv_at hl 1 rfl) ?_
        rw [hQ]
        exact ah_zret E hr (by first | exact bI_nz _ | decide) hP hS ⟨rfl, rfl⟩ (Nat.le_of_ble_eq_true rfl) (Nat.le_of_ble_eq_true rfl) dX7_stands_89
      · skip
        exact absurd hc49 (by decide)
  · skip
    refine lv_iload_n hx hb dX7_stands_9 rfl (lv_at hl 2 rfl) ?_
    refine lv_if_lt (tgt := 32) hx hb dX7_stands_10 (by decide) (fun hc10 => ?_) (fun hc10 => ?_)
    · skip
      refine lv_iconst (v := (bI_ false)) hx hb dX7_stands_32 (by decide) ?_
      refine lv_istore_n (lv' := [(3, .int (bI_ false)), (0, .ref mo), (1, .int (nI i)), (2, .int v0)]) hx hb dX7_stands_33 rfl hl (by decide) rfl (fun ls hl => ?_)
      refine lv_iconst (v := (nI 0)) hx hb dX7_stands_34 (by decide) ?_
      refine lv_istore (lv' := [(4, .int (nI 0)), (3, .int (bI_ false)), (0, .ref mo), (1, .int (nI i)), (2, .int v0)]) hx hb dX7_stands_35 hl (by decide) rfl (fun ls hl => ?_)
      refine lv_iload hx hb dX7_stands_37 (lv_at hl 0 rfl) ?_
      refine lv_aload_n hx hb dX7_stands_39 rfl (lv_at hl 2 rfl) ?_
      refine gf_Mod_17 E hP hmo rfl dX7_stands_40 ?_
      refine lv_iload_n hx hb dX7_stands_43 rfl (lv_at hl 3 rfl) ?_
      refine ah_iald E hP hlA (by omega) (by omega) dX7_stands_44 ?_
      rw [hlf]
      refine ah_icmp_ge (tgt := 88) hx hb (by omega) (by omega) dX7_stands_45 (by decide) (fun hc45 => ?_) (fun hc45 => ?_)
      · skip
        refine lv_iload_n hx hb dX7_stands_88 rfl (lv_at hl 1 rfl) ?_
        rw [hQ]
        exact ah_zret E hr (by first | exact bI_nz _ | decide) hP hS ⟨rfl, rfl⟩ (Nat.le_of_ble_eq_true rfl) (Nat.le_of_ble_eq_true rfl) dX7_stands_89
      · skip
        refine lv_iload_n hx hb dX7_stands_48 rfl (lv_at hl 1 rfl) ?_
        refine ah_ifb_eq (tgt := 88) hx hb dX7_stands_49 (by decide) (fun hc49 => ?_) (fun hc49 => ?_)
        · skip
          refine lv_iload_n hx hb dX7_stands_88 rfl (lv_at hl 1 rfl) ?_
          rw [hQ]
          exact ah_zret E hr (by first | exact bI_nz _ | decide) hP hS ⟨rfl, rfl⟩ (Nat.le_of_ble_eq_true rfl) (Nat.le_of_ble_eq_true rfl) dX7_stands_89
        · skip
          exact absurd hc49 (by decide)
    · skip
      exact absurd hv hc10

set_option maxHeartbeats 4000000 in
set_option maxRecDepth 100000 in
/-- endingAt -/
theorem m_endingAt (l : Launch) (A : Nat → Prop) (D : ah_G) (F : ah_F) {mo dA tA lA eA nlA neA sA n : Nat} {P : ah_Pt} {dr S : List Nat} {td th ip il : Int32} {ln : Nat → Nat} {df tf lf ef nlf nef sf : Nat → Int32} (hmo : F mo = some (.inr (7, [.int th, .ref dA, .int (nI dr.length), .int (nI n), .ref tA, .ref lA, .ref eA, .ref nlA, .ref neA, .ref sA, .int (nI S.length), .int td, .int ip, .int il]))) (hdA : F dA = some (ah_ai D 8 df)) (htA : F tA = some (ah_az D 40 tf)) (hlA : F lA = some (ah_ai D 40 lf)) (heA : F eA = some (ah_ai D 320 ef)) (hnlA : F nlA = some (ah_ai D 40 nlf)) (hneA : F neA = some (ah_ai D 320 nef)) (hsA : F sA = some (ah_ai D 200 sf)) (hL : md_L P n dr S ln df tf lf ef nlf nef sf) {e0 : Nat} (he0 : e0 ≤ S.length) : Met l yX7_endingAt (Cond.code yX7_endingAt cX7_endingAt 4 (some .int) :: ah_T) { frames := 1, cells := 0, slots := 0, locals := 24 } (va_Pc [.ref mo, .int (nI e0)] (ah_B A D F)) (ah_Qi A D (fun (r : Int32) F1 => F = F1 ∧ nI (pu_cn (ah_sat P (fun w => ah_en S e0 w)) 40) = r)) 0 0 A := by
  refine ah_met (own := "AhoarchModel") (by decide) rfl (Nat.le_of_ble_eq_true rfl) ?_
  intro p e s m below meth c ls E hr hini hl hP hS Q hQ
  have hx := E.1
  have hb := E.2.1
  have hl : lv_has ls 4 [(0, .ref mo), (1, .int (nI e0))] := hl
  obtain ⟨hn40, hPn, hdok, hSl, hS200, hPok, hdis, hp20, hln, hlP, hdd, hss⟩ := id hL
  have hdl := hdok.1
  refine lv_iconst (v := (nI 0)) hx hb dX7_endingAt_0 (by decide) ?_
  refine lv_istore_n (lv' := [(2, .int (nI 0)), (0, .ref mo), (1, .int (nI e0))]) hx hb dX7_endingAt_1 rfl hl (by decide) rfl (fun ls hl => ?_)
  refine lv_iconst (v := (nI 0)) hx hb dX7_endingAt_2 (by decide) ?_
  refine lv_istore_n (lv' := [(3, .int (nI 0)), (2, .int (nI 0)), (0, .ref mo), (1, .int (nI e0))]) hx hb dX7_endingAt_3 rfl hl (by decide) rfl (fun ls hl => ?_)
  have L4 : ∀ (fuel : Nat), ∀ (k a : Nat), n - k < fuel → k ≤ n → a = pu_cn (ah_sat P (fun w => ah_en S e0 w)) k → ∀ (H : Heap) (locs : List Loc), ah_K A D F H → va_S A s.heap H locs → ∀ (ls : Array Slot), lv_has ls 4 [(0, .ref mo), (1, .int (nI e0)), (2, .int (nI a)), (3, .int (nI k))] → W p l e { frames := 1, cells := 0, slots := 0, locals := 24 } s m [.ref mo, .int (nI e0)].toArray below meth c H locs 0 0 Q (F0 m 4 ls []) := by
    intro fuel
    induction fuel with
    | zero =>
      intro k a hm
      exact absurd hm (Nat.not_lt_zero _)
    | succ fuel ih =>
      intro k a hm hk ha H locs hP hS ls hl
      have hak := pu_cn_le (ah_sat P (fun w => ah_en S e0 w)) k
      refine lv_iload_n hx hb dX7_endingAt_4 rfl (lv_at hl 3 rfl) ?_
      refine lv_aload_n hx hb dX7_endingAt_5 rfl (lv_at hl 0 rfl) ?_
      refine gf_Mod_36 E hP hmo rfl dX7_endingAt_6 ?_
      refine ah_icmp_ge (tgt := 42) hx hb (by omega) (by omega) dX7_endingAt_9 (by decide) (fun hc9 => ?_) (fun hc9 => ?_)
      · skip
        refine lv_iload_n hx hb dX7_endingAt_42 rfl (lv_at hl 2 rfl) ?_
        rw [hQ]
        exact ah_iret E hr hP hS ⟨rfl, by rw [ha, show k = n by omega, pu_cn_off hn40 (fun i hi => md_sat_n (by rw [hPn i hi]; rfl))]⟩ (Nat.le_of_ble_eq_true rfl) (Nat.le_of_ble_eq_true rfl) dX7_endingAt_43
      · skip
        obtain ⟨hl8, hlf, htf⟩ := hln k (by omega)
        have hlk := fun w r h => (hlP k w r h).1
        refine lv_iload_n hx hb dX7_endingAt_12 rfl (lv_at hl 2 rfl) ?_
        refine lv_aload_n hx hb dX7_endingAt_13 rfl (lv_at hl 0 rfl) ?_
        refine lv_iload_n hx hb dX7_endingAt_14 rfl (lv_at hl 3 rfl) ?_
        refine lv_iload_n hx hb dX7_endingAt_15 rfl (lv_at hl 1 rfl) ?_
        refine lv_aload_n hx hb dX7_endingAt_16 rfl (lv_at hl 0 rfl) ?_
        refine gf_Mod_17 E hP hmo rfl dX7_endingAt_17 ?_
        refine lv_iload_n hx hb dX7_endingAt_20 rfl (lv_at hl 3 rfl) ?_
        refine ah_iald E hP hlA (by omega) (by omega) dX7_endingAt_21 ?_
        rw [hlf]
        by_cases hle : ln k ≤ e0
        · skip
          refine ah_isub hx hb (by omega) dX7_endingAt_22 ?_
          refine ah_calli (ah_runV E hP hS (As := [.int (nI k), .int (nI (e0 - (ln k)))]) (rest := [.int (nI a)]) (b := mo) (m_stands l A D _ hmo hdA htA hlA heA hnlA hneA hsA hL (pl := e0 - ln k) (i := k) (by omega) (by omega)) lk_Mod_70 li_Mod_70 hmo rfl ⟨rfl, rfl, (Nat.le_of_ble_eq_true rfl), (Nat.le_of_ble_eq_true rfl)⟩ rfl hl.1 rfl (Nat.le_of_ble_eq_true rfl) dX7_endingAt_23 ⟨(Nat.le_of_ble_eq_true rfl), (Nat.le_of_ble_eq_true rfl)⟩) hS (fun r F1 H locs hq hP hS => ?_)
          obtain ⟨rfl, rfl⟩ := hq
          refine ah_ifb_eq (tgt := 33) hx hb dX7_endingAt_26 (by decide) (fun hc26 => ?_) (fun hc26 => ?_)
          · skip
            have hv : ah_sat P (fun w => ah_en S e0 w) k = false := (md_sat_en_t hlk hle).symm.trans hc26
            refine lv_iconst (v := (nI 0)) hx hb dX7_endingAt_33 (by decide) ?_
            refine ah_iadd hx hb dX7_endingAt_34 ?_
            refine lv_istore_n (lv' := [(2, .int (nI (a + 0))), (0, .ref mo), (1, .int (nI e0)), (3, .int (nI k))]) hx hb dX7_endingAt_35 rfl hl (by decide) rfl (fun ls hl => ?_)
            refine lv_iinc (v := (nI (k + 1))) (lv' := [(3, .int (nI (k + 1))), (2, .int (nI (a + 0))), (0, .ref mo), (1, .int (nI e0))]) hx hb dX7_endingAt_36 hl (k := 3) rfl (ah_inc _) (by decide) rfl (fun ls hl => ?_)
            refine lv_goto (tgt := 4) hx hb dX7_endingAt_39 (by decide) ?_
            exact ih (k + 1) _ (by omega) (by omega) (by rw [pu_cn_f (p := _) (n := k) hv]; exact ha) _ _ hP hS ls (lv_sub hl [2, 3, 1, 0] rfl)
          · skip
            have hv : ah_sat P (fun w => ah_en S e0 w) k = true := (md_sat_en_t hlk hle).symm.trans hc26
            refine lv_iconst (v := (nI 1)) hx hb dX7_endingAt_29 (by decide) ?_
            refine lv_goto (tgt := 34) hx hb dX7_endingAt_30 (by decide) ?_
            refine ah_iadd hx hb dX7_endingAt_34 ?_
            refine lv_istore_n (lv' := [(2, .int (nI (a + 1))), (0, .ref mo), (1, .int (nI e0)), (3, .int (nI k))]) hx hb dX7_endingAt_35 rfl hl (by decide) rfl (fun ls hl => ?_)
            refine lv_iinc (v := (nI (k + 1))) (lv' := [(3, .int (nI (k + 1))), (2, .int (nI (a + 1))), (0, .ref mo), (1, .int (nI e0))]) hx hb dX7_endingAt_36 hl (k := 3) rfl (ah_inc _) (by decide) rfl (fun ls hl => ?_)
            refine lv_goto (tgt := 4) hx hb dX7_endingAt_39 (by decide) ?_
            exact ih (k + 1) _ (by omega) (by omega) (by rw [pu_cn_t (p := _) (n := k) hv]; rw [ha]) _ _ hP hS ls (lv_sub hl [2, 3, 1, 0] rfl)
        · skip
          refine lv_isub hx hb dX7_endingAt_22 ?_
          refine ah_calli (ah_runV E hP hS (As := [.int (nI k), .int ((nI e0) - (nI (ln k)))]) (rest := [.int (nI a)]) (b := mo) (m_stands_neg l A D _ hmo hdA htA hlA heA hnlA hneA hsA hL (i := k) (by omega) (md_neg (by omega) (by omega) hle)) lk_Mod_70 li_Mod_70 hmo rfl ⟨rfl, rfl, (Nat.le_of_ble_eq_true rfl), (Nat.le_of_ble_eq_true rfl)⟩ rfl hl.1 rfl (Nat.le_of_ble_eq_true rfl) dX7_endingAt_23 ⟨(Nat.le_of_ble_eq_true rfl), (Nat.le_of_ble_eq_true rfl)⟩) hS (fun r F2 H locs hq hP hS => ?_)
          obtain ⟨rfl, rfl⟩ := hq
          refine ah_ifb_eq (tgt := 33) hx hb dX7_endingAt_26 (by decide) (fun hc26 => ?_) (fun hc26 => ?_)
          · skip
            have hv : ah_sat P (fun w => ah_en S e0 w) k = false := md_sat_en_f hlk hle
            refine lv_iconst (v := (nI 0)) hx hb dX7_endingAt_33 (by decide) ?_
            refine ah_iadd hx hb dX7_endingAt_34 ?_
            refine lv_istore_n (lv' := [(2, .int (nI (a + 0))), (0, .ref mo), (1, .int (nI e0)), (3, .int (nI k))]) hx hb dX7_endingAt_35 rfl hl (by decide) rfl (fun ls hl => ?_)
            refine lv_iinc (v := (nI (k + 1))) (lv' := [(3, .int (nI (k + 1))), (2, .int (nI (a + 0))), (0, .ref mo), (1, .int (nI e0))]) hx hb dX7_endingAt_36 hl (k := 3) rfl (ah_inc _) (by decide) rfl (fun ls hl => ?_)
            refine lv_goto (tgt := 4) hx hb dX7_endingAt_39 (by decide) ?_
            exact ih (k + 1) _ (by omega) (by omega) (by rw [pu_cn_f (p := _) (n := k) hv]; exact ha) _ _ hP hS ls (lv_sub hl [2, 3, 1, 0] rfl)
          · skip
            exact absurd hc26 (by decide)
  exact L4 (n + 1) 0 0 (by omega) (by omega) rfl _ _ hP hS ls (lv_sub hl [2, 3, 1, 0] rfl)

set_option maxHeartbeats 4000000 in
set_option maxRecDepth 100000 in
/-- countOf -/
theorem m_countOf (l : Launch) (A : Nat → Prop) (D : ah_G) (F : ah_F) {mo dA tA lA eA nlA neA sA n : Nat} {P : ah_Pt} {dr S : List Nat} {td th ip il : Int32} {ln : Nat → Nat} {df tf lf ef nlf nef sf : Nat → Int32} (hmo : F mo = some (.inr (7, [.int th, .ref dA, .int (nI dr.length), .int (nI n), .ref tA, .ref lA, .ref eA, .ref nlA, .ref neA, .ref sA, .int (nI S.length), .int td, .int ip, .int il]))) (hdA : F dA = some (ah_ai D 8 df)) (htA : F tA = some (ah_az D 40 tf)) (hlA : F lA = some (ah_ai D 40 lf)) (heA : F eA = some (ah_ai D 320 ef)) (hnlA : F nlA = some (ah_ai D 40 nlf)) (hneA : F neA = some (ah_ai D 320 nef)) (hsA : F sA = some (ah_ai D 200 sf)) (hL : md_L P n dr S ln df tf lf ef nlf nef sf) {i : Nat} (hi : i < n) : Met l yX7_countOf (Cond.code yX7_countOf cX7_countOf 4 (some .int) :: ah_T) { frames := 1, cells := 0, slots := 0, locals := 24 } (va_Pc [.ref mo, .int (nI i)] (ah_B A D F)) (ah_Qi A D (fun (r : Int32) F1 => F = F1 ∧ nI (pu_cn (fun j => ah_sat P (fun u => ah_at S j u) i) S.length) = r)) 0 0 A := by
  refine ah_met (own := "AhoarchModel") (by decide) rfl (Nat.le_of_ble_eq_true rfl) ?_
  intro p e s m below meth c ls E hr hini hl hP hS Q hQ
  have hx := E.1
  have hb := E.2.1
  have hl : lv_has ls 4 [(0, .ref mo), (1, .int (nI i))] := hl
  obtain ⟨hn40, hPn, hdok, hSl, hS200, hPok, hdis, hp20, hln, hlP, hdd, hss⟩ := id hL
  have hdl := hdok.1
  refine lv_iconst (v := (nI 0)) hx hb dX7_countOf_0 (by decide) ?_
  refine lv_istore_n (lv' := [(2, .int (nI 0)), (0, .ref mo), (1, .int (nI i))]) hx hb dX7_countOf_1 rfl hl (by decide) rfl (fun ls hl => ?_)
  refine lv_iconst (v := (nI 0)) hx hb dX7_countOf_2 (by decide) ?_
  refine lv_istore_n (lv' := [(3, .int (nI 0)), (2, .int (nI 0)), (0, .ref mo), (1, .int (nI i))]) hx hb dX7_countOf_3 rfl hl (by decide) rfl (fun ls hl => ?_)
  have L4 : ∀ (fuel : Nat), ∀ (k a : Nat), S.length - k < fuel → k ≤ S.length → a = pu_cn (fun j => ah_sat P (fun u => ah_at S j u) i) k → ∀ (H : Heap) (locs : List Loc), ah_K A D F H → va_S A s.heap H locs → ∀ (ls : Array Slot), lv_has ls 4 [(0, .ref mo), (1, .int (nI i)), (2, .int (nI a)), (3, .int (nI k))] → W p l e { frames := 1, cells := 0, slots := 0, locals := 24 } s m [.ref mo, .int (nI i)].toArray below meth c H locs 0 0 Q (F0 m 4 ls []) := by
    intro fuel
    induction fuel with
    | zero =>
      intro k a hm
      exact absurd hm (Nat.not_lt_zero _)
    | succ fuel ih =>
      intro k a hm hk ha H locs hP hS ls hl
      have hak := pu_cn_le (fun j => ah_sat P (fun u => ah_at S j u) i) k
      refine lv_iload_n hx hb dX7_countOf_4 rfl (lv_at hl 3 rfl) ?_
      refine lv_aload_n hx hb dX7_countOf_5 rfl (lv_at hl 0 rfl) ?_
      refine gf_Mod_67 E hP hmo rfl dX7_countOf_6 ?_
      refine ah_icmp_ge (tgt := 35) hx hb (by omega) (by omega) dX7_countOf_9 (by decide) (fun hc9 => ?_) (fun hc9 => ?_)
      · skip
        refine lv_iload_n hx hb dX7_countOf_35 rfl (lv_at hl 2 rfl) ?_
        rw [hQ]
        exact ah_iret E hr hP hS ⟨rfl, by rw [ha, show k = S.length by omega]⟩ (Nat.le_of_ble_eq_true rfl) (Nat.le_of_ble_eq_true rfl) dX7_countOf_36
      · skip
        refine lv_iload_n hx hb dX7_countOf_12 rfl (lv_at hl 2 rfl) ?_
        refine lv_aload_n hx hb dX7_countOf_13 rfl (lv_at hl 0 rfl) ?_
        refine lv_iload_n hx hb dX7_countOf_14 rfl (lv_at hl 1 rfl) ?_
        refine lv_iload_n hx hb dX7_countOf_15 rfl (lv_at hl 3 rfl) ?_
        refine ah_calli (ah_runV E hP hS (As := [.int (nI i), .int (nI k)]) (rest := [.int (nI a)]) (b := mo) (m_stands l A D _ hmo hdA htA hlA heA hnlA hneA hsA hL (pl := k) hi (by omega)) lk_Mod_70 li_Mod_70 hmo rfl ⟨rfl, rfl, (Nat.le_of_ble_eq_true rfl), (Nat.le_of_ble_eq_true rfl)⟩ rfl hl.1 rfl (Nat.le_of_ble_eq_true rfl) dX7_countOf_16 ⟨(Nat.le_of_ble_eq_true rfl), (Nat.le_of_ble_eq_true rfl)⟩) hS (fun r F1 H locs hq hP hS => ?_)
        obtain ⟨rfl, rfl⟩ := hq
        refine ah_ifb_eq (tgt := 26) hx hb dX7_countOf_19 (by decide) (fun hc19 => ?_) (fun hc19 => ?_)
        · skip
          refine lv_iconst (v := (nI 0)) hx hb dX7_countOf_26 (by decide) ?_
          refine ah_iadd hx hb dX7_countOf_27 ?_
          refine lv_istore_n (lv' := [(2, .int (nI (a + 0))), (0, .ref mo), (1, .int (nI i)), (3, .int (nI k))]) hx hb dX7_countOf_28 rfl hl (by decide) rfl (fun ls hl => ?_)
          refine lv_iinc (v := (nI (k + 1))) (lv' := [(3, .int (nI (k + 1))), (2, .int (nI (a + 0))), (0, .ref mo), (1, .int (nI i))]) hx hb dX7_countOf_29 hl (k := 3) rfl (ah_inc _) (by decide) rfl (fun ls hl => ?_)
          refine lv_goto (tgt := 4) hx hb dX7_countOf_32 (by decide) ?_
          exact ih (k + 1) _ (by omega) (by omega) (by rw [pu_cn_f (p := (fun j => ah_sat P (fun u => ah_at S j u) i)) (n := k) hc19]; exact ha) _ _ hP hS ls (lv_sub hl [2, 3, 1, 0] rfl)
        · skip
          refine lv_iconst (v := (nI 1)) hx hb dX7_countOf_22 (by decide) ?_
          refine lv_goto (tgt := 27) hx hb dX7_countOf_23 (by decide) ?_
          refine ah_iadd hx hb dX7_countOf_27 ?_
          refine lv_istore_n (lv' := [(2, .int (nI (a + 1))), (0, .ref mo), (1, .int (nI i)), (3, .int (nI k))]) hx hb dX7_countOf_28 rfl hl (by decide) rfl (fun ls hl => ?_)
          refine lv_iinc (v := (nI (k + 1))) (lv' := [(3, .int (nI (k + 1))), (2, .int (nI (a + 1))), (0, .ref mo), (1, .int (nI i))]) hx hb dX7_countOf_29 hl (k := 3) rfl (ah_inc _) (by decide) rfl (fun ls hl => ?_)
          refine lv_goto (tgt := 4) hx hb dX7_countOf_32 (by decide) ?_
          exact ih (k + 1) _ (by omega) (by omega) (by rw [pu_cn_t (p := (fun j => ah_sat P (fun u => ah_at S j u) i)) (n := k) hc19]; rw [ha]) _ _ hP hS ls (lv_sub hl [2, 3, 1, 0] rfl)
  exact L4 (S.length + 1) 0 0 (by omega) (by omega) rfl _ _ hP hS ls (lv_sub hl [2, 3, 1, 0] rfl)
