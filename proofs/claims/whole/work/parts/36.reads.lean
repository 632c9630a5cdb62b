theorem md_en0 {P : ah_Pt} {S : List Nat} (hP : ah_Pok P) (h : S.length = 0) : pu_cn (ah_sat P (fun w => ah_en S S.length w)) 40 = 0 := by
  rw [pu_cn_off (Nat.zero_le 40) (p := ah_sat P (fun w => ah_en S S.length w)) (fun i _ => by
    cases hp : P i with
    | none => exact md_sat_n (by rw [hp]; rfl)
    | some q =>
      obtain ⟨w, r⟩ := q
      have := List.length_pos_iff.mpr (hP _ _ _ hp).2.2
      rw [md_sat_s hp, ah_en, decide_eq_false (by omega), Bool.false_and])]
  rfl
theorem md_bw_len {v u : List Nat} {c : Nat} (h : v.length = c) : (decide (c ≤ u.length) && ah_bw v u) = ah_bw v u := by
  by_cases q : c ≤ u.length
  · rw [decide_eq_true q, Bool.true_and]
  · rw [decide_eq_false q, Bool.false_and, ah_bw_no (by omega)]
theorem md_sat_congr {P : ah_Pt} {f g : List Nat → Bool} {i : Nat} (h : ∀ u, f u = g u) : ah_sat P f i = ah_sat P g i := by
  rw [show f = g from funext h]
theorem md_any_off {P : ah_Pt} {f : List Nat → Bool} {n : Nat} (hn : n ≤ 40) (hP : ∀ i, n ≤ i → P i = none) : ah_any (ah_sat P f) 40 = ah_any (ah_sat P f) n := by
  cases e : ah_any (ah_sat P f) n with
  | true =>
    obtain ⟨j, hj, hq⟩ := ah_any_iff.mp e
    exact ah_any_iff.mpr ⟨j, by omega, hq⟩
  | false =>
    cases e2 : ah_any (ah_sat P f) 40 with
    | false => rfl
    | true =>
      obtain ⟨j, hj, hq⟩ := ah_any_iff.mp e2
      rcases Nat.lt_or_ge j n with h1 | h1
      · rw [ah_any_iff.mpr ⟨j, h1, hq⟩] at e; cases e
      · rw [md_sat_n (by rw [hP j h1]; rfl)] at hq; cases hq
theorem md_if_t {Q : Nat → Bool} {o a z : Nat} (hp : Q o = true) : a = if ah_any Q (o + 1) then a else z := by rw [if_pos (ah_any_t (by omega) hp)]
theorem md_if_f {Q : Nat → Bool} {o a z x : Nat} (h : x = if ah_any Q o then a else z) (hp : Q o = false) : x = if ah_any Q (o + 1) then a else z := by
  rw [h, ah_any, hp, Bool.or_false]
theorem md_dt {w : List Nat} {c : Nat} (h : c ≤ w.length) : (w.drop (w.length - c)).take c = w.drop (w.length - c) := List.take_of_length_le (by rw [List.length_drop]; omega)
theorem md_le_s {P : ah_Pt} {w : List Nat} {c n : Nat} (hn : n ≤ 40) (hP : ∀ i, n ≤ i → P i = none) (h1 : 1 ≤ c) (h2 : c ≤ w.length) : ah_le P w c = if ah_any (ah_sat P (fun u => ah_bw ((w.drop (w.length - c)).take c) u)) n then c else ah_le P w (c - 1) := by
  have e : ah_sat P (fun u => ah_bw ((w.drop (w.length - c)).take c) u) = ah_sat P (fun u => decide (c ≤ u.length) && ah_bw (w.drop (w.length - c)) u) := funext fun i => md_sat_congr fun u => by rw [md_dt h2, md_bw_len (by rw [List.length_drop]; omega)]
  rw [e, ← md_any_off hn hP]
  cases q : ah_any (ah_sat P (fun u => decide (c ≤ u.length) && ah_bw (w.drop (w.length - c)) u)) 40 with
  | true => rw [if_pos rfl, ah_le_t h1 q]
  | false => rw [if_neg (by decide), ah_le_f h1 q]
set_option maxHeartbeats 4000000 in
set_option maxRecDepth 100000 in
/-- ending -/
theorem m_ending (l : Launch) (A : Nat → Prop) (D : ah_G) (F : ah_F) {mo n : Nat} {P : ah_Pt} {dr S : List Nat} {td th : Int32} (hC : md_C D F mo P n dr S td th)  : Met l yX7_ending (Cond.code yX7_ending cX7_ending 1 (some .int) :: ah_T) { frames := 2, cells := 0, slots := 0, locals := 47 } (va_Pc [.ref mo] (ah_B A D F)) (ah_Qi A D (fun (r : Int32) F1 => md_An D F1 mo (0, nI (pu_cn (ah_sat P (fun w => ah_en S S.length w)) 40), (P, n, dr, S, td)) r)) 0 0 A := by
  refine ah_met (own := "AhoarchModel") (by decide) rfl (Nat.le_of_ble_eq_true rfl) ?_
  intro p e s m below meth c ls E hr hini hl hP hS Q hQ
  have hx := E.1
  have hb := E.2.1
  have hl : lv_has ls 1 [(0, .ref mo)] := hl
  obtain ⟨dA, tA, lA, eA, nlA, neA, sA, ip, il, ln, df, tf, lf, ef, nlf, nef, sf, hmo, hdA, htA, hlA, heA, hnlA, hneA, hsA, hne1, hne2, hne3, hne4, hL⟩ := id hC
  obtain ⟨hn40, hPn, hdok, hSl, hS200, hPok, hdis, hp20, hln, hlP, hdd, hss⟩ := id hL
  have hdl := hdok.1
  refine lv_aload_n hx hb dX7_ending_0 rfl (lv_at hl 0 rfl) ?_
  refine lv_iconst (v := (nI 0)) hx hb dX7_ending_1 (by decide) ?_
  refine pf_Mod_32 E hP hS hmo (Nat.le_of_ble_eq_true rfl) dX7_ending_2 (fun H locs hP hS => ?_)
  obtain ⟨F1, eF1⟩ : ∃ Fz : ah_F, Fz = ah_up F mo (.inr (7, [.int (nI 0), .ref dA, .int (nI dr.length), .int (nI n), .ref tA, .ref lA, .ref eA, .ref nlA, .ref neA, .ref sA, .int (nI S.length), .int td, .int ip, .int il])) := ⟨_, rfl⟩
  have hP : ah_K A D F1 H := by rw [eF1]; exact hP
  have hF2 : F1 mo = some (.inr (7, [.int (nI 0), .ref dA, .int (nI dr.length), .int (nI n), .ref tA, .ref lA, .ref eA, .ref nlA, .ref neA, .ref sA, .int (nI S.length), .int td, .int ip, .int il])) := by rw [eF1]; exact ah_up_s _ _ _
  have hF3 : F1 dA = some (ah_ai D 8 df) := by rw [eF1]; exact ah_keep hmo hdA rfl
  have hF4 : F1 tA = some (ah_az D 40 tf) := by rw [eF1]; exact ah_keep hmo htA rfl
  have hF5 : F1 lA = some (ah_ai D 40 lf) := by rw [eF1]; exact ah_keep hmo hlA rfl
  have hF6 : F1 eA = some (ah_ai D 320 ef) := by rw [eF1]; exact ah_keep hmo heA rfl
  have hF7 : F1 nlA = some (ah_ai D 40 nlf) := by rw [eF1]; exact ah_keep hmo hnlA rfl
  have hF8 : F1 neA = some (ah_ai D 320 nef) := by rw [eF1]; exact ah_keep hmo hneA rfl
  have hF9 : F1 sA = some (ah_ai D 200 sf) := by rw [eF1]; exact ah_keep hmo hsA rfl
  refine lv_aload_n hx hb dX7_ending_5 rfl (lv_at hl 0 rfl) ?_
  refine gf_Mod_67 E hP hF2 rfl dX7_ending_6 ?_
  refine ah_if_ne (tgt := 16) hx hb (by omega) dX7_ending_9 (by decide) (fun hc9 => ?_) (fun hc9 => ?_)
  · skip
    refine lv_aload_n hx hb dX7_ending_16 rfl (lv_at hl 0 rfl) ?_
    refine lv_aload_n hx hb dX7_ending_17 rfl (lv_at hl 0 rfl) ?_
    refine gf_Mod_67 E hP hF2 rfl dX7_ending_18 ?_
    refine ah_calli (ah_runV E hP hS (As := [.int (nI S.length)]) (rest := []) (b := mo) (m_endingAt l A D _ hF2 hF3 hF4 hF5 hF6 hF7 hF8 hF9 hL (Nat.le_refl _)) lk_Mod_74 li_Mod_74 hF2 rfl ⟨rfl, rfl, (Nat.le_of_ble_eq_true rfl), (Nat.le_of_ble_eq_true rfl)⟩ rfl hl.1 rfl (Nat.le_of_ble_eq_true rfl) dX7_ending_21 ⟨(Nat.le_of_ble_eq_true rfl), (Nat.le_of_ble_eq_true rfl)⟩) hS (fun r F10 H locs hq hP hS => ?_)
    obtain ⟨rfl, rfl⟩ := hq
    rw [hQ]
    exact ah_iret E hr hP hS (md_An_i (k := 0) (v := _) (rfl) ⟨dA, tA, lA, eA, nlA, neA, sA, _, _, ln, _, _, _, _, _, _, _, hF2, hF3, hF4, hF5, hF6, hF7, hF8, hF9, hne1, hne2, hne3, hne4, hL⟩ (fun _ => rfl)) (Nat.le_of_ble_eq_true rfl) (Nat.le_of_ble_eq_true rfl) dX7_ending_24
  · skip
    refine lv_iconst (v := (nI 0)) hx hb dX7_ending_12 (by decide) ?_
    refine lv_goto (tgt := 24) hx hb dX7_ending_13 (by decide) ?_
    rw [hQ]
    exact ah_iret E hr hP hS (md_An_i (k := 0) (v := _) (rfl) ⟨dA, tA, lA, eA, nlA, neA, sA, _, _, ln, _, _, _, _, _, _, _, hF2, hF3, hF4, hF5, hF6, hF7, hF8, hF9, hne1, hne2, hne3, hne4, hL⟩ (fun _ => by rw [md_en0 hPok (by omega)])) (Nat.le_of_ble_eq_true rfl) (Nat.le_of_ble_eq_true rfl) dX7_ending_24

set_option maxHeartbeats 4000000 in
set_option maxRecDepth 100000 in
/-- occurrencesOf -/
theorem m_occurrencesOf (l : Launch) (A : Nat → Prop) (D : ah_G) (F : ah_F) {mo n : Nat} {P : ah_Pt} {dr S : List Nat} {td th : Int32} (hC : md_C D F mo P n dr S td th) {v0 : Int32} : Met l yX7_occurrencesOf (Cond.code yX7_occurrencesOf cX7_occurrencesOf 2 (some .int) :: ah_T) { frames := 2, cells := 0, slots := 0, locals := 47 } (va_Pc [.ref mo, .int v0] (ah_B A D F)) (ah_Qi A D (fun (r : Int32) F1 => md_An D F1 mo (sp_occurrencesOf P n dr S td v0) r)) 0 0 A := by
  refine ah_met (own := "AhoarchModel") (by decide) rfl (Nat.le_of_ble_eq_true rfl) ?_
  intro p e s m below meth c ls E hr hini hl hP hS Q hQ
  have hx := E.1
  have hb := E.2.1
  have hl : lv_has ls 2 [(0, .ref mo), (1, .int v0)] := hl
  obtain ⟨dA, tA, lA, eA, nlA, neA, sA, ip, il, ln, df, tf, lf, ef, nlf, nef, sf, hmo, hdA, htA, hlA, heA, hnlA, hneA, hsA, hne1, hne2, hne3, hne4, hL⟩ := id hC
  obtain ⟨hn40, hPn, hdok, hSl, hS200, hPok, hdis, hp20, hln, hlP, hdd, hss⟩ := id hL
  have hdl := hdok.1
  refine lv_aload_n hx hb dX7_occurrencesOf_0 rfl (lv_at hl 0 rfl) ?_
  refine lv_iload_n hx hb dX7_occurrencesOf_1 rfl (lv_at hl 1 rfl) ?_
  refine ah_calli (ah_runV E hP hS (As := [.int v0]) (rest := []) (b := mo) (m_isAsked l A D _ hmo hdA htA hlA heA hnlA hneA hsA hL (v0 := v0)) lk_Mod_60 li_Mod_60 hmo rfl ⟨rfl, rfl, (Nat.le_of_ble_eq_true rfl), (Nat.le_of_ble_eq_true rfl)⟩ rfl hl.1 rfl (Nat.le_of_ble_eq_true rfl) dX7_occurrencesOf_2 ⟨(Nat.le_of_ble_eq_true rfl), (Nat.le_of_ble_eq_true rfl)⟩) hS (fun r F1 H locs hask hP hS => ?_)
  obtain ⟨eask, hro⟩ := hask
  have hG2 : F1 dA = some (ah_ai D 8 df) := by rw [eask]; exact ah_keep hmo hdA rfl
  have hG3 : F1 tA = some (ah_az D 40 tf) := by rw [eask]; exact ah_keep hmo htA rfl
  have hG4 : F1 lA = some (ah_ai D 40 lf) := by rw [eask]; exact ah_keep hmo hlA rfl
  have hG5 : F1 eA = some (ah_ai D 320 ef) := by rw [eask]; exact ah_keep hmo heA rfl
  have hG6 : F1 nlA = some (ah_ai D 40 nlf) := by rw [eask]; exact ah_keep hmo hnlA rfl
  have hG7 : F1 neA = some (ah_ai D 320 nef) := by rw [eask]; exact ah_keep hmo hneA rfl
  have hG8 : F1 sA = some (ah_ai D 200 sf) := by rw [eask]; exact ah_keep hmo hsA rfl
  have hG9 : F1 mo = some (.inr (7, [.int (nI (md_tn (ah_pi P v0).isSome)), .ref dA, .int (nI dr.length), .int (nI n), .ref tA, .ref lA, .ref eA, .ref nlA, .ref neA, .ref sA, .int (nI S.length), .int td, .int ip, .int il])) := by rw [eask]; exact ah_up_s _ _ _
  subst hro
  refine ah_ifb_eq (tgt := 16) hx hb dX7_occurrencesOf_5 (by decide) (fun hc5 => ?_) (fun hc5 => ?_)
  · skip
    have hnone := md_none hc5
    have hth : md_tn (ah_pi P v0).isSome = 1 := by rw [hc5]; rfl
    rw [hth] at hG9
    refine lv_iconst (v := (nI 0)) hx hb dX7_occurrencesOf_16 (by decide) ?_
    rw [hQ]
    exact ah_iret E hr hP hS (md_An_i (k := 1) (v := 0) (by simp only [sp_occurrencesOf, hnone]) ⟨dA, tA, lA, eA, nlA, neA, sA, _, _, ln, _, _, _, _, _, _, _, hG9, hG2, hG3, hG4, hG5, hG6, hG7, hG8, hne1, hne2, hne3, hne4, hL⟩ (fun h => absurd h (by decide))) (Nat.le_of_ble_eq_true rfl) (Nat.le_of_ble_eq_true rfl) dX7_occurrencesOf_17
  · skip
    have hth : md_tn (ah_pi P v0).isSome = 0 := by rw [hc5]; rfl
    rw [hth] at hG9
    obtain ⟨i, hpi⟩ := Option.isSome_iff_exists.mp hc5
    obtain ⟨hi40, hvi, hPs⟩ := ah_pi_lt hpi
    obtain ⟨⟨w, r0⟩, hPi⟩ := Option.isSome_iff_exists.mp hPs
    have hin := md_lt hPn hPs
    obtain ⟨hl8, hlf, htf⟩ := hln i hin
    obtain ⟨hlw, hew, hnl, hnew⟩ := hlP i w r0 hPi
    obtain ⟨hok, hokr, hnw⟩ := hPok i w r0 hPi
    have hwl := hok.1
    have hrl := hokr.1
    rw [hvi] at hl
    refine lv_aload_n hx hb dX7_occurrencesOf_8 rfl (lv_at hl 0 rfl) ?_
    refine lv_iload_n hx hb dX7_occurrencesOf_9 rfl (lv_at hl 1 rfl) ?_
    refine ah_calli (ah_runV E hP hS (As := [.int (nI i)]) (rest := []) (b := mo) (m_countOf l A D _ hG9 hG2 hG3 hG4 hG5 hG6 hG7 hG8 hL hin) lk_Mod_87 li_Mod_87 hG9 rfl ⟨rfl, rfl, (Nat.le_of_ble_eq_true rfl), (Nat.le_of_ble_eq_true rfl)⟩ rfl hl.1 rfl (Nat.le_of_ble_eq_true rfl) dX7_occurrencesOf_10 ⟨(Nat.le_of_ble_eq_true rfl), (Nat.le_of_ble_eq_true rfl)⟩) hS (fun r F10 H locs hq hP hS => ?_)
    obtain ⟨rfl, rfl⟩ := hq
    refine lv_goto (tgt := 17) hx hb dX7_occurrencesOf_13 (by decide) ?_
    rw [hQ]
    exact ah_iret E hr hP hS (md_An_i (k := 0) (v := nI (pu_cn (fun k => ah_at S k w) S.length)) (by simp only [sp_occurrencesOf, hpi, ah_w_s hPi]) ⟨dA, tA, lA, eA, nlA, neA, sA, _, _, ln, _, _, _, _, _, _, _, hG9, hG2, hG3, hG4, hG5, hG6, hG7, hG8, hne1, hne2, hne3, hne4, hL⟩ (fun _ => by rw [pu_cn_congr (fun j _ => md_sat_s hPi)])) (Nat.le_of_ble_eq_true rfl) (Nat.le_of_ble_eq_true rfl) dX7_occurrencesOf_17

set_option maxHeartbeats 4000000 in
set_option maxRecDepth 100000 in
/-- link -/
theorem m_link (l : Launch) (A : Nat → Prop) (D : ah_G) (F : ah_F) {mo n : Nat} {P : ah_Pt} {dr S : List Nat} {td th : Int32} (hC : md_C D F mo P n dr S td th) {v0 : Int32} : Met l yX7_link (Cond.code yX7_link cX7_link 5 (some .int) :: ah_T) { frames := 2, cells := 0, slots := 0, locals := 42 } (va_Pc [.ref mo, .int v0] (ah_B A D F)) (ah_Qi A D (fun (r : Int32) F1 => md_An D F1 mo (sp_link P n dr S td v0) r)) 0 0 A := by
  refine ah_met (own := "AhoarchModel") (by decide) rfl (Nat.le_of_ble_eq_true rfl) ?_
  intro p e s m below meth c ls E hr hini hl hP hS Q hQ
  have hx := E.1
  have hb := E.2.1
  have hl : lv_has ls 5 [(0, .ref mo), (1, .int v0)] := hl
  obtain ⟨dA, tA, lA, eA, nlA, neA, sA, ip, il, ln, df, tf, lf, ef, nlf, nef, sf, hmo, hdA, htA, hlA, heA, hnlA, hneA, hsA, hne1, hne2, hne3, hne4, hL⟩ := id hC
  obtain ⟨hn40, hPn, hdok, hSl, hS200, hPok, hdis, hp20, hln, hlP, hdd, hss⟩ := id hL
  have hdl := hdok.1
  refine lv_aload_n hx hb dX7_link_0 rfl (lv_at hl 0 rfl) ?_
  refine lv_iload_n hx hb dX7_link_1 rfl (lv_at hl 1 rfl) ?_
  refine ah_calli (ah_runV E hP hS (As := [.int v0]) (rest := []) (b := mo) (m_isAsked l A D _ hmo hdA htA hlA heA hnlA hneA hsA hL (v0 := v0)) lk_Mod_60 li_Mod_60 hmo rfl ⟨rfl, rfl, (Nat.le_of_ble_eq_true rfl), (Nat.le_of_ble_eq_true rfl)⟩ rfl hl.1 rfl (Nat.le_of_ble_eq_true rfl) dX7_link_2 ⟨(Nat.le_of_ble_eq_true rfl), (Nat.le_of_ble_eq_true rfl)⟩) hS (fun r F1 H locs hask hP hS => ?_)
  obtain ⟨eask, hro⟩ := hask
  have hG2 : F1 dA = some (ah_ai D 8 df) := by rw [eask]; exact ah_keep hmo hdA rfl
  have hG3 : F1 tA = some (ah_az D 40 tf) := by rw [eask]; exact ah_keep hmo htA rfl
  have hG4 : F1 lA = some (ah_ai D 40 lf) := by rw [eask]; exact ah_keep hmo hlA rfl
  have hG5 : F1 eA = some (ah_ai D 320 ef) := by rw [eask]; exact ah_keep hmo heA rfl
  have hG6 : F1 nlA = some (ah_ai D 40 nlf) := by rw [eask]; exact ah_keep hmo hnlA rfl
  have hG7 : F1 neA = some (ah_ai D 320 nef) := by rw [eask]; exact ah_keep hmo hneA rfl
  have hG8 : F1 sA = some (ah_ai D 200 sf) := by rw [eask]; exact ah_keep hmo hsA rfl
  have hG9 : F1 mo = some (.inr (7, [.int (nI (md_tn (ah_pi P v0).isSome)), .ref dA, .int (nI dr.length), .int (nI n), .ref tA, .ref lA, .ref eA, .ref nlA, .ref neA, .ref sA, .int (nI S.length), .int td, .int ip, .int il])) := by rw [eask]; exact ah_up_s _ _ _
  subst hro
  refine ah_ifb_ne (tgt := 10) hx hb dX7_link_5 (by decide) (fun hc5 => ?_) (fun hc5 => ?_)
  · skip
    have hth : md_tn (ah_pi P v0).isSome = 0 := by rw [hc5]; rfl
    rw [hth] at hG9
    obtain ⟨i, hpi⟩ := Option.isSome_iff_exists.mp hc5
    obtain ⟨hi40, hvi, hPs⟩ := ah_pi_lt hpi
    obtain ⟨⟨w, r0⟩, hPi⟩ := Option.isSome_iff_exists.mp hPs
    have hin := md_lt hPn hPs
    obtain ⟨hl8, hlf, htf⟩ := hln i hin
    obtain ⟨hlw, hew, hnl, hnew⟩ := hlP i w r0 hPi
    obtain ⟨hok, hokr, hnw⟩ := hPok i w r0 hPi
    have hwl := hok.1
    have hrl := hokr.1
    rw [hvi] at hl
    have hwp := List.length_pos_iff.mpr hnw
    refine lv_iconst (v := (nI 0)) hx hb dX7_link_10 (by decide) ?_
    refine lv_istore_n (lv' := [(2, .int (nI 0)), (0, .ref mo), (1, .int (nI i))]) hx hb dX7_link_11 rfl hl (by decide) rfl (fun ls hl => ?_)
    refine lv_iconst (v := (nI 1)) hx hb dX7_link_12 (by decide) ?_
    refine lv_istore_n (lv' := [(3, .int (nI 1)), (2, .int (nI 0)), (0, .ref mo), (1, .int (nI i))]) hx hb dX7_link_13 rfl hl (by decide) rfl (fun ls hl => ?_)
    have L14 : ∀ (fuel : Nat), ∀ (c0 lo : Nat), w.length - c0 < fuel → 1 ≤ c0 → c0 ≤ w.length → lo = ah_le P w (c0 - 1) → lo ≤ 8 → ∀ (H : Heap) (locs : List Loc), ah_K A D F1 H → va_S A s.heap H locs → ∀ (ls : Array Slot), lv_has ls 5 [(0, .ref mo), (1, .int (nI i)), (2, .int (nI lo)), (3, .int (nI c0))] → W p l e { frames := 2, cells := 0, slots := 0, locals := 42 } s m [.ref mo, .int v0].toArray below meth c H locs (0 + 0) (0 + 0) Q (F0 m 14 ls []) := by
      intro fuel
      induction fuel with
      | zero =>
        intro c0 lo hm
        exact absurd hm (Nat.not_lt_zero _)
      | succ fuel ih14 =>
        intro c0 lo hm hc1 hc2 hlo hlo8 H locs hP hS ls hl
        refine lv_iload_n hx hb dX7_link_14 rfl (lv_at hl 3 rfl) ?_
        refine lv_aload_n hx hb dX7_link_15 rfl (lv_at hl 0 rfl) ?_
        refine gf_Mod_17 E hP hG9 rfl dX7_link_16 ?_
        refine lv_iload_n hx hb dX7_link_19 rfl (lv_at hl 1 rfl) ?_
        refine ah_iald E hP hG4 (by omega) (by omega) dX7_link_20 ?_
        rw [hlf, hlw]
        refine ah_icmp_ge (tgt := 73) hx hb (by omega) (by omega) dX7_link_21 (by decide) (fun hc21 => ?_) (fun hc21 => ?_)
        · skip
          refine lv_iload_n hx hb dX7_link_73 rfl (lv_at hl 2 rfl) ?_
          rw [hQ]
          exact ah_iret E hr hP hS (md_An_i (k := 0) (v := nI (ah_le P w (w.length - 1))) (by simp only [sp_link, hpi, ah_w_s hPi]) ⟨dA, tA, lA, eA, nlA, neA, sA, _, _, ln, _, _, _, _, _, _, _, hG9, hG2, hG3, hG4, hG5, hG6, hG7, hG8, hne1, hne2, hne3, hne4, hL⟩ (fun _ => by rw [hlo, show c0 = w.length by omega])) (Nat.le_of_ble_eq_true rfl) (Nat.le_of_ble_eq_true rfl) dX7_link_74
        · skip
          refine lv_iconst (v := (nI 0)) hx hb dX7_link_24 (by decide) ?_
          refine lv_istore (lv' := [(4, .int (nI 0)), (0, .ref mo), (1, .int (nI i)), (2, .int (nI lo)), (3, .int (nI c0))]) hx hb dX7_link_25 hl (by decide) rfl (fun ls hl => ?_)
          have L27 : ∀ (fuel : Nat), ∀ (o x : Nat), n - o < fuel → o ≤ n → x = (if ah_any (ah_sat P (fun u => ah_bw ((w.drop (w.length - c0)).take c0) u)) o then c0 else ah_le P w (c0 - 1)) → x ≤ 8 → ∀ (H : Heap) (locs : List Loc), ah_K A D F1 H → va_S A s.heap H locs → ∀ (ls : Array Slot), lv_has ls 5 [(0, .ref mo), (1, .int (nI i)), (2, .int (nI x)), (3, .int (nI c0)), (4, .int (nI o))] → W p l e { frames := 2, cells := 0, slots := 0, locals := 42 } s m [.ref mo, .int v0].toArray below meth c H locs (0 + 0) (0 + 0) Q (F0 m 27 ls []) := by
            intro fuel
            induction fuel with
            | zero =>
              intro o x hm
              exact absurd hm (Nat.not_lt_zero _)
            | succ fuel ih27 =>
              intro o x hm ho hxe hx8 H locs hP hS ls hl
              refine lv_iload hx hb dX7_link_27 (lv_at hl 4 rfl) ?_
              refine lv_aload_n hx hb dX7_link_29 rfl (lv_at hl 0 rfl) ?_
              refine gf_Mod_36 E hP hG9 rfl dX7_link_30 ?_
              refine ah_icmp_ge (tgt := 67) hx hb (by omega) (by omega) dX7_link_33 (by decide) (fun hc33 => ?_) (fun hc33 => ?_)
              · skip
                refine lv_iinc (v := (nI (c0 + 1))) (lv' := [(3, .int (nI (c0 + 1))), (0, .ref mo), (1, .int (nI i)), (2, .int (nI x)), (4, .int (nI o))]) hx hb dX7_link_67 hl (k := 3) rfl (ah_inc _) (by decide) rfl (fun ls hl => ?_)
                refine lv_goto (tgt := 14) hx hb dX7_link_70 (by decide) ?_
                exact ih14 (c0 + 1) _ (by omega) (by omega) (by omega) (by rw [hxe, show o = n by omega]; exact (md_le_s hn40 hPn hc1 hc2).symm) (by omega) _ _ hP hS ls (lv_sub hl [1, 2, 3, 0] rfl)
              · skip
                refine lv_aload_n hx hb dX7_link_36 rfl (lv_at hl 0 rfl) ?_
                refine lv_iload_n hx hb dX7_link_37 rfl (lv_at hl 1 rfl) ?_
                refine lv_aload_n hx hb dX7_link_38 rfl (lv_at hl 0 rfl) ?_
                refine gf_Mod_17 E hP hG9 rfl dX7_link_39 ?_
                refine lv_iload_n hx hb dX7_link_42 rfl (lv_at hl 1 rfl) ?_
                refine ah_iald E hP hG4 (by omega) (by omega) dX7_link_43 ?_
                rw [hlf, hlw]
                refine lv_iload_n hx hb dX7_link_44 rfl (lv_at hl 3 rfl) ?_
                refine ah_isub hx hb (by omega) dX7_link_45 ?_
                refine lv_iload_n hx hb dX7_link_46 rfl (lv_at hl 3 rfl) ?_
                refine lv_iload hx hb dX7_link_47 (lv_at hl 4 rfl) ?_
                refine ah_calli (ah_runV E hP hS (As := [.int (nI i), .int (nI (w.length - c0)), .int (nI c0), .int (nI o)]) (rest := []) (b := mo) (m_begins l A D _ hG9 hG2 hG3 hG4 hG5 hG6 hG7 hG8 hL hPi hin (by omega) (i := o) (by omega)) lk_Mod_63 li_Mod_63 hG9 rfl ⟨rfl, rfl, (Nat.le_of_ble_eq_true rfl), (Nat.le_of_ble_eq_true rfl)⟩ rfl hl.1 rfl (Nat.le_of_ble_eq_true rfl) dX7_link_49 ⟨(Nat.le_of_ble_eq_true rfl), (Nat.le_of_ble_eq_true rfl)⟩) hS (fun r F10 H locs hq hP hS => ?_)
                obtain ⟨rfl, rfl⟩ := hq
                refine ah_ifb_eq (tgt := 59) hx hb dX7_link_52 (by decide) (fun hc52 => ?_) (fun hc52 => ?_)
                · skip
                  refine lv_iload_n hx hb dX7_link_59 rfl (lv_at hl 2 rfl) ?_
                  refine lv_istore_n (lv' := [(2, .int (nI x)), (0, .ref mo), (1, .int (nI i)), (3, .int (nI c0)), (4, .int (nI o))]) hx hb dX7_link_60 rfl hl (by decide) rfl (fun ls hl => ?_)
                  refine lv_iinc (v := (nI (o + 1))) (lv' := [(4, .int (nI (o + 1))), (2, .int (nI x)), (0, .ref mo), (1, .int (nI i)), (3, .int (nI c0))]) hx hb dX7_link_61 hl (k := 4) rfl (ah_inc _) (by decide) rfl (fun ls hl => ?_)
                  refine lv_goto (tgt := 27) hx hb dX7_link_64 (by decide) ?_
                  exact ih27 (o + 1) _ (by omega) (by omega) (md_if_f hxe hc52) hx8 _ _ hP hS ls (lv_sub hl [2, 3, 1, 4, 0] rfl)
                · skip
                  refine lv_iload_n hx hb dX7_link_55 rfl (lv_at hl 3 rfl) ?_
                  refine lv_goto (tgt := 60) hx hb dX7_link_56 (by decide) ?_
                  refine lv_istore_n (lv' := [(2, .int (nI c0)), (0, .ref mo), (1, .int (nI i)), (3, .int (nI c0)), (4, .int (nI o))]) hx hb dX7_link_60 rfl hl (by decide) rfl (fun ls hl => ?_)
                  refine lv_iinc (v := (nI (o + 1))) (lv' := [(4, .int (nI (o + 1))), (2, .int (nI c0)), (0, .ref mo), (1, .int (nI i)), (3, .int (nI c0))]) hx hb dX7_link_61 hl (k := 4) rfl (ah_inc _) (by decide) rfl (fun ls hl => ?_)
                  refine lv_goto (tgt := 27) hx hb dX7_link_64 (by decide) ?_
                  exact ih27 (o + 1) _ (by omega) (by omega) (md_if_t hc52) (by omega) _ _ hP hS ls (lv_sub hl [2, 3, 1, 4, 0] rfl)
          exact L27 (n + 1) 0 lo (by omega) (Nat.zero_le _) (by rw [ah_any]; exact hlo) hlo8 _ _ hP hS ls (lv_sub hl [1, 2, 3, 4, 0] rfl)
    exact L14 (w.length + 1) 1 0 (by omega) (by omega) (by omega) rfl (by omega) _ _ hP hS ls (lv_sub hl [2, 3, 1, 0] rfl)
  · skip
    have hnone := md_none hc5
    have hth : md_tn (ah_pi P v0).isSome = 1 := by rw [hc5]; rfl
    rw [hth] at hG9
    refine lv_iconst (v := (nI 0)) hx hb dX7_link_8 (by decide) ?_
    rw [hQ]
    exact ah_iret E hr hP hS (md_An_i (k := 1) (v := 0) (by simp only [sp_link, hnone]) ⟨dA, tA, lA, eA, nlA, neA, sA, _, _, ln, _, _, _, _, _, _, _, hG9, hG2, hG3, hG4, hG5, hG6, hG7, hG8, hne1, hne2, hne3, hne4, hL⟩ (fun h => absurd h (by decide))) (Nat.le_of_ble_eq_true rfl) (Nat.le_of_ble_eq_true rfl) dX7_link_9
