/-! the reference's replaced stream -/
theorem md_ad {a r w b : Nat} (h : a + r = b + w) : nI a + (nI r - nI w) = nI b := by
  rw [Int32.sub_eq_add_neg, ← Int32.add_assoc, nI_add, h, ← nI_add, Int32.add_assoc, ← Int32.sub_eq_add_neg, Int32.sub_self, Int32.add_zero]
theorem md_tx_len {P : ah_Pt} {S : List Nat} {L : ah_Ch} : (ah_tx P S L).length = (ah_tp P S L L.length).length + (S.length - ah_pe P L L.length) := by
  rw [ah_tx, List.length_append, List.length_drop, List.length_take, Nat.min_self]
theorem md_tp_len {P : ah_Pt} {S : List Nat} {L : ah_Ch} {t j p : Nat} {w r : List Nat} (h : L[t]? = some (j, p)) (hP : P j = some (w, r)) (hp : p ≤ S.length) : (ah_tp P S L (t + 1)).length = (ah_tp P S L t).length + (p - ah_pe P L t) + r.length := by
  rw [ah_tp_s h, List.length_append, List.length_append, List.length_drop, List.length_take, ah_r_s hP, Nat.min_eq_left hp]
theorem md_tx_pre {P : ah_Pt} {S : List Nat} {L : ah_Ch} : ∀ d t, t + d = L.length → ∃ rest, ah_tx P S L = ah_tp P S L t ++ rest
  | 0, t, h => ⟨(S.take S.length).drop (ah_pe P L L.length), by rw [show t = L.length by omega]; rfl⟩
  | d + 1, t, h => by
    obtain ⟨rest, hr⟩ := md_tx_pre (P := P) (S := S) (L := L) d (t + 1) (by omega)
    have e : L[t]? = some (L[t].1, L[t].2) := List.getElem?_eq_getElem (by omega)
    rw [ah_tp_s e, List.append_assoc, List.append_assoc] at hr
    exact ⟨_, hr⟩
theorem md_tx_cut {P : ah_Pt} {S : List Nat} {L : ah_Ch} {t j p : Nat} {w r : List Nat} (h : L[t]? = some (j, p)) (hP : P j = some (w, r)) : ∃ rest, ah_tx P S L = ah_tp P S L t ++ ((S.take p).drop (ah_pe P L t) ++ (r ++ rest)) := by
  have ht := (List.getElem?_eq_some_iff.mp h).1
  obtain ⟨rest, hr⟩ := md_tx_pre (P := P) (S := S) (L := L) (L.length - (t + 1)) (t + 1) (by omega)
  rw [ah_tp_s h, ah_r_s hP, List.append_assoc, List.append_assoc] at hr
  exact ⟨rest, hr⟩
theorem md_gd_r {u v : List Nat} {a : Nat} : (u ++ v).getD (u.length + a) 0 = v.getD a 0 := by
  simp [List.getD_eq_getElem?_getD, List.getElem?_append_right]
theorem md_gd_l {u v : List Nat} {a : Nat} (h : a < u.length) : (u ++ v).getD a 0 = u.getD a 0 := by
  simp [List.getD_eq_getElem?_getD, List.getElem?_append_left h]
theorem md_gd_td {S : List Nat} {b p a : Nat} (h : a < p - b) : ((S.take p).drop b).getD a 0 = S.getD (b + a) 0 := by
  simp [List.getD_eq_getElem?_getD, List.getElem?_drop, List.getElem?_take, show b + a < p by omega]
theorem md_tx_S1 {P : ah_Pt} {S : List Nat} {L : ah_Ch} {t l0 i0 : Nat} (hte : t = L.length) (hl0 : (ah_tp P S L t).length + l0 = i0) (h : l0 < S.length - ah_pe P L t) : (ah_tx P S L).getD i0 0 = S.getD (ah_pe P L t + l0) 0 := by
  subst hte
  rw [ah_tx, ← hl0, md_gd_r, md_gd_td h]
theorem md_tx_S2 {P : ah_Pt} {S : List Nat} {L : ah_Ch} {t l0 i0 j p : Nat} {w r : List Nat} (hL : L[t]? = some (j, p)) (hP : P j = some (w, r)) (hp : p ≤ S.length) (hl0 : (ah_tp P S L t).length + l0 = i0) (h : l0 < p - ah_pe P L t) : (ah_tx P S L).getD i0 0 = S.getD (ah_pe P L t + l0) 0 := by
  obtain ⟨rest, hr⟩ := md_tx_cut (S := S) hL hP
  rw [hr, ← hl0, md_gd_r, md_gd_l (by rw [List.length_drop, List.length_take]; omega), md_gd_td h]
theorem md_tx_R {P : ah_Pt} {S : List Nat} {L : ah_Ch} {t l0 i0 j p : Nat} {w r : List Nat} (hL : L[t]? = some (j, p)) (hP : P j = some (w, r)) (hp : p ≤ S.length) (hl0 : (ah_tp P S L t).length + l0 = i0) (h : p - ah_pe P L t ≤ l0) (h2 : l0 - (p - ah_pe P L t) < r.length) : (ah_tx P S L).getD i0 0 = r.getD (l0 - (p - ah_pe P L t)) 0 := by
  obtain ⟨rest, hr⟩ := md_tx_cut (S := S) hL hP
  have hl : ((S.take p).drop (ah_pe P L t)).length = p - ah_pe P L t := by rw [List.length_drop, List.length_take, Nat.min_eq_left hp]
  have e : l0 = ((S.take p).drop (ah_pe P L t)).length + (l0 - (p - ah_pe P L t)) := by omega
  rw [hr, ← hl0, md_gd_r]
  have e2 : ((S.take p).drop (ah_pe P L t) ++ (r ++ rest)).getD l0 0 = ((S.take p).drop (ah_pe P L t) ++ (r ++ rest)).getD (((S.take p).drop (ah_pe P L t)).length + (l0 - (p - ah_pe P L t))) 0 := congrArg (fun z => ((S.take p).drop (ah_pe P L t) ++ (r ++ rest)).getD z 0) e
  rw [e2, md_gd_r, md_gd_l h2]
theorem md_end {P : ah_Pt} {S : List Nat} (hP : ah_Pok P) {ru t : Nat} (ht : t ≤ (ah_chs P S ru).length) (h : S.length ≤ ah_pe P (ah_chs P S ru) t) : t = (ah_chs P S ru).length := by
  rcases Nat.lt_or_ge t (ah_chs P S ru).length with q | q
  · have e : (ah_chs P S ru)[t]? = some ((ah_chs P S ru)[t].1, (ah_chs P S ru)[t].2) := List.getElem?_eq_getElem q
    have h3 := ah_chs_chn hP ru t _ _ e
    have h4 := (ah_w_ok hP h3.2.2.2.1).2.2
    omega
  · omega
theorem md_nl_end {P : ah_Pt} {S : List Nat} (hP : ah_Pok P) {ru t l0 i0 : Nat} (ht : t ≤ (ah_chs P S ru).length) (h : S.length ≤ ah_pe P (ah_chs P S ru) t) (hl0 : (ah_tp P S (ah_chs P S ru) t).length + l0 = i0) (hi : i0 < (ah_tx P S (ah_chs P S ru)).length) : False := by
  have e := md_end hP ht h
  rw [md_tx_len, ← e] at hi
  omega
theorem md_nl_n {P : ah_Pt} {S : List Nat} {L : ah_Ch} {t l0 i0 : Nat} (hte : t = L.length) (hl0 : (ah_tp P S L t).length + l0 = i0) (hi : i0 < (ah_tx P S L).length) (h : S.length - ah_pe P L t ≤ l0) : False := by
  rw [md_tx_len, ← hte] at hi
  omega
theorem md_tx_le {P : ah_Pt} {S : List Nat} (hP : ah_Pok P) (ru : Nat) : (ah_tx P S (ah_chs P S ru)).length ≤ 8 * S.length := by
  have h := ah_chs_chn (S := S) hP ru
  have h1 := ah_tp_len hP h _ (Nat.le_refl _)
  have h2 := ah_pe_le h _ (Nat.le_refl _)
  rw [md_tx_len]
  omega
set_option maxHeartbeats 4000000 in
set_option maxRecDepth 100000 in
/-- chosenPattern -/
theorem m_chosenPattern (l : Launch) (A : Nat → Prop) (D : ah_G) (F : ah_F) {mo n : Nat} {P : ah_Pt} {dr S : List Nat} {td th : Int32} (hC : md_C D F mo P n dr S td th) {v0 v1 : Int32} : Met l yX7_chosenPattern (Cond.code yX7_chosenPattern cX7_chosenPattern 3 (some .int) :: ah_T) { frames := 5, cells := 0, slots := 0, locals := 123 } (va_Pc [.ref mo, .int v0, .int v1] (ah_B A D F)) (ah_Qi A D (fun (r : Int32) F1 => md_An D F1 mo (sp_chosenPattern P n dr S td v0 v1) r)) 0 0 A := by
  refine ah_met (own := "AhoarchModel") (by decide) rfl (Nat.le_of_ble_eq_true rfl) ?_
  intro p e s m below meth c ls E hr hini hl hP hS Q hQ
  have hx := E.1
  have hb := E.2.1
  have hl : lv_has ls 3 [(0, .ref mo), (1, .int v0), (2, .int v1)] := hl
  obtain ⟨dA, tA, lA, eA, nlA, neA, sA, ip, il, ln, df, tf, lf, ef, nlf, nef, sf, hmo, hdA, htA, hlA, heA, hnlA, hneA, hsA, hne1, hne2, hne3, hne4, hL⟩ := id hC
  obtain ⟨hn40, hPn, hdok, hSl, hS200, hPok, hdis, hp20, hln, hlP, hdd, hss⟩ := id hL
  have hdl := hdok.1
  refine lv_aload_n hx hb dX7_chosenPattern_0 rfl (lv_at hl 0 rfl) ?_
  refine lv_iload_n hx hb dX7_chosenPattern_1 rfl (lv_at hl 1 rfl) ?_
  refine lv_iload_n hx hb dX7_chosenPattern_2 rfl (lv_at hl 2 rfl) ?_
  refine ah_calli (ah_runV E hP hS (As := [.int v0, .int v1]) (rest := []) (b := mo) (m_isChosen l A D _ hmo hdA htA hlA heA hnlA hneA hsA hL (v0 := v0) (v1 := v1)) lk_Mod_111 li_Mod_111 hmo rfl ⟨rfl, rfl, (Nat.le_of_ble_eq_true rfl), (Nat.le_of_ble_eq_true rfl)⟩ rfl hl.1 rfl (Nat.le_of_ble_eq_true rfl) dX7_chosenPattern_3 ⟨(Nat.le_of_ble_eq_true rfl), (Nat.le_of_ble_eq_true rfl)⟩) hS (fun r F1 H locs hfd5 hP hS => ?_)
  obtain ⟨k9, ip5, il5, hm5, hcg5, hD5⟩ := hfd5
  have hG2 : F1 dA = some (ah_ai D 8 df) := (hcg5 dA (ah_nin1 (ah_ne hdA hmo rfl))).trans hdA
  have hG3 : F1 tA = some (ah_az D 40 tf) := (hcg5 tA (ah_nin1 (ah_ne htA hmo rfl))).trans htA
  have hG4 : F1 lA = some (ah_ai D 40 lf) := (hcg5 lA (ah_nin1 (ah_ne hlA hmo rfl))).trans hlA
  have hG5 : F1 eA = some (ah_ai D 320 ef) := (hcg5 eA (ah_nin1 (ah_ne heA hmo rfl))).trans heA
  have hG6 : F1 nlA = some (ah_ai D 40 nlf) := (hcg5 nlA (ah_nin1 (ah_ne hnlA hmo rfl))).trans hnlA
  have hG7 : F1 neA = some (ah_ai D 320 nef) := (hcg5 neA (ah_nin1 (ah_ne hneA hmo rfl))).trans hneA
  have hG8 : F1 sA = some (ah_ai D 200 sf) := (hcg5 sA (ah_nin1 (ah_ne hsA hmo rfl))).trans hsA
  by_cases hk0 : k9 = 0
  · skip
    rcases hD5 with ⟨h9, -⟩ | ⟨_, h9, -⟩ | ⟨ru, t0, j, p, -, hrl, hix, hLt, hjp1, hjp2, hro5⟩
    · exact absurd (h9.symm.trans hk0) (by decide)
    · exact absurd (h9.symm.trans hk0) (by decide)
    subst hro5
    rw [hjp1] at hm5
    rw [hjp2] at hm5
    rw [hk0] at hm5
    refine ah_ifb_eq (tgt := 16) hx hb dX7_chosenPattern_6 (by decide) (fun hc6 => ?_) (fun hc6 => ?_)
    · skip
      exact absurd hc6 (by decide)
    · skip
      refine lv_aload_n hx hb dX7_chosenPattern_9 rfl (lv_at hl 0 rfl) ?_
      refine gf_Mod_90 E hP hm5 rfl dX7_chosenPattern_10 ?_
      refine lv_goto (tgt := 17) hx hb dX7_chosenPattern_13 (by decide) ?_
      rw [hQ]
      exact ah_iret E hr hP hS (md_An_i (k := 0) (v := nI j) (by simp only [sp_chosenPattern, hrl, hix, hLt, Option.getD_some]) ⟨dA, tA, lA, eA, nlA, neA, sA, _, _, ln, _, _, _, _, _, _, _, hm5, hG2, hG3, hG4, hG5, hG6, hG7, hG8, hne1, hne2, hne3, hne4, hL⟩ (fun _ => rfl)) (Nat.le_of_ble_eq_true rfl) (Nat.le_of_ble_eq_true rfl) dX7_chosenPattern_17
  · skip
    obtain ⟨hro5, hno5⟩ : bI_ false = r ∧ sp_chosenPattern P n dr S td v0 v1 = (k9, 0, (P, n, dr, S, td)) := by
      rcases hD5 with ⟨h9, hrn, hr⟩ | ⟨ru, h9, hrl, hix, hr⟩ | ⟨ru, t0, j, p, h9, -⟩
      · subst h9; exact ⟨hr, by simp only [sp_chosenPattern, hrn]⟩
      · subst h9; exact ⟨hr, by simp only [sp_chosenPattern, hrl, hix]⟩
      · exact absurd h9 hk0
    subst hro5
    refine ah_ifb_eq (tgt := 16) hx hb dX7_chosenPattern_6 (by decide) (fun hc6 => ?_) (fun hc6 => ?_)
    · skip
      refine lv_iconst (v := (nI 0)) hx hb dX7_chosenPattern_16 (by decide) ?_
      rw [hQ]
      exact ah_iret E hr hP hS (md_An_i (k := k9) (v := 0) (hno5) ⟨dA, tA, lA, eA, nlA, neA, sA, _, _, ln, _, _, _, _, _, _, _, hm5, hG2, hG3, hG4, hG5, hG6, hG7, hG8, hne1, hne2, hne3, hne4, hL⟩ (fun h => absurd h hk0)) (Nat.le_of_ble_eq_true rfl) (Nat.le_of_ble_eq_true rfl) dX7_chosenPattern_17
    · skip
      exact absurd hc6 (by decide)

set_option maxHeartbeats 4000000 in
set_option maxRecDepth 100000 in
/-- chosenPlace -/
theorem m_chosenPlace (l : Launch) (A : Nat → Prop) (D : ah_G) (F : ah_F) {mo n : Nat} {P : ah_Pt} {dr S : List Nat} {td th : Int32} (hC : md_C D F mo P n dr S td th) {v0 v1 : Int32} : Met l yX7_chosenPlace (Cond.code yX7_chosenPlace cX7_chosenPlace 3 (some .int) :: ah_T) { frames := 5, cells := 0, slots := 0, locals := 123 } (va_Pc [.ref mo, .int v0, .int v1] (ah_B A D F)) (ah_Qi A D (fun (r : Int32) F1 => md_An D F1 mo (sp_chosenPlace P n dr S td v0 v1) r)) 0 0 A := by
  refine ah_met (own := "AhoarchModel") (by decide) rfl (Nat.le_of_ble_eq_true rfl) ?_
  intro p e s m below meth c ls E hr hini hl hP hS Q hQ
  have hx := E.1
  have hb := E.2.1
  have hl : lv_has ls 3 [(0, .ref mo), (1, .int v0), (2, .int v1)] := hl
  obtain ⟨dA, tA, lA, eA, nlA, neA, sA, ip, il, ln, df, tf, lf, ef, nlf, nef, sf, hmo, hdA, htA, hlA, heA, hnlA, hneA, hsA, hne1, hne2, hne3, hne4, hL⟩ := id hC
  obtain ⟨hn40, hPn, hdok, hSl, hS200, hPok, hdis, hp20, hln, hlP, hdd, hss⟩ := id hL
  have hdl := hdok.1
  refine lv_aload_n hx hb dX7_chosenPlace_0 rfl (lv_at hl 0 rfl) ?_
  refine lv_iload_n hx hb dX7_chosenPlace_1 rfl (lv_at hl 1 rfl) ?_
  refine lv_iload_n hx hb dX7_chosenPlace_2 rfl (lv_at hl 2 rfl) ?_
  refine ah_calli (ah_runV E hP hS (As := [.int v0, .int v1]) (rest := []) (b := mo) (m_isChosen l A D _ hmo hdA htA hlA heA hnlA hneA hsA hL (v0 := v0) (v1 := v1)) lk_Mod_111 li_Mod_111 hmo rfl ⟨rfl, rfl, (Nat.le_of_ble_eq_true rfl), (Nat.le_of_ble_eq_true rfl)⟩ rfl hl.1 rfl (Nat.le_of_ble_eq_true rfl) dX7_chosenPlace_3 ⟨(Nat.le_of_ble_eq_true rfl), (Nat.le_of_ble_eq_true rfl)⟩) hS (fun r F1 H locs hfd5 hP hS => ?_)
  obtain ⟨k9, ip5, il5, hm5, hcg5, hD5⟩ := hfd5
  have hG2 : F1 dA = some (ah_ai D 8 df) := (hcg5 dA (ah_nin1 (ah_ne hdA hmo rfl))).trans hdA
  have hG3 : F1 tA = some (ah_az D 40 tf) := (hcg5 tA (ah_nin1 (ah_ne htA hmo rfl))).trans htA
  have hG4 : F1 lA = some (ah_ai D 40 lf) := (hcg5 lA (ah_nin1 (ah_ne hlA hmo rfl))).trans hlA
  have hG5 : F1 eA = some (ah_ai D 320 ef) := (hcg5 eA (ah_nin1 (ah_ne heA hmo rfl))).trans heA
  have hG6 : F1 nlA = some (ah_ai D 40 nlf) := (hcg5 nlA (ah_nin1 (ah_ne hnlA hmo rfl))).trans hnlA
  have hG7 : F1 neA = some (ah_ai D 320 nef) := (hcg5 neA (ah_nin1 (ah_ne hneA hmo rfl))).trans hneA
  have hG8 : F1 sA = some (ah_ai D 200 sf) := (hcg5 sA (ah_nin1 (ah_ne hsA hmo rfl))).trans hsA
  by_cases hk0 : k9 = 0
  · skip
    rcases hD5 with ⟨h9, -⟩ | ⟨_, h9, -⟩ | ⟨ru, t0, j, p, -, hrl, hix, hLt, hjp1, hjp2, hro5⟩
    · exact absurd (h9.symm.trans hk0) (by decide)
    · exact absurd (h9.symm.trans hk0) (by decide)
    subst hro5
    rw [hjp1] at hm5
    rw [hjp2] at hm5
    rw [hk0] at hm5
    refine ah_ifb_eq (tgt := 16) hx hb dX7_chosenPlace_6 (by decide) (fun hc6 => ?_) (fun hc6 => ?_)
    · skip
      exact absurd hc6 (by decide)
    · skip
      refine lv_aload_n hx hb dX7_chosenPlace_9 rfl (lv_at hl 0 rfl) ?_
      refine gf_Mod_93 E hP hm5 rfl dX7_chosenPlace_10 ?_
      refine lv_goto (tgt := 17) hx hb dX7_chosenPlace_13 (by decide) ?_
      rw [hQ]
      exact ah_iret E hr hP hS (md_An_i (k := 0) (v := nI p) (by simp only [sp_chosenPlace, hrl, hix, hLt, Option.getD_some]) ⟨dA, tA, lA, eA, nlA, neA, sA, _, _, ln, _, _, _, _, _, _, _, hm5, hG2, hG3, hG4, hG5, hG6, hG7, hG8, hne1, hne2, hne3, hne4, hL⟩ (fun _ => rfl)) (Nat.le_of_ble_eq_true rfl) (Nat.le_of_ble_eq_true rfl) dX7_chosenPlace_17
  · skip
    obtain ⟨hro5, hno5⟩ : bI_ false = r ∧ sp_chosenPlace P n dr S td v0 v1 = (k9, 0, (P, n, dr, S, td)) := by
      rcases hD5 with ⟨h9, hrn, hr⟩ | ⟨ru, h9, hrl, hix, hr⟩ | ⟨ru, t0, j, p, h9, -⟩
      · subst h9; exact ⟨hr, by simp only [sp_chosenPlace, hrn]⟩
      · subst h9; exact ⟨hr, by simp only [sp_chosenPlace, hrl, hix]⟩
      · exact absurd h9 hk0
    subst hro5
    refine ah_ifb_eq (tgt := 16) hx hb dX7_chosenPlace_6 (by decide) (fun hc6 => ?_) (fun hc6 => ?_)
    · skip
      refine lv_iconst (v := (nI 0)) hx hb dX7_chosenPlace_16 (by decide) ?_
      rw [hQ]
      exact ah_iret E hr hP hS (md_An_i (k := k9) (v := 0) (hno5) ⟨dA, tA, lA, eA, nlA, neA, sA, _, _, ln, _, _, _, _, _, _, _, hm5, hG2, hG3, hG4, hG5, hG6, hG7, hG8, hne1, hne2, hne3, hne4, hL⟩ (fun h => absurd h hk0)) (Nat.le_of_ble_eq_true rfl) (Nat.le_of_ble_eq_true rfl) dX7_chosenPlace_17
    · skip
      exact absurd hc6 (by decide)

set_option maxHeartbeats 4000000 in
set_option maxRecDepth 100000 in
/-- newLength -/
theorem m_newLength (l : Launch) (A : Nat → Prop) (D : ah_G) (F : ah_F) {mo dA tA lA eA nlA neA sA n : Nat} {P : ah_Pt} {dr S : List Nat} {td th ip il : Int32} {ln : Nat → Nat} {df tf lf ef nlf nef sf : Nat → Int32} (hmo : F mo = some (.inr (7, [.int th, .ref dA, .int (nI dr.length), .int (nI n), .ref tA, .ref lA, .ref eA, .ref nlA, .ref neA, .ref sA, .int (nI S.length), .int td, .int ip, .int il]))) (hdA : F dA = some (ah_ai D 8 df)) (htA : F tA = some (ah_az D 40 tf)) (hlA : F lA = some (ah_ai D 40 lf)) (heA : F eA = some (ah_ai D 320 ef)) (hnlA : F nlA = some (ah_ai D 40 nlf)) (hneA : F neA = some (ah_ai D 320 nef)) (hsA : F sA = some (ah_ai D 200 sf)) (hL : md_L P n dr S ln df tf lf ef nlf nef sf) {ru : Nat} (hru : ru ≤ 2) : Met l yX7_newLength (Cond.code yX7_newLength cX7_newLength 4 (some .int) :: ah_T) { frames := 3, cells := 0, slots := 0, locals := 74 } (va_Pc [.ref mo, .int (nI ru)] (ah_B A D F)) (ah_Qi A D (fun (r : Int32) F1 => ∃ ip1 il1 : Int32, F1 mo = some (.inr (7, [.int th, .ref dA, .int (nI dr.length), .int (nI n), .ref tA, .ref lA, .ref eA, .ref nlA, .ref neA, .ref sA, .int (nI S.length), .int td, .int ip1, .int il1])) ∧ ah_ch F F1 [mo] ∧ nI (ah_tx P S (ah_chs P S ru)).length = r)) 0 0 A := by
  refine ah_met (own := "AhoarchModel") (by decide) rfl (Nat.le_of_ble_eq_true rfl) ?_
  intro p e s m below meth c ls E hr hini hl hP hS Q hQ
  have hx := E.1
  have hb := E.2.1
  have hl : lv_has ls 4 [(0, .ref mo), (1, .int (nI ru))] := hl
  obtain ⟨hn40, hPn, hdok, hSl, hS200, hPok, hdis, hp20, hln, hlP, hdd, hss⟩ := id hL
  have hdl := hdok.1
  have hch0 : ah_ch F F [mo] := ah_ch_r _ _
  refine lv_aload_n hx hb dX7_newLength_0 rfl (lv_at hl 0 rfl) ?_
  refine gf_Mod_67 E hP hmo rfl dX7_newLength_1 ?_
  refine lv_istore_n (lv' := [(2, .int (nI S.length)), (0, .ref mo), (1, .int (nI ru))]) hx hb dX7_newLength_4 rfl hl (by decide) rfl (fun ls hl => ?_)
  refine lv_iconst (v := (nI 0)) hx hb dX7_newLength_5 (by decide) ?_
  refine lv_istore_n (lv' := [(3, .int (nI 0)), (2, .int (nI S.length)), (0, .ref mo), (1, .int (nI ru))]) hx hb dX7_newLength_6 rfl hl (by decide) rfl (fun ls hl => ?_)
  have L7 : ∀ (fuel : Nat), ∀ (Fv : ah_F) (t a : Nat) (ip1 il1 : Int32), (ah_chs P S ru).length - t < fuel → t ≤ (ah_chs P S ru).length → a = (ah_tp P S (ah_chs P S ru) t).length + (S.length - ah_pe P (ah_chs P S ru) t) → ah_ch F Fv [mo] → Fv mo = some (.inr (7, [.int th, .ref dA, .int (nI dr.length), .int (nI n), .ref tA, .ref lA, .ref eA, .ref nlA, .ref neA, .ref sA, .int (nI S.length), .int td, .int ip1, .int il1])) → Fv dA = some (ah_ai D 8 df) → Fv tA = some (ah_az D 40 tf) → Fv lA = some (ah_ai D 40 lf) → Fv eA = some (ah_ai D 320 ef) → Fv nlA = some (ah_ai D 40 nlf) → Fv neA = some (ah_ai D 320 nef) → Fv sA = some (ah_ai D 200 sf) → ∀ (H : Heap) (locs : List Loc), ah_K A D Fv H → va_S A s.heap H locs → ∀ (ls : Array Slot), lv_has ls 4 [(0, .ref mo), (1, .int (nI ru)), (2, .int (nI a)), (3, .int (nI (ah_pe P (ah_chs P S ru) t)))] → W p l e { frames := 3, cells := 0, slots := 0, locals := 74 } s m [.ref mo, .int (nI ru)].toArray below meth c H locs 0 0 Q (F0 m 7 ls []) := by
    intro fuel
    induction fuel with
    | zero =>
      intro Fv t a ip1 il1 hm
      exact absurd hm (Nat.not_lt_zero _)
    | succ fuel ih7 =>
      intro Fv t a ip1 il1 hm ht ha hch1 hk1 hk2 hk3 hk4 hk5 hk6 hk7 hk8 H locs hP hS ls hl
      refine lv_aload_n hx hb dX7_newLength_7 rfl (lv_at hl 0 rfl) ?_
      refine lv_iload_n hx hb dX7_newLength_8 rfl (lv_at hl 1 rfl) ?_
      refine lv_iload_n hx hb dX7_newLength_9 rfl (lv_at hl 3 rfl) ?_
      refine ah_calli (ah_runV E hP hS (As := [.int (nI ru), .int (nI (ah_pe P (ah_chs P S ru) t))]) (rest := []) (b := mo) (m_finds l A D _ hk1 hk2 hk3 hk4 hk5 hk6 hk7 hk8 hL hru (md_pe_le hPok ht)) lk_Mod_99 li_Mod_99 hk1 rfl ⟨rfl, rfl, (Nat.le_of_ble_eq_true rfl), (Nat.le_of_ble_eq_true rfl)⟩ rfl hl.1 rfl (Nat.le_of_ble_eq_true rfl) dX7_newLength_10 ⟨(Nat.le_of_ble_eq_true rfl), (Nat.le_of_ble_eq_true rfl)⟩) hS (fun r F9 H locs hfd3 hP hS => ?_)
      obtain ⟨ip3, il3, hm3, hcg3, hro3, hjo3⟩ := hfd3
      subst hro3
      have hG10 : F9 dA = some (ah_ai D 8 df) := (hcg3 dA (ah_nin1 (ah_ne hk2 hk1 rfl))).trans hk2
      have hG11 : F9 tA = some (ah_az D 40 tf) := (hcg3 tA (ah_nin1 (ah_ne hk3 hk1 rfl))).trans hk3
      have hG12 : F9 lA = some (ah_ai D 40 lf) := (hcg3 lA (ah_nin1 (ah_ne hk4 hk1 rfl))).trans hk4
      have hG13 : F9 eA = some (ah_ai D 320 ef) := (hcg3 eA (ah_nin1 (ah_ne hk5 hk1 rfl))).trans hk5
      have hG14 : F9 nlA = some (ah_ai D 40 nlf) := (hcg3 nlA (ah_nin1 (ah_ne hk6 hk1 rfl))).trans hk6
      have hG15 : F9 neA = some (ah_ai D 320 nef) := (hcg3 neA (ah_nin1 (ah_ne hk7 hk1 rfl))).trans hk7
      have hG16 : F9 sA = some (ah_ai D 200 sf) := (hcg3 sA (ah_nin1 (ah_ne hk8 hk1 rfl))).trans hk8
      have hC17 : ah_ch F F9 [mo] := ah_ch_t hch1 hcg3 (by intro a ha; simp only [List.mem_cons, List.not_mem_nil, or_false] at ha ⊢; omega)
      refine ah_ifb_eq (tgt := 46) hx hb dX7_newLength_13 (by decide) (fun hc13 => ?_) (fun hc13 => ?_)
      · skip
        have hte := md_nxt_n hPok ht hc13
        refine lv_iload_n hx hb dX7_newLength_46 rfl (lv_at hl 2 rfl) ?_
        rw [hQ]
        exact ah_iret E hr hP hS ⟨_, _, hm3, hC17, by rw [ha, md_tx_len, ← hte]⟩ (Nat.le_of_ble_eq_true rfl) (Nat.le_of_ble_eq_true rfl) dX7_newLength_47
      · skip
        obtain ⟨j, p, w, r0, hjp1, hjp2, hLt, htl, hPj, hpp, hpw, hj40, hwp, hokw, hokr, hpe⟩ := md_nxt_s hPok ht hc13 hjo3
        rw [hjp1] at hm3
        rw [hjp2] at hm3
        obtain ⟨hlw, hew, hnl, hnew⟩ := hlP j w r0 hPj
        have hjn := md_lt (i := j) hPn (by rw [hPj]; rfl)
        obtain ⟨hl8, hlf, htf⟩ := hln j hjn
        have htl9 := md_tp_len (S := S) hLt hPj (by omega)
        obtain ⟨b2, hb2⟩ : ∃ b2 : Nat, b2 = (ah_tp P S (ah_chs P S ru) (t + 1)).length + (S.length - ah_pe P (ah_chs P S ru) (t + 1)) := ⟨_, rfl⟩
        have hadd : nI a + (nI r0.length - nI w.length) = nI b2 := md_ad (by omega)
        refine lv_iload_n hx hb dX7_newLength_16 rfl (lv_at hl 2 rfl) ?_
        refine lv_aload_n hx hb dX7_newLength_17 rfl (lv_at hl 0 rfl) ?_
        refine gf_Mod_23 E hP hm3 rfl dX7_newLength_18 ?_
        refine lv_aload_n hx hb dX7_newLength_21 rfl (lv_at hl 0 rfl) ?_
        refine gf_Mod_90 E hP hm3 rfl dX7_newLength_22 ?_
        refine ah_iald E hP hG14 (by omega) (by omega) dX7_newLength_25 ?_
        rw [hnl]
        refine lv_aload_n hx hb dX7_newLength_26 rfl (lv_at hl 0 rfl) ?_
        refine gf_Mod_17 E hP hm3 rfl dX7_newLength_27 ?_
        refine lv_aload_n hx hb dX7_newLength_30 rfl (lv_at hl 0 rfl) ?_
        refine gf_Mod_90 E hP hm3 rfl dX7_newLength_31 ?_
        refine ah_iald E hP hG12 (by omega) (by omega) dX7_newLength_34 ?_
        rw [hlf, hlw]
        refine lv_isub hx hb dX7_newLength_35 ?_
        refine lv_iadd hx hb dX7_newLength_36 ?_
        rw [hadd]
        refine lv_istore_n (lv' := [(2, .int (nI b2)), (0, .ref mo), (1, .int (nI ru)), (3, .int (nI (ah_pe P (ah_chs P S ru) t)))]) hx hb dX7_newLength_37 rfl hl (by decide) rfl (fun ls hl => ?_)
        refine lv_aload_n hx hb dX7_newLength_38 rfl (lv_at hl 1 rfl) ?_
        refine ah_calli (ah_runV E hP hS (As := []) (rest := []) (b := mo) (m_itsEnd l A D _ hm3 hG10 hG11 hG12 hG13 hG14 hG15 hG16 hL hPj (by omega)) lk_Mod_102 li_Mod_102 hm3 rfl ⟨rfl, rfl, (Nat.le_of_ble_eq_true rfl), (Nat.le_of_ble_eq_true rfl)⟩ rfl hl.1 rfl (Nat.le_of_ble_eq_true rfl) dX7_newLength_39 ⟨(Nat.le_of_ble_eq_true rfl), (Nat.le_of_ble_eq_true rfl)⟩) hS (fun r F18 H locs hq hP hS => ?_)
        obtain ⟨rfl, rfl⟩ := hq
        rw [← hpe]
        refine lv_istore_n (lv' := [(3, .int (nI (ah_pe P (ah_chs P S ru) (t + 1)))), (2, .int (nI b2)), (0, .ref mo), (1, .int (nI ru))]) hx hb dX7_newLength_42 rfl hl (by decide) rfl (fun ls hl => ?_)
        refine lv_goto (tgt := 7) hx hb dX7_newLength_43 (by decide) ?_
        exact ih7 _ (t + 1) b2 _ _ (by omega) (by omega) hb2 hC17 hm3 hG10 hG11 hG12 hG13 hG14 hG15 hG16 _ _ hP hS ls (lv_sub hl [2, 3, 1, 0] rfl)
  exact L7 ((ah_chs P S ru).length + 1) _ 0 S.length _ _ (by omega) (Nat.zero_le _) (Nat.zero_add _).symm hch0 hmo hdA htA hlA heA hnlA hneA hsA _ _ hP hS ls (lv_sub hl [2, 3, 1, 0] rfl)

set_option maxHeartbeats 4000000 in
set_option maxRecDepth 100000 in
/-- replacedLength -/
theorem m_replacedLength (l : Launch) (A : Nat → Prop) (D : ah_G) (F : ah_F) {mo n : Nat} {P : ah_Pt} {dr S : List Nat} {td th : Int32} (hC : md_C D F mo P n dr S td th) {v0 : Int32} : Met l yX7_replacedLength (Cond.code yX7_replacedLength cX7_replacedLength 2 (some .int) :: ah_T) { frames := 4, cells := 0, slots := 0, locals := 97 } (va_Pc [.ref mo, .int v0] (ah_B A D F)) (ah_Qi A D (fun (r : Int32) F1 => md_An D F1 mo (sp_replacedLength P n dr S td v0) r)) 0 0 A := by
  refine ah_met (own := "AhoarchModel") (by decide) rfl (Nat.le_of_ble_eq_true rfl) ?_
  intro p e s m below meth c ls E hr hini hl hP hS Q hQ
  have hx := E.1
  have hb := E.2.1
  have hl : lv_has ls 2 [(0, .ref mo), (1, .int v0)] := hl
  obtain ⟨dA, tA, lA, eA, nlA, neA, sA, ip, il, ln, df, tf, lf, ef, nlf, nef, sf, hmo, hdA, htA, hlA, heA, hnlA, hneA, hsA, hne1, hne2, hne3, hne4, hL⟩ := id hC
  obtain ⟨hn40, hPn, hdok, hSl, hS200, hPok, hdis, hp20, hln, hlP, hdd, hss⟩ := id hL
  have hdl := hdok.1
  refine lv_aload_n hx hb dX7_replacedLength_0 rfl (lv_at hl 0 rfl) ?_
  refine lv_aload_n hx hb dX7_replacedLength_1 rfl (lv_at hl 0 rfl) ?_
  refine lv_iload_n hx hb dX7_replacedLength_2 rfl (lv_at hl 1 rfl) ?_
  refine ah_calli (ah_runV E hP hS (As := [.int v0]) (rest := [.ref mo]) (b := mo) (m_isRule l A D _ hmo (v0 := v0)) lk_Mod_108 li_Mod_108 hmo rfl ⟨rfl, rfl, (Nat.le_of_ble_eq_true rfl), (Nat.le_of_ble_eq_true rfl)⟩ rfl hl.1 rfl (Nat.le_of_ble_eq_true rfl) dX7_replacedLength_3 ⟨(Nat.le_of_ble_eq_true rfl), (Nat.le_of_ble_eq_true rfl)⟩) hS (fun r F1 H locs hq hP hS => ?_)
  obtain ⟨rfl, rfl⟩ := hq
  refine ah_ifb_eq (tgt := 13) hx hb dX7_replacedLength_6 (by decide) (fun hc6 => ?_) (fun hc6 => ?_)
  · skip
    have hnone := md_none hc6
    refine lv_iconst (v := (nI 1)) hx hb dX7_replacedLength_13 (by decide) ?_
    refine ah_calli (ah_runV E hP hS (As := [.int (nI 1)]) (rest := []) (b := mo) (m_holds l A D _ hmo hdA htA hlA heA hnlA hneA hsA hL (k := 1) (by omega)) lk_Mod_46 li_Mod_46 hmo rfl ⟨rfl, rfl, (Nat.le_of_ble_eq_true rfl), (Nat.le_of_ble_eq_true rfl)⟩ rfl hl.1 rfl (Nat.le_of_ble_eq_true rfl) dX7_replacedLength_14 ⟨(Nat.le_of_ble_eq_true rfl), (Nat.le_of_ble_eq_true rfl)⟩) hS (fun r F2 H locs hho14 hP hS => ?_)
    obtain ⟨eho14, hro⟩ := hho14
    have hG3 : F2 dA = some (ah_ai D 8 df) := by rw [eho14]; exact ah_keep hmo hdA rfl
    have hG4 : F2 tA = some (ah_az D 40 tf) := by rw [eho14]; exact ah_keep hmo htA rfl
    have hG5 : F2 lA = some (ah_ai D 40 lf) := by rw [eho14]; exact ah_keep hmo hlA rfl
    have hG6 : F2 eA = some (ah_ai D 320 ef) := by rw [eho14]; exact ah_keep hmo heA rfl
    have hG7 : F2 nlA = some (ah_ai D 40 nlf) := by rw [eho14]; exact ah_keep hmo hnlA rfl
    have hG8 : F2 neA = some (ah_ai D 320 nef) := by rw [eho14]; exact ah_keep hmo hneA rfl
    have hG9 : F2 sA = some (ah_ai D 200 sf) := by rw [eho14]; exact ah_keep hmo hsA rfl
    have hG10 : F2 mo = some (.inr (7, [.int (nI 1), .ref dA, .int (nI dr.length), .int (nI n), .ref tA, .ref lA, .ref eA, .ref nlA, .ref neA, .ref sA, .int (nI S.length), .int td, .int ip, .int il])) := by rw [eho14]; exact ah_up_s _ _ _
    subst hro
    refine ah_ifb_eq (tgt := 28) hx hb dX7_replacedLength_17 (by decide) (fun hc17 => ?_) (fun hc17 => ?_)
    · skip
      refine lv_iconst (v := (nI 0)) hx hb dX7_replacedLength_28 (by decide) ?_
      rw [hQ]
      exact ah_iret E hr hP hS (md_An_i (k := 1) (v := 0) (by simp only [sp_replacedLength, hnone]) ⟨dA, tA, lA, eA, nlA, neA, sA, _, _, ln, _, _, _, _, _, _, _, hG10, hG3, hG4, hG5, hG6, hG7, hG8, hG9, hne1, hne2, hne3, hne4, hL⟩ (fun h => absurd h (by decide))) (Nat.le_of_ble_eq_true rfl) (Nat.le_of_ble_eq_true rfl) dX7_replacedLength_29
    · skip
      exact absurd hc17 (by decide)
  · skip
    obtain ⟨ru, hrl⟩ := Option.isSome_iff_exists.mp hc6
    obtain ⟨hru, hrv⟩ := md_rul hrl
    rw [hrv] at hl
    refine lv_iconst (v := (nI 0)) hx hb dX7_replacedLength_9 (by decide) ?_
    refine lv_goto (tgt := 14) hx hb dX7_replacedLength_10 (by decide) ?_
    refine ah_calli (ah_runV E hP hS (As := [.int (nI 0)]) (rest := []) (b := mo) (m_holds l A D _ hmo hdA htA hlA heA hnlA hneA hsA hL (k := 0) (by omega)) lk_Mod_46 li_Mod_46 hmo rfl ⟨rfl, rfl, (Nat.le_of_ble_eq_true rfl), (Nat.le_of_ble_eq_true rfl)⟩ rfl hl.1 rfl (Nat.le_of_ble_eq_true rfl) dX7_replacedLength_14 ⟨(Nat.le_of_ble_eq_true rfl), (Nat.le_of_ble_eq_true rfl)⟩) hS (fun r F11 H locs hho14 hP hS => ?_)
    obtain ⟨eho14, hro⟩ := hho14
    have hG12 : F11 dA = some (ah_ai D 8 df) := by rw [eho14]; exact ah_keep hmo hdA rfl
    have hG13 : F11 tA = some (ah_az D 40 tf) := by rw [eho14]; exact ah_keep hmo htA rfl
    have hG14 : F11 lA = some (ah_ai D 40 lf) := by rw [eho14]; exact ah_keep hmo hlA rfl
    have hG15 : F11 eA = some (ah_ai D 320 ef) := by rw [eho14]; exact ah_keep hmo heA rfl
    have hG16 : F11 nlA = some (ah_ai D 40 nlf) := by rw [eho14]; exact ah_keep hmo hnlA rfl
    have hG17 : F11 neA = some (ah_ai D 320 nef) := by rw [eho14]; exact ah_keep hmo hneA rfl
    have hG18 : F11 sA = some (ah_ai D 200 sf) := by rw [eho14]; exact ah_keep hmo hsA rfl
    have hG19 : F11 mo = some (.inr (7, [.int (nI 0), .ref dA, .int (nI dr.length), .int (nI n), .ref tA, .ref lA, .ref eA, .ref nlA, .ref neA, .ref sA, .int (nI S.length), .int td, .int ip, .int il])) := by rw [eho14]; exact ah_up_s _ _ _
    subst hro
    refine ah_ifb_eq (tgt := 28) hx hb dX7_replacedLength_17 (by decide) (fun hc17 => ?_) (fun hc17 => ?_)
    · skip
      exact absurd hc17 (by decide)
    · skip
      refine lv_aload_n hx hb dX7_replacedLength_20 rfl (lv_at hl 0 rfl) ?_
      refine lv_iload_n hx hb dX7_replacedLength_21 rfl (lv_at hl 1 rfl) ?_
      refine ah_calli (ah_runV E hP hS (As := [.int (nI ru)]) (rest := []) (b := mo) (m_newLength l A D _ hG19 hG12 hG13 hG14 hG15 hG16 hG17 hG18 hL (ru := ru) hru) lk_Mod_114 li_Mod_114 hG19 rfl ⟨rfl, rfl, (Nat.le_of_ble_eq_true rfl), (Nat.le_of_ble_eq_true rfl)⟩ rfl hl.1 rfl (Nat.le_of_ble_eq_true rfl) dX7_replacedLength_22 ⟨(Nat.le_of_ble_eq_true rfl), (Nat.le_of_ble_eq_true rfl)⟩) hS (fun r F20 H locs hfd4 hP hS => ?_)
      obtain ⟨ip4, il4, hm4, hcg4, hro4⟩ := hfd4
      subst hro4
      have hG21 : F20 dA = some (ah_ai D 8 df) := (hcg4 dA (ah_nin1 (ah_ne hG12 hG19 rfl))).trans hG12
      have hG22 : F20 tA = some (ah_az D 40 tf) := (hcg4 tA (ah_nin1 (ah_ne hG13 hG19 rfl))).trans hG13
      have hG23 : F20 lA = some (ah_ai D 40 lf) := (hcg4 lA (ah_nin1 (ah_ne hG14 hG19 rfl))).trans hG14
      have hG24 : F20 eA = some (ah_ai D 320 ef) := (hcg4 eA (ah_nin1 (ah_ne hG15 hG19 rfl))).trans hG15
      have hG25 : F20 nlA = some (ah_ai D 40 nlf) := (hcg4 nlA (ah_nin1 (ah_ne hG16 hG19 rfl))).trans hG16
      have hG26 : F20 neA = some (ah_ai D 320 nef) := (hcg4 neA (ah_nin1 (ah_ne hG17 hG19 rfl))).trans hG17
      have hG27 : F20 sA = some (ah_ai D 200 sf) := (hcg4 sA (ah_nin1 (ah_ne hG18 hG19 rfl))).trans hG18
      refine lv_goto (tgt := 29) hx hb dX7_replacedLength_25 (by decide) ?_
      rw [hQ]
      exact ah_iret E hr hP hS (md_An_i (k := 0) (v := nI (ah_tx P S (ah_chs P S ru)).length) (by simp only [sp_replacedLength, hrl]) ⟨dA, tA, lA, eA, nlA, neA, sA, _, _, ln, _, _, _, _, _, _, _, hm4, hG21, hG22, hG23, hG24, hG25, hG26, hG27, hne1, hne2, hne3, hne4, hL⟩ (fun _ => rfl)) (Nat.le_of_ble_eq_true rfl) (Nat.le_of_ble_eq_true rfl) dX7_replacedLength_29

set_option maxHeartbeats 4000000 in
set_option maxRecDepth 100000 in
/-- newLetter -/
theorem m_newLetter (l : Launch) (A : Nat → Prop) (D : ah_G) (F : ah_F) {mo dA tA lA eA nlA neA sA n : Nat} {P : ah_Pt} {dr S : List Nat} {td th ip il : Int32} {ln : Nat → Nat} {df tf lf ef nlf nef sf : Nat → Int32} (hmo : F mo = some (.inr (7, [.int th, .ref dA, .int (nI dr.length), .int (nI n), .ref tA, .ref lA, .ref eA, .ref nlA, .ref neA, .ref sA, .int (nI S.length), .int td, .int ip, .int il]))) (hdA : F dA = some (ah_ai D 8 df)) (htA : F tA = some (ah_az D 40 tf)) (hlA : F lA = some (ah_ai D 40 lf)) (heA : F eA = some (ah_ai D 320 ef)) (hnlA : F nlA = some (ah_ai D 40 nlf)) (hneA : F neA = some (ah_ai D 320 nef)) (hsA : F sA = some (ah_ai D 200 sf)) (hL : md_L P n dr S ln df tf lf ef nlf nef sf) {ru i0 : Nat} (hru : ru ≤ 2) (hi0 : i0 < (ah_tx P S (ah_chs P S ru)).length) : Met l yX7_newLetter (Cond.code yX7_newLetter cX7_newLetter 7 (some .int) :: ah_T) { frames := 3, cells := 0, slots := 0, locals := 74 } (va_Pc [.ref mo, .int (nI ru), .int (nI i0)] (ah_B A D F)) (ah_Qi A D (fun (r : Int32) F1 => ∃ ip1 il1 : Int32, F1 mo = some (.inr (7, [.int th, .ref dA, .int (nI dr.length), .int (nI n), .ref tA, .ref lA, .ref eA, .ref nlA, .ref neA, .ref sA, .int (nI S.length), .int td, .int ip1, .int il1])) ∧ ah_ch F F1 [mo] ∧ nI (96 + (ah_tx P S (ah_chs P S ru)).getD i0 0) = r)) 0 0 A := by
  refine ah_met (own := "AhoarchModel") (by decide) rfl (Nat.le_of_ble_eq_true rfl) ?_
  intro p e s m below meth c ls E hr hini hl hP hS Q hQ
  have hx := E.1
  have hb := E.2.1
  have hl : lv_has ls 7 [(0, .ref mo), (1, .int (nI ru)), (2, .int (nI i0))] := hl
  obtain ⟨hn40, hPn, hdok, hSl, hS200, hPok, hdis, hp20, hln, hlP, hdd, hss⟩ := id hL
  have hdl := hdok.1
  have hch0 : ah_ch F F [mo] := ah_ch_r _ _
  have htxl := md_tx_le (S := S) hPok ru
  refine lv_iload_n hx hb dX7_newLetter_0 rfl (lv_at hl 2 rfl) ?_
  refine lv_istore_n (lv' := [(3, .int (nI i0)), (0, .ref mo), (1, .int (nI ru)), (2, .int (nI i0))]) hx hb dX7_newLetter_1 rfl hl (by decide) rfl (fun ls hl => ?_)
  refine lv_iconst (v := (nI 0)) hx hb dX7_newLetter_2 (by decide) ?_
  refine lv_istore (lv' := [(4, .int (nI 0)), (3, .int (nI i0)), (0, .ref mo), (1, .int (nI ru)), (2, .int (nI i0))]) hx hb dX7_newLetter_3 hl (by decide) rfl (fun ls hl => ?_)
  have L5 : ∀ (fuel : Nat), ∀ (Fv : ah_F) (t l0 : Nat) (ip1 il1 : Int32), (ah_chs P S ru).length - t < fuel → t ≤ (ah_chs P S ru).length → (ah_tp P S (ah_chs P S ru) t).length + l0 = i0 → ah_ch F Fv [mo] → Fv mo = some (.inr (7, [.int th, .ref dA, .int (nI dr.length), .int (nI n), .ref tA, .ref lA, .ref eA, .ref nlA, .ref neA, .ref sA, .int (nI S.length), .int td, .int ip1, .int il1])) → Fv dA = some (ah_ai D 8 df) → Fv tA = some (ah_az D 40 tf) → Fv lA = some (ah_ai D 40 lf) → Fv eA = some (ah_ai D 320 ef) → Fv nlA = some (ah_ai D 40 nlf) → Fv neA = some (ah_ai D 320 nef) → Fv sA = some (ah_ai D 200 sf) → ∀ (H : Heap) (locs : List Loc), ah_K A D Fv H → va_S A s.heap H locs → ∀ (ls : Array Slot), lv_has ls 7 [(0, .ref mo), (1, .int (nI ru)), (3, .int (nI l0)), (4, .int (nI (ah_pe P (ah_chs P S ru) t)))] → W p l e { frames := 3, cells := 0, slots := 0, locals := 74 } s m [.ref mo, .int (nI ru), .int (nI i0)].toArray below meth c H locs 0 0 Q (F0 m 5 ls []) := by
    intro fuel
    induction fuel with
    | zero =>
      intro Fv t l0 ip1 il1 hm
      exact absurd hm (Nat.not_lt_zero _)
    | succ fuel ih5 =>
      intro Fv t l0 ip1 il1 hm ht hl0 hch1 hk1 hk2 hk3 hk4 hk5 hk6 hk7 hk8 H locs hP hS ls hl
      have hple := md_pe_le (S := S) hPok ht
      refine lv_iload hx hb dX7_newLetter_5 (lv_at hl 3 rfl) ?_
      refine lv_aload_n hx hb dX7_newLetter_7 rfl (lv_at hl 0 rfl) ?_
      refine gf_Mod_67 E hP hk1 rfl dX7_newLetter_8 ?_
      refine ah_icmp_ge (tgt := 126) hx hb (by omega) (by omega) dX7_newLetter_11 (by decide) (fun hc11 => ?_) (fun hc11 => ?_)
      · skip
        exact False.elim (md_nl_end hPok ht hc11 hl0 hi0)
      · skip
        refine lv_aload_n hx hb dX7_newLetter_14 rfl (lv_at hl 0 rfl) ?_
        refine lv_iload_n hx hb dX7_newLetter_15 rfl (lv_at hl 1 rfl) ?_
        refine lv_iload hx hb dX7_newLetter_16 (lv_at hl 3 rfl) ?_
        refine ah_calli (ah_runV E hP hS (As := [.int (nI ru), .int (nI (ah_pe P (ah_chs P S ru) t))]) (rest := []) (b := mo) (m_finds l A D _ hk1 hk2 hk3 hk4 hk5 hk6 hk7 hk8 hL hru (md_pe_le hPok ht)) lk_Mod_99 li_Mod_99 hk1 rfl ⟨rfl, rfl, (Nat.le_of_ble_eq_true rfl), (Nat.le_of_ble_eq_true rfl)⟩ rfl hl.1 rfl (Nat.le_of_ble_eq_true rfl) dX7_newLetter_18 ⟨(Nat.le_of_ble_eq_true rfl), (Nat.le_of_ble_eq_true rfl)⟩) hS (fun r F9 H locs hfd3 hP hS => ?_)
        obtain ⟨ip3, il3, hm3, hcg3, hro3, hjo3⟩ := hfd3
        subst hro3
        have hG10 : F9 dA = some (ah_ai D 8 df) := (hcg3 dA (ah_nin1 (ah_ne hk2 hk1 rfl))).trans hk2
        have hG11 : F9 tA = some (ah_az D 40 tf) := (hcg3 tA (ah_nin1 (ah_ne hk3 hk1 rfl))).trans hk3
        have hG12 : F9 lA = some (ah_ai D 40 lf) := (hcg3 lA (ah_nin1 (ah_ne hk4 hk1 rfl))).trans hk4
        have hG13 : F9 eA = some (ah_ai D 320 ef) := (hcg3 eA (ah_nin1 (ah_ne hk5 hk1 rfl))).trans hk5
        have hG14 : F9 nlA = some (ah_ai D 40 nlf) := (hcg3 nlA (ah_nin1 (ah_ne hk6 hk1 rfl))).trans hk6
        have hG15 : F9 neA = some (ah_ai D 320 nef) := (hcg3 neA (ah_nin1 (ah_ne hk7 hk1 rfl))).trans hk7
        have hG16 : F9 sA = some (ah_ai D 200 sf) := (hcg3 sA (ah_nin1 (ah_ne hk8 hk1 rfl))).trans hk8
        have hC17 : ah_ch F F9 [mo] := ah_ch_t hch1 hcg3 (by intro a ha; simp only [List.mem_cons, List.not_mem_nil, or_false] at ha ⊢; omega)
        refine lv_istore (lv' := [(5, .int (bI_ ((md_nx P S ru (ah_pe P (ah_chs P S ru) t)).isSome))), (0, .ref mo), (1, .int (nI ru)), (3, .int (nI l0)), (4, .int (nI (ah_pe P (ah_chs P S ru) t)))]) hx hb dX7_newLetter_21 hl (by decide) rfl (fun ls hl => ?_)
        refine lv_iload hx hb dX7_newLetter_23 (lv_at hl 0 rfl) ?_
        refine ah_ifb_eq (tgt := 35) hx hb dX7_newLetter_25 (by decide) (fun hc25 => ?_) (fun hc25 => ?_)
        · skip
          have hte := md_nxt_n hPok ht hc25
          refine lv_aload_n hx hb dX7_newLetter_35 rfl (lv_at hl 1 rfl) ?_
          refine gf_Mod_67 E hP hm3 rfl dX7_newLetter_36 ?_
          refine lv_istore (lv' := [(6, .int (nI S.length)), (5, .int (bI_ ((md_nx P S ru (ah_pe P (ah_chs P S ru) t)).isSome))), (0, .ref mo), (1, .int (nI ru)), (3, .int (nI l0)), (4, .int (nI (ah_pe P (ah_chs P S ru) t)))]) hx hb dX7_newLetter_39 hl (by decide) rfl (fun ls hl => ?_)
          refine lv_iload_n hx hb dX7_newLetter_41 rfl (lv_at hl 4 rfl) ?_
          refine lv_iload hx hb dX7_newLetter_42 (lv_at hl 0 rfl) ?_
          refine lv_iload hx hb dX7_newLetter_44 (lv_at hl 5 rfl) ?_
          refine ah_isub hx hb (by omega) dX7_newLetter_46 ?_
          refine ah_icmp_ge (tgt := 60) hx hb (by omega) (by omega) dX7_newLetter_47 (by decide) (fun hc47 => ?_) (fun hc47 => ?_)
          · skip
            exact False.elim (md_nl_n hte hl0 hi0 hc47)
          · skip
            refine lv_aload_n hx hb dX7_newLetter_50 rfl (lv_at hl 2 rfl) ?_
            refine gf_Mod_29 E hP hm3 rfl dX7_newLetter_51 ?_
            refine lv_iload hx hb dX7_newLetter_54 (lv_at hl 5 rfl) ?_
            refine lv_iload_n hx hb dX7_newLetter_56 rfl (lv_at hl 4 rfl) ?_
            refine ah_iadd hx hb dX7_newLetter_57 ?_
            refine ah_iald E hP hG16 (by omega) (by omega) dX7_newLetter_58 ?_
            rw [hss (ah_pe P (ah_chs P S ru) t + l0) (by omega)]
            rw [hQ]
            exact ah_iret E hr hP hS ⟨_, _, hm3, hC17, by rw [md_tx_S1 hte hl0 hc47]⟩ (Nat.le_of_ble_eq_true rfl) (Nat.le_of_ble_eq_true rfl) dX7_newLetter_59
        · skip
          obtain ⟨j, p, w, r0, hjp1, hjp2, hLt, htl, hPj, hpp, hpw, hj40, hwp, hokw, hokr, hpe⟩ := md_nxt_s hPok ht hc25 hjo3
          rw [hjp1] at hm3
          rw [hjp2] at hm3
          obtain ⟨hlw, hew, hnl, hnew⟩ := hlP j w r0 hPj
          have hjn := md_lt (i := j) hPn (by rw [hPj]; rfl)
          obtain ⟨hl8, hlf, htf⟩ := hln j hjn
          have htl9 := md_tp_len (S := S) hLt hPj (by omega)
          have hrl8 := hokr.1
          refine lv_aload_n hx hb dX7_newLetter_28 rfl (lv_at hl 1 rfl) ?_
          refine gf_Mod_93 E hP hm3 rfl dX7_newLetter_29 ?_
          refine lv_goto (tgt := 39) hx hb dX7_newLetter_32 (by decide) ?_
          refine lv_istore (lv' := [(6, .int (nI p)), (5, .int (bI_ ((md_nx P S ru (ah_pe P (ah_chs P S ru) t)).isSome))), (0, .ref mo), (1, .int (nI ru)), (3, .int (nI l0)), (4, .int (nI (ah_pe P (ah_chs P S ru) t)))]) hx hb dX7_newLetter_39 hl (by decide) rfl (fun ls hl => ?_)
          refine lv_iload_n hx hb dX7_newLetter_41 rfl (lv_at hl 4 rfl) ?_
          refine lv_iload hx hb dX7_newLetter_42 (lv_at hl 0 rfl) ?_
          refine lv_iload hx hb dX7_newLetter_44 (lv_at hl 5 rfl) ?_
          refine ah_isub hx hb (by omega) dX7_newLetter_46 ?_
          refine ah_icmp_ge (tgt := 60) hx hb (by omega) (by omega) dX7_newLetter_47 (by decide) (fun hc47 => ?_) (fun hc47 => ?_)
          · skip
            refine lv_iload_n hx hb dX7_newLetter_60 rfl (lv_at hl 4 rfl) ?_
            refine lv_iload hx hb dX7_newLetter_61 (lv_at hl 0 rfl) ?_
            refine lv_iload hx hb dX7_newLetter_63 (lv_at hl 5 rfl) ?_
            refine ah_isub hx hb (by omega) dX7_newLetter_65 ?_
            refine ah_isub hx hb (by omega) dX7_newLetter_66 ?_
            refine lv_istore_n (lv' := [(3, .int (nI (l0 - (p - (ah_pe P (ah_chs P S ru) t))))), (6, .int (nI p)), (5, .int (bI_ ((md_nx P S ru (ah_pe P (ah_chs P S ru) t)).isSome))), (0, .ref mo), (1, .int (nI ru)), (4, .int (nI (ah_pe P (ah_chs P S ru) t)))]) hx hb dX7_newLetter_67 rfl hl (by decide) rfl (fun ls hl => ?_)
            refine lv_iload hx hb dX7_newLetter_68 (lv_at hl 1 rfl) ?_
            refine lv_istore (lv' := [(4, .int (nI p)), (3, .int (nI (l0 - (p - (ah_pe P (ah_chs P S ru) t))))), (6, .int (nI p)), (5, .int (bI_ ((md_nx P S ru (ah_pe P (ah_chs P S ru) t)).isSome))), (0, .ref mo), (1, .int (nI ru))]) hx hb dX7_newLetter_70 hl (by decide) rfl (fun ls hl => ?_)
            refine lv_iload hx hb dX7_newLetter_72 (lv_at hl 3 rfl) ?_
            refine ah_ifb_eq (tgt := 123) hx hb dX7_newLetter_74 (by decide) (fun hc74 => ?_) (fun hc74 => ?_)
            · skip
              exact absurd (hc25.symm.trans hc74) (by decide)
            · skip
              refine lv_iload_n hx hb dX7_newLetter_77 rfl (lv_at hl 1 rfl) ?_
              refine lv_aload_n hx hb dX7_newLetter_78 rfl (lv_at hl 4 rfl) ?_
              refine gf_Mod_23 E hP hm3 rfl dX7_newLetter_79 ?_
              refine lv_aload_n hx hb dX7_newLetter_82 rfl (lv_at hl 4 rfl) ?_
              refine gf_Mod_90 E hP hm3 rfl dX7_newLetter_83 ?_
              refine ah_iald E hP hG14 (by omega) (by omega) dX7_newLetter_86 ?_
              rw [hnl]
              refine ah_icmp_ge (tgt := 105) hx hb (by omega) (by omega) dX7_newLetter_87 (by decide) (fun hc87 => ?_) (fun hc87 => ?_)
              · skip
                refine lv_iload_n hx hb dX7_newLetter_105 rfl (lv_at hl 1 rfl) ?_
                refine lv_aload_n hx hb dX7_newLetter_106 rfl (lv_at hl 4 rfl) ?_
                refine gf_Mod_23 E hP hm3 rfl dX7_newLetter_107 ?_
                refine lv_aload_n hx hb dX7_newLetter_110 rfl (lv_at hl 4 rfl) ?_
                refine gf_Mod_90 E hP hm3 rfl dX7_newLetter_111 ?_
                refine ah_iald E hP hG14 (by omega) (by omega) dX7_newLetter_114 ?_
                rw [hnl]
                refine ah_isub hx hb (by omega) dX7_newLetter_115 ?_
                refine lv_istore_n (lv' := [(3, .int (nI ((l0 - (p - (ah_pe P (ah_chs P S ru) t))) - r0.length))), (4, .int (nI p)), (6, .int (nI p)), (5, .int (bI_ ((md_nx P S ru (ah_pe P (ah_chs P S ru) t)).isSome))), (0, .ref mo), (1, .int (nI ru))]) hx hb dX7_newLetter_116 rfl hl (by decide) rfl (fun ls hl => ?_)
                refine lv_aload_n hx hb dX7_newLetter_117 rfl (lv_at hl 4 rfl) ?_
                refine ah_calli (ah_runV E hP hS (As := []) (rest := []) (b := mo) (m_itsEnd l A D _ hm3 hG10 hG11 hG12 hG13 hG14 hG15 hG16 hL hPj (by omega)) lk_Mod_102 li_Mod_102 hm3 rfl ⟨rfl, rfl, (Nat.le_of_ble_eq_true rfl), (Nat.le_of_ble_eq_true rfl)⟩ rfl hl.1 rfl (Nat.le_of_ble_eq_true rfl) dX7_newLetter_118 ⟨(Nat.le_of_ble_eq_true rfl), (Nat.le_of_ble_eq_true rfl)⟩) hS (fun r F18 H locs hq hP hS => ?_)
                obtain ⟨rfl, rfl⟩ := hq
                rw [← hpe]
                refine lv_istore (lv' := [(4, .int (nI (ah_pe P (ah_chs P S ru) (t + 1)))), (3, .int (nI ((l0 - (p - (ah_pe P (ah_chs P S ru) t))) - r0.length))), (6, .int (nI p)), (5, .int (bI_ ((md_nx P S ru (ah_pe P (ah_chs P S ru) t)).isSome))), (0, .ref mo), (1, .int (nI ru))]) hx hb dX7_newLetter_121 hl (by decide) rfl (fun ls hl => ?_)
                refine lv_goto (tgt := 5) hx hb dX7_newLetter_123 (by decide) ?_
                exact ih5 _ (t + 1) _ _ _ (by omega) (by omega) (by rw [htl9]; omega) hC17 hm3 hG10 hG11 hG12 hG13 hG14 hG15 hG16 _ _ hP hS ls (lv_sub hl [4, 5, 1, 0] rfl)
              · skip
                refine lv_aload_n hx hb dX7_newLetter_90 rfl (lv_at hl 4 rfl) ?_
                refine gf_Mod_26 E hP hm3 rfl dX7_newLetter_91 ?_
                refine lv_bipush (v := (nI 8)) hx hb dX7_newLetter_94 (by decide) ?_
                refine lv_aload_n hx hb dX7_newLetter_96 rfl (lv_at hl 4 rfl) ?_
                refine gf_Mod_90 E hP hm3 rfl dX7_newLetter_97 ?_
                refine ah_imul hx hb dX7_newLetter_100 ?_
                refine lv_iload_n hx hb dX7_newLetter_101 rfl (lv_at hl 1 rfl) ?_
                refine ah_iadd hx hb dX7_newLetter_102 ?_
                refine ah_iald E hP hG15 (by omega) (by omega) dX7_newLetter_103 ?_
                rw [hnew (l0 - (p - ah_pe P (ah_chs P S ru) t)) (by omega)]
                rw [hQ]
                exact ah_iret E hr hP hS ⟨_, _, hm3, hC17, by rw [md_tx_R hLt hPj (by omega) hl0 (by omega) hc87]⟩ (Nat.le_of_ble_eq_true rfl) (Nat.le_of_ble_eq_true rfl) dX7_newLetter_104
          · skip
            refine lv_aload_n hx hb dX7_newLetter_50 rfl (lv_at hl 2 rfl) ?_
            refine gf_Mod_29 E hP hm3 rfl dX7_newLetter_51 ?_
            refine lv_iload hx hb dX7_newLetter_54 (lv_at hl 5 rfl) ?_
            refine lv_iload_n hx hb dX7_newLetter_56 rfl (lv_at hl 4 rfl) ?_
            refine ah_iadd hx hb dX7_newLetter_57 ?_
            refine ah_iald E hP hG16 (by omega) (by omega) dX7_newLetter_58 ?_
            rw [hss (ah_pe P (ah_chs P S ru) t + l0) (by omega)]
            rw [hQ]
            exact ah_iret E hr hP hS ⟨_, _, hm3, hC17, by rw [md_tx_S2 hLt hPj (by omega) hl0 hc47]⟩ (Nat.le_of_ble_eq_true rfl) (Nat.le_of_ble_eq_true rfl) dX7_newLetter_59
  exact L5 ((ah_chs P S ru).length + 1) _ 0 i0 _ _ (by omega) (Nat.zero_le _) (Nat.zero_add _) hch0 hmo hdA htA hlA heA hnlA hneA hsA _ _ hP hS ls (lv_sub hl [2, 3, 1, 0] rfl)

set_option maxHeartbeats 4000000 in
set_option maxRecDepth 100000 in
/-- replaced -/
theorem m_replaced (l : Launch) (A : Nat → Prop) (D : ah_G) (F : ah_F) {mo n : Nat} {P : ah_Pt} {dr S : List Nat} {td th : Int32} (hC : md_C D F mo P n dr S td th) {v0 v1 : Int32} : Met l yX7_replaced (Cond.code yX7_replaced cX7_replaced 4 (some .char) :: ah_T) { frames := 4, cells := 0, slots := 0, locals := 100 } (va_Pc [.ref mo, .int v0, .int v1] (ah_B A D F)) (ah_Qi A D (fun (r : Int32) F1 => md_An D F1 mo (sp_replaced P n dr S td v0 v1) r)) 0 0 A := by
  refine ah_met (own := "AhoarchModel") (by decide) rfl (Nat.le_of_ble_eq_true rfl) ?_
  intro p e s m below meth c ls E hr hini hl hP hS Q hQ
  have hx := E.1
  have hb := E.2.1
  have hl : lv_has ls 4 [(0, .ref mo), (1, .int v0), (2, .int v1)] := hl
  obtain ⟨dA, tA, lA, eA, nlA, neA, sA, ip, il, ln, df, tf, lf, ef, nlf, nef, sf, hmo, hdA, htA, hlA, heA, hnlA, hneA, hsA, hne1, hne2, hne3, hne4, hL⟩ := id hC
  obtain ⟨hn40, hPn, hdok, hSl, hS200, hPok, hdis, hp20, hln, hlP, hdd, hss⟩ := id hL
  have hdl := hdok.1
  refine lv_aload_n hx hb dX7_replaced_0 rfl (lv_at hl 0 rfl) ?_
  refine lv_iload_n hx hb dX7_replaced_1 rfl (lv_at hl 1 rfl) ?_
  refine ah_calli (ah_runV E hP hS (As := [.int v0]) (rest := []) (b := mo) (m_isRule l A D _ hmo (v0 := v0)) lk_Mod_108 li_Mod_108 hmo rfl ⟨rfl, rfl, (Nat.le_of_ble_eq_true rfl), (Nat.le_of_ble_eq_true rfl)⟩ rfl hl.1 rfl (Nat.le_of_ble_eq_true rfl) dX7_replaced_2 ⟨(Nat.le_of_ble_eq_true rfl), (Nat.le_of_ble_eq_true rfl)⟩) hS (fun r F1 H locs hq hP hS => ?_)
  obtain ⟨rfl, rfl⟩ := hq
  refine lv_istore_n (lv' := [(3, .int (bI_ ((ah_rul v0).isSome))), (0, .ref mo), (1, .int v0), (2, .int v1)]) hx hb dX7_replaced_5 rfl hl (by decide) rfl (fun ls hl => ?_)
  refine lv_aload_n hx hb dX7_replaced_6 rfl (lv_at hl 1 rfl) ?_
  refine lv_iload_n hx hb dX7_replaced_7 rfl (lv_at hl 0 rfl) ?_
  refine ah_ifb_ne (tgt := 15) hx hb dX7_replaced_8 (by decide) (fun hc8 => ?_) (fun hc8 => ?_)
  · skip
    obtain ⟨ru, hrl⟩ := Option.isSome_iff_exists.mp hc8
    obtain ⟨hru, hrv⟩ := md_rul hrl
    rw [hrv] at hl
    have hcl := md_tx_le (S := S) hPok ru
    have hgd := ah_getD_le (ah_tx_lt hPok hSl (ah_chs_chn hPok ru))
    refine lv_iload_n hx hb dX7_replaced_15 rfl (lv_at hl 3 rfl) ?_
    refine lv_if_lt (tgt := 28) hx hb dX7_replaced_16 (by decide) (fun hc16 => ?_) (fun hc16 => ?_)
    · skip
      have hkn : ah_ixn (ah_tx P S (ah_chs P S ru)).length v1 = none := ah_ixn_neg hc16
      refine lv_iconst (v := (nI 2)) hx hb dX7_replaced_28 (by decide) ?_
      refine lv_goto (tgt := 33) hx hb dX7_replaced_29 (by decide) ?_
      refine ah_calli (ah_runV E hP hS (As := [.int (nI 2)]) (rest := []) (b := mo) (m_holds l A D _ hmo hdA htA hlA heA hnlA hneA hsA hL (k := 2) (by omega)) lk_Mod_46 li_Mod_46 hmo rfl ⟨rfl, rfl, (Nat.le_of_ble_eq_true rfl), (Nat.le_of_ble_eq_true rfl)⟩ rfl hl.1 rfl (Nat.le_of_ble_eq_true rfl) dX7_replaced_33 ⟨(Nat.le_of_ble_eq_true rfl), (Nat.le_of_ble_eq_true rfl)⟩) hS (fun r F2 H locs hho33 hP hS => ?_)
      obtain ⟨eho33, hro⟩ := hho33
      have hG3 : F2 dA = some (ah_ai D 8 df) := by rw [eho33]; exact ah_keep hmo hdA rfl
      have hG4 : F2 tA = some (ah_az D 40 tf) := by rw [eho33]; exact ah_keep hmo htA rfl
      have hG5 : F2 lA = some (ah_ai D 40 lf) := by rw [eho33]; exact ah_keep hmo hlA rfl
      have hG6 : F2 eA = some (ah_ai D 320 ef) := by rw [eho33]; exact ah_keep hmo heA rfl
      have hG7 : F2 nlA = some (ah_ai D 40 nlf) := by rw [eho33]; exact ah_keep hmo hnlA rfl
      have hG8 : F2 neA = some (ah_ai D 320 nef) := by rw [eho33]; exact ah_keep hmo hneA rfl
      have hG9 : F2 sA = some (ah_ai D 200 sf) := by rw [eho33]; exact ah_keep hmo hsA rfl
      have hG10 : F2 mo = some (.inr (7, [.int (nI 2), .ref dA, .int (nI dr.length), .int (nI n), .ref tA, .ref lA, .ref eA, .ref nlA, .ref neA, .ref sA, .int (nI S.length), .int td, .int ip, .int il])) := by rw [eho33]; exact ah_up_s _ _ _
      subst hro
      refine ah_ifb_ne (tgt := 42) hx hb dX7_replaced_36 (by decide) (fun hc36 => ?_) (fun hc36 => ?_)
      · skip
        exact absurd hc36 (by decide)
      · skip
        refine lv_bipush (v := (nI 97)) hx hb dX7_replaced_39 (by decide) ?_
        rw [hQ]
        exact ah_zret E hr (by decide) hP hS (md_An_i (k := 2) (v := 0) (by simp only [sp_replaced, hrl, hkn]) ⟨dA, tA, lA, eA, nlA, neA, sA, _, _, ln, _, _, _, _, _, _, _, hG10, hG3, hG4, hG5, hG6, hG7, hG8, hG9, hne1, hne2, hne3, hne4, hL⟩ (fun h => absurd h (by decide))) (Nat.le_of_ble_eq_true rfl) (Nat.le_of_ble_eq_true rfl) dX7_replaced_41
    · skip
      refine lv_iload_n hx hb dX7_replaced_19 rfl (lv_at hl 3 rfl) ?_
      refine lv_aload_n hx hb dX7_replaced_20 rfl (lv_at hl 1 rfl) ?_
      refine lv_iload_n hx hb dX7_replaced_21 rfl (lv_at hl 2 rfl) ?_
      refine ah_calli (ah_runV E hP hS (As := [.int (nI ru)]) (rest := [.int v1, .ref mo]) (b := mo) (m_newLength l A D _ hmo hdA htA hlA heA hnlA hneA hsA hL (ru := ru) hru) lk_Mod_114 li_Mod_114 hmo rfl ⟨rfl, rfl, (Nat.le_of_ble_eq_true rfl), (Nat.le_of_ble_eq_true rfl)⟩ rfl hl.1 rfl (Nat.le_of_ble_eq_true rfl) dX7_replaced_22 ⟨(Nat.le_of_ble_eq_true rfl), (Nat.le_of_ble_eq_true rfl)⟩) hS (fun r F11 H locs hfd4 hP hS => ?_)
      obtain ⟨ip4, il4, hm4, hcg4, hro4⟩ := hfd4
      subst hro4
      have hG12 : F11 dA = some (ah_ai D 8 df) := (hcg4 dA (ah_nin1 (ah_ne hdA hmo rfl))).trans hdA
      have hG13 : F11 tA = some (ah_az D 40 tf) := (hcg4 tA (ah_nin1 (ah_ne htA hmo rfl))).trans htA
      have hG14 : F11 lA = some (ah_ai D 40 lf) := (hcg4 lA (ah_nin1 (ah_ne hlA hmo rfl))).trans hlA
      have hG15 : F11 eA = some (ah_ai D 320 ef) := (hcg4 eA (ah_nin1 (ah_ne heA hmo rfl))).trans heA
      have hG16 : F11 nlA = some (ah_ai D 40 nlf) := (hcg4 nlA (ah_nin1 (ah_ne hnlA hmo rfl))).trans hnlA
      have hG17 : F11 neA = some (ah_ai D 320 nef) := (hcg4 neA (ah_nin1 (ah_ne hneA hmo rfl))).trans hneA
      have hG18 : F11 sA = some (ah_ai D 200 sf) := (hcg4 sA (ah_nin1 (ah_ne hsA hmo rfl))).trans hsA
      refine lv_icmp_lt (tgt := 32) hx hb dX7_replaced_25 (by decide) (fun hc25 => ?_) (fun hc25 => ?_)
      · skip
        obtain ⟨t0, ht0, hvt⟩ : ∃ t0 : Nat, t0 < (ah_tx P S (ah_chs P S ru)).length ∧ v1 = nI t0 := by
          rcases pk_ix v1 (n := (ah_tx P S (ah_chs P S ru)).length) (by omega) with h | h | h
          · exact absurd h hc16
          · exact absurd h (Int32.not_le.mpr hc25)
          · exact h
        have hix : ah_ixn (ah_tx P S (ah_chs P S ru)).length v1 = some t0 := by rw [hvt]; exact ah_ixn_in ht0 (by omega)
        rw [hvt] at hl
        refine lv_iconst (v := (nI 0)) hx hb dX7_replaced_32 (by decide) ?_
        refine ah_calli (ah_runV E hP hS (As := [.int (nI 0)]) (rest := []) (b := mo) (m_holds l A D _ hm4 hG12 hG13 hG14 hG15 hG16 hG17 hG18 hL (k := 0) (by omega)) lk_Mod_46 li_Mod_46 hm4 rfl ⟨rfl, rfl, (Nat.le_of_ble_eq_true rfl), (Nat.le_of_ble_eq_true rfl)⟩ rfl hl.1 rfl (Nat.le_of_ble_eq_true rfl) dX7_replaced_33 ⟨(Nat.le_of_ble_eq_true rfl), (Nat.le_of_ble_eq_true rfl)⟩) hS (fun r F20 H locs hho33 hP hS => ?_)
        obtain ⟨eho33, hro⟩ := hho33
        have hG21 : F20 dA = some (ah_ai D 8 df) := by rw [eho33]; exact ah_keep hm4 hG12 rfl
        have hG22 : F20 tA = some (ah_az D 40 tf) := by rw [eho33]; exact ah_keep hm4 hG13 rfl
        have hG23 : F20 lA = some (ah_ai D 40 lf) := by rw [eho33]; exact ah_keep hm4 hG14 rfl
        have hG24 : F20 eA = some (ah_ai D 320 ef) := by rw [eho33]; exact ah_keep hm4 hG15 rfl
        have hG25 : F20 nlA = some (ah_ai D 40 nlf) := by rw [eho33]; exact ah_keep hm4 hG16 rfl
        have hG26 : F20 neA = some (ah_ai D 320 nef) := by rw [eho33]; exact ah_keep hm4 hG17 rfl
        have hG27 : F20 sA = some (ah_ai D 200 sf) := by rw [eho33]; exact ah_keep hm4 hG18 rfl
        have hG28 : F20 mo = some (.inr (7, [.int (nI 0), .ref dA, .int (nI dr.length), .int (nI n), .ref tA, .ref lA, .ref eA, .ref nlA, .ref neA, .ref sA, .int (nI S.length), .int td, .int ip4, .int il4])) := by rw [eho33]; exact ah_up_s _ _ _
        subst hro
        refine ah_ifb_ne (tgt := 42) hx hb dX7_replaced_36 (by decide) (fun hc36 => ?_) (fun hc36 => ?_)
        · skip
          refine lv_aload_n hx hb dX7_replaced_42 rfl (lv_at hl 1 rfl) ?_
          refine lv_iload_n hx hb dX7_replaced_43 rfl (lv_at hl 2 rfl) ?_
          refine lv_iload_n hx hb dX7_replaced_44 rfl (lv_at hl 3 rfl) ?_
          refine ah_calli (ah_runV E hP hS (As := [.int (nI ru), .int (nI t0)]) (rest := []) (b := mo) (m_newLetter l A D _ hG28 hG21 hG22 hG23 hG24 hG25 hG26 hG27 hL hru ht0) lk_Mod_117 li_Mod_117 hG28 rfl ⟨rfl, rfl, (Nat.le_of_ble_eq_true rfl), (Nat.le_of_ble_eq_true rfl)⟩ rfl hl.1 rfl (Nat.le_of_ble_eq_true rfl) dX7_replaced_45 ⟨(Nat.le_of_ble_eq_true rfl), (Nat.le_of_ble_eq_true rfl)⟩) hS (fun r F29 H locs hfd6 hP hS => ?_)
          obtain ⟨ip6, il6, hm6, hcg6, hro6⟩ := hfd6
          subst hro6
          have hG30 : F29 dA = some (ah_ai D 8 df) := (hcg6 dA (ah_nin1 (ah_ne hG21 hG28 rfl))).trans hG21
          have hG31 : F29 tA = some (ah_az D 40 tf) := (hcg6 tA (ah_nin1 (ah_ne hG22 hG28 rfl))).trans hG22
          have hG32 : F29 lA = some (ah_ai D 40 lf) := (hcg6 lA (ah_nin1 (ah_ne hG23 hG28 rfl))).trans hG23
          have hG33 : F29 eA = some (ah_ai D 320 ef) := (hcg6 eA (ah_nin1 (ah_ne hG24 hG28 rfl))).trans hG24
          have hG34 : F29 nlA = some (ah_ai D 40 nlf) := (hcg6 nlA (ah_nin1 (ah_ne hG25 hG28 rfl))).trans hG25
          have hG35 : F29 neA = some (ah_ai D 320 nef) := (hcg6 neA (ah_nin1 (ah_ne hG26 hG28 rfl))).trans hG26
          have hG36 : F29 sA = some (ah_ai D 200 sf) := (hcg6 sA (ah_nin1 (ah_ne hG27 hG28 rfl))).trans hG27
          have hg26 := hgd t0
          refine lv_i2c (v := (nI (96 + (ah_tx P S (ah_chs P S ru)).getD t0 0))) hx hb dX7_replaced_48 (ah_i2c (by omega)) ?_
          rw [hQ]
          exact ah_zret E hr (pk_charN (q := 96 + (ah_tx P S (ah_chs P S ru)).getD t0 0) (by omega)).1 hP hS (md_An_i (k := 0) (v := nI (96 + (ah_tx P S (ah_chs P S ru)).getD t0 0)) (by simp only [sp_replaced, hrl, hix]) ⟨dA, tA, lA, eA, nlA, neA, sA, _, _, ln, _, _, _, _, _, _, _, hm6, hG30, hG31, hG32, hG33, hG34, hG35, hG36, hne1, hne2, hne3, hne4, hL⟩ (fun _ => rfl)) (Nat.le_of_ble_eq_true rfl) (Nat.le_of_ble_eq_true rfl) dX7_replaced_49
        · skip
          exact absurd hc36 (by decide)
      · skip
        have hkn : ah_ixn (ah_tx P S (ah_chs P S ru)).length v1 = none := ah_ixn_ge (by omega) (Int32.not_lt.mp hc25)
        refine lv_iconst (v := (nI 2)) hx hb dX7_replaced_28 (by decide) ?_
        refine lv_goto (tgt := 33) hx hb dX7_replaced_29 (by decide) ?_
        refine ah_calli (ah_runV E hP hS (As := [.int (nI 2)]) (rest := []) (b := mo) (m_holds l A D _ hm4 hG12 hG13 hG14 hG15 hG16 hG17 hG18 hL (k := 2) (by omega)) lk_Mod_46 li_Mod_46 hm4 rfl ⟨rfl, rfl, (Nat.le_of_ble_eq_true rfl), (Nat.le_of_ble_eq_true rfl)⟩ rfl hl.1 rfl (Nat.le_of_ble_eq_true rfl) dX7_replaced_33 ⟨(Nat.le_of_ble_eq_true rfl), (Nat.le_of_ble_eq_true rfl)⟩) hS (fun r F38 H locs hho33 hP hS => ?_)
        obtain ⟨eho33, hro⟩ := hho33
        have hG39 : F38 dA = some (ah_ai D 8 df) := by rw [eho33]; exact ah_keep hm4 hG12 rfl
        have hG40 : F38 tA = some (ah_az D 40 tf) := by rw [eho33]; exact ah_keep hm4 hG13 rfl
        have hG41 : F38 lA = some (ah_ai D 40 lf) := by rw [eho33]; exact ah_keep hm4 hG14 rfl
        have hG42 : F38 eA = some (ah_ai D 320 ef) := by rw [eho33]; exact ah_keep hm4 hG15 rfl
        have hG43 : F38 nlA = some (ah_ai D 40 nlf) := by rw [eho33]; exact ah_keep hm4 hG16 rfl
        have hG44 : F38 neA = some (ah_ai D 320 nef) := by rw [eho33]; exact ah_keep hm4 hG17 rfl
        have hG45 : F38 sA = some (ah_ai D 200 sf) := by rw [eho33]; exact ah_keep hm4 hG18 rfl
        have hG46 : F38 mo = some (.inr (7, [.int (nI 2), .ref dA, .int (nI dr.length), .int (nI n), .ref tA, .ref lA, .ref eA, .ref nlA, .ref neA, .ref sA, .int (nI S.length), .int td, .int ip4, .int il4])) := by rw [eho33]; exact ah_up_s _ _ _
        subst hro
        refine ah_ifb_ne (tgt := 42) hx hb dX7_replaced_36 (by decide) (fun hc36 => ?_) (fun hc36 => ?_)
        · skip
          exact absurd hc36 (by decide)
        · skip
          refine lv_bipush (v := (nI 97)) hx hb dX7_replaced_39 (by decide) ?_
          rw [hQ]
          exact ah_zret E hr (by decide) hP hS (md_An_i (k := 2) (v := 0) (by simp only [sp_replaced, hrl, hkn]) ⟨dA, tA, lA, eA, nlA, neA, sA, _, _, ln, _, _, _, _, _, _, _, hG46, hG39, hG40, hG41, hG42, hG43, hG44, hG45, hne1, hne2, hne3, hne4, hL⟩ (fun h => absurd h (by decide))) (Nat.le_of_ble_eq_true rfl) (Nat.le_of_ble_eq_true rfl) dX7_replaced_41
  · skip
    have hnone := md_none hc8
    refine lv_iconst (v := (nI 1)) hx hb dX7_replaced_11 (by decide) ?_
    refine lv_goto (tgt := 33) hx hb dX7_replaced_12 (by decide) ?_
    refine ah_calli (ah_runV E hP hS (As := [.int (nI 1)]) (rest := []) (b := mo) (m_holds l A D _ hmo hdA htA hlA heA hnlA hneA hsA hL (k := 1) (by omega)) lk_Mod_46 li_Mod_46 hmo rfl ⟨rfl, rfl, (Nat.le_of_ble_eq_true rfl), (Nat.le_of_ble_eq_true rfl)⟩ rfl hl.1 rfl (Nat.le_of_ble_eq_true rfl) dX7_replaced_33 ⟨(Nat.le_of_ble_eq_true rfl), (Nat.le_of_ble_eq_true rfl)⟩) hS (fun r F47 H locs hho33 hP hS => ?_)
    obtain ⟨eho33, hro⟩ := hho33
    have hG48 : F47 dA = some (ah_ai D 8 df) := by rw [eho33]; exact ah_keep hmo hdA rfl
    have hG49 : F47 tA = some (ah_az D 40 tf) := by rw [eho33]; exact ah_keep hmo htA rfl
    have hG50 : F47 lA = some (ah_ai D 40 lf) := by rw [eho33]; exact ah_keep hmo hlA rfl
    have hG51 : F47 eA = some (ah_ai D 320 ef) := by rw [eho33]; exact ah_keep hmo heA rfl
    have hG52 : F47 nlA = some (ah_ai D 40 nlf) := by rw [eho33]; exact ah_keep hmo hnlA rfl
    have hG53 : F47 neA = some (ah_ai D 320 nef) := by rw [eho33]; exact ah_keep hmo hneA rfl
    have hG54 : F47 sA = some (ah_ai D 200 sf) := by rw [eho33]; exact ah_keep hmo hsA rfl
    have hG55 : F47 mo = some (.inr (7, [.int (nI 1), .ref dA, .int (nI dr.length), .int (nI n), .ref tA, .ref lA, .ref eA, .ref nlA, .ref neA, .ref sA, .int (nI S.length), .int td, .int ip, .int il])) := by rw [eho33]; exact ah_up_s _ _ _
    subst hro
    refine ah_ifb_ne (tgt := 42) hx hb dX7_replaced_36 (by decide) (fun hc36 => ?_) (fun hc36 => ?_)
    · skip
      exact absurd hc36 (by decide)
    · skip
      refine lv_bipush (v := (nI 97)) hx hb dX7_replaced_39 (by decide) ?_
      rw [hQ]
      exact ah_zret E hr (by decide) hP hS (md_An_i (k := 1) (v := 0) (by simp only [sp_replaced, hnone]) ⟨dA, tA, lA, eA, nlA, neA, sA, _, _, ln, _, _, _, _, _, _, _, hG55, hG48, hG49, hG50, hG51, hG52, hG53, hG54, hne1, hne2, hne3, hne4, hL⟩ (fun h => absurd h (by decide))) (Nat.le_of_ble_eq_true rfl) (Nat.le_of_ble_eq_true rfl) dX7_replaced_41
