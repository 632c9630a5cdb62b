/-! the reference's walk along the chosen ones -/
theorem md_nxt_n {P : ah_Pt} {S : List Nat} {ru t : Nat} (hP : ah_Pok P) (ht : t ≤ (ah_chs P S ru).length) (h : (md_nx P S ru (ah_pe P (ah_chs P S ru) t)).isSome = false) : t = (ah_chs P S ru).length := by
  rw [md_nx_at hP ht] at h
  rcases Nat.lt_or_ge t (ah_chs P S ru).length with q | q
  · rw [List.getElem?_eq_getElem q] at h; cases h
  · omega
theorem md_nxt_s {P : ah_Pt} {S : List Nat} {ru t : Nat} {ip il : Int32} (hP : ah_Pok P) (ht : t ≤ (ah_chs P S ru).length) (h : (md_nx P S ru (ah_pe P (ah_chs P S ru) t)).isSome = true) (hj : ∀ j p : Nat, md_nx P S ru (ah_pe P (ah_chs P S ru) t) = some (j, p) → ip = nI j ∧ il = nI p) : ∃ (j p : Nat) (w r : List Nat), ip = nI j ∧ il = nI p ∧ (ah_chs P S ru)[t]? = some (j, p) ∧ t < (ah_chs P S ru).length ∧ P j = some (w, r) ∧ ah_pe P (ah_chs P S ru) t ≤ p ∧ p + w.length ≤ S.length ∧ j < 40 ∧ 0 < w.length ∧ ah_ok w ∧ ah_ok r ∧ ah_pe P (ah_chs P S ru) (t + 1) = p + w.length := by
  have e := md_nx_at hP ht
  rw [e] at h
  obtain ⟨⟨j, p⟩, hjp⟩ := Option.isSome_iff_exists.mp h
  obtain ⟨h1, h2⟩ := hj j p (e.trans hjp)
  obtain ⟨h3, h4, h5, h6, -⟩ := ah_chs_chn hP ru t j p hjp
  obtain ⟨⟨w, r⟩, h7⟩ := Option.isSome_iff_exists.mp h6
  rw [ah_w_s h7] at h4
  obtain ⟨h8, h9, h10⟩ := hP j w r h7
  exact ⟨j, p, w, r, h1, h2, hjp, (List.getElem?_eq_some_iff.mp hjp).1, h7, h3, h4, h5, List.length_pos_iff.mpr h10, h8, h9, (ah_pe_s hjp).trans (by rw [ah_w_s h7])⟩
theorem md_pe_le {P : ah_Pt} {S : List Nat} (hP : ah_Pok P) {ru t : Nat} (ht : t ≤ (ah_chs P S ru).length) : ah_pe P (ah_chs P S ru) t ≤ S.length := ah_pe_le (ah_chs_chn hP ru) t ht
theorem md_chs_le {P : ah_Pt} {S : List Nat} (hP : ah_Pok P) (ru : Nat) : (ah_chs P S ru).length ≤ S.length := by
  have h := ah_chs_chn (S := S) hP ru
  have h2 : ∀ t, t ≤ (ah_chs P S ru).length → t ≤ ah_pe P (ah_chs P S ru) t := by
    intro t
    induction t with
    | zero => intro _; exact Nat.zero_le _
    | succ t ih =>
      intro ht
      have e : (ah_chs P S ru)[t]? = some ((ah_chs P S ru)[t].1, (ah_chs P S ru)[t].2) := List.getElem?_eq_getElem (by omega)
      have h3 := h t _ _ e
      have h4 := (ah_w_ok hP h3.2.2.2.1).2.2
      have h5 := ih (by omega)
      rw [ah_pe_s e]
      omega
  have h3 := h2 _ (Nat.le_refl _)
  have h4 := ah_pe_le h _ (Nat.le_refl _)
  omega
theorem md_rul {v : Int32} {ru : Nat} (h : ah_rul v = some ru) : ru ≤ 2 ∧ v = nI ru := by
  rw [ah_rul] at h
  split at h
  · next e => cases h; exact ⟨by omega, e⟩
  · split at h
    · next e => cases h; exact ⟨by omega, e⟩
    · split at h
      · next e => cases h; exact ⟨by omega, e⟩
      · cases h
set_option maxHeartbeats 4000000 in
set_option maxRecDepth 100000 in
/-- choices -/
theorem m_choices (l : Launch) (A : Nat → Prop) (D : ah_G) (F : ah_F) {mo dA tA lA eA nlA neA sA n : Nat} {P : ah_Pt} {dr S : List Nat} {td th ip il : Int32} {ln : Nat → Nat} {df tf lf ef nlf nef sf : Nat → Int32} (hmo : F mo = some (.inr (7, [.int th, .ref dA, .int (nI dr.length), .int (nI n), .ref tA, .ref lA, .ref eA, .ref nlA, .ref neA, .ref sA, .int (nI S.length), .int td, .int ip, .int il]))) (hdA : F dA = some (ah_ai D 8 df)) (htA : F tA = some (ah_az D 40 tf)) (hlA : F lA = some (ah_ai D 40 lf)) (heA : F eA = some (ah_ai D 320 ef)) (hnlA : F nlA = some (ah_ai D 40 nlf)) (hneA : F neA = some (ah_ai D 320 nef)) (hsA : F sA = some (ah_ai D 200 sf)) (hL : md_L P n dr S ln df tf lf ef nlf nef sf) {ru : Nat} (hru : ru ≤ 2) : Met l yX7_choices (Cond.code yX7_choices cX7_choices 4 (some .int) :: ah_T) { frames := 3, cells := 0, slots := 0, locals := 74 } (va_Pc [.ref mo, .int (nI ru)] (ah_B A D F)) (ah_Qi A D (fun (r : Int32) F1 => ∃ ip1 il1 : Int32, F1 mo = some (.inr (7, [.int th, .ref dA, .int (nI dr.length), .int (nI n), .ref tA, .ref lA, .ref eA, .ref nlA, .ref neA, .ref sA, .int (nI S.length), .int td, .int ip1, .int il1])) ∧ ah_ch F F1 [mo] ∧ nI (ah_chs P S ru).length = r)) 0 0 A := by
  refine ah_met (own := "AhoarchModel") (by decide) rfl (Nat.le_of_ble_eq_true rfl) ?_
  intro p e s m below meth c ls E hr hini hl hP hS Q hQ
  have hx := E.1
  have hb := E.2.1
  have hl : lv_has ls 4 [(0, .ref mo), (1, .int (nI ru))] := hl
  obtain ⟨hn40, hPn, hdok, hSl, hS200, hPok, hdis, hp20, hln, hlP, hdd, hss⟩ := id hL
  have hdl := hdok.1
  have hch0 : ah_ch F F [mo] := ah_ch_r _ _
  refine lv_iconst (v := (nI 0)) hx hb dX7_choices_0 (by decide) ?_
  refine lv_istore_n (lv' := [(2, .int (nI 0)), (0, .ref mo), (1, .int (nI ru))]) hx hb dX7_choices_1 rfl hl (by decide) rfl (fun ls hl => ?_)
  refine lv_iconst (v := (nI 0)) hx hb dX7_choices_2 (by decide) ?_
  refine lv_istore_n (lv' := [(3, .int (nI 0)), (2, .int (nI 0)), (0, .ref mo), (1, .int (nI ru))]) hx hb dX7_choices_3 rfl hl (by decide) rfl (fun ls hl => ?_)
  have L4 : ∀ (fuel : Nat), ∀ (Fv : ah_F) (t : Nat) (ip1 il1 : Int32), (ah_chs P S ru).length - t < fuel → t ≤ (ah_chs P S ru).length → ah_ch F Fv [mo] → Fv mo = some (.inr (7, [.int th, .ref dA, .int (nI dr.length), .int (nI n), .ref tA, .ref lA, .ref eA, .ref nlA, .ref neA, .ref sA, .int (nI S.length), .int td, .int ip1, .int il1])) → Fv dA = some (ah_ai D 8 df) → Fv tA = some (ah_az D 40 tf) → Fv lA = some (ah_ai D 40 lf) → Fv eA = some (ah_ai D 320 ef) → Fv nlA = some (ah_ai D 40 nlf) → Fv neA = some (ah_ai D 320 nef) → Fv sA = some (ah_ai D 200 sf) → ∀ (H : Heap) (locs : List Loc), ah_K A D Fv H → va_S A s.heap H locs → ∀ (ls : Array Slot), lv_has ls 4 [(0, .ref mo), (1, .int (nI ru)), (2, .int (nI t)), (3, .int (nI (ah_pe P (ah_chs P S ru) t)))] → W p l e { frames := 3, cells := 0, slots := 0, locals := 74 } s m [.ref mo, .int (nI ru)].toArray below meth c H locs 0 0 Q (F0 m 4 ls []) := by
    intro fuel
    induction fuel with
    | zero =>
      intro Fv t ip1 il1 hm
      exact absurd hm (Nat.not_lt_zero _)
    | succ fuel ih4 =>
      intro Fv t ip1 il1 hm ht hch1 hk1 hk2 hk3 hk4 hk5 hk6 hk7 hk8 H locs hP hS ls hl
      refine lv_aload_n hx hb dX7_choices_4 rfl (lv_at hl 0 rfl) ?_
      refine lv_iload_n hx hb dX7_choices_5 rfl (lv_at hl 1 rfl) ?_
      refine lv_iload_n hx hb dX7_choices_6 rfl (lv_at hl 3 rfl) ?_
      refine ah_calli (ah_runV E hP hS (As := [.int (nI ru), .int (nI (ah_pe P (ah_chs P S ru) t))]) (rest := []) (b := mo) (m_finds l A D _ hk1 hk2 hk3 hk4 hk5 hk6 hk7 hk8 hL hru (md_pe_le hPok ht)) lk_Mod_99 li_Mod_99 hk1 rfl ⟨rfl, rfl, (Nat.le_of_ble_eq_true rfl), (Nat.le_of_ble_eq_true rfl)⟩ rfl hl.1 rfl (Nat.le_of_ble_eq_true rfl) dX7_choices_7 ⟨(Nat.le_of_ble_eq_true rfl), (Nat.le_of_ble_eq_true rfl)⟩) hS (fun r F9 H locs hfd3 hP hS => ?_)
      obtain ⟨ip3, il3, hm3, hcg3, hro3, hjo3⟩ := hfd3
      subst hro3
      have hG10 : F9 dA = some (ah_ai D 8 df) := (hcg3 dA (ah_nin1 (ah_ne hk2 hk1 rfl))).trans hk2
      have hG11 : F9 tA = some (ah_az D 40 tf) := (hcg3 tA (ah_nin1 (ah_ne hk3 hk1 rfl))).trans hk3
      have hG12 : F9 lA = some (ah_ai D 40 lf) := (hcg3 lA (ah_nin1 (ah_ne hk4 hk1 rfl))).trans hk4
      have hG13 : F9 eA = some (ah_ai D 320 ef) := (hcg3 eA (ah_nin1 (ah_ne hk5 hk1 rfl))).trans hk5
      have hG14 : F9 nlA = some (ah_ai D 40 nlf) := (hcg3 nlA (ah_nin1 (ah_ne hk6 hk1 rfl))).trans hk6
      have hG15 : F9 neA = some (ah_ai D 320 nef) := (hcg3 neA (ah_nin1 (ah_ne hk7 hk1 rfl))).trans hk7
      have hG16 : F9 sA = some (ah_ai D 200 sf) := (hcg3 sA (ah_nin1 (ah_ne hk8 hk1 rfl))).trans hk8
      have hC17 : ah_ch F F9 [mo] := ah_ch_t hch1 hcg3 (by intro a ha; simp only [List.mem_cons, List.not_mem_nil, or_false] at ha ⊢; omega)
      refine ah_ifb_eq (tgt := 24) hx hb dX7_choices_10 (by decide) (fun hc10 => ?_) (fun hc10 => ?_)
      · skip
        have hte := md_nxt_n hPok ht hc10
        refine lv_iload_n hx hb dX7_choices_24 rfl (lv_at hl 2 rfl) ?_
        rw [hQ]
        exact ah_iret E hr hP hS ⟨_, _, hm3, hC17, by rw [← hte]⟩ (Nat.le_of_ble_eq_true rfl) (Nat.le_of_ble_eq_true rfl) dX7_choices_25
      · skip
        obtain ⟨j, p, w, r0, hjp1, hjp2, hLt, htl, hPj, hpp, hpw, hj40, hwp, hokw, hokr, hpe⟩ := md_nxt_s hPok ht hc10 hjo3
        rw [hjp1] at hm3
        rw [hjp2] at hm3
        refine lv_aload_n hx hb dX7_choices_13 rfl (lv_at hl 0 rfl) ?_
        refine ah_calli (ah_runV E hP hS (As := []) (rest := []) (b := mo) (m_itsEnd l A D _ hm3 hG10 hG11 hG12 hG13 hG14 hG15 hG16 hL hPj (by omega)) lk_Mod_102 li_Mod_102 hm3 rfl ⟨rfl, rfl, (Nat.le_of_ble_eq_true rfl), (Nat.le_of_ble_eq_true rfl)⟩ rfl hl.1 rfl (Nat.le_of_ble_eq_true rfl) dX7_choices_14 ⟨(Nat.le_of_ble_eq_true rfl), (Nat.le_of_ble_eq_true rfl)⟩) hS (fun r F18 H locs hq hP hS => ?_)
        obtain ⟨rfl, rfl⟩ := hq
        rw [← hpe]
        refine lv_istore_n (lv' := [(3, .int (nI (ah_pe P (ah_chs P S ru) (t + 1)))), (0, .ref mo), (1, .int (nI ru)), (2, .int (nI t))]) hx hb dX7_choices_17 rfl hl (by decide) rfl (fun ls hl => ?_)
        refine lv_iinc (v := (nI (t + 1))) (lv' := [(2, .int (nI (t + 1))), (3, .int (nI (ah_pe P (ah_chs P S ru) (t + 1)))), (0, .ref mo), (1, .int (nI ru))]) hx hb dX7_choices_18 hl (k := 3) rfl (ah_inc _) (by decide) rfl (fun ls hl => ?_)
        refine lv_goto (tgt := 4) hx hb dX7_choices_21 (by decide) ?_
        exact ih4 _ (t + 1) _ _ (by omega) (by omega) hC17 hm3 hG10 hG11 hG12 hG13 hG14 hG15 hG16 _ _ hP hS ls (lv_sub hl [2, 3, 0, 1] rfl)
  exact L4 ((ah_chs P S ru).length + 1) _ 0 _ _ (by omega) (Nat.zero_le _) hch0 hmo hdA htA hlA heA hnlA hneA hsA _ _ hP hS ls (lv_sub hl [2, 3, 1, 0] rfl)

set_option maxHeartbeats 4000000 in
set_option maxRecDepth 100000 in
/-- mostApart -/
theorem m_mostApart (l : Launch) (A : Nat → Prop) (D : ah_G) (F : ah_F) {mo n : Nat} {P : ah_Pt} {dr S : List Nat} {td th : Int32} (hC : md_C D F mo P n dr S td th)  : Met l yX7_mostApart (Cond.code yX7_mostApart cX7_mostApart 1 (some .int) :: ah_T) { frames := 4, cells := 0, slots := 0, locals := 97 } (va_Pc [.ref mo] (ah_B A D F)) (ah_Qi A D (fun (r : Int32) F1 => md_An D F1 mo (0, nI (ah_chs P S 2).length, (P, n, dr, S, td)) r)) 0 0 A := by
  refine ah_met (own := "AhoarchModel") (by decide) rfl (Nat.le_of_ble_eq_true rfl) ?_
  intro p e s m below meth c ls E hr hini hl hP hS Q hQ
  have hx := E.1
  have hb := E.2.1
  have hl : lv_has ls 1 [(0, .ref mo)] := hl
  obtain ⟨dA, tA, lA, eA, nlA, neA, sA, ip, il, ln, df, tf, lf, ef, nlf, nef, sf, hmo, hdA, htA, hlA, heA, hnlA, hneA, hsA, hne1, hne2, hne3, hne4, hL⟩ := id hC
  obtain ⟨hn40, hPn, hdok, hSl, hS200, hPok, hdis, hp20, hln, hlP, hdd, hss⟩ := id hL
  have hdl := hdok.1
  refine lv_aload_n hx hb dX7_mostApart_0 rfl (lv_at hl 0 rfl) ?_
  refine lv_iconst (v := (nI 0)) hx hb dX7_mostApart_1 (by decide) ?_
  refine pf_Mod_32 E hP hS hmo (Nat.le_of_ble_eq_true rfl) dX7_mostApart_2 (fun H locs hP hS => ?_)
  obtain ⟨F1, eF1⟩ : ∃ Fz : ah_F, Fz = ah_up F mo (.inr (7, [.int (nI 0), .ref dA, .int (nI dr.length), .int (nI n), .ref tA, .ref lA, .ref eA, .ref nlA, .ref neA, .ref sA, .int (nI S.length), .int td, .int ip, .int il])) := ⟨_, rfl⟩
  have hP : ah_K A D F1 H := by rw [eF1]; exact hP
  have hF2 : F1 mo = some (.inr (7, [.int (nI 0), .ref dA, .int (nI dr.length), .int (nI n), .ref tA, .ref lA, .ref eA, .ref nlA, .ref neA, .ref sA, .int (nI S.length), .int td, .int ip, .int il])) := by rw [eF1]; exact ah_up_s _ _ _
  have hF3 : F1 dA = some (ah_ai D 8 df) := by rw [eF1]; exact ah_keep hmo hdA rfl
  have hF4 : F1 tA = some (ah_az D 40 tf) := by rw [eF1]; exact ah_keep hmo htA rfl
  have hF5 : F1 lA = some (ah_ai D 40 lf) := by rw [eF1]; exact ah_keep hmo hlA rfl
  have hF6 : F1 eA = some (ah_ai D 320 ef) := by rw [eF1]; exact ah_keep hmo heA rfl
  have hF7 : F1 nlA = some (ah_ai D 40 nlf) := by rw [eF1]; exact ah_keep hmo hnlA rfl
  have hF8 : F1 neA = some (ah_ai D 320 nef) := by rw [eF1]; exact ah_keep hmo hneA rfl
  have hF9 : F1 sA = some (ah_ai D 200 sf) := by rw [eF1]; exact ah_keep hmo hsA rfl
  refine lv_aload_n hx hb dX7_mostApart_5 rfl (lv_at hl 0 rfl) ?_
  refine lv_iconst (v := (nI 2)) hx hb dX7_mostApart_6 (by decide) ?_
  refine ah_calli (ah_runV E hP hS (As := [.int (nI 2)]) (rest := []) (b := mo) (m_choices l A D _ hF2 hF3 hF4 hF5 hF6 hF7 hF8 hF9 hL (ru := 2) (by omega)) lk_Mod_105 li_Mod_105 hF2 rfl ⟨rfl, rfl, (Nat.le_of_ble_eq_true rfl), (Nat.le_of_ble_eq_true rfl)⟩ rfl hl.1 rfl (Nat.le_of_ble_eq_true rfl) dX7_mostApart_7 ⟨(Nat.le_of_ble_eq_true rfl), (Nat.le_of_ble_eq_true rfl)⟩) hS (fun r F10 H locs hfd4 hP hS => ?_)
  obtain ⟨ip4, il4, hm4, hcg4, hro4⟩ := hfd4
  subst hro4
  have hG11 : F10 dA = some (ah_ai D 8 df) := (hcg4 dA (ah_nin1 (ah_ne hF3 hF2 rfl))).trans hF3
  have hG12 : F10 tA = some (ah_az D 40 tf) := (hcg4 tA (ah_nin1 (ah_ne hF4 hF2 rfl))).trans hF4
  have hG13 : F10 lA = some (ah_ai D 40 lf) := (hcg4 lA (ah_nin1 (ah_ne hF5 hF2 rfl))).trans hF5
  have hG14 : F10 eA = some (ah_ai D 320 ef) := (hcg4 eA (ah_nin1 (ah_ne hF6 hF2 rfl))).trans hF6
  have hG15 : F10 nlA = some (ah_ai D 40 nlf) := (hcg4 nlA (ah_nin1 (ah_ne hF7 hF2 rfl))).trans hF7
  have hG16 : F10 neA = some (ah_ai D 320 nef) := (hcg4 neA (ah_nin1 (ah_ne hF8 hF2 rfl))).trans hF8
  have hG17 : F10 sA = some (ah_ai D 200 sf) := (hcg4 sA (ah_nin1 (ah_ne hF9 hF2 rfl))).trans hF9
  rw [hQ]
  exact ah_iret E hr hP hS (md_An_i (k := 0) (v := _) (rfl) ⟨dA, tA, lA, eA, nlA, neA, sA, _, _, ln, _, _, _, _, _, _, _, hm4, hG11, hG12, hG13, hG14, hG15, hG16, hG17, hne1, hne2, hne3, hne4, hL⟩ (fun _ => rfl)) (Nat.le_of_ble_eq_true rfl) (Nat.le_of_ble_eq_true rfl) dX7_mostApart_10

set_option maxHeartbeats 4000000 in
set_option maxRecDepth 100000 in
/-- chosen -/
theorem m_chosen (l : Launch) (A : Nat → Prop) (D : ah_G) (F : ah_F) {mo n : Nat} {P : ah_Pt} {dr S : List Nat} {td th : Int32} (hC : md_C D F mo P n dr S td th) {v0 : Int32} : Met l yX7_chosen (Cond.code yX7_chosen cX7_chosen 2 (some .int) :: ah_T) { frames := 4, cells := 0, slots := 0, locals := 97 } (va_Pc [.ref mo, .int v0] (ah_B A D F)) (ah_Qi A D (fun (r : Int32) F1 => md_An D F1 mo (sp_chosen P n dr S td v0) r)) 0 0 A := by
  refine ah_met (own := "AhoarchModel") (by decide) rfl (Nat.le_of_ble_eq_true rfl) ?_
  intro p e s m below meth c ls E hr hini hl hP hS Q hQ
  have hx := E.1
  have hb := E.2.1
  have hl : lv_has ls 2 [(0, .ref mo), (1, .int v0)] := hl
  obtain ⟨dA, tA, lA, eA, nlA, neA, sA, ip, il, ln, df, tf, lf, ef, nlf, nef, sf, hmo, hdA, htA, hlA, heA, hnlA, hneA, hsA, hne1, hne2, hne3, hne4, hL⟩ := id hC
  obtain ⟨hn40, hPn, hdok, hSl, hS200, hPok, hdis, hp20, hln, hlP, hdd, hss⟩ := id hL
  have hdl := hdok.1
  refine lv_aload_n hx hb dX7_chosen_0 rfl (lv_at hl 0 rfl) ?_
  refine lv_aload_n hx hb dX7_chosen_1 rfl (lv_at hl 0 rfl) ?_
  refine lv_iload_n hx hb dX7_chosen_2 rfl (lv_at hl 1 rfl) ?_
  refine ah_calli (ah_runV E hP hS (As := [.int v0]) (rest := [.ref mo]) (b := mo) (m_isRule l A D _ hmo (v0 := v0)) lk_Mod_108 li_Mod_108 hmo rfl ⟨rfl, rfl, (Nat.le_of_ble_eq_true rfl), (Nat.le_of_ble_eq_true rfl)⟩ rfl hl.1 rfl (Nat.le_of_ble_eq_true rfl) dX7_chosen_3 ⟨(Nat.le_of_ble_eq_true rfl), (Nat.le_of_ble_eq_true rfl)⟩) hS (fun r F1 H locs hq hP hS => ?_)
  obtain ⟨rfl, rfl⟩ := hq
  refine ah_ifb_eq (tgt := 13) hx hb dX7_chosen_6 (by decide) (fun hc6 => ?_) (fun hc6 => ?_)
  · skip
    have hnone := md_none hc6
    refine lv_iconst (v := (nI 1)) hx hb dX7_chosen_13 (by decide) ?_
    refine ah_calli (ah_runV E hP hS (As := [.int (nI 1)]) (rest := []) (b := mo) (m_holds l A D _ hmo hdA htA hlA heA hnlA hneA hsA hL (k := 1) (by omega)) lk_Mod_46 li_Mod_46 hmo rfl ⟨rfl, rfl, (Nat.le_of_ble_eq_true rfl), (Nat.le_of_ble_eq_true rfl)⟩ rfl hl.1 rfl (Nat.le_of_ble_eq_true rfl) dX7_chosen_14 ⟨(Nat.le_of_ble_eq_true rfl), (Nat.le_of_ble_eq_true rfl)⟩) hS (fun r F2 H locs hho14 hP hS => ?_)
    obtain ⟨eho14, hro⟩ := hho14
    have hG3 : F2 dA = some (ah_ai D 8 df) := by rw [eho14]; exact ah_keep hmo hdA rfl
    have hG4 : F2 tA = some (ah_az D 40 tf) := by rw [eho14]; exact ah_keep hmo htA rfl
    have hG5 : F2 lA = some (ah_ai D 40 lf) := by rw [eho14]; exact ah_keep hmo hlA rfl
    have hG6 : F2 eA = some (ah_ai D 320 ef) := by rw [eho14]; exact ah_keep hmo heA rfl
    have hG7 : F2 nlA = some (ah_ai D 40 nlf) := by rw [eho14]; exact ah_keep hmo hnlA rfl
    have hG8 : F2 neA = some (ah_ai D 320 nef) := by rw [eho14]; exact ah_keep hmo hneA rfl
    have hG9 : F2 sA = some (ah_ai D 200 sf) := by rw [eho14]; exact ah_keep hmo hsA rfl
    have hG10 : F2 mo = some (.inr (7, [.int (nI 1), .ref dA, .int (nI dr.length), .int (nI n), .ref tA, .ref lA, .ref eA, .ref nlA, .ref neA, .ref sA, .int (nI S.length), .int td, .int ip, .int il])) := by rw [eho14]; exact ah_up_s _ _ _
    subst hro
    refine ah_ifb_eq (tgt := 28) hx hb dX7_chosen_17 (by decide) (fun hc17 => ?_) (fun hc17 => ?_)
    · skip
      refine lv_iconst (v := (nI 0)) hx hb dX7_chosen_28 (by decide) ?_
      rw [hQ]
      exact ah_iret E hr hP hS (md_An_i (k := 1) (v := 0) (by simp only [sp_chosen, hnone]) ⟨dA, tA, lA, eA, nlA, neA, sA, _, _, ln, _, _, _, _, _, _, _, hG10, hG3, hG4, hG5, hG6, hG7, hG8, hG9, hne1, hne2, hne3, hne4, hL⟩ (fun h => absurd h (by decide))) (Nat.le_of_ble_eq_true rfl) (Nat.le_of_ble_eq_true rfl) dX7_chosen_29
    · skip
      exact absurd hc17 (by decide)
  · skip
    obtain ⟨ru, hrl⟩ := Option.isSome_iff_exists.mp hc6
    obtain ⟨hru, hrv⟩ := md_rul hrl
    rw [hrv] at hl
    refine lv_iconst (v := (nI 0)) hx hb dX7_chosen_9 (by decide) ?_
    refine lv_goto (tgt := 14) hx hb dX7_chosen_10 (by decide) ?_
    refine ah_calli (ah_runV E hP hS (As := [.int (nI 0)]) (rest := []) (b := mo) (m_holds l A D _ hmo hdA htA hlA heA hnlA hneA hsA hL (k := 0) (by omega)) lk_Mod_46 li_Mod_46 hmo rfl ⟨rfl, rfl, (Nat.le_of_ble_eq_true rfl), (Nat.le_of_ble_eq_true rfl)⟩ rfl hl.1 rfl (Nat.le_of_ble_eq_true rfl) dX7_chosen_14 ⟨(Nat.le_of_ble_eq_true rfl), (Nat.le_of_ble_eq_true rfl)⟩) hS (fun r F11 H locs hho14 hP hS => ?_)
    obtain ⟨eho14, hro⟩ := hho14
    have hG12 : F11 dA = some (ah_ai D 8 df) := by rw [eho14]; exact ah_keep hmo hdA rfl
    have hG13 : F11 tA = some (ah_az D 40 tf) := by rw [eho14]; exact ah_keep hmo htA rfl
    have hG14 : F11 lA = some (ah_ai D 40 lf) := by rw [eho14]; exact ah_keep hmo hlA rfl
    have hG15 : F11 eA = some (ah_ai D 320 ef) := by rw [eho14]; exact ah_keep hmo heA rfl
    have hG16 : F11 nlA = some (ah_ai D 40 nlf) := by rw [eho14]; exact ah_keep hmo hnlA rfl
    have hG17 : F11 neA = some (ah_ai D 320 nef) := by rw [eho14]; exact ah_keep hmo hneA rfl
    have hG18 : F11 sA = some (ah_ai D 200 sf) := by rw [eho14]; exact ah_keep hmo hsA rfl
    have hG19 : F11 mo = some (.inr (7, [.int (nI 0), .ref dA, .int (nI dr.length), .int (nI n), .ref tA, .ref lA, .ref eA, .ref nlA, .ref neA, .ref sA, .int (nI S.length), .int td, .int ip, .int il])) := by rw [eho14]; exact ah_up_s _ _ _
    subst hro
    refine ah_ifb_eq (tgt := 28) hx hb dX7_chosen_17 (by decide) (fun hc17 => ?_) (fun hc17 => ?_)
    · skip
      exact absurd hc17 (by decide)
    · skip
      refine lv_aload_n hx hb dX7_chosen_20 rfl (lv_at hl 0 rfl) ?_
      refine lv_iload_n hx hb dX7_chosen_21 rfl (lv_at hl 1 rfl) ?_
      refine ah_calli (ah_runV E hP hS (As := [.int (nI ru)]) (rest := []) (b := mo) (m_choices l A D _ hG19 hG12 hG13 hG14 hG15 hG16 hG17 hG18 hL (ru := ru) hru) lk_Mod_105 li_Mod_105 hG19 rfl ⟨rfl, rfl, (Nat.le_of_ble_eq_true rfl), (Nat.le_of_ble_eq_true rfl)⟩ rfl hl.1 rfl (Nat.le_of_ble_eq_true rfl) dX7_chosen_22 ⟨(Nat.le_of_ble_eq_true rfl), (Nat.le_of_ble_eq_true rfl)⟩) hS (fun r F20 H locs hfd4 hP hS => ?_)
      obtain ⟨ip4, il4, hm4, hcg4, hro4⟩ := hfd4
      subst hro4
      have hG21 : F20 dA = some (ah_ai D 8 df) := (hcg4 dA (ah_nin1 (ah_ne hG12 hG19 rfl))).trans hG12
      have hG22 : F20 tA = some (ah_az D 40 tf) := (hcg4 tA (ah_nin1 (ah_ne hG13 hG19 rfl))).trans hG13
      have hG23 : F20 lA = some (ah_ai D 40 lf) := (hcg4 lA (ah_nin1 (ah_ne hG14 hG19 rfl))).trans hG14
      have hG24 : F20 eA = some (ah_ai D 320 ef) := (hcg4 eA (ah_nin1 (ah_ne hG15 hG19 rfl))).trans hG15
      have hG25 : F20 nlA = some (ah_ai D 40 nlf) := (hcg4 nlA (ah_nin1 (ah_ne hG16 hG19 rfl))).trans hG16
      have hG26 : F20 neA = some (ah_ai D 320 nef) := (hcg4 neA (ah_nin1 (ah_ne hG17 hG19 rfl))).trans hG17
      have hG27 : F20 sA = some (ah_ai D 200 sf) := (hcg4 sA (ah_nin1 (ah_ne hG18 hG19 rfl))).trans hG18
      refine lv_goto (tgt := 29) hx hb dX7_chosen_25 (by decide) ?_
      rw [hQ]
      exact ah_iret E hr hP hS (md_An_i (k := 0) (v := nI (ah_chs P S ru).length) (by simp only [sp_chosen, hrl]) ⟨dA, tA, lA, eA, nlA, neA, sA, _, _, ln, _, _, _, _, _, _, _, hm4, hG21, hG22, hG23, hG24, hG25, hG26, hG27, hne1, hne2, hne3, hne4, hL⟩ (fun _ => rfl)) (Nat.le_of_ble_eq_true rfl) (Nat.le_of_ble_eq_true rfl) dX7_chosen_29

set_option maxHeartbeats 4000000 in
set_option maxRecDepth 100000 in
/-- isChosen -/
theorem m_isChosen (l : Launch) (A : Nat → Prop) (D : ah_G) (F : ah_F) {mo dA tA lA eA nlA neA sA n : Nat} {P : ah_Pt} {dr S : List Nat} {td th ip il : Int32} {ln : Nat → Nat} {df tf lf ef nlf nef sf : Nat → Int32} (hmo : F mo = some (.inr (7, [.int th, .ref dA, .int (nI dr.length), .int (nI n), .ref tA, .ref lA, .ref eA, .ref nlA, .ref neA, .ref sA, .int (nI S.length), .int td, .int ip, .int il]))) (hdA : F dA = some (ah_ai D 8 df)) (htA : F tA = some (ah_az D 40 tf)) (hlA : F lA = some (ah_ai D 40 lf)) (heA : F eA = some (ah_ai D 320 ef)) (hnlA : F nlA = some (ah_ai D 40 nlf)) (hneA : F neA = some (ah_ai D 320 nef)) (hsA : F sA = some (ah_ai D 200 sf)) (hL : md_L P n dr S ln df tf lf ef nlf nef sf) {v0 v1 : Int32} : Met l yX7_isChosen (Cond.code yX7_isChosen cX7_isChosen 7 (some .boolean) :: ah_T) { frames := 4, cells := 0, slots := 0, locals := 97 } (va_Pc [.ref mo, .int v0, .int v1] (ah_B A D F)) (ah_Qi A D (fun (r : Int32) F1 => ∃ (k9 : Nat) (ip1 il1 : Int32), F1 mo = some (.inr (7, [.int (nI k9), .ref dA, .int (nI dr.length), .int (nI n), .ref tA, .ref lA, .ref eA, .ref nlA, .ref neA, .ref sA, .int (nI S.length), .int td, .int ip1, .int il1])) ∧ ah_ch F F1 [mo] ∧ ((k9 = 1 ∧ ah_rul v0 = none ∧ bI_ false = r) ∨ (∃ ru : Nat, k9 = 2 ∧ ah_rul v0 = some ru ∧ ah_ixn (ah_chs P S ru).length v1 = none ∧ bI_ false = r) ∨ ∃ ru t j p : Nat, k9 = 0 ∧ ah_rul v0 = some ru ∧ ah_ixn (ah_chs P S ru).length v1 = some t ∧ (ah_chs P S ru)[t]? = some (j, p) ∧ ip1 = nI j ∧ il1 = nI p ∧ bI_ true = r))) 0 0 A := by
  refine ah_met (own := "AhoarchModel") (by decide) rfl (Nat.le_of_ble_eq_true rfl) ?_
  intro p e s m below meth c ls E hr hini hl hP hS Q hQ
  have hx := E.1
  have hb := E.2.1
  have hl : lv_has ls 7 [(0, .ref mo), (1, .int v0), (2, .int v1)] := hl
  obtain ⟨hn40, hPn, hdok, hSl, hS200, hPok, hdis, hp20, hln, hlP, hdd, hss⟩ := id hL
  have hdl := hdok.1
  have hch0 : ah_ch F F [mo] := ah_ch_r _ _
  refine lv_aload_n hx hb dX7_isChosen_0 rfl (lv_at hl 0 rfl) ?_
  refine lv_iload_n hx hb dX7_isChosen_1 rfl (lv_at hl 1 rfl) ?_
  refine ah_calli (ah_runV E hP hS (As := [.int v0]) (rest := []) (b := mo) (m_isRule l A D _ hmo (v0 := v0)) lk_Mod_108 li_Mod_108 hmo rfl ⟨rfl, rfl, (Nat.le_of_ble_eq_true rfl), (Nat.le_of_ble_eq_true rfl)⟩ rfl hl.1 rfl (Nat.le_of_ble_eq_true rfl) dX7_isChosen_2 ⟨(Nat.le_of_ble_eq_true rfl), (Nat.le_of_ble_eq_true rfl)⟩) hS (fun r F1 H locs hq hP hS => ?_)
  obtain ⟨rfl, rfl⟩ := hq
  refine lv_istore_n (lv' := [(3, .int (bI_ ((ah_rul v0).isSome))), (0, .ref mo), (1, .int v0), (2, .int v1)]) hx hb dX7_isChosen_5 rfl hl (by decide) rfl (fun ls hl => ?_)
  refine lv_aload_n hx hb dX7_isChosen_6 rfl (lv_at hl 1 rfl) ?_
  refine lv_iload_n hx hb dX7_isChosen_7 rfl (lv_at hl 0 rfl) ?_
  refine ah_ifb_ne (tgt := 15) hx hb dX7_isChosen_8 (by decide) (fun hc8 => ?_) (fun hc8 => ?_)
  · skip
    obtain ⟨ru, hrl⟩ := Option.isSome_iff_exists.mp hc8
    obtain ⟨hru, hrv⟩ := md_rul hrl
    rw [hrv] at hl
    have hcl := md_chs_le (S := S) hPok ru
    refine lv_iload_n hx hb dX7_isChosen_15 rfl (lv_at hl 3 rfl) ?_
    refine lv_if_lt (tgt := 28) hx hb dX7_isChosen_16 (by decide) (fun hc16 => ?_) (fun hc16 => ?_)
    · skip
      have hkn : ah_ixn (ah_chs P S ru).length v1 = none := ah_ixn_neg hc16
      refine lv_iconst (v := (nI 2)) hx hb dX7_isChosen_28 (by decide) ?_
      refine lv_goto (tgt := 33) hx hb dX7_isChosen_29 (by decide) ?_
      refine ah_calli (ah_runV E hP hS (As := [.int (nI 2)]) (rest := []) (b := mo) (m_holds l A D _ hmo hdA htA hlA heA hnlA hneA hsA hL (k := 2) (by omega)) lk_Mod_46 li_Mod_46 hmo rfl ⟨rfl, rfl, (Nat.le_of_ble_eq_true rfl), (Nat.le_of_ble_eq_true rfl)⟩ rfl hl.1 rfl (Nat.le_of_ble_eq_true rfl) dX7_isChosen_33 ⟨(Nat.le_of_ble_eq_true rfl), (Nat.le_of_ble_eq_true rfl)⟩) hS (fun r F2 H locs hho33 hP hS => ?_)
      obtain ⟨eho33, hro⟩ := hho33
      have hG3 : F2 dA = some (ah_ai D 8 df) := by rw [eho33]; exact ah_keep hmo hdA rfl
      have hG4 : F2 tA = some (ah_az D 40 tf) := by rw [eho33]; exact ah_keep hmo htA rfl
      have hG5 : F2 lA = some (ah_ai D 40 lf) := by rw [eho33]; exact ah_keep hmo hlA rfl
      have hG6 : F2 eA = some (ah_ai D 320 ef) := by rw [eho33]; exact ah_keep hmo heA rfl
      have hG7 : F2 nlA = some (ah_ai D 40 nlf) := by rw [eho33]; exact ah_keep hmo hnlA rfl
      have hG8 : F2 neA = some (ah_ai D 320 nef) := by rw [eho33]; exact ah_keep hmo hneA rfl
      have hG9 : F2 sA = some (ah_ai D 200 sf) := by rw [eho33]; exact ah_keep hmo hsA rfl
      have hG10 : F2 mo = some (.inr (7, [.int (nI 2), .ref dA, .int (nI dr.length), .int (nI n), .ref tA, .ref lA, .ref eA, .ref nlA, .ref neA, .ref sA, .int (nI S.length), .int td, .int ip, .int il])) := by rw [eho33]; exact ah_up_s _ _ _
      have hC11 : ah_ch F F2 [mo] := by rw [eho33]; exact ah_ch_u hch0 (by simp)
      subst hro
      refine ah_ifb_ne (tgt := 41) hx hb dX7_isChosen_36 (by decide) (fun hc36 => ?_) (fun hc36 => ?_)
      · skip
        exact absurd hc36 (by decide)
      · skip
        refine lv_iconst (v := (bI_ false)) hx hb dX7_isChosen_39 (by decide) ?_
        rw [hQ]
        exact ah_zret E hr (by first | exact bI_nz _ | decide) hP hS ⟨2, _, _, hG10, hC11, Or.inr (Or.inl ⟨ru, rfl, hrl, hkn, rfl⟩)⟩ (Nat.le_of_ble_eq_true rfl) (Nat.le_of_ble_eq_true rfl) dX7_isChosen_40
    · skip
      refine lv_iload_n hx hb dX7_isChosen_19 rfl (lv_at hl 3 rfl) ?_
      refine lv_aload_n hx hb dX7_isChosen_20 rfl (lv_at hl 1 rfl) ?_
      refine lv_iload_n hx hb dX7_isChosen_21 rfl (lv_at hl 2 rfl) ?_
      refine ah_calli (ah_runV E hP hS (As := [.int (nI ru)]) (rest := [.int v1, .ref mo]) (b := mo) (m_choices l A D _ hmo hdA htA hlA heA hnlA hneA hsA hL (ru := ru) hru) lk_Mod_105 li_Mod_105 hmo rfl ⟨rfl, rfl, (Nat.le_of_ble_eq_true rfl), (Nat.le_of_ble_eq_true rfl)⟩ rfl hl.1 rfl (Nat.le_of_ble_eq_true rfl) dX7_isChosen_22 ⟨(Nat.le_of_ble_eq_true rfl), (Nat.le_of_ble_eq_true rfl)⟩) hS (fun r F12 H locs hfd4 hP hS => ?_)
      obtain ⟨ip4, il4, hm4, hcg4, hro4⟩ := hfd4
      subst hro4
      have hG13 : F12 dA = some (ah_ai D 8 df) := (hcg4 dA (ah_nin1 (ah_ne hdA hmo rfl))).trans hdA
      have hG14 : F12 tA = some (ah_az D 40 tf) := (hcg4 tA (ah_nin1 (ah_ne htA hmo rfl))).trans htA
      have hG15 : F12 lA = some (ah_ai D 40 lf) := (hcg4 lA (ah_nin1 (ah_ne hlA hmo rfl))).trans hlA
      have hG16 : F12 eA = some (ah_ai D 320 ef) := (hcg4 eA (ah_nin1 (ah_ne heA hmo rfl))).trans heA
      have hG17 : F12 nlA = some (ah_ai D 40 nlf) := (hcg4 nlA (ah_nin1 (ah_ne hnlA hmo rfl))).trans hnlA
      have hG18 : F12 neA = some (ah_ai D 320 nef) := (hcg4 neA (ah_nin1 (ah_ne hneA hmo rfl))).trans hneA
      have hG19 : F12 sA = some (ah_ai D 200 sf) := (hcg4 sA (ah_nin1 (ah_ne hsA hmo rfl))).trans hsA
      have hC20 : ah_ch F F12 [mo] := ah_ch_t hch0 hcg4 (by intro a ha; simp only [List.mem_cons, List.not_mem_nil, or_false] at ha ⊢; omega)
      refine lv_icmp_lt (tgt := 32) hx hb dX7_isChosen_25 (by decide) (fun hc25 => ?_) (fun hc25 => ?_)
      · skip
        obtain ⟨t0, ht0, hvt⟩ : ∃ t0 : Nat, t0 < (ah_chs P S ru).length ∧ v1 = nI t0 := by
          rcases pk_ix v1 (n := (ah_chs P S ru).length) (by omega) with h | h | h
          · exact absurd h hc16
          · exact absurd h (Int32.not_le.mpr hc25)
          · exact h
        have hix : ah_ixn (ah_chs P S ru).length v1 = some t0 := by rw [hvt]; exact ah_ixn_in ht0 (by omega)
        rw [hvt] at hl
        refine lv_iconst (v := (nI 0)) hx hb dX7_isChosen_32 (by decide) ?_
        refine ah_calli (ah_runV E hP hS (As := [.int (nI 0)]) (rest := []) (b := mo) (m_holds l A D _ hm4 hG13 hG14 hG15 hG16 hG17 hG18 hG19 hL (k := 0) (by omega)) lk_Mod_46 li_Mod_46 hm4 rfl ⟨rfl, rfl, (Nat.le_of_ble_eq_true rfl), (Nat.le_of_ble_eq_true rfl)⟩ rfl hl.1 rfl (Nat.le_of_ble_eq_true rfl) dX7_isChosen_33 ⟨(Nat.le_of_ble_eq_true rfl), (Nat.le_of_ble_eq_true rfl)⟩) hS (fun r F21 H locs hho33 hP hS => ?_)
        obtain ⟨eho33, hro⟩ := hho33
        have hG22 : F21 dA = some (ah_ai D 8 df) := by rw [eho33]; exact ah_keep hm4 hG13 rfl
        have hG23 : F21 tA = some (ah_az D 40 tf) := by rw [eho33]; exact ah_keep hm4 hG14 rfl
        have hG24 : F21 lA = some (ah_ai D 40 lf) := by rw [eho33]; exact ah_keep hm4 hG15 rfl
        have hG25 : F21 eA = some (ah_ai D 320 ef) := by rw [eho33]; exact ah_keep hm4 hG16 rfl
        have hG26 : F21 nlA = some (ah_ai D 40 nlf) := by rw [eho33]; exact ah_keep hm4 hG17 rfl
        have hG27 : F21 neA = some (ah_ai D 320 nef) := by rw [eho33]; exact ah_keep hm4 hG18 rfl
        have hG28 : F21 sA = some (ah_ai D 200 sf) := by rw [eho33]; exact ah_keep hm4 hG19 rfl
        have hG29 : F21 mo = some (.inr (7, [.int (nI 0), .ref dA, .int (nI dr.length), .int (nI n), .ref tA, .ref lA, .ref eA, .ref nlA, .ref neA, .ref sA, .int (nI S.length), .int td, .int ip4, .int il4])) := by rw [eho33]; exact ah_up_s _ _ _
        have hC30 : ah_ch F F21 [mo] := by rw [eho33]; exact ah_ch_u hC20 (by simp)
        subst hro
        refine ah_ifb_ne (tgt := 41) hx hb dX7_isChosen_36 (by decide) (fun hc36 => ?_) (fun hc36 => ?_)
        · skip
          refine lv_iconst (v := (nI 0)) hx hb dX7_isChosen_41 (by decide) ?_
          refine lv_istore (lv' := [(4, .int (nI 0)), (3, .int (bI_ ((ah_rul (nI ru)).isSome))), (0, .ref mo), (1, .int (nI ru)), (2, .int (nI t0))]) hx hb dX7_isChosen_42 hl (by decide) rfl (fun ls hl => ?_)
          refine lv_iconst (v := (bI_ false)) hx hb dX7_isChosen_44 (by decide) ?_
          refine lv_istore (lv' := [(5, .int (bI_ false)), (4, .int (nI 0)), (3, .int (bI_ ((ah_rul (nI ru)).isSome))), (0, .ref mo), (1, .int (nI ru)), (2, .int (nI t0))]) hx hb dX7_isChosen_45 hl (by decide) rfl (fun ls hl => ?_)
          refine lv_iconst (v := (nI 0)) hx hb dX7_isChosen_47 (by decide) ?_
          refine lv_istore (lv' := [(6, .int (nI 0)), (5, .int (bI_ false)), (4, .int (nI 0)), (3, .int (bI_ ((ah_rul (nI ru)).isSome))), (0, .ref mo), (1, .int (nI ru)), (2, .int (nI t0))]) hx hb dX7_isChosen_48 hl (by decide) rfl (fun ls hl => ?_)
          have L50 : ∀ (fuel : Nat), ∀ (Fv : ah_F) (t : Nat) (b : Bool) (ip1 il1 : Int32), t0 + 1 - t < fuel → t ≤ t0 + 1 → (∀ t2, t = t2 + 1 → b = true ∧ ∃ j p : Nat, (ah_chs P S ru)[t2]? = some (j, p) ∧ ip1 = nI j ∧ il1 = nI p) → ah_ch F Fv [mo] → Fv mo = some (.inr (7, [.int (nI 0), .ref dA, .int (nI dr.length), .int (nI n), .ref tA, .ref lA, .ref eA, .ref nlA, .ref neA, .ref sA, .int (nI S.length), .int td, .int ip1, .int il1])) → Fv dA = some (ah_ai D 8 df) → Fv tA = some (ah_az D 40 tf) → Fv lA = some (ah_ai D 40 lf) → Fv eA = some (ah_ai D 320 ef) → Fv nlA = some (ah_ai D 40 nlf) → Fv neA = some (ah_ai D 320 nef) → Fv sA = some (ah_ai D 200 sf) → ∀ (H : Heap) (locs : List Loc), ah_K A D Fv H → va_S A s.heap H locs → ∀ (ls : Array Slot), lv_has ls 7 [(0, .ref mo), (1, .int (nI ru)), (2, .int (nI t0)), (4, .int (nI (ah_pe P (ah_chs P S ru) t))), (5, .int (bI_ b)), (6, .int (nI t))] → W p l e { frames := 4, cells := 0, slots := 0, locals := 97 } s m [.ref mo, .int v0, .int v1].toArray below meth c H locs (((0 + 0) + 0) + 0) (((0 + 0) + 0) + 0) Q (F0 m 50 ls []) := by
            intro fuel
            induction fuel with
            | zero =>
              intro Fv t b ip1 il1 hm
              exact absurd hm (Nat.not_lt_zero _)
            | succ fuel ih50 =>
              intro Fv t b ip1 il1 hm ht1 hin hch1 hk31 hk32 hk33 hk34 hk35 hk36 hk37 hk38 H locs hP hS ls hl
              refine lv_iload hx hb dX7_isChosen_50 (lv_at hl 5 rfl) ?_
              refine lv_iload_n hx hb dX7_isChosen_52 rfl (lv_at hl 2 rfl) ?_
              refine ah_icmp_gt (tgt := 77) hx hb (by omega) (by omega) dX7_isChosen_53 (by decide) (fun hc53 => ?_) (fun hc53 => ?_)
              · skip
                obtain ⟨hbt, j, p, hLt, hjp1, hjp2⟩ := hin t0 (by omega)
                rw [hbt] at hl
                refine lv_iload hx hb dX7_isChosen_77 (lv_at hl 4 rfl) ?_
                rw [hQ]
                exact ah_zret E hr (by first | exact bI_nz _ | decide) hP hS ⟨0, _, _, hk31, hch1, Or.inr (Or.inr ⟨ru, t0, j, p, rfl, hrl, hix, hLt, hjp1, hjp2, rfl⟩)⟩ (Nat.le_of_ble_eq_true rfl) (Nat.le_of_ble_eq_true rfl) dX7_isChosen_79
              · skip
                have ht : t ≤ (ah_chs P S ru).length := by omega
                refine lv_aload_n hx hb dX7_isChosen_56 rfl (lv_at hl 0 rfl) ?_
                refine lv_iload_n hx hb dX7_isChosen_57 rfl (lv_at hl 1 rfl) ?_
                refine lv_iload hx hb dX7_isChosen_58 (lv_at hl 3 rfl) ?_
                refine ah_calli (ah_runV E hP hS (As := [.int (nI ru), .int (nI (ah_pe P (ah_chs P S ru) t))]) (rest := []) (b := mo) (m_finds l A D _ hk31 hk32 hk33 hk34 hk35 hk36 hk37 hk38 hL hru (md_pe_le hPok ht)) lk_Mod_99 li_Mod_99 hk31 rfl ⟨rfl, rfl, (Nat.le_of_ble_eq_true rfl), (Nat.le_of_ble_eq_true rfl)⟩ rfl hl.1 rfl (Nat.le_of_ble_eq_true rfl) dX7_isChosen_60 ⟨(Nat.le_of_ble_eq_true rfl), (Nat.le_of_ble_eq_true rfl)⟩) hS (fun r F39 H locs hfd3 hP hS => ?_)
                obtain ⟨ip3, il3, hm3, hcg3, hro3, hjo3⟩ := hfd3
                subst hro3
                have hG40 : F39 dA = some (ah_ai D 8 df) := (hcg3 dA (ah_nin1 (ah_ne hk32 hk31 rfl))).trans hk32
                have hG41 : F39 tA = some (ah_az D 40 tf) := (hcg3 tA (ah_nin1 (ah_ne hk33 hk31 rfl))).trans hk33
                have hG42 : F39 lA = some (ah_ai D 40 lf) := (hcg3 lA (ah_nin1 (ah_ne hk34 hk31 rfl))).trans hk34
                have hG43 : F39 eA = some (ah_ai D 320 ef) := (hcg3 eA (ah_nin1 (ah_ne hk35 hk31 rfl))).trans hk35
                have hG44 : F39 nlA = some (ah_ai D 40 nlf) := (hcg3 nlA (ah_nin1 (ah_ne hk36 hk31 rfl))).trans hk36
                have hG45 : F39 neA = some (ah_ai D 320 nef) := (hcg3 neA (ah_nin1 (ah_ne hk37 hk31 rfl))).trans hk37
                have hG46 : F39 sA = some (ah_ai D 200 sf) := (hcg3 sA (ah_nin1 (ah_ne hk38 hk31 rfl))).trans hk38
                have hC47 : ah_ch F F39 [mo] := ah_ch_t hch1 hcg3 (by intro a ha; simp only [List.mem_cons, List.not_mem_nil, or_false] at ha ⊢; omega)
                have hbs : (md_nx P S ru (ah_pe P (ah_chs P S ru) t)).isSome = true := by rw [md_nx_at hPok ht, List.getElem?_eq_getElem (by omega)]; rfl
                rw [hbs]
                obtain ⟨j, p, w, r0, hjp1, hjp2, hLt, htl, hPj, hpp, hpw, hj40, hwp, hokw, hokr, hpe⟩ := md_nxt_s hPok ht hbs hjo3
                rw [hjp1] at hm3
                rw [hjp2] at hm3
                refine lv_istore (lv' := [(5, .int (bI_ true)), (0, .ref mo), (1, .int (nI ru)), (2, .int (nI t0)), (4, .int (nI (ah_pe P (ah_chs P S ru) t))), (6, .int (nI t))]) hx hb dX7_isChosen_63 hl (by decide) rfl (fun ls hl => ?_)
                refine lv_aload_n hx hb dX7_isChosen_65 rfl (lv_at hl 1 rfl) ?_
                refine ah_calli (ah_runV E hP hS (As := []) (rest := []) (b := mo) (m_itsEnd l A D _ hm3 hG40 hG41 hG42 hG43 hG44 hG45 hG46 hL hPj (by omega)) lk_Mod_102 li_Mod_102 hm3 rfl ⟨rfl, rfl, (Nat.le_of_ble_eq_true rfl), (Nat.le_of_ble_eq_true rfl)⟩ rfl hl.1 rfl (Nat.le_of_ble_eq_true rfl) dX7_isChosen_66 ⟨(Nat.le_of_ble_eq_true rfl), (Nat.le_of_ble_eq_true rfl)⟩) hS (fun r F48 H locs hq hP hS => ?_)
                obtain ⟨rfl, rfl⟩ := hq
                rw [← hpe]
                refine lv_istore (lv' := [(4, .int (nI (ah_pe P (ah_chs P S ru) (t + 1)))), (5, .int (bI_ true)), (0, .ref mo), (1, .int (nI ru)), (2, .int (nI t0)), (6, .int (nI t))]) hx hb dX7_isChosen_69 hl (by decide) rfl (fun ls hl => ?_)
                refine lv_iinc (v := (nI (t + 1))) (lv' := [(6, .int (nI (t + 1))), (4, .int (nI (ah_pe P (ah_chs P S ru) (t + 1)))), (5, .int (bI_ true)), (0, .ref mo), (1, .int (nI ru)), (2, .int (nI t0))]) hx hb dX7_isChosen_71 hl (k := 5) rfl (ah_inc _) (by decide) rfl (fun ls hl => ?_)
                refine lv_goto (tgt := 50) hx hb dX7_isChosen_74 (by decide) ?_
                exact ih50 _ (t + 1) true _ _ (by omega) (by omega) (fun t2 h => ⟨rfl, j, p, by rw [← show t = t2 by omega]; exact hLt, rfl, rfl⟩) hC47 hm3 hG40 hG41 hG42 hG43 hG44 hG45 hG46 _ _ hP hS ls (lv_sub hl [3, 4, 5, 1, 2, 0] rfl)
          exact L50 (t0 + 1 + 1) _ 0 false _ _ (by omega) (Nat.zero_le _) (fun t2 h => absurd h (by omega)) hC30 hG29 hG22 hG23 hG24 hG25 hG26 hG27 hG28 _ _ hP hS ls (lv_sub hl [4, 5, 6, 2, 1, 0] rfl)
        · skip
          exact absurd hc36 (by decide)
      · skip
        have hkn : ah_ixn (ah_chs P S ru).length v1 = none := ah_ixn_ge (by omega) (Int32.not_lt.mp hc25)
        refine lv_iconst (v := (nI 2)) hx hb dX7_isChosen_28 (by decide) ?_
        refine lv_goto (tgt := 33) hx hb dX7_isChosen_29 (by decide) ?_
        refine ah_calli (ah_runV E hP hS (As := [.int (nI 2)]) (rest := []) (b := mo) (m_holds l A D _ hm4 hG13 hG14 hG15 hG16 hG17 hG18 hG19 hL (k := 2) (by omega)) lk_Mod_46 li_Mod_46 hm4 rfl ⟨rfl, rfl, (Nat.le_of_ble_eq_true rfl), (Nat.le_of_ble_eq_true rfl)⟩ rfl hl.1 rfl (Nat.le_of_ble_eq_true rfl) dX7_isChosen_33 ⟨(Nat.le_of_ble_eq_true rfl), (Nat.le_of_ble_eq_true rfl)⟩) hS (fun r F49 H locs hho33 hP hS => ?_)
        obtain ⟨eho33, hro⟩ := hho33
        have hG50 : F49 dA = some (ah_ai D 8 df) := by rw [eho33]; exact ah_keep hm4 hG13 rfl
        have hG51 : F49 tA = some (ah_az D 40 tf) := by rw [eho33]; exact ah_keep hm4 hG14 rfl
        have hG52 : F49 lA = some (ah_ai D 40 lf) := by rw [eho33]; exact ah_keep hm4 hG15 rfl
        have hG53 : F49 eA = some (ah_ai D 320 ef) := by rw [eho33]; exact ah_keep hm4 hG16 rfl
        have hG54 : F49 nlA = some (ah_ai D 40 nlf) := by rw [eho33]; exact ah_keep hm4 hG17 rfl
        have hG55 : F49 neA = some (ah_ai D 320 nef) := by rw [eho33]; exact ah_keep hm4 hG18 rfl
        have hG56 : F49 sA = some (ah_ai D 200 sf) := by rw [eho33]; exact ah_keep hm4 hG19 rfl
        have hG57 : F49 mo = some (.inr (7, [.int (nI 2), .ref dA, .int (nI dr.length), .int (nI n), .ref tA, .ref lA, .ref eA, .ref nlA, .ref neA, .ref sA, .int (nI S.length), .int td, .int ip4, .int il4])) := by rw [eho33]; exact ah_up_s _ _ _
        have hC58 : ah_ch F F49 [mo] := by rw [eho33]; exact ah_ch_u hC20 (by simp)
        subst hro
        refine ah_ifb_ne (tgt := 41) hx hb dX7_isChosen_36 (by decide) (fun hc36 => ?_) (fun hc36 => ?_)
        · skip
          exact absurd hc36 (by decide)
        · skip
          refine lv_iconst (v := (bI_ false)) hx hb dX7_isChosen_39 (by decide) ?_
          rw [hQ]
          exact ah_zret E hr (by first | exact bI_nz _ | decide) hP hS ⟨2, _, _, hG57, hC58, Or.inr (Or.inl ⟨ru, rfl, hrl, hkn, rfl⟩)⟩ (Nat.le_of_ble_eq_true rfl) (Nat.le_of_ble_eq_true rfl) dX7_isChosen_40
  · skip
    have hnone := md_none hc8
    refine lv_iconst (v := (nI 1)) hx hb dX7_isChosen_11 (by decide) ?_
    refine lv_goto (tgt := 33) hx hb dX7_isChosen_12 (by decide) ?_
    refine ah_calli (ah_runV E hP hS (As := [.int (nI 1)]) (rest := []) (b := mo) (m_holds l A D _ hmo hdA htA hlA heA hnlA hneA hsA hL (k := 1) (by omega)) lk_Mod_46 li_Mod_46 hmo rfl ⟨rfl, rfl, (Nat.le_of_ble_eq_true rfl), (Nat.le_of_ble_eq_true rfl)⟩ rfl hl.1 rfl (Nat.le_of_ble_eq_true rfl) dX7_isChosen_33 ⟨(Nat.le_of_ble_eq_true rfl), (Nat.le_of_ble_eq_true rfl)⟩) hS (fun r F59 H locs hho33 hP hS => ?_)
    obtain ⟨eho33, hro⟩ := hho33
    have hG60 : F59 dA = some (ah_ai D 8 df) := by rw [eho33]; exact ah_keep hmo hdA rfl
    have hG61 : F59 tA = some (ah_az D 40 tf) := by rw [eho33]; exact ah_keep hmo htA rfl
    have hG62 : F59 lA = some (ah_ai D 40 lf) := by rw [eho33]; exact ah_keep hmo hlA rfl
    have hG63 : F59 eA = some (ah_ai D 320 ef) := by rw [eho33]; exact ah_keep hmo heA rfl
    have hG64 : F59 nlA = some (ah_ai D 40 nlf) := by rw [eho33]; exact ah_keep hmo hnlA rfl
    have hG65 : F59 neA = some (ah_ai D 320 nef) := by rw [eho33]; exact ah_keep hmo hneA rfl
    have hG66 : F59 sA = some (ah_ai D 200 sf) := by rw [eho33]; exact ah_keep hmo hsA rfl
    have hG67 : F59 mo = some (.inr (7, [.int (nI 1), .ref dA, .int (nI dr.length), .int (nI n), .ref tA, .ref lA, .ref eA, .ref nlA, .ref neA, .ref sA, .int (nI S.length), .int td, .int ip, .int il])) := by rw [eho33]; exact ah_up_s _ _ _
    have hC68 : ah_ch F F59 [mo] := by rw [eho33]; exact ah_ch_u hch0 (by simp)
    subst hro
    refine ah_ifb_ne (tgt := 41) hx hb dX7_isChosen_36 (by decide) (fun hc36 => ?_) (fun hc36 => ?_)
    · skip
      exact absurd hc36 (by decide)
    · skip
      refine lv_iconst (v := (bI_ false)) hx hb dX7_isChosen_39 (by decide) ?_
      rw [hQ]
      exact ah_zret E hr (by first | exact bI_nz _ | decide) hP hS ⟨1, _, _, hG67, hC68, Or.inl ⟨rfl, hnone, rfl⟩⟩ (Nat.le_of_ble_eq_true rfl) (Nat.le_of_ble_eq_true rfl) dX7_isChosen_40
