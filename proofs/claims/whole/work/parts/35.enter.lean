theorem md_wr_s {f : Nat → Int32} {G : Nat → Int32} {b k : Nat} (h : ∀ j, j < k → f (b + j) = G j) : ∀ j, j < k + 1 → upd f (b + k) (G k) (b + j) = G j := by
  intro j hj
  by_cases e : j = k
  · subst e; rw [pk_us]
  · rw [pk_un (by omega)]; exact h j (by omega)
theorem md_wr_o {f f0 : Nat → Int32} {b k : Nat} {v : Int32} (hk : k < 8) (h : ∀ x, x < b ∨ b + 8 ≤ x → f x = f0 x) : ∀ x, x < b ∨ b + 8 ≤ x → upd f (b + k) v x = f0 x := by
  intro x hx
  rw [pk_un (by omega)]; exact h x hx
theorem md_L_rep {P : ah_Pt} {n i : Nat} {dr S w r : List Nat} {ln : Nat → Nat} {df tf lf ef nlf nef nef1 sf : Nat → Int32} (h : md_L P n dr S ln df tf lf ef nlf nef sf) (hp : P i = some (w, r)) (hA : ∀ j, j < dr.length → nef1 (8 * i + j) = nI (96 + dr.getD j 0)) (hB : ∀ x, x < 8 * i ∨ 8 * i + 8 ≤ x → nef1 x = nef x) : md_L (ah_rep P i w dr) n [] S ln df tf lf ef (upd nlf i (nI dr.length)) nef1 sf := by
  obtain ⟨g1, g2, g3, g4, g5, g6, g7, g8, g9, g10, g11, g12⟩ := h
  have hi := md_lt (i := i) g2 (by rw [hp]; rfl)
  have hs : ∀ j u q, ah_rep P i w dr j = some (u, q) → (j = i ∧ u = w ∧ q = dr) ∨ (j ≠ i ∧ P j = some (u, q)) := fun j u q e => by
    rw [ah_rep] at e
    split at e
    · next h => cases e; exact Or.inl ⟨h, rfl, rfl⟩
    · next h => exact Or.inr ⟨h, e⟩
  have hw : ∀ j u q, ah_rep P i w dr j = some (u, q) → ∃ q2, P j = some (u, q2) := fun j u q e => by
    rcases hs j u q e with ⟨rfl, rfl, rfl⟩ | ⟨-, h⟩
    · exact ⟨r, hp⟩
    · exact ⟨q, h⟩
  refine ⟨g1, fun j hj => by rw [ah_rep, if_neg (by omega)]; exact g2 j hj, ⟨Nat.zero_le _, fun z hz => by simp at hz⟩, g4, g5, ?_, ?_, by rw [ah_cn_rep (by rw [hp]; rfl)]; exact g8, ?_, ?_, fun k hk => absurd hk (Nat.not_lt_zero k), g12⟩
  · intro j u q e
    rcases hs j u q e with ⟨rfl, rfl, rfl⟩ | ⟨-, h⟩
    · exact ⟨(g6 _ _ _ hp).1, g3, (g6 _ _ _ hp).2.2⟩
    · exact g6 j u q h
  · intro a b u q q2 e1 e2
    obtain ⟨x1, h1⟩ := hw _ _ _ e1
    obtain ⟨x2, h2⟩ := hw _ _ _ e2
    exact g7 a b u x1 x2 h1 h2
  · intro j hj
    refine ⟨(g9 j hj).1, (g9 j hj).2.1, ?_⟩
    by_cases e : j = i
    · subst e
      rw [(g9 j hj).2.2, hp, ah_rep, if_pos rfl]; rfl
    · rw [(g9 j hj).2.2, ah_rep, if_neg e]
  · intro j u q e
    rcases hs j u q e with ⟨rfl, rfl, rfl⟩ | ⟨hj, h⟩
    · obtain ⟨a1, a2, a3, a4⟩ := g10 _ _ _ hp
      exact ⟨a1, a2, pk_us, hA⟩
    · obtain ⟨a1, a2, a3, a4⟩ := g10 _ _ _ h
      have hq := (g6 _ _ _ h).2.1.1
      exact ⟨a1, a2, by rw [pk_un hj]; exact a3, fun k hk => by rw [hB _ (by omega)]; exact a4 k hk⟩
set_option maxHeartbeats 4000000 in
set_option maxRecDepth 100000 in
/-- setReplacement -/
theorem m_setReplacement (l : Launch) (A : Nat → Prop) (D : ah_G) (F : ah_F) {mo n : Nat} {P : ah_Pt} {dr S : List Nat} {td th : Int32} (hC : md_C D F mo P n dr S td th) {v0 : Int32} : Met l yX7_setReplacement (Cond.code yX7_setReplacement cX7_setReplacement 4 (some .int) :: ah_T) { frames := 2, cells := 0, slots := 0, locals := 42 } (va_Pc [.ref mo, .int v0] (ah_B A D F)) (ah_Qi A D (fun (r : Int32) F1 => md_An D F1 mo (sp_setReplacement P n dr S td v0) r)) 0 0 A := by
  refine ah_met (own := "AhoarchModel") (by decide) rfl (Nat.le_of_ble_eq_true rfl) ?_
  intro p e s m below meth c ls E hr hini hl hP hS Q hQ
  have hx := E.1
  have hb := E.2.1
  have hl : lv_has ls 4 [(0, .ref mo), (1, .int v0)] := hl
  obtain ⟨dA, tA, lA, eA, nlA, neA, sA, ip, il, ln, df, tf, lf, ef, nlf, nef, sf, hmo, hdA, htA, hlA, heA, hnlA, hneA, hsA, hne1, hne2, hne3, hne4, hL⟩ := id hC
  obtain ⟨hn40, hPn, hdok, hSl, hS200, hPok, hdis, hp20, hln, hlP, hdd, hss⟩ := id hL
  have hdl := hdok.1
  refine lv_aload_n hx hb dX7_setReplacement_0 rfl (lv_at hl 0 rfl) ?_
  refine lv_iload_n hx hb dX7_setReplacement_1 rfl (lv_at hl 1 rfl) ?_
  refine ah_calli (ah_runV E hP hS (As := [.int v0]) (rest := []) (b := mo) (m_isAsked l A D _ hmo hdA htA hlA heA hnlA hneA hsA hL (v0 := v0)) lk_Mod_60 li_Mod_60 hmo rfl ⟨rfl, rfl, (Nat.le_of_ble_eq_true rfl), (Nat.le_of_ble_eq_true rfl)⟩ rfl hl.1 rfl (Nat.le_of_ble_eq_true rfl) dX7_setReplacement_2 ⟨(Nat.le_of_ble_eq_true rfl), (Nat.le_of_ble_eq_true rfl)⟩) hS (fun r F1 H locs hask hP hS => ?_)
  obtain ⟨eask, hro⟩ := hask
  have hG2 : F1 dA = some (ah_ai D 8 df) := by rw [eask]; exact ah_keep hmo hdA rfl
  have hG3 : F1 tA = some (ah_az D 40 tf) := by rw [eask]; exact ah_keep hmo htA rfl
  have hG4 : F1 lA = some (ah_ai D 40 lf) := by rw [eask]; exact ah_keep hmo hlA rfl
  have hG5 : F1 eA = some (ah_ai D 320 ef) := by rw [eask]; exact ah_keep hmo heA rfl
  have hG6 : F1 nlA = some (ah_ai D 40 nlf) := by rw [eask]; exact ah_keep hmo hnlA rfl
  have hG7 : F1 neA = some (ah_ai D 320 nef) := by rw [eask]; exact ah_keep hmo hneA rfl
  have hG8 : F1 sA = some (ah_ai D 200 sf) := by rw [eask]; exact ah_keep hmo hsA rfl
  have hG9 : F1 mo = some (.inr (7, [.int (nI (md_tn (ah_pi P v0).isSome)), .ref dA, .int (nI dr.length), .int (nI n), .ref tA, .ref lA, .ref eA, .ref nlA, .ref neA, .ref sA, .int (nI S.length), .int td, .int ip, .int il])) := by rw [eask]; exact ah_up_s _ _ _
  subst hro
  refine ah_ifb_ne (tgt := 10) hx hb dX7_setReplacement_5 (by decide) (fun hc5 => ?_) (fun hc5 => ?_)
  · skip
    have hth : md_tn (ah_pi P v0).isSome = 0 := by rw [hc5]; rfl
    rw [hth] at hG9
    obtain ⟨i, hpi⟩ := Option.isSome_iff_exists.mp hc5
    obtain ⟨hi40, hvi, hPs⟩ := ah_pi_lt hpi
    obtain ⟨⟨w, r0⟩, hPi⟩ := Option.isSome_iff_exists.mp hPs
    have hin := md_lt hPn hPs
    obtain ⟨hl8, hlf, htf⟩ := hln i hin
    obtain ⟨hlw, hew, hnl, hnew⟩ := hlP i w r0 hPi
    obtain ⟨hok, hokr, hnw⟩ := hPok i w r0 hPi
    have hwl := hok.1
    have hrl := hokr.1
    rw [hvi] at hl
    refine lv_aload_n hx hb dX7_setReplacement_10 rfl (lv_at hl 0 rfl) ?_
    refine gf_Mod_23 E hP hG9 rfl dX7_setReplacement_11 ?_
    refine lv_iload_n hx hb dX7_setReplacement_14 rfl (lv_at hl 1 rfl) ?_
    refine ah_iald E hP hG6 (by omega) (by omega) dX7_setReplacement_15 ?_
    rw [hnl]
    refine lv_istore_n (lv' := [(2, .int (nI r0.length)), (0, .ref mo), (1, .int (nI i))]) hx hb dX7_setReplacement_16 rfl hl (by decide) rfl (fun ls hl => ?_)
    refine lv_iconst (v := (nI 0)) hx hb dX7_setReplacement_17 (by decide) ?_
    refine lv_istore_n (lv' := [(3, .int (nI 0)), (2, .int (nI r0.length)), (0, .ref mo), (1, .int (nI i))]) hx hb dX7_setReplacement_18 rfl hl (by decide) rfl (fun ls hl => ?_)
    have L19 : ∀ (fuel : Nat), ∀ (Fv : ah_F) (k : Nat) (nef1 : Nat → Int32), dr.length - k < fuel → k ≤ dr.length → (∀ j, j < k → nef1 (8 * i + j) = nI (96 + dr.getD j 0)) → (∀ x, x < 8 * i ∨ 8 * i + 8 ≤ x → nef1 x = nef x) → Fv mo = some (.inr (7, [.int (nI 0), .ref dA, .int (nI dr.length), .int (nI n), .ref tA, .ref lA, .ref eA, .ref nlA, .ref neA, .ref sA, .int (nI S.length), .int td, .int ip, .int il])) → Fv dA = some (ah_ai D 8 df) → Fv tA = some (ah_az D 40 tf) → Fv lA = some (ah_ai D 40 lf) → Fv eA = some (ah_ai D 320 ef) → Fv nlA = some (ah_ai D 40 nlf) → Fv neA = some (ah_ai D 320 nef1) → Fv sA = some (ah_ai D 200 sf) → ∀ (H : Heap) (locs : List Loc), ah_K A D Fv H → va_S A s.heap H locs → ∀ (ls : Array Slot), lv_has ls 4 [(0, .ref mo), (1, .int (nI i)), (2, .int (nI r0.length)), (3, .int (nI k))] → W p l e { frames := 2, cells := 0, slots := 0, locals := 42 } s m [.ref mo, .int v0].toArray below meth c H locs (0 + 0) (0 + 0) Q (F0 m 19 ls []) := by
      intro fuel
      induction fuel with
      | zero =>
        intro Fv k nef1 hm
        exact absurd hm (Nat.not_lt_zero _)
      | succ fuel ih =>
        intro Fv k nef1 hm hk hkA hkB hk10 hk11 hk12 hk13 hk14 hk15 hk16 hk17 H locs hP hS ls hl
        refine lv_iload_n hx hb dX7_setReplacement_19 rfl (lv_at hl 3 rfl) ?_
        refine lv_aload_n hx hb dX7_setReplacement_20 rfl (lv_at hl 0 rfl) ?_
        refine gf_Mod_43 E hP hk10 rfl dX7_setReplacement_21 ?_
        refine ah_icmp_ge (tgt := 50) hx hb (by omega) (by omega) dX7_setReplacement_24 (by decide) (fun hc24 => ?_) (fun hc24 => ?_)
        · skip
          refine lv_aload_n hx hb dX7_setReplacement_50 rfl (lv_at hl 0 rfl) ?_
          refine gf_Mod_23 E hP hk10 rfl dX7_setReplacement_51 ?_
          refine lv_iload_n hx hb dX7_setReplacement_54 rfl (lv_at hl 1 rfl) ?_
          refine lv_aload_n hx hb dX7_setReplacement_55 rfl (lv_at hl 0 rfl) ?_
          refine gf_Mod_43 E hP hk10 rfl dX7_setReplacement_56 ?_
          refine ah_iast E hP hS hk15 (by omega) (by omega) dX7_setReplacement_59 (fun H locs hP hS => ?_)
          obtain ⟨F18, eF18⟩ : ∃ Fz : ah_F, Fz = ah_up Fv nlA (ah_ai D 40 (upd nlf i (nI dr.length))) := ⟨_, rfl⟩
          have hP : ah_K A D F18 H := by rw [eF18]; exact hP
          have hF19 : F18 nlA = some (ah_ai D 40 (upd nlf i (nI dr.length))) := by rw [eF18]; exact ah_up_s _ _ _
          have hF20 : F18 dA = some (ah_ai D 8 df) := by rw [eF18]; exact ah_keep hk15 hk11 rfl
          have hF21 : F18 tA = some (ah_az D 40 tf) := by rw [eF18]; exact (ah_up_n _ _ hne4).trans hk12
          have hF22 : F18 lA = some (ah_ai D 40 lf) := by rw [eF18]; exact (ah_up_n _ _ hne1).trans hk13
          have hF23 : F18 eA = some (ah_ai D 320 ef) := by rw [eF18]; exact ah_keep hk15 hk14 rfl
          have hF24 : F18 neA = some (ah_ai D 320 nef1) := by rw [eF18]; exact ah_keep hk15 hk16 rfl
          have hF25 : F18 sA = some (ah_ai D 200 sf) := by rw [eF18]; exact ah_keep hk15 hk17 rfl
          have hF26 : F18 mo = some (.inr (7, [.int (nI 0), .ref dA, .int (nI dr.length), .int (nI n), .ref tA, .ref lA, .ref eA, .ref nlA, .ref neA, .ref sA, .int (nI S.length), .int td, .int ip, .int il])) := by rw [eF18]; exact ah_keep hk15 hk10 rfl
          refine lv_aload_n hx hb dX7_setReplacement_60 rfl (lv_at hl 0 rfl) ?_
          refine lv_iconst (v := (nI 0)) hx hb dX7_setReplacement_61 (by decide) ?_
          refine pf_Mod_43 E hP hS hF26 (Nat.le_of_ble_eq_true rfl) dX7_setReplacement_62 (fun H locs hP hS => ?_)
          obtain ⟨F27, eF27⟩ : ∃ Fz : ah_F, Fz = ah_up F18 mo (.inr (7, [.int (nI 0), .ref dA, .int (nI 0), .int (nI n), .ref tA, .ref lA, .ref eA, .ref nlA, .ref neA, .ref sA, .int (nI S.length), .int td, .int ip, .int il])) := ⟨_, rfl⟩
          have hP : ah_K A D F27 H := by rw [eF27]; exact hP
          have hF28 : F27 mo = some (.inr (7, [.int (nI 0), .ref dA, .int (nI 0), .int (nI n), .ref tA, .ref lA, .ref eA, .ref nlA, .ref neA, .ref sA, .int (nI S.length), .int td, .int ip, .int il])) := by rw [eF27]; exact ah_up_s _ _ _
          have hF29 : F27 dA = some (ah_ai D 8 df) := by rw [eF27]; exact ah_keep hF26 hF20 rfl
          have hF30 : F27 tA = some (ah_az D 40 tf) := by rw [eF27]; exact ah_keep hF26 hF21 rfl
          have hF31 : F27 lA = some (ah_ai D 40 lf) := by rw [eF27]; exact ah_keep hF26 hF22 rfl
          have hF32 : F27 eA = some (ah_ai D 320 ef) := by rw [eF27]; exact ah_keep hF26 hF23 rfl
          have hF33 : F27 neA = some (ah_ai D 320 nef1) := by rw [eF27]; exact ah_keep hF26 hF24 rfl
          have hF34 : F27 sA = some (ah_ai D 200 sf) := by rw [eF27]; exact ah_keep hF26 hF25 rfl
          have hF35 : F27 nlA = some (ah_ai D 40 (upd nlf i (nI dr.length))) := by rw [eF27]; exact ah_keep hF26 hF19 rfl
          refine lv_iload_n hx hb dX7_setReplacement_65 rfl (lv_at hl 2 rfl) ?_
          rw [hQ]
          exact ah_iret E hr hP hS (md_An_i (P := ah_rep P i w dr) (n := n) (dr := []) (S := S) (td := td) (k := 0) (v := nI r0.length) (by simp only [sp_setReplacement, hpi, ah_r_s hPi, ah_w_s hPi]) ⟨dA, tA, lA, eA, nlA, neA, sA, _, _, ln, _, _, _, _, _, _, _, hF28, hF29, hF30, hF31, hF32, hF35, hF33, hF34, hne1, hne2, hne3, hne4, (md_L_rep hL hPi (fun j hj => hkA j (by omega)) hkB)⟩ (fun _ => rfl)) (Nat.le_of_ble_eq_true rfl) (Nat.le_of_ble_eq_true rfl) dX7_setReplacement_66
        · skip
          refine lv_aload_n hx hb dX7_setReplacement_27 rfl (lv_at hl 0 rfl) ?_
          refine gf_Mod_26 E hP hk10 rfl dX7_setReplacement_28 ?_
          refine lv_bipush (v := (nI 8)) hx hb dX7_setReplacement_31 (by decide) ?_
          refine lv_iload_n hx hb dX7_setReplacement_33 rfl (lv_at hl 1 rfl) ?_
          refine ah_imul hx hb dX7_setReplacement_34 ?_
          refine lv_iload_n hx hb dX7_setReplacement_35 rfl (lv_at hl 3 rfl) ?_
          refine ah_iadd hx hb dX7_setReplacement_36 ?_
          refine lv_aload_n hx hb dX7_setReplacement_37 rfl (lv_at hl 0 rfl) ?_
          refine gf_Mod_7 E hP hk10 rfl dX7_setReplacement_38 ?_
          refine lv_iload_n hx hb dX7_setReplacement_41 rfl (lv_at hl 3 rfl) ?_
          refine ah_iald E hP hk11 (by omega) (by omega) dX7_setReplacement_42 ?_
          rw [hdd k (by omega)]
          refine ah_iast E hP hS hk16 (by omega) (by omega) dX7_setReplacement_43 (fun H locs hP hS => ?_)
          obtain ⟨F36, eF36⟩ : ∃ Fz : ah_F, Fz = ah_up Fv neA (ah_ai D 320 (upd nef1 ((8 * i) + k) (nI (96 + dr.getD k 0)))) := ⟨_, rfl⟩
          have hP : ah_K A D F36 H := by rw [eF36]; exact hP
          have hF37 : F36 neA = some (ah_ai D 320 (upd nef1 ((8 * i) + k) (nI (96 + dr.getD k 0)))) := by rw [eF36]; exact ah_up_s _ _ _
          have hF38 : F36 dA = some (ah_ai D 8 df) := by rw [eF36]; exact ah_keep hk16 hk11 rfl
          have hF39 : F36 tA = some (ah_az D 40 tf) := by rw [eF36]; exact ah_keep hk16 hk12 rfl
          have hF40 : F36 lA = some (ah_ai D 40 lf) := by rw [eF36]; exact ah_keep hk16 hk13 rfl
          have hF41 : F36 eA = some (ah_ai D 320 ef) := by rw [eF36]; exact (ah_up_n _ _ hne2).trans hk14
          have hF42 : F36 nlA = some (ah_ai D 40 nlf) := by rw [eF36]; exact ah_keep hk16 hk15 rfl
          have hF43 : F36 sA = some (ah_ai D 200 sf) := by rw [eF36]; exact ah_keep hk16 hk17 rfl
          have hF44 : F36 mo = some (.inr (7, [.int (nI 0), .ref dA, .int (nI dr.length), .int (nI n), .ref tA, .ref lA, .ref eA, .ref nlA, .ref neA, .ref sA, .int (nI S.length), .int td, .int ip, .int il])) := by rw [eF36]; exact ah_keep hk16 hk10 rfl
          refine lv_iinc (v := (nI (k + 1))) (lv' := [(3, .int (nI (k + 1))), (0, .ref mo), (1, .int (nI i)), (2, .int (nI r0.length))]) hx hb dX7_setReplacement_44 hl (k := 3) rfl (ah_inc _) (by decide) rfl (fun ls hl => ?_)
          refine lv_goto (tgt := 19) hx hb dX7_setReplacement_47 (by decide) ?_
          exact ih _ (k + 1) _ (by omega) (by omega) (md_wr_s (G := fun j => nI (96 + dr.getD j 0)) hkA) (md_wr_o (by omega) hkB) hF44 hF38 hF39 hF40 hF41 hF42 hF37 hF43 _ _ hP hS ls (lv_sub hl [1, 2, 3, 0] rfl)
    exact L19 (dr.length + 1) _ 0 _ (by omega) (Nat.zero_le _) (fun j hj => absurd hj (Nat.not_lt_zero j)) (fun x hx => rfl) hG9 hG2 hG3 hG4 hG5 hG6 hG7 hG8 _ _ hP hS ls (lv_sub hl [2, 3, 1, 0] rfl)
  · skip
    have hnone := md_none hc5
    have hth : md_tn (ah_pi P v0).isSome = 1 := by rw [hc5]; rfl
    rw [hth] at hG9
    refine lv_iconst (v := (nI 0)) hx hb dX7_setReplacement_8 (by decide) ?_
    rw [hQ]
    exact ah_iret E hr hP hS (md_An_i (k := 1) (v := 0) (by simp only [sp_setReplacement, hnone]) ⟨dA, tA, lA, eA, nlA, neA, sA, _, _, ln, _, _, _, _, _, _, _, hG9, hG2, hG3, hG4, hG5, hG6, hG7, hG8, hne1, hne2, hne3, hne4, hL⟩ (fun h => absurd h (by decide))) (Nat.le_of_ble_eq_true rfl) (Nat.le_of_ble_eq_true rfl) dX7_setReplacement_9
