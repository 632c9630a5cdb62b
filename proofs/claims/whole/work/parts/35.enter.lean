theorem md_wr_s {f : Nat → Int32} {G : Nat → Int32} {b k : Nat} (h : ∀ j, j < k → f (b + j) = G j) : ∀ j, j < k + 1 → upd f (b + k) (G k) (b + j) = G j := by
  intro j hj
  by_cases e : j = k
  · subst e; rw [pk_us]
  · rw [pk_un (by omega)]; exact h j (by omega)
theorem md_wr_o {f f0 : Nat → Int32} {b k : Nat} {v : Int32} (hk : k < 8) (h : ∀ x, x < b ∨ b + 8 ≤ x → f x = f0 x) : ∀ x, x < b ∨ b + 8 ≤ x → upd f (b + k) v x = f0 x := by
  intro x hx
  rw [pk_un (by omega)]; exact h x hx
theorem md_L_rep {P : ah_Pt} {n i : Nat} {dr S w r : List Nat} {ln : Nat → Nat} {df tf lf ef nlf nef nef1 sf : Nat → Int32} (h : md_L P n dr S ln df tf lf ef nlf nef sf) (hp : P i = some (w, r)) (hA : ∀ j, j < dr.length → nef1 (8 * i + j) = nI (96 + dr.getD j 0)) (hB : ∀ x, x < 8 * i ∨ 8 * i + 8 ≤ x → nef1 x = nef x) : md_L (ah_rep P i w dr) n [] S ln df tf lf ef (upd nlf i (nI dr.length)) nef1 sf := by
  obtain ⟨g1, g2, g3, g4, g5, g6, g7, g8, g9, g10, g11, g12⟩ := h
  have hi := md_lt (i := i) g2 (by rw [hp]; rfl)
  have hs : ∀ j u q, ah_rep P i w dr j = some (u, q) → (j = i ∧ u = w ∧ q = dr) ∨ (j ≠ i ∧ P j = some (u, q)) := fun j u q e => by
    rw [ah_rep] at e
    split at e
    · next h => cases e; exact Or.inl ⟨h, rfl, rfl⟩
    · next h => exact Or.inr ⟨h, e⟩
  have hw : ∀ j u q, ah_rep P i w dr j = some (u, q) → ∃ q2, P j = some (u, q2) := fun j u q e => by
    rcases hs j u q e with ⟨rfl, rfl, rfl⟩ | ⟨-, h⟩
    · exact ⟨r, hp⟩
    · exact ⟨q, h⟩
  refine ⟨g1, fun j hj => by rw [ah_rep, if_neg (by omega)]; exact g2 j hj, ⟨Nat.zero_le _, fun z hz => by simp at hz⟩, g4, g5, ?_, ?_, by rw [ah_cn_rep (by rw [hp]; rfl)]; exact g8, ?_, ?_, fun k hk => absurd hk (Nat.not_lt_zero k), g12⟩
  · intro j u q e
    rcases hs j u q e with ⟨rfl, rfl, rfl⟩ | ⟨-, h⟩
    · exact ⟨(g6 _ _ _ hp).1, g3, (g6 _ _ _ hp).2.2⟩
    · exact g6 j u q h
  · intro a b u q q2 e1 e2
    obtain ⟨x1, h1⟩ := hw _ _ _ e1
    obtain ⟨x2, h2⟩ := hw _ _ _ e2
    exact g7 a b u x1 x2 h1 h2
  · intro j hj
    refine ⟨(g9 j hj).1, (g9 j hj).2.1, ?_⟩
    by_cases e : j = i
    · subst e
      rw [(g9 j hj).2.2, hp, ah_rep, if_pos rfl]; rfl
    · rw [(g9 j hj).2.2, ah_rep, if_neg e]
  · intro j u q e
    rcases hs j u q e with ⟨rfl, rfl, rfl⟩ | ⟨hj, h⟩
    · obtain ⟨a1, a2, a3, a4⟩ := g10 _ _ _ hp
      exact ⟨a1, a2, pk_us, hA⟩
    · obtain ⟨a1, a2, a3, a4⟩ := g10 _ _ _ h
      have hq := (g6 _ _ _ h).2.1.1
      exact ⟨a1, a2, by rw [pk_un hj]; exact a3, fun k hk => by rw [hB _ (by omega)]; exact a4 k hk⟩
theorem md_can_f {p : Nat → Bool} {c0 b : Bool} {k : Nat} (h : b = (c0 && !ah_any p k)) (hb : b = false) : false = (c0 && !ah_any p (k + 1)) := by
  subst h
  cases c0 with
  | false => rfl
  | true =>
    have hb : ah_any p k = true := by simpa using hb
    obtain ⟨j, hj, hp⟩ := ah_any_iff.mp hb
    have : ah_any p (k + 1) = true := ah_any_iff.mpr ⟨j, by omega, hp⟩
    rw [this]; rfl
theorem md_can_h {p : Nat → Bool} {c0 : Bool} {k : Nat} (hp : p k = true) : false = (c0 && !ah_any p (k + 1)) := by
  have : ah_any p (k + 1) = true := ah_any_iff.mpr ⟨k, by omega, hp⟩
  rw [this]; cases c0 <;> rfl
theorem md_can_t {p : Nat → Bool} {c0 b : Bool} {k : Nat} (h : b = (c0 && !ah_any p k)) (hb : b = true) (hp : p k = false) : true = (c0 && !ah_any p (k + 1)) := by
  subst h
  have h2 : c0 = true ∧ ah_any p k = false := by simpa using hb
  cases e : ah_any p (k + 1) with
  | false => rw [h2.1]; rfl
  | true =>
    obtain ⟨j, hj, hq⟩ := ah_any_iff.mp e
    by_cases ej : j = k
    · subst ej; rw [hp] at hq; cases hq
    · have := ah_any_iff.mpr ⟨j, (show j < k by omega), hq⟩
      rw [h2.2] at this; cases this
theorem md_can {P : ah_Pt} {n : Nat} {dr : List Nat} {c0 b : Bool} (hn : n ≤ 40) (hP : ∀ i, n ≤ i → P i = none) (h0 : c0 = true ↔ (0 < dr.length ∧ pu_cn (fun i => (P i).isSome) 40 < 20 ∧ n < 40)) (h : b = (c0 && !ah_any (ah_sat P (fun u => decide (u = dr))) n)) : ah_can P n dr = b := by
  have ha : ah_any (ah_sat P (fun u => decide (u = dr))) 40 = ah_any (ah_sat P (fun u => decide (u = dr))) n := by
    cases e : ah_any (ah_sat P (fun u => decide (u = dr))) 40 with
    | true =>
      obtain ⟨j, hj, hq⟩ := ah_any_iff.mp e
      rcases Nat.lt_or_ge j n with h1 | h1
      · exact (ah_any_iff.mpr ⟨j, h1, hq⟩).symm
      · rw [md_sat_n (by rw [hP j h1]; rfl)] at hq; cases hq
    | false =>
      cases e2 : ah_any (ah_sat P (fun u => decide (u = dr))) n with
      | false => rfl
      | true =>
        obtain ⟨j, hj, hq⟩ := ah_any_iff.mp e2
        rw [ah_any_iff.mpr ⟨j, by omega, hq⟩] at e; cases e
  have hd : (decide (dr ≠ []) : Bool) = decide (0 < dr.length) := decide_eq_decide.mpr List.length_pos_iff.symm
  rw [ah_can, ha, h, hd]
  generalize ah_any (ah_sat P (fun u => decide (u = dr))) n = z
  by_cases q : 0 < dr.length ∧ pu_cn (fun i => (P i).isSome) 40 < 20 ∧ n < 40
  · rw [h0.mpr q, decide_eq_true q.1, decide_eq_false (show ¬ 20 ≤ pu_cn (fun i => (P i).isSome) 40 by omega), decide_eq_false (show ¬ 40 ≤ n by omega)]
    simp
  · have : c0 = false := by
      cases c0 with
      | false => rfl
      | true => exact absurd (h0.mp rfl) q
    rw [this]
    by_cases q1 : 0 < dr.length
    · by_cases q2 : pu_cn (fun i => (P i).isSome) 40 < 20
      · have q3 : 40 ≤ n := by omega
        rw [decide_eq_true q3]; simp
      · rw [decide_eq_true (show 20 ≤ pu_cn (fun i => (P i).isSome) 40 by omega)]; simp
    · rw [decide_eq_false q1]; simp
theorem md_L_ins {P : ah_Pt} {n : Nat} {dr S : List Nat} {ln : Nat → Nat} {df tf lf ef ef1 nlf nef sf : Nat → Int32} (h : md_L P n dr S ln df tf lf ef nlf nef sf) (hc : ah_can P n dr = true) (hA : ∀ j, j < dr.length → ef1 (8 * n + j) = nI (96 + dr.getD j 0)) (hB : ∀ x, x < 8 * n ∨ 8 * n + 8 ≤ x → ef1 x = ef x) : md_L (ah_ins P n dr) (n + 1) [] S (fun j => if j = n then dr.length else ln j) df (upd tf n (nI 1)) (upd lf n (nI dr.length)) ef1 (upd nlf n (nI 0)) nef sf := by
  obtain ⟨g1, g2, g3, g4, g5, g6, g7, g8, g9, g10, g11, g12⟩ := h
  simp only [ah_can, Bool.and_eq_true, decide_eq_true_eq, Bool.not_eq_true', Bool.or_eq_false_iff, decide_eq_false_iff_not] at hc
  obtain ⟨⟨c1, c2⟩, c3, c4⟩ := hc
  have hs : ∀ j u q, ah_ins P n dr j = some (u, q) → (j = n ∧ u = dr ∧ q = []) ∨ (j ≠ n ∧ j < n ∧ P j = some (u, q)) := fun j u q e => by
    rw [ah_ins] at e
    split at e
    · next h => cases e; exact Or.inl ⟨h, rfl, rfl⟩
    · next h => exact Or.inr ⟨h, md_lt g2 (by rw [e]; rfl), e⟩
  have hnew : ∀ j u q, P j = some (u, q) → u ≠ dr := fun j u q e ed => by
    have h40 : j < 40 := Nat.lt_of_lt_of_le (md_lt g2 (by rw [e]; rfl)) g1
    have := ah_any_iff.mpr ⟨j, h40, (by rw [md_sat_s e, ed]; exact decide_eq_true rfl : ah_sat P (fun u => decide (u = dr)) j = true)⟩
    rw [c2] at this; cases this
  refine ⟨by omega, fun j hj => by rw [ah_ins, if_neg (by omega)]; exact g2 j (by omega), ⟨Nat.zero_le _, fun z hz => by simp at hz⟩, g4, g5, ?_, ?_, by rw [ah_cn_ins (by omega) (g2 n (Nat.le_refl _))]; omega, ?_, ?_, fun k hk => absurd hk (Nat.not_lt_zero k), g12⟩
  · intro j u q e
    rcases hs j u q e with ⟨rfl, rfl, rfl⟩ | ⟨-, -, h⟩
    · exact ⟨g3, ⟨Nat.zero_le _, fun z hz => by simp at hz⟩, c1⟩
    · exact g6 j u q h
  · intro a b u q q2 e1 e2
    rcases hs _ _ _ e1 with ⟨h1, h2, -⟩ | ⟨h1, -, h2⟩
    · rcases hs _ _ _ e2 with ⟨h3, -, -⟩ | ⟨-, -, h4⟩
      · omega
      · exact absurd h2 (hnew _ _ _ h4)
    · rcases hs _ _ _ e2 with ⟨-, h4, -⟩ | ⟨-, -, h4⟩
      · exact absurd h4 (hnew _ _ _ h2)
      · exact g7 a b u _ _ h2 h4
  · intro j hj
    by_cases e : j = n
    · subst e
      simp only [if_true]
      exact ⟨g3.1, pk_us, by rw [pk_us, ah_ins, if_pos rfl]; rfl⟩
    · simp only [if_neg e]
      rw [pk_un e, pk_un e, ah_ins, if_neg e]
      exact g9 j (by omega)
  · intro j u q e
    rcases hs j u q e with ⟨rfl, rfl, rfl⟩ | ⟨hj, hlt, h⟩
    · exact ⟨if_pos rfl, hA, pk_us, fun k hk => absurd hk (Nat.not_lt_zero k)⟩
    · obtain ⟨a1, a2, a3, a4⟩ := g10 _ _ _ h
      have hq := (g6 _ _ _ h).1.1
      simp only [if_neg hj]
      exact ⟨a1, fun k hk => by rw [hB _ (by omega)]; exact a2 k hk, by rw [pk_un hj]; exact a3, a4⟩
set_option maxHeartbeats 4000000 in
set_option maxRecDepth 100000 in
/-- setReplacement -/
theorem m_setReplacement (l : Launch) (A : Nat → Prop) (D : ah_G) (F : ah_F) {mo n : Nat} {P : ah_Pt} {dr S : List Nat} {td th : Int32} (hC : md_C D F mo P n dr S td th) {v0 : Int32} : Met l yX7_setReplacement (Cond.code yX7_setReplacement cX7_setReplacement 4 (some .int) :: ah_T) { frames := 2, cells := 0, slots := 0, locals := 42 } (va_Pc [.ref mo, .int v0] (ah_B A D F)) (ah_Qi A D (fun (r : Int32) F1 => md_An D F1 mo (sp_setReplacement P n dr S td v0) r)) 0 0 A := by
  refine ah_met (own := "AhoarchModel") (by decide) rfl (Nat.le_of_ble_eq_true rfl) ?_
  intro p e s m below meth c ls E hr hini hl hP hS Q hQ
  have hx := E.1
  have hb := E.2.1
  have hl : lv_has ls 4 [(0, .ref mo), (1, .int v0)] := hl
  obtain ⟨dA, tA, lA, eA, nlA, neA, sA, ip, il, ln, df, tf, lf, ef, nlf, nef, sf, hmo, hdA, htA, hlA, heA, hnlA, hneA, hsA, hne1, hne2, hne3, hne4, hL⟩ := id hC
  obtain ⟨hn40, hPn, hdok, hSl, hS200, hPok, hdis, hp20, hln, hlP, hdd, hss⟩ := id hL
  have hdl := hdok.1
  refine lv_aload_n hx hb dX7_setReplacement_0 rfl (lv_at hl 0 rfl) ?_
  refine lv_iload_n hx hb dX7_setReplacement_1 rfl (lv_at hl 1 rfl) ?_
  refine ah_calli (ah_runV E hP hS (As := [.int v0]) (rest := []) (b := mo) (m_isAsked l A D _ hmo hdA htA hlA heA hnlA hneA hsA hL (v0 := v0)) lk_Mod_60 li_Mod_60 hmo rfl ⟨rfl, rfl, (Nat.le_of_ble_eq_true rfl), (Nat.le_of_ble_eq_true rfl)⟩ rfl hl.1 rfl (Nat.le_of_ble_eq_true rfl) dX7_setReplacement_2 ⟨(Nat.le_of_ble_eq_true rfl), (Nat.le_of_ble_eq_true rfl)⟩) hS (fun r F1 H locs hask hP hS => ?_)
  obtain ⟨eask, hro⟩ := hask
  have hG2 : F1 dA = some (ah_ai D 8 df) := by rw [eask]; exact ah_keep hmo hdA rfl
  have hG3 : F1 tA = some (ah_az D 40 tf) := by rw [eask]; exact ah_keep hmo htA rfl
  have hG4 : F1 lA = some (ah_ai D 40 lf) := by rw [eask]; exact ah_keep hmo hlA rfl
  have hG5 : F1 eA = some (ah_ai D 320 ef) := by rw [eask]; exact ah_keep hmo heA rfl
  have hG6 : F1 nlA = some (ah_ai D 40 nlf) := by rw [eask]; exact ah_keep hmo hnlA rfl
  have hG7 : F1 neA = some (ah_ai D 320 nef) := by rw [eask]; exact ah_keep hmo hneA rfl
  have hG8 : F1 sA = some (ah_ai D 200 sf) := by rw [eask]; exact ah_keep hmo hsA rfl
  have hG9 : F1 mo = some (.inr (7, [.int (nI (md_tn (ah_pi P v0).isSome)), .ref dA, .int (nI dr.length), .int (nI n), .ref tA, .ref lA, .ref eA, .ref nlA, .ref neA, .ref sA, .int (nI S.length), .int td, .int ip, .int il])) := by rw [eask]; exact ah_up_s _ _ _
  subst hro
  refine ah_ifb_ne (tgt := 10) hx hb dX7_setReplacement_5 (by decide) (fun hc5 => ?_) (fun hc5 => ?_)
  · skip
    have hth : md_tn (ah_pi P v0).isSome = 0 := by rw [hc5]; rfl
    rw [hth] at hG9
    obtain ⟨i, hpi⟩ := Option.isSome_iff_exists.mp hc5
    obtain ⟨hi40, hvi, hPs⟩ := ah_pi_lt hpi
    obtain ⟨⟨w, r0⟩, hPi⟩ := Option.isSome_iff_exists.mp hPs
    have hin := md_lt hPn hPs
    obtain ⟨hl8, hlf, htf⟩ := hln i hin
    obtain ⟨hlw, hew, hnl, hnew⟩ := hlP i w r0 hPi
    obtain ⟨hok, hokr, hnw⟩ := hPok i w r0 hPi
    have hwl := hok.1
    have hrl := hokr.1
    rw [hvi] at hl
    refine lv_aload_n hx hb dX7_setReplacement_10 rfl (lv_at hl 0 rfl) ?_
    refine gf_Mod_23 E hP hG9 rfl dX7_setReplacement_11 ?_
    refine lv_iload_n hx hb dX7_setReplacement_14 rfl (lv_at hl 1 rfl) ?_
    refine ah_iald E hP hG6 (by omega) (by omega) dX7_setReplacement_15 ?_
    rw [hnl]
    refine lv_istore_n (lv' := [(2, .int (nI r0.length)), (0, .ref mo), (1, .int (nI i))]) hx hb dX7_setReplacement_16 rfl hl (by decide) rfl (fun ls hl => ?_)
    refine lv_iconst (v := (nI 0)) hx hb dX7_setReplacement_17 (by decide) ?_
    refine lv_istore_n (lv' := [(3, .int (nI 0)), (2, .int (nI r0.length)), (0, .ref mo), (1, .int (nI i))]) hx hb dX7_setReplacement_18 rfl hl (by decide) rfl (fun ls hl => ?_)
    have L19 : ∀ (fuel : Nat), ∀ (Fv : ah_F) (k : Nat) (nef1 : Nat → Int32), dr.length - k < fuel → k ≤ dr.length → (∀ j, j < k → nef1 (8 * i + j) = nI (96 + dr.getD j 0)) → (∀ x, x < 8 * i ∨ 8 * i + 8 ≤ x → nef1 x = nef x) → Fv mo = some (.inr (7, [.int (nI 0), .ref dA, .int (nI dr.length), .int (nI n), .ref tA, .ref lA, .ref eA, .ref nlA, .ref neA, .ref sA, .int (nI S.length), .int td, .int ip, .int il])) → Fv dA = some (ah_ai D 8 df) → Fv tA = some (ah_az D 40 tf) → Fv lA = some (ah_ai D 40 lf) → Fv eA = some (ah_ai D 320 ef) → Fv nlA = some (ah_ai D 40 nlf) → Fv neA = some (ah_ai D 320 nef1) → Fv sA = some (ah_ai D 200 sf) → ∀ (H : Heap) (locs : List Loc), ah_K A D Fv H → va_S A s.heap H locs → ∀ (ls : Array Slot), lv_has ls 4 [(0, .ref mo), (1, .int (nI i)), (2, .int (nI r0.length)), (3, .int (nI k))] → W p l e { frames := 2, cells := 0, slots := 0, locals := 42 } s m [.ref mo, .int v0].toArray below meth c H locs (0 + 0) (0 + 0) Q (F0 m 19 ls []) := by
      intro fuel
      induction fuel with
      | zero =>
        intro Fv k nef1 hm
        exact absurd hm (Nat.not_lt_zero _)
      | succ fuel ih =>
        intro Fv k nef1 hm hk hkA hkB hk10 hk11 hk12 hk13 hk14 hk15 hk16 hk17 H locs hP hS ls hl
        refine lv_iload_n hx hb dX7_setReplacement_19 rfl (lv_at hl 3 rfl) ?_
        refine lv_aload_n hx hb dX7_setReplacement_20 rfl (lv_at hl 0 rfl) ?_
        refine gf_Mod_43 E hP hk10 rfl dX7_setReplacement_21 ?_
        refine ah_icmp_ge (tgt := 50) hx hb (by omega) (by omega) dX7_setReplacement_24 (by decide) (fun hc24 => ?_) (fun hc24 => ?_)
        · skip
          refine lv_aload_n hx hb dX7_setReplacement_50 rfl (lv_at hl 0 rfl) ?_
          refine gf_Mod_23 E hP hk10 rfl dX7_setReplacement_51 ?_
          refine lv_iload_n hx hb dX7_setReplacement_54 rfl (lv_at hl 1 rfl) ?_
          refine lv_aload_n hx hb dX7_setReplacement_55 rfl (lv_at hl 0 rfl) ?_
          refine gf_Mod_43 E hP hk10 rfl dX7_setReplacement_56 ?_
          refine ah_iast E hP hS hk15 (by omega) (by omega) dX7_setReplacement_59 (fun H locs hP hS => ?_)
          obtain ⟨F18, eF18⟩ : ∃ Fz : ah_F, Fz = ah_up Fv nlA (ah_ai D 40 (upd nlf i (nI dr.length))) := ⟨_, rfl⟩
          have hP : ah_K A D F18 H := by rw [eF18]; exact hP
          have hF19 : F18 nlA = some (ah_ai D 40 (upd nlf i (nI dr.length))) := by rw [eF18]; exact ah_up_s _ _ _
          have hF20 : F18 dA = some (ah_ai D 8 df) := by rw [eF18]; exact ah_keep hk15 hk11 rfl
          have hF21 : F18 tA = some (ah_az D 40 tf) := by rw [eF18]; exact (ah_up_n _ _ hne4).trans hk12
          have hF22 : F18 lA = some (ah_ai D 40 lf) := by rw [eF18]; exact (ah_up_n _ _ hne1).trans hk13
          have hF23 : F18 eA = some (ah_ai D 320 ef) := by rw [eF18]; exact ah_keep hk15 hk14 rfl
          have hF24 : F18 neA = some (ah_ai D 320 nef1) := by rw [eF18]; exact ah_keep hk15 hk16 rfl
          have hF25 : F18 sA = some (ah_ai D 200 sf) := by rw [eF18]; exact ah_keep hk15 hk17 rfl
          have hF26 : F18 mo = some (.inr (7, [.int (nI 0), .ref dA, .int (nI dr.length), .int (nI n), .ref tA, .ref lA, .ref eA, .ref nlA, .ref neA, .ref sA, .int (nI S.length), .int td, .int ip, .int il])) := by rw [eF18]; exact ah_keep hk15 hk10 rfl
          refine lv_aload_n hx hb dX7_setReplacement_60 rfl (lv_at hl 0 rfl) ?_
          refine lv_iconst (v := (nI 0)) hx hb dX7_setReplacement_61 (by decide) ?_
          refine pf_Mod_43 E hP hS hF26 (Nat.le_of_ble_eq_true rfl) dX7_setReplacement_62 (fun H locs hP hS => ?_)
          obtain ⟨F27, eF27⟩ : ∃ Fz : ah_F, Fz = ah_up F18 mo (.inr (7, [.int (nI 0), .ref dA, .int (nI 0), .int (nI n), .ref tA, .ref lA, .ref eA, .ref nlA, .ref neA, .ref sA, .int (nI S.length), .int td, .int ip, .int il])) := ⟨_, rfl⟩
          have hP : ah_K A D F27 H := by rw [eF27]; exact hP
          have hF28 : F27 mo = some (.inr (7, [.int (nI 0), .ref dA, .int (nI 0), .int (nI n), .ref tA, .ref lA, .ref eA, .ref nlA, .ref neA, .ref sA, .int (nI S.length), .int td, .int ip, .int il])) := by rw [eF27]; exact ah_up_s _ _ _
          have hF29 : F27 dA = some (ah_ai D 8 df) := by rw [eF27]; exact ah_keep hF26 hF20 rfl
          have hF30 : F27 tA = some (ah_az D 40 tf) := by rw [eF27]; exact ah_keep hF26 hF21 rfl
          have hF31 : F27 lA = some (ah_ai D 40 lf) := by rw [eF27]; exact ah_keep hF26 hF22 rfl
          have hF32 : F27 eA = some (ah_ai D 320 ef) := by rw [eF27]; exact ah_keep hF26 hF23 rfl
          have hF33 : F27 neA = some (ah_ai D 320 nef1) := by rw [eF27]; exact ah_keep hF26 hF24 rfl
          have hF34 : F27 sA = some (ah_ai D 200 sf) := by rw [eF27]; exact ah_keep hF26 hF25 rfl
          have hF35 : F27 nlA = some (ah_ai D 40 (upd nlf i (nI dr.length))) := by rw [eF27]; exact ah_keep hF26 hF19 rfl
          refine lv_iload_n hx hb dX7_setReplacement_65 rfl (lv_at hl 2 rfl) ?_
          rw [hQ]
          exact ah_iret E hr hP hS (md_An_i (P := ah_rep P i w dr) (n := n) (dr := []) (S := S) (td := td) (k := 0) (v := nI r0.length) (by simp only [sp_setReplacement, hpi, ah_r_s hPi, ah_w_s hPi]) ⟨dA, tA, lA, eA, nlA, neA, sA, _, _, ln, _, _, _, _, _, _, _, hF28, hF29, hF30, hF31, hF32, hF35, hF33, hF34, hne1, hne2, hne3, hne4, (md_L_rep hL hPi (fun j hj => hkA j (by omega)) hkB)⟩ (fun _ => rfl)) (Nat.le_of_ble_eq_true rfl) (Nat.le_of_ble_eq_true rfl) dX7_setReplacement_66
        · skip
          refine lv_aload_n hx hb dX7_setReplacement_27 rfl (lv_at hl 0 rfl) ?_
          refine gf_Mod_26 E hP hk10 rfl dX7_setReplacement_28 ?_
          refine lv_bipush (v := (nI 8)) hx hb dX7_setReplacement_31 (by decide) ?_
          refine lv_iload_n hx hb dX7_setReplacement_33 rfl (lv_at hl 1 rfl) ?_
          refine ah_imul hx hb dX7_setReplacement_34 ?_
          refine lv_iload_n hx hb dX7_setReplacement_35 rfl (lv_at hl 3 rfl) ?_
          refine ah_iadd hx hb dX7_setReplacement_36 ?_
          refine lv_aload_n hx hb dX7_setReplacement_37 rfl (lv_at hl 0 rfl) ?_
          refine gf_Mod_7 E hP hk10 rfl dX7_setReplacement_38 ?_
          refine lv_iload_n hx hb dX7_setReplacement_41 rfl (lv_at hl 3 rfl) ?_
          refine ah_iald E hP hk11 (by omega) (by omega) dX7_setReplacement_42 ?_
          rw [hdd k (by omega)]
          refine ah_iast E hP hS hk16 (by omega) (by omega) dX7_setReplacement_43 (fun H locs hP hS => ?_)
          obtain ⟨F36, eF36⟩ : ∃ Fz : ah_F, Fz = ah_up Fv neA (ah_ai D 320 (upd nef1 ((8 * i) + k) (nI (96 + dr.getD k 0)))) := ⟨_, rfl⟩
          have hP : ah_K A D F36 H := by rw [eF36]; exact hP
          have hF37 : F36 neA = some (ah_ai D 320 (upd nef1 ((8 * i) + k) (nI (96 + dr.getD k 0)))) := by rw [eF36]; exact ah_up_s _ _ _
          have hF38 : F36 dA = some (ah_ai D 8 df) := by rw [eF36]; exact ah_keep hk16 hk11 rfl
          have hF39 : F36 tA = some (ah_az D 40 tf) := by rw [eF36]; exact ah_keep hk16 hk12 rfl
          have hF40 : F36 lA = some (ah_ai D 40 lf) := by rw [eF36]; exact ah_keep hk16 hk13 rfl
          have hF41 : F36 eA = some (ah_ai D 320 ef) := by rw [eF36]; exact (ah_up_n _ _ hne2).trans hk14
          have hF42 : F36 nlA = some (ah_ai D 40 nlf) := by rw [eF36]; exact ah_keep hk16 hk15 rfl
          have hF43 : F36 sA = some (ah_ai D 200 sf) := by rw [eF36]; exact ah_keep hk16 hk17 rfl
          have hF44 : F36 mo = some (.inr (7, [.int (nI 0), .ref dA, .int (nI dr.length), .int (nI n), .ref tA, .ref lA, .ref eA, .ref nlA, .ref neA, .ref sA, .int (nI S.length), .int td, .int ip, .int il])) := by rw [eF36]; exact ah_keep hk16 hk10 rfl
          refine lv_iinc (v := (nI (k + 1))) (lv' := [(3, .int (nI (k + 1))), (0, .ref mo), (1, .int (nI i)), (2, .int (nI r0.length))]) hx hb dX7_setReplacement_44 hl (k := 3) rfl (ah_inc _) (by decide) rfl (fun ls hl => ?_)
          refine lv_goto (tgt := 19) hx hb dX7_setReplacement_47 (by decide) ?_
          exact ih _ (k + 1) _ (by omega) (by omega) (md_wr_s (G := fun j => nI (96 + dr.getD j 0)) hkA) (md_wr_o (by omega) hkB) hF44 hF38 hF39 hF40 hF41 hF42 hF37 hF43 _ _ hP hS ls (lv_sub hl [1, 2, 3, 0] rfl)
    exact L19 (dr.length + 1) _ 0 _ (by omega) (Nat.zero_le _) (fun j hj => absurd hj (Nat.not_lt_zero j)) (fun x hx => rfl) hG9 hG2 hG3 hG4 hG5 hG6 hG7 hG8 _ _ hP hS ls (lv_sub hl [2, 3, 1, 0] rfl)
  · skip
    have hnone := md_none hc5
    have hth : md_tn (ah_pi P v0).isSome = 1 := by rw [hc5]; rfl
    rw [hth] at hG9
    refine lv_iconst (v := (nI 0)) hx hb dX7_setReplacement_8 (by decide) ?_
    rw [hQ]
    exact ah_iret E hr hP hS (md_An_i (k := 1) (v := 0) (by simp only [sp_setReplacement, hnone]) ⟨dA, tA, lA, eA, nlA, neA, sA, _, _, ln, _, _, _, _, _, _, _, hG9, hG2, hG3, hG4, hG5, hG6, hG7, hG8, hne1, hne2, hne3, hne4, hL⟩ (fun h => absurd h (by decide))) (Nat.le_of_ble_eq_true rfl) (Nat.le_of_ble_eq_true rfl) dX7_setReplacement_9

set_option maxHeartbeats 4000000 in
set_option maxRecDepth 100000 in
/-- enter -/
theorem m_enter (l : Launch) (A : Nat → Prop) (D : ah_G) (F : ah_F) {mo n : Nat} {P : ah_Pt} {dr S : List Nat} {td th : Int32} (hC : md_C D F mo P n dr S td th)  : Met l yX7_enter (Cond.code yX7_enter cX7_enter 3 (some .int) :: ah_T) { frames := 1, cells := 0, slots := 0, locals := 23 } (va_Pc [.ref mo] (ah_B A D F)) (ah_Qi A D (fun (r : Int32) F1 => md_An D F1 mo (sp_enter P n dr S td) r)) 0 0 A := by
  refine ah_met (own := "AhoarchModel") (by decide) rfl (Nat.le_of_ble_eq_true rfl) ?_
  intro p e s m below meth c ls E hr hini hl hP hS Q hQ
  have hx := E.1
  have hb := E.2.1
  have hl : lv_has ls 3 [(0, .ref mo)] := hl
  obtain ⟨dA, tA, lA, eA, nlA, neA, sA, ip, il, ln, df, tf, lf, ef, nlf, nef, sf, hmo, hdA, htA, hlA, heA, hnlA, hneA, hsA, hne1, hne2, hne3, hne4, hL⟩ := id hC
  obtain ⟨hn40, hPn, hdok, hSl, hS200, hPok, hdis, hp20, hln, hlP, hdd, hss⟩ := id hL
  have hdl := hdok.1
  refine lv_aload_n hx hb dX7_enter_0 rfl (lv_at hl 0 rfl) ?_
  refine gf_Mod_43 E hP hmo rfl dX7_enter_1 ?_
  refine ah_if_le (tgt := 29) hx hb (by omega) dX7_enter_4 (by decide) (fun hc4 => ?_) (fun hc4 => ?_)
  · skip
    obtain ⟨c0, hc0⟩ : ∃ c0 : Bool, c0 = false := ⟨_, rfl⟩
    have hc01 : c0 = true ↔ (0 < dr.length ∧ pu_cn (fun i => (P i).isSome) 40 < 20 ∧ n < 40) := by rw [hc0]; exact ⟨fun h => absurd h (by decide), fun h => by omega⟩
    refine lv_iconst (v := (bI_ false)) hx hb dX7_enter_29 (by decide) ?_
    refine lv_istore_n (lv' := [(1, .int (bI_ false)), (0, .ref mo)]) hx hb dX7_enter_30 rfl hl (by decide) rfl (fun ls hl => ?_)
    refine lv_iconst (v := (nI 0)) hx hb dX7_enter_31 (by decide) ?_
    refine lv_istore_n (lv' := [(2, .int (nI 0)), (1, .int (bI_ false)), (0, .ref mo)]) hx hb dX7_enter_32 rfl hl (by decide) rfl (fun ls hl => ?_)
    have L33 : ∀ (fuel : Nat), ∀ (k : Nat) (b : Bool), n - k < fuel → k ≤ n → b = (c0 && !ah_any (ah_sat P (fun u => decide (u = dr))) k) → ∀ (H : Heap) (locs : List Loc), ah_K A D F H → va_S A s.heap H locs → ∀ (ls : Array Slot), lv_has ls 3 [(0, .ref mo), (1, .int (bI_ b)), (2, .int (nI k))] → W p l e { frames := 1, cells := 0, slots := 0, locals := 23 } s m [.ref mo].toArray below meth c H locs 0 0 Q (F0 m 33 ls []) := by
      intro fuel
      induction fuel with
      | zero =>
        intro k b hm
        exact absurd hm (Nat.not_lt_zero _)
      | succ fuel ih =>
        intro k b hm hk hbe H locs hP hS ls hl
        refine lv_iload_n hx hb dX7_enter_33 rfl (lv_at hl 2 rfl) ?_
        refine lv_aload_n hx hb dX7_enter_34 rfl (lv_at hl 0 rfl) ?_
        refine gf_Mod_36 E hP hmo rfl dX7_enter_35 ?_
        refine ah_icmp_ge (tgt := 65) hx hb (by omega) (by omega) dX7_enter_38 (by decide) (fun hc38 => ?_) (fun hc38 => ?_)
        · skip
          rw [show k = n by omega] at hbe
          have hcan := md_can hn40 hPn hc01 hbe
          refine lv_aload_n hx hb dX7_enter_65 rfl (lv_at hl 0 rfl) ?_
          refine lv_iload_n hx hb dX7_enter_66 rfl (lv_at hl 1 rfl) ?_
          refine ah_ifb_eq (tgt := 74) hx hb dX7_enter_67 (by decide) (fun hc67 => ?_) (fun hc67 => ?_)
          · skip
            rw [hc67] at hcan
            refine lv_iconst (v := (nI 1)) hx hb dX7_enter_74 (by decide) ?_
            refine ah_calli (ah_runV E hP hS (As := [.int (nI 1)]) (rest := []) (b := mo) (m_holds l A D _ hmo hdA htA hlA heA hnlA hneA hsA hL (k := 1) (by omega)) lk_Mod_46 li_Mod_46 hmo rfl ⟨rfl, rfl, (Nat.le_of_ble_eq_true rfl), (Nat.le_of_ble_eq_true rfl)⟩ rfl hl.1 rfl (Nat.le_of_ble_eq_true rfl) dX7_enter_75 ⟨(Nat.le_of_ble_eq_true rfl), (Nat.le_of_ble_eq_true rfl)⟩) hS (fun r F1 H locs hho75 hP hS => ?_)
            obtain ⟨eho75, hro⟩ := hho75
            have hG2 : F1 dA = some (ah_ai D 8 df) := by rw [eho75]; exact ah_keep hmo hdA rfl
            have hG3 : F1 tA = some (ah_az D 40 tf) := by rw [eho75]; exact ah_keep hmo htA rfl
            have hG4 : F1 lA = some (ah_ai D 40 lf) := by rw [eho75]; exact ah_keep hmo hlA rfl
            have hG5 : F1 eA = some (ah_ai D 320 ef) := by rw [eho75]; exact ah_keep hmo heA rfl
            have hG6 : F1 nlA = some (ah_ai D 40 nlf) := by rw [eho75]; exact ah_keep hmo hnlA rfl
            have hG7 : F1 neA = some (ah_ai D 320 nef) := by rw [eho75]; exact ah_keep hmo hneA rfl
            have hG8 : F1 sA = some (ah_ai D 200 sf) := by rw [eho75]; exact ah_keep hmo hsA rfl
            have hG9 : F1 mo = some (.inr (7, [.int (nI 1), .ref dA, .int (nI dr.length), .int (nI n), .ref tA, .ref lA, .ref eA, .ref nlA, .ref neA, .ref sA, .int (nI S.length), .int td, .int ip, .int il])) := by rw [eho75]; exact ah_up_s _ _ _
            subst hro
            refine ah_ifb_ne (tgt := 83) hx hb dX7_enter_78 (by decide) (fun hc78 => ?_) (fun hc78 => ?_)
            · skip
              exact absurd hc78 (by decide)
            · skip
              refine lv_iconst (v := (nI 0)) hx hb dX7_enter_81 (by decide) ?_
              rw [hQ]
              exact ah_iret E hr hP hS (md_An_i (k := 1) (v := 0) (by rw [sp_enter, if_neg (by rw [hcan]; decide)]) ⟨dA, tA, lA, eA, nlA, neA, sA, _, _, ln, _, _, _, _, _, _, _, hG9, hG2, hG3, hG4, hG5, hG6, hG7, hG8, hne1, hne2, hne3, hne4, hL⟩ (fun h => absurd h (by decide))) (Nat.le_of_ble_eq_true rfl) (Nat.le_of_ble_eq_true rfl) dX7_enter_82
          · skip
            rw [hc67] at hcan
            have hcan2 := id hcan
            simp only [ah_can, Bool.and_eq_true, decide_eq_true_eq, Bool.not_eq_true', Bool.or_eq_false_iff, decide_eq_false_iff_not] at hcan2
            have hn39 : n < 40 := by omega
            refine lv_iconst (v := (nI 0)) hx hb dX7_enter_70 (by decide) ?_
            refine lv_goto (tgt := 75) hx hb dX7_enter_71 (by decide) ?_
            refine ah_calli (ah_runV E hP hS (As := [.int (nI 0)]) (rest := []) (b := mo) (m_holds l A D _ hmo hdA htA hlA heA hnlA hneA hsA hL (k := 0) (by omega)) lk_Mod_46 li_Mod_46 hmo rfl ⟨rfl, rfl, (Nat.le_of_ble_eq_true rfl), (Nat.le_of_ble_eq_true rfl)⟩ rfl hl.1 rfl (Nat.le_of_ble_eq_true rfl) dX7_enter_75 ⟨(Nat.le_of_ble_eq_true rfl), (Nat.le_of_ble_eq_true rfl)⟩) hS (fun r F10 H locs hho75 hP hS => ?_)
            obtain ⟨eho75, hro⟩ := hho75
            have hG11 : F10 dA = some (ah_ai D 8 df) := by rw [eho75]; exact ah_keep hmo hdA rfl
            have hG12 : F10 tA = some (ah_az D 40 tf) := by rw [eho75]; exact ah_keep hmo htA rfl
            have hG13 : F10 lA = some (ah_ai D 40 lf) := by rw [eho75]; exact ah_keep hmo hlA rfl
            have hG14 : F10 eA = some (ah_ai D 320 ef) := by rw [eho75]; exact ah_keep hmo heA rfl
            have hG15 : F10 nlA = some (ah_ai D 40 nlf) := by rw [eho75]; exact ah_keep hmo hnlA rfl
            have hG16 : F10 neA = some (ah_ai D 320 nef) := by rw [eho75]; exact ah_keep hmo hneA rfl
            have hG17 : F10 sA = some (ah_ai D 200 sf) := by rw [eho75]; exact ah_keep hmo hsA rfl
            have hG18 : F10 mo = some (.inr (7, [.int (nI 0), .ref dA, .int (nI dr.length), .int (nI n), .ref tA, .ref lA, .ref eA, .ref nlA, .ref neA, .ref sA, .int (nI S.length), .int td, .int ip, .int il])) := by rw [eho75]; exact ah_up_s _ _ _
            subst hro
            refine ah_ifb_ne (tgt := 83) hx hb dX7_enter_78 (by decide) (fun hc78 => ?_) (fun hc78 => ?_)
            · skip
              refine lv_iconst (v := (nI 0)) hx hb dX7_enter_83 (by decide) ?_
              refine lv_istore_n (lv' := [(2, .int (nI 0)), (0, .ref mo), (1, .int (bI_ b))]) hx hb dX7_enter_84 rfl hl (by decide) rfl (fun ls hl => ?_)
              have L85 : ∀ (fuel : Nat), ∀ (Fv : ah_F) (k : Nat) (ef1 : Nat → Int32), dr.length - k < fuel → k ≤ dr.length → (∀ j, j < k → ef1 (8 * n + j) = nI (96 + dr.getD j 0)) → (∀ x, x < 8 * n ∨ 8 * n + 8 ≤ x → ef1 x = ef x) → Fv mo = some (.inr (7, [.int (nI 0), .ref dA, .int (nI dr.length), .int (nI n), .ref tA, .ref lA, .ref eA, .ref nlA, .ref neA, .ref sA, .int (nI S.length), .int td, .int ip, .int il])) → Fv dA = some (ah_ai D 8 df) → Fv tA = some (ah_az D 40 tf) → Fv lA = some (ah_ai D 40 lf) → Fv eA = some (ah_ai D 320 ef1) → Fv nlA = some (ah_ai D 40 nlf) → Fv neA = some (ah_ai D 320 nef) → Fv sA = some (ah_ai D 200 sf) → ∀ (H : Heap) (locs : List Loc), ah_K A D Fv H → va_S A s.heap H locs → ∀ (ls : Array Slot), lv_has ls 3 [(0, .ref mo), (2, .int (nI k))] → W p l e { frames := 1, cells := 0, slots := 0, locals := 23 } s m [.ref mo].toArray below meth c H locs (0 + 0) (0 + 0) Q (F0 m 85 ls []) := by
                intro fuel
                induction fuel with
                | zero =>
                  intro Fv k ef1 hm
                  exact absurd hm (Nat.not_lt_zero _)
                | succ fuel ih =>
                  intro Fv k ef1 hm hk hkA hkB hk19 hk20 hk21 hk22 hk23 hk24 hk25 hk26 H locs hP hS ls hl
                  refine lv_iload_n hx hb dX7_enter_85 rfl (lv_at hl 1 rfl) ?_
                  refine lv_aload_n hx hb dX7_enter_86 rfl (lv_at hl 0 rfl) ?_
                  refine gf_Mod_43 E hP hk19 rfl dX7_enter_87 ?_
                  refine ah_icmp_ge (tgt := 119) hx hb (by omega) (by omega) dX7_enter_90 (by decide) (fun hc90 => ?_) (fun hc90 => ?_)
                  · skip
                    refine lv_aload_n hx hb dX7_enter_119 rfl (lv_at hl 0 rfl) ?_
                    refine gf_Mod_17 E hP hk19 rfl dX7_enter_120 ?_
                    refine lv_aload_n hx hb dX7_enter_123 rfl (lv_at hl 0 rfl) ?_
                    refine gf_Mod_36 E hP hk19 rfl dX7_enter_124 ?_
                    refine lv_aload_n hx hb dX7_enter_127 rfl (lv_at hl 0 rfl) ?_
                    refine gf_Mod_43 E hP hk19 rfl dX7_enter_128 ?_
                    refine ah_iast E hP hS hk22 (by omega) (by omega) dX7_enter_131 (fun H locs hP hS => ?_)
                    obtain ⟨F27, eF27⟩ : ∃ Fz : ah_F, Fz = ah_up Fv lA (ah_ai D 40 (upd lf n (nI dr.length))) := ⟨_, rfl⟩
                    have hP : ah_K A D F27 H := by rw [eF27]; exact hP
                    have hF28 : F27 lA = some (ah_ai D 40 (upd lf n (nI dr.length))) := by rw [eF27]; exact ah_up_s _ _ _
                    have hF29 : F27 dA = some (ah_ai D 8 df) := by rw [eF27]; exact ah_keep hk22 hk20 rfl
                    have hF30 : F27 tA = some (ah_az D 40 tf) := by rw [eF27]; exact (ah_up_n _ _ hne3).trans hk21
                    have hF31 : F27 eA = some (ah_ai D 320 ef1) := by rw [eF27]; exact ah_keep hk22 hk23 rfl
                    have hF32 : F27 nlA = some (ah_ai D 40 nlf) := by rw [eF27]; exact (ah_up_n _ _ (Ne.symm hne1)).trans hk24
                    have hF33 : F27 neA = some (ah_ai D 320 nef) := by rw [eF27]; exact ah_keep hk22 hk25 rfl
                    have hF34 : F27 sA = some (ah_ai D 200 sf) := by rw [eF27]; exact ah_keep hk22 hk26 rfl
                    have hF35 : F27 mo = some (.inr (7, [.int (nI 0), .ref dA, .int (nI dr.length), .int (nI n), .ref tA, .ref lA, .ref eA, .ref nlA, .ref neA, .ref sA, .int (nI S.length), .int td, .int ip, .int il])) := by rw [eF27]; exact ah_keep hk22 hk19 rfl
                    refine lv_aload_n hx hb dX7_enter_132 rfl (lv_at hl 0 rfl) ?_
                    refine gf_Mod_23 E hP hF35 rfl dX7_enter_133 ?_
                    refine lv_aload_n hx hb dX7_enter_136 rfl (lv_at hl 0 rfl) ?_
                    refine gf_Mod_36 E hP hF35 rfl dX7_enter_137 ?_
                    refine lv_iconst (v := (nI 0)) hx hb dX7_enter_140 (by decide) ?_
                    refine ah_iast E hP hS hF32 (by omega) (by omega) dX7_enter_141 (fun H locs hP hS => ?_)
                    obtain ⟨F36, eF36⟩ : ∃ Fz : ah_F, Fz = ah_up F27 nlA (ah_ai D 40 (upd nlf n (nI 0))) := ⟨_, rfl⟩
                    have hP : ah_K A D F36 H := by rw [eF36]; exact hP
                    have hF37 : F36 nlA = some (ah_ai D 40 (upd nlf n (nI 0))) := by rw [eF36]; exact ah_up_s _ _ _
                    have hF38 : F36 dA = some (ah_ai D 8 df) := by rw [eF36]; exact ah_keep hF32 hF29 rfl
                    have hF39 : F36 tA = some (ah_az D 40 tf) := by rw [eF36]; exact (ah_up_n _ _ hne4).trans hF30
                    have hF40 : F36 eA = some (ah_ai D 320 ef1) := by rw [eF36]; exact ah_keep hF32 hF31 rfl
                    have hF41 : F36 neA = some (ah_ai D 320 nef) := by rw [eF36]; exact ah_keep hF32 hF33 rfl
                    have hF42 : F36 sA = some (ah_ai D 200 sf) := by rw [eF36]; exact ah_keep hF32 hF34 rfl
                    have hF43 : F36 mo = some (.inr (7, [.int (nI 0), .ref dA, .int (nI dr.length), .int (nI n), .ref tA, .ref lA, .ref eA, .ref nlA, .ref neA, .ref sA, .int (nI S.length), .int td, .int ip, .int il])) := by rw [eF36]; exact ah_keep hF32 hF35 rfl
                    have hF44 : F36 lA = some (ah_ai D 40 (upd lf n (nI dr.length))) := by rw [eF36]; exact (ah_up_n _ _ hne1).trans hF28
                    refine lv_aload_n hx hb dX7_enter_142 rfl (lv_at hl 0 rfl) ?_
                    refine gf_Mod_13 E hP hF43 rfl dX7_enter_143 ?_
                    refine lv_aload_n hx hb dX7_enter_146 rfl (lv_at hl 0 rfl) ?_
                    refine gf_Mod_36 E hP hF43 rfl dX7_enter_147 ?_
                    refine lv_iconst (v := (nI 1)) hx hb dX7_enter_150 (by decide) ?_
                    refine ah_zast E hP hS hF39 (by omega) (by omega) (by decide) dX7_enter_151 (fun H locs hP hS => ?_)
                    obtain ⟨F45, eF45⟩ : ∃ Fz : ah_F, Fz = ah_up F36 tA (ah_az D 40 (upd tf n (nI 1))) := ⟨_, rfl⟩
                    have hP : ah_K A D F45 H := by rw [eF45]; exact hP
                    have hF46 : F45 tA = some (ah_az D 40 (upd tf n (nI 1))) := by rw [eF45]; exact ah_up_s _ _ _
                    have hF47 : F45 dA = some (ah_ai D 8 df) := by rw [eF45]; exact ah_keep hF39 hF38 rfl
                    have hF48 : F45 eA = some (ah_ai D 320 ef1) := by rw [eF45]; exact ah_keep hF39 hF40 rfl
                    have hF49 : F45 neA = some (ah_ai D 320 nef) := by rw [eF45]; exact ah_keep hF39 hF41 rfl
                    have hF50 : F45 sA = some (ah_ai D 200 sf) := by rw [eF45]; exact ah_keep hF39 hF42 rfl
                    have hF51 : F45 mo = some (.inr (7, [.int (nI 0), .ref dA, .int (nI dr.length), .int (nI n), .ref tA, .ref lA, .ref eA, .ref nlA, .ref neA, .ref sA, .int (nI S.length), .int td, .int ip, .int il])) := by rw [eF45]; exact ah_keep hF39 hF43 rfl
                    have hF52 : F45 lA = some (ah_ai D 40 (upd lf n (nI dr.length))) := by rw [eF45]; exact (ah_up_n _ _ (Ne.symm hne3)).trans hF44
                    have hF53 : F45 nlA = some (ah_ai D 40 (upd nlf n (nI 0))) := by rw [eF45]; exact (ah_up_n _ _ (Ne.symm hne4)).trans hF37
                    refine lv_aload_n hx hb dX7_enter_152 rfl (lv_at hl 0 rfl) ?_
                    refine lv_iconst (v := (nI 0)) hx hb dX7_enter_153 (by decide) ?_
                    refine pf_Mod_43 E hP hS hF51 (Nat.le_of_ble_eq_true rfl) dX7_enter_154 (fun H locs hP hS => ?_)
                    obtain ⟨F54, eF54⟩ : ∃ Fz : ah_F, Fz = ah_up F45 mo (.inr (7, [.int (nI 0), .ref dA, .int (nI 0), .int (nI n), .ref tA, .ref lA, .ref eA, .ref nlA, .ref neA, .ref sA, .int (nI S.length), .int td, .int ip, .int il])) := ⟨_, rfl⟩
                    have hP : ah_K A D F54 H := by rw [eF54]; exact hP
                    have hF55 : F54 mo = some (.inr (7, [.int (nI 0), .ref dA, .int (nI 0), .int (nI n), .ref tA, .ref lA, .ref eA, .ref nlA, .ref neA, .ref sA, .int (nI S.length), .int td, .int ip, .int il])) := by rw [eF54]; exact ah_up_s _ _ _
                    have hF56 : F54 dA = some (ah_ai D 8 df) := by rw [eF54]; exact ah_keep hF51 hF47 rfl
                    have hF57 : F54 eA = some (ah_ai D 320 ef1) := by rw [eF54]; exact ah_keep hF51 hF48 rfl
                    have hF58 : F54 neA = some (ah_ai D 320 nef) := by rw [eF54]; exact ah_keep hF51 hF49 rfl
                    have hF59 : F54 sA = some (ah_ai D 200 sf) := by rw [eF54]; exact ah_keep hF51 hF50 rfl
                    have hF60 : F54 lA = some (ah_ai D 40 (upd lf n (nI dr.length))) := by rw [eF54]; exact ah_keep hF51 hF52 rfl
                    have hF61 : F54 nlA = some (ah_ai D 40 (upd nlf n (nI 0))) := by rw [eF54]; exact ah_keep hF51 hF53 rfl
                    have hF62 : F54 tA = some (ah_az D 40 (upd tf n (nI 1))) := by rw [eF54]; exact ah_keep hF51 hF46 rfl
                    refine lv_aload_n hx hb dX7_enter_157 rfl (lv_at hl 0 rfl) ?_
                    refine lv_dup hx hb dX7_enter_158 rfl ?_
                    refine gf_Mod_36 E hP hF55 rfl dX7_enter_159 ?_
                    refine lv_iconst (v := (nI 1)) hx hb dX7_enter_162 (by decide) ?_
                    refine ah_iadd hx hb dX7_enter_163 ?_
                    refine pf_Mod_36 E hP hS hF55 (Nat.le_of_ble_eq_true rfl) dX7_enter_164 (fun H locs hP hS => ?_)
                    obtain ⟨F63, eF63⟩ : ∃ Fz : ah_F, Fz = ah_up F54 mo (.inr (7, [.int (nI 0), .ref dA, .int (nI 0), .int (nI (n + 1)), .ref tA, .ref lA, .ref eA, .ref nlA, .ref neA, .ref sA, .int (nI S.length), .int td, .int ip, .int il])) := ⟨_, rfl⟩
                    have hP : ah_K A D F63 H := by rw [eF63]; exact hP
                    have hF64 : F63 mo = some (.inr (7, [.int (nI 0), .ref dA, .int (nI 0), .int (nI (n + 1)), .ref tA, .ref lA, .ref eA, .ref nlA, .ref neA, .ref sA, .int (nI S.length), .int td, .int ip, .int il])) := by rw [eF63]; exact ah_up_s _ _ _
                    have hF65 : F63 dA = some (ah_ai D 8 df) := by rw [eF63]; exact ah_keep hF55 hF56 rfl
                    have hF66 : F63 eA = some (ah_ai D 320 ef1) := by rw [eF63]; exact ah_keep hF55 hF57 rfl
                    have hF67 : F63 neA = some (ah_ai D 320 nef) := by rw [eF63]; exact ah_keep hF55 hF58 rfl
                    have hF68 : F63 sA = some (ah_ai D 200 sf) := by rw [eF63]; exact ah_keep hF55 hF59 rfl
                    have hF69 : F63 lA = some (ah_ai D 40 (upd lf n (nI dr.length))) := by rw [eF63]; exact ah_keep hF55 hF60 rfl
                    have hF70 : F63 nlA = some (ah_ai D 40 (upd nlf n (nI 0))) := by rw [eF63]; exact ah_keep hF55 hF61 rfl
                    have hF71 : F63 tA = some (ah_az D 40 (upd tf n (nI 1))) := by rw [eF63]; exact ah_keep hF55 hF62 rfl
                    refine lv_aload_n hx hb dX7_enter_167 rfl (lv_at hl 0 rfl) ?_
                    refine gf_Mod_36 E hP hF64 rfl dX7_enter_168 ?_
                    refine lv_iconst (v := (nI 1)) hx hb dX7_enter_171 (by decide) ?_
                    refine ah_isub hx hb (by omega) dX7_enter_172 ?_
                    rw [hQ]
                    exact ah_iret E hr hP hS (md_An_i (P := ah_ins P n dr) (n := n + 1) (dr := []) (S := S) (td := td) (k := 0) (v := nI n) (by rw [sp_enter, if_pos hcan]) ⟨dA, tA, lA, eA, nlA, neA, sA, _, _, (fun j => if j = n then dr.length else ln j), _, _, _, _, _, _, _, hF64, hF65, hF71, hF69, hF66, hF70, hF67, hF68, hne1, hne2, hne3, hne4, (md_L_ins hL hcan (fun j hj => hkA j (by omega)) hkB)⟩ (fun _ => rfl)) (Nat.le_of_ble_eq_true rfl) (Nat.le_of_ble_eq_true rfl) dX7_enter_173
                  · skip
                    refine lv_aload_n hx hb dX7_enter_93 rfl (lv_at hl 0 rfl) ?_
                    refine gf_Mod_20 E hP hk19 rfl dX7_enter_94 ?_
                    refine lv_bipush (v := (nI 8)) hx hb dX7_enter_97 (by decide) ?_
                    refine lv_aload_n hx hb dX7_enter_99 rfl (lv_at hl 0 rfl) ?_
                    refine gf_Mod_36 E hP hk19 rfl dX7_enter_100 ?_
                    refine ah_imul hx hb dX7_enter_103 ?_
                    refine lv_iload_n hx hb dX7_enter_104 rfl (lv_at hl 1 rfl) ?_
                    refine ah_iadd hx hb dX7_enter_105 ?_
                    refine lv_aload_n hx hb dX7_enter_106 rfl (lv_at hl 0 rfl) ?_
                    refine gf_Mod_7 E hP hk19 rfl dX7_enter_107 ?_
                    refine lv_iload_n hx hb dX7_enter_110 rfl (lv_at hl 1 rfl) ?_
                    refine ah_iald E hP hk20 (by omega) (by omega) dX7_enter_111 ?_
                    rw [hdd k (by omega)]
                    refine ah_iast E hP hS hk23 (by omega) (by omega) dX7_enter_112 (fun H locs hP hS => ?_)
                    obtain ⟨F72, eF72⟩ : ∃ Fz : ah_F, Fz = ah_up Fv eA (ah_ai D 320 (upd ef1 ((8 * n) + k) (nI (96 + dr.getD k 0)))) := ⟨_, rfl⟩
                    have hP : ah_K A D F72 H := by rw [eF72]; exact hP
                    have hF73 : F72 eA = some (ah_ai D 320 (upd ef1 ((8 * n) + k) (nI (96 + dr.getD k 0)))) := by rw [eF72]; exact ah_up_s _ _ _
                    have hF74 : F72 dA = some (ah_ai D 8 df) := by rw [eF72]; exact ah_keep hk23 hk20 rfl
                    have hF75 : F72 tA = some (ah_az D 40 tf) := by rw [eF72]; exact ah_keep hk23 hk21 rfl
                    have hF76 : F72 lA = some (ah_ai D 40 lf) := by rw [eF72]; exact ah_keep hk23 hk22 rfl
                    have hF77 : F72 nlA = some (ah_ai D 40 nlf) := by rw [eF72]; exact ah_keep hk23 hk24 rfl
                    have hF78 : F72 neA = some (ah_ai D 320 nef) := by rw [eF72]; exact (ah_up_n _ _ (Ne.symm hne2)).trans hk25
                    have hF79 : F72 sA = some (ah_ai D 200 sf) := by rw [eF72]; exact ah_keep hk23 hk26 rfl
                    have hF80 : F72 mo = some (.inr (7, [.int (nI 0), .ref dA, .int (nI dr.length), .int (nI n), .ref tA, .ref lA, .ref eA, .ref nlA, .ref neA, .ref sA, .int (nI S.length), .int td, .int ip, .int il])) := by rw [eF72]; exact ah_keep hk23 hk19 rfl
                    refine lv_iinc (v := (nI (k + 1))) (lv' := [(2, .int (nI (k + 1))), (0, .ref mo)]) hx hb dX7_enter_113 hl (k := 1) rfl (ah_inc _) (by decide) rfl (fun ls hl => ?_)
                    refine lv_goto (tgt := 85) hx hb dX7_enter_116 (by decide) ?_
                    exact ih _ (k + 1) _ (by omega) (by omega) (md_wr_s (G := fun j => nI (96 + dr.getD j 0)) hkA) (md_wr_o (by omega) hkB) hF80 hF74 hF75 hF76 hF73 hF77 hF78 hF79 _ _ hP hS ls (lv_sub hl [1, 0] rfl)
              exact L85 (dr.length + 1) _ 0 _ (by omega) (Nat.zero_le _) (fun j hj => absurd hj (Nat.not_lt_zero j)) (fun x hx => rfl) hG18 hG11 hG12 hG13 hG14 hG15 hG16 hG17 _ _ hP hS ls (lv_sub hl [1, 0] rfl)
            · skip
              exact absurd hc78 (by decide)
        · skip
          refine lv_iload_n hx hb dX7_enter_41 rfl (lv_at hl 1 rfl) ?_
          refine ah_ifb_eq (tgt := 57) hx hb dX7_enter_42 (by decide) (fun hc42 => ?_) (fun hc42 => ?_)
          · skip
            refine lv_iconst (v := (bI_ false)) hx hb dX7_enter_57 (by decide) ?_
            refine lv_istore_n (lv' := [(1, .int (bI_ false)), (0, .ref mo), (2, .int (nI k))]) hx hb dX7_enter_58 rfl hl (by decide) rfl (fun ls hl => ?_)
            refine lv_iinc (v := (nI (k + 1))) (lv' := [(2, .int (nI (k + 1))), (1, .int (bI_ false)), (0, .ref mo)]) hx hb dX7_enter_59 hl (k := 2) rfl (ah_inc _) (by decide) rfl (fun ls hl => ?_)
            refine lv_goto (tgt := 33) hx hb dX7_enter_62 (by decide) ?_
            exact ih (k + 1) false (by omega) (by omega) (md_can_f hbe hc42) _ _ hP hS ls (lv_sub hl [2, 1, 0] rfl)
          · skip
            refine lv_aload_n hx hb dX7_enter_45 rfl (lv_at hl 0 rfl) ?_
            refine lv_iload_n hx hb dX7_enter_46 rfl (lv_at hl 2 rfl) ?_
            refine ah_calli (ah_runV E hP hS (As := [.int (nI k)]) (rest := []) (b := mo) (m_isDraft l A D _ hmo hdA htA hlA heA hnlA hneA hsA hL (i := k) (by omega)) lk_Mod_54 li_Mod_54 hmo rfl ⟨rfl, rfl, (Nat.le_of_ble_eq_true rfl), (Nat.le_of_ble_eq_true rfl)⟩ rfl hl.1 rfl (Nat.le_of_ble_eq_true rfl) dX7_enter_47 ⟨(Nat.le_of_ble_eq_true rfl), (Nat.le_of_ble_eq_true rfl)⟩) hS (fun r F81 H locs hq hP hS => ?_)
            obtain ⟨rfl, rfl⟩ := hq
            refine ah_ifb_ne (tgt := 57) hx hb dX7_enter_50 (by decide) (fun hc50 => ?_) (fun hc50 => ?_)
            · skip
              refine lv_iconst (v := (bI_ false)) hx hb dX7_enter_57 (by decide) ?_
              refine lv_istore_n (lv' := [(1, .int (bI_ false)), (0, .ref mo), (2, .int (nI k))]) hx hb dX7_enter_58 rfl hl (by decide) rfl (fun ls hl => ?_)
              refine lv_iinc (v := (nI (k + 1))) (lv' := [(2, .int (nI (k + 1))), (1, .int (bI_ false)), (0, .ref mo)]) hx hb dX7_enter_59 hl (k := 2) rfl (ah_inc _) (by decide) rfl (fun ls hl => ?_)
              refine lv_goto (tgt := 33) hx hb dX7_enter_62 (by decide) ?_
              exact ih (k + 1) false (by omega) (by omega) (md_can_h hc50) _ _ hP hS ls (lv_sub hl [2, 1, 0] rfl)
            · skip
              refine lv_iconst (v := (bI_ true)) hx hb dX7_enter_53 (by decide) ?_
              refine lv_goto (tgt := 58) hx hb dX7_enter_54 (by decide) ?_
              refine lv_istore_n (lv' := [(1, .int (bI_ true)), (0, .ref mo), (2, .int (nI k))]) hx hb dX7_enter_58 rfl hl (by decide) rfl (fun ls hl => ?_)
              refine lv_iinc (v := (nI (k + 1))) (lv' := [(2, .int (nI (k + 1))), (1, .int (bI_ true)), (0, .ref mo)]) hx hb dX7_enter_59 hl (k := 2) rfl (ah_inc _) (by decide) rfl (fun ls hl => ?_)
              refine lv_goto (tgt := 33) hx hb dX7_enter_62 (by decide) ?_
              exact ih (k + 1) true (by omega) (by omega) (md_can_t hbe hc42 hc50) _ _ hP hS ls (lv_sub hl [2, 1, 0] rfl)
    exact L33 (n + 1) 0 false (by omega) (Nat.zero_le _) (by rw [hc0]; rfl) _ _ hP hS ls (lv_sub hl [2, 1, 0] rfl)
  · skip
    refine lv_aload_n hx hb dX7_enter_7 rfl (lv_at hl 0 rfl) ?_
    refine ah_calli (ah_runV E hP hS (As := []) (rest := []) (b := mo) (m_patternsNow l A D _ hmo hdA htA hlA heA hnlA hneA hsA hL) lk_Mod_50 li_Mod_50 hmo rfl ⟨rfl, rfl, (Nat.le_of_ble_eq_true rfl), (Nat.le_of_ble_eq_true rfl)⟩ rfl hl.1 rfl (Nat.le_of_ble_eq_true rfl) dX7_enter_8 ⟨(Nat.le_of_ble_eq_true rfl), (Nat.le_of_ble_eq_true rfl)⟩) hS (fun r F82 H locs hq hP hS => ?_)
    obtain ⟨rfl, rfl⟩ := hq
    refine lv_bipush (v := (nI 20)) hx hb dX7_enter_11 (by decide) ?_
    refine ah_icmp_ge (tgt := 29) hx hb (by omega) (by omega) dX7_enter_13 (by decide) (fun hc13 => ?_) (fun hc13 => ?_)
    · skip
      obtain ⟨c0, hc0⟩ : ∃ c0 : Bool, c0 = false := ⟨_, rfl⟩
      have hc01 : c0 = true ↔ (0 < dr.length ∧ pu_cn (fun i => (P i).isSome) 40 < 20 ∧ n < 40) := by rw [hc0]; exact ⟨fun h => absurd h (by decide), fun h => by omega⟩
      refine lv_iconst (v := (bI_ false)) hx hb dX7_enter_29 (by decide) ?_
      refine lv_istore_n (lv' := [(1, .int (bI_ false)), (0, .ref mo)]) hx hb dX7_enter_30 rfl hl (by decide) rfl (fun ls hl => ?_)
      refine lv_iconst (v := (nI 0)) hx hb dX7_enter_31 (by decide) ?_
      refine lv_istore_n (lv' := [(2, .int (nI 0)), (1, .int (bI_ false)), (0, .ref mo)]) hx hb dX7_enter_32 rfl hl (by decide) rfl (fun ls hl => ?_)
      have L33 : ∀ (fuel : Nat), ∀ (k : Nat) (b : Bool), n - k < fuel → k ≤ n → b = (c0 && !ah_any (ah_sat P (fun u => decide (u = dr))) k) → ∀ (H : Heap) (locs : List Loc), ah_K A D F H → va_S A s.heap H locs → ∀ (ls : Array Slot), lv_has ls 3 [(0, .ref mo), (1, .int (bI_ b)), (2, .int (nI k))] → W p l e { frames := 1, cells := 0, slots := 0, locals := 23 } s m [.ref mo].toArray below meth c H locs (0 + 0) (0 + 0) Q (F0 m 33 ls []) := by
        intro fuel
        induction fuel with
        | zero =>
          intro k b hm
          exact absurd hm (Nat.not_lt_zero _)
        | succ fuel ih =>
          intro k b hm hk hbe H locs hP hS ls hl
          refine lv_iload_n hx hb dX7_enter_33 rfl (lv_at hl 2 rfl) ?_
          refine lv_aload_n hx hb dX7_enter_34 rfl (lv_at hl 0 rfl) ?_
          refine gf_Mod_36 E hP hmo rfl dX7_enter_35 ?_
          refine ah_icmp_ge (tgt := 65) hx hb (by omega) (by omega) dX7_enter_38 (by decide) (fun hc38 => ?_) (fun hc38 => ?_)
          · skip
            rw [show k = n by omega] at hbe
            have hcan := md_can hn40 hPn hc01 hbe
            refine lv_aload_n hx hb dX7_enter_65 rfl (lv_at hl 0 rfl) ?_
            refine lv_iload_n hx hb dX7_enter_66 rfl (lv_at hl 1 rfl) ?_
            refine ah_ifb_eq (tgt := 74) hx hb dX7_enter_67 (by decide) (fun hc67 => ?_) (fun hc67 => ?_)
            · skip
              rw [hc67] at hcan
              refine lv_iconst (v := (nI 1)) hx hb dX7_enter_74 (by decide) ?_
              refine ah_calli (ah_runV E hP hS (As := [.int (nI 1)]) (rest := []) (b := mo) (m_holds l A D _ hmo hdA htA hlA heA hnlA hneA hsA hL (k := 1) (by omega)) lk_Mod_46 li_Mod_46 hmo rfl ⟨rfl, rfl, (Nat.le_of_ble_eq_true rfl), (Nat.le_of_ble_eq_true rfl)⟩ rfl hl.1 rfl (Nat.le_of_ble_eq_true rfl) dX7_enter_75 ⟨(Nat.le_of_ble_eq_true rfl), (Nat.le_of_ble_eq_true rfl)⟩) hS (fun r F83 H locs hho75 hP hS => ?_)
              obtain ⟨eho75, hro⟩ := hho75
              have hG84 : F83 dA = some (ah_ai D 8 df) := by rw [eho75]; exact ah_keep hmo hdA rfl
              have hG85 : F83 tA = some (ah_az D 40 tf) := by rw [eho75]; exact ah_keep hmo htA rfl
              have hG86 : F83 lA = some (ah_ai D 40 lf) := by rw [eho75]; exact ah_keep hmo hlA rfl
              have hG87 : F83 eA = some (ah_ai D 320 ef) := by rw [eho75]; exact ah_keep hmo heA rfl
              have hG88 : F83 nlA = some (ah_ai D 40 nlf) := by rw [eho75]; exact ah_keep hmo hnlA rfl
              have hG89 : F83 neA = some (ah_ai D 320 nef) := by rw [eho75]; exact ah_keep hmo hneA rfl
              have hG90 : F83 sA = some (ah_ai D 200 sf) := by rw [eho75]; exact ah_keep hmo hsA rfl
              have hG91 : F83 mo = some (.inr (7, [.int (nI 1), .ref dA, .int (nI dr.length), .int (nI n), .ref tA, .ref lA, .ref eA, .ref nlA, .ref neA, .ref sA, .int (nI S.length), .int td, .int ip, .int il])) := by rw [eho75]; exact ah_up_s _ _ _
              subst hro
              refine ah_ifb_ne (tgt := 83) hx hb dX7_enter_78 (by decide) (fun hc78 => ?_) (fun hc78 => ?_)
              · skip
                exact absurd hc78 (by decide)
              · skip
                refine lv_iconst (v := (nI 0)) hx hb dX7_enter_81 (by decide) ?_
                rw [hQ]
                exact ah_iret E hr hP hS (md_An_i (k := 1) (v := 0) (by rw [sp_enter, if_neg (by rw [hcan]; decide)]) ⟨dA, tA, lA, eA, nlA, neA, sA, _, _, ln, _, _, _, _, _, _, _, hG91, hG84, hG85, hG86, hG87, hG88, hG89, hG90, hne1, hne2, hne3, hne4, hL⟩ (fun h => absurd h (by decide))) (Nat.le_of_ble_eq_true rfl) (Nat.le_of_ble_eq_true rfl) dX7_enter_82
            · skip
              rw [hc67] at hcan
              have hcan2 := id hcan
              simp only [ah_can, Bool.and_eq_true, decide_eq_true_eq, Bool.not_eq_true', Bool.or_eq_false_iff, decide_eq_false_iff_not] at hcan2
              have hn39 : n < 40 := by omega
              refine lv_iconst (v := (nI 0)) hx hb dX7_enter_70 (by decide) ?_
              refine lv_goto (tgt := 75) hx hb dX7_enter_71 (by decide) ?_
              refine ah_calli (ah_runV E hP hS (As := [.int (nI 0)]) (rest := []) (b := mo) (m_holds l A D _ hmo hdA htA hlA heA hnlA hneA hsA hL (k := 0) (by omega)) lk_Mod_46 li_Mod_46 hmo rfl ⟨rfl, rfl, (Nat.le_of_ble_eq_true rfl), (Nat.le_of_ble_eq_true rfl)⟩ rfl hl.1 rfl (Nat.le_of_ble_eq_true rfl) dX7_enter_75 ⟨(Nat.le_of_ble_eq_true rfl), (Nat.le_of_ble_eq_true rfl)⟩) hS (fun r F92 H locs hho75 hP hS => ?_)
              obtain ⟨eho75, hro⟩ := hho75
              have hG93 : F92 dA = some (ah_ai D 8 df) := by rw [eho75]; exact ah_keep hmo hdA rfl
              have hG94 : F92 tA = some (ah_az D 40 tf) := by rw [eho75]; exact ah_keep hmo htA rfl
              have hG95 : F92 lA = some (ah_ai D 40 lf) := by rw [eho75]; exact ah_keep hmo hlA rfl
              have hG96 : F92 eA = some (ah_ai D 320 ef) := by rw [eho75]; exact ah_keep hmo heA rfl
              have hG97 : F92 nlA = some (ah_ai D 40 nlf) := by rw [eho75]; exact ah_keep hmo hnlA rfl
              have hG98 : F92 neA = some (ah_ai D 320 nef) := by rw [eho75]; exact ah_keep hmo hneA rfl
              have hG99 : F92 sA = some (ah_ai D 200 sf) := by rw [eho75]; exact ah_keep hmo hsA rfl
              have hG100 : F92 mo = some (.inr (7, [.int (nI 0), .ref dA, .int (nI dr.length), .int (nI n), .ref tA, .ref lA, .ref eA, .ref nlA, .ref neA, .ref sA, .int (nI S.length), .int td, .int ip, .int il])) := by rw [eho75]; exact ah_up_s _ _ _
              subst hro
              refine ah_ifb_ne (tgt := 83) hx hb dX7_enter_78 (by decide) (fun hc78 => ?_) (fun hc78 => ?_)
              · skip
                refine lv_iconst (v := (nI 0)) hx hb dX7_enter_83 (by decide) ?_
                refine lv_istore_n (lv' := [(2, .int (nI 0)), (0, .ref mo), (1, .int (bI_ b))]) hx hb dX7_enter_84 rfl hl (by decide) rfl (fun ls hl => ?_)
                have L85 : ∀ (fuel : Nat), ∀ (Fv : ah_F) (k : Nat) (ef1 : Nat → Int32), dr.length - k < fuel → k ≤ dr.length → (∀ j, j < k → ef1 (8 * n + j) = nI (96 + dr.getD j 0)) → (∀ x, x < 8 * n ∨ 8 * n + 8 ≤ x → ef1 x = ef x) → Fv mo = some (.inr (7, [.int (nI 0), .ref dA, .int (nI dr.length), .int (nI n), .ref tA, .ref lA, .ref eA, .ref nlA, .ref neA, .ref sA, .int (nI S.length), .int td, .int ip, .int il])) → Fv dA = some (ah_ai D 8 df) → Fv tA = some (ah_az D 40 tf) → Fv lA = some (ah_ai D 40 lf) → Fv eA = some (ah_ai D 320 ef1) → Fv nlA = some (ah_ai D 40 nlf) → Fv neA = some (ah_ai D 320 nef) → Fv sA = some (ah_ai D 200 sf) → ∀ (H : Heap) (locs : List Loc), ah_K A D Fv H → va_S A s.heap H locs → ∀ (ls : Array Slot), lv_has ls 3 [(0, .ref mo), (2, .int (nI k))] → W p l e { frames := 1, cells := 0, slots := 0, locals := 23 } s m [.ref mo].toArray below meth c H locs ((0 + 0) + 0) ((0 + 0) + 0) Q (F0 m 85 ls []) := by
                  intro fuel
                  induction fuel with
                  | zero =>
                    intro Fv k ef1 hm
                    exact absurd hm (Nat.not_lt_zero _)
                  | succ fuel ih =>
                    intro Fv k ef1 hm hk hkA hkB hk101 hk102 hk103 hk104 hk105 hk106 hk107 hk108 H locs hP hS ls hl
                    refine lv_iload_n hx hb dX7_enter_85 rfl (lv_at hl 1 rfl) ?_
                    refine lv_aload_n hx hb dX7_enter_86 rfl (lv_at hl 0 rfl) ?_
                    refine gf_Mod_43 E hP hk101 rfl dX7_enter_87 ?_
                    refine ah_icmp_ge (tgt := 119) hx hb (by omega) (by omega) dX7_enter_90 (by decide) (fun hc90 => ?_) (fun hc90 => ?_)
                    · skip
                      refine lv_aload_n hx hb dX7_enter_119 rfl (lv_at hl 0 rfl) ?_
                      refine gf_Mod_17 E hP hk101 rfl dX7_enter_120 ?_
                      refine lv_aload_n hx hb dX7_enter_123 rfl (lv_at hl 0 rfl) ?_
                      refine gf_Mod_36 E hP hk101 rfl dX7_enter_124 ?_
                      refine lv_aload_n hx hb dX7_enter_127 rfl (lv_at hl 0 rfl) ?_
                      refine gf_Mod_43 E hP hk101 rfl dX7_enter_128 ?_
                      refine ah_iast E hP hS hk104 (by omega) (by omega) dX7_enter_131 (fun H locs hP hS => ?_)
                      obtain ⟨F109, eF109⟩ : ∃ Fz : ah_F, Fz = ah_up Fv lA (ah_ai D 40 (upd lf n (nI dr.length))) := ⟨_, rfl⟩
                      have hP : ah_K A D F109 H := by rw [eF109]; exact hP
                      have hF110 : F109 lA = some (ah_ai D 40 (upd lf n (nI dr.length))) := by rw [eF109]; exact ah_up_s _ _ _
                      have hF111 : F109 dA = some (ah_ai D 8 df) := by rw [eF109]; exact ah_keep hk104 hk102 rfl
                      have hF112 : F109 tA = some (ah_az D 40 tf) := by rw [eF109]; exact (ah_up_n _ _ hne3).trans hk103
                      have hF113 : F109 eA = some (ah_ai D 320 ef1) := by rw [eF109]; exact ah_keep hk104 hk105 rfl
                      have hF114 : F109 nlA = some (ah_ai D 40 nlf) := by rw [eF109]; exact (ah_up_n _ _ (Ne.symm hne1)).trans hk106
                      have hF115 : F109 neA = some (ah_ai D 320 nef) := by rw [eF109]; exact ah_keep hk104 hk107 rfl
                      have hF116 : F109 sA = some (ah_ai D 200 sf) := by rw [eF109]; exact ah_keep hk104 hk108 rfl
                      have hF117 : F109 mo = some (.inr (7, [.int (nI 0), .ref dA, .int (nI dr.length), .int (nI n), .ref tA, .ref lA, .ref eA, .ref nlA, .ref neA, .ref sA, .int (nI S.length), .int td, .int ip, .int il])) := by rw [eF109]; exact ah_keep hk104 hk101 rfl
                      refine lv_aload_n hx hb dX7_enter_132 rfl (lv_at hl 0 rfl) ?_
                      refine gf_Mod_23 E hP hF117 rfl dX7_enter_133 ?_
                      refine lv_aload_n hx hb dX7_enter_136 rfl (lv_at hl 0 rfl) ?_
                      refine gf_Mod_36 E hP hF117 rfl dX7_enter_137 ?_
                      refine lv_iconst (v := (nI 0)) hx hb dX7_enter_140 (by decide) ?_
                      refine ah_iast E hP hS hF114 (by omega) (by omega) dX7_enter_141 (fun H locs hP hS => ?_)
                      obtain ⟨F118, eF118⟩ : ∃ Fz : ah_F, Fz = ah_up F109 nlA (ah_ai D 40 (upd nlf n (nI 0))) := ⟨_, rfl⟩
                      have hP : ah_K A D F118 H := by rw [eF118]; exact hP
                      have hF119 : F118 nlA = some (ah_ai D 40 (upd nlf n (nI 0))) := by rw [eF118]; exact ah_up_s _ _ _
                      have hF120 : F118 dA = some (ah_ai D 8 df) := by rw [eF118]; exact ah_keep hF114 hF111 rfl
                      have hF121 : F118 tA = some (ah_az D 40 tf) := by rw [eF118]; exact (ah_up_n _ _ hne4).trans hF112
                      have hF122 : F118 eA = some (ah_ai D 320 ef1) := by rw [eF118]; exact ah_keep hF114 hF113 rfl
                      have hF123 : F118 neA = some (ah_ai D 320 nef) := by rw [eF118]; exact ah_keep hF114 hF115 rfl
                      have hF124 : F118 sA = some (ah_ai D 200 sf) := by rw [eF118]; exact ah_keep hF114 hF116 rfl
                      have hF125 : F118 mo = some (.inr (7, [.int (nI 0), .ref dA, .int (nI dr.length), .int (nI n), .ref tA, .ref lA, .ref eA, .ref nlA, .ref neA, .ref sA, .int (nI S.length), .int td, .int ip, .int il])) := by rw [eF118]; exact ah_keep hF114 hF117 rfl
                      have hF126 : F118 lA = some (ah_ai D 40 (upd lf n (nI dr.length))) := by rw [eF118]; exact (ah_up_n _ _ hne1).trans hF110
                      refine lv_aload_n hx hb dX7_enter_142 rfl (lv_at hl 0 rfl) ?_
                      refine gf_Mod_13 E hP hF125 rfl dX7_enter_143 ?_
                      refine lv_aload_n hx hb dX7_enter_146 rfl (lv_at hl 0 rfl) ?_
                      refine gf_Mod_36 E hP hF125 rfl dX7_enter_147 ?_
                      refine lv_iconst (v := (nI 1)) hx hb dX7_enter_150 (by decide) ?_
                      refine ah_zast E hP hS hF121 (by omega) (by omega) (by decide) dX7_enter_151 (fun H locs hP hS => ?_)
                      obtain ⟨F127, eF127⟩ : ∃ Fz : ah_F, Fz = ah_up F118 tA (ah_az D 40 (upd tf n (nI 1))) := ⟨_, rfl⟩
                      have hP : ah_K A D F127 H := by rw [eF127]; exact hP
                      have hF128 : F127 tA = some (ah_az D 40 (upd tf n (nI 1))) := by rw [eF127]; exact ah_up_s _ _ _
                      have hF129 : F127 dA = some (ah_ai D 8 df) := by rw [eF127]; exact ah_keep hF121 hF120 rfl
                      have hF130 : F127 eA = some (ah_ai D 320 ef1) := by rw [eF127]; exact ah_keep hF121 hF122 rfl
                      have hF131 : F127 neA = some (ah_ai D 320 nef) := by rw [eF127]; exact ah_keep hF121 hF123 rfl
                      have hF132 : F127 sA = some (ah_ai D 200 sf) := by rw [eF127]; exact ah_keep hF121 hF124 rfl
                      have hF133 : F127 mo = some (.inr (7, [.int (nI 0), .ref dA, .int (nI dr.length), .int (nI n), .ref tA, .ref lA, .ref eA, .ref nlA, .ref neA, .ref sA, .int (nI S.length), .int td, .int ip, .int il])) := by rw [eF127]; exact ah_keep hF121 hF125 rfl
                      have hF134 : F127 lA = some (ah_ai D 40 (upd lf n (nI dr.length))) := by rw [eF127]; exact (ah_up_n _ _ (Ne.symm hne3)).trans hF126
                      have hF135 : F127 nlA = some (ah_ai D 40 (upd nlf n (nI 0))) := by rw [eF127]; exact (ah_up_n _ _ (Ne.symm hne4)).trans hF119
                      refine lv_aload_n hx hb dX7_enter_152 rfl (lv_at hl 0 rfl) ?_
                      refine lv_iconst (v := (nI 0)) hx hb dX7_enter_153 (by decide) ?_
                      refine pf_Mod_43 E hP hS hF133 (Nat.le_of_ble_eq_true rfl) dX7_enter_154 (fun H locs hP hS => ?_)
                      obtain ⟨F136, eF136⟩ : ∃ Fz : ah_F, Fz = ah_up F127 mo (.inr (7, [.int (nI 0), .ref dA, .int (nI 0), .int (nI n), .ref tA, .ref lA, .ref eA, .ref nlA, .ref neA, .ref sA, .int (nI S.length), .int td, .int ip, .int il])) := ⟨_, rfl⟩
                      have hP : ah_K A D F136 H := by rw [eF136]; exact hP
                      have hF137 : F136 mo = some (.inr (7, [.int (nI 0), .ref dA, .int (nI 0), .int (nI n), .ref tA, .ref lA, .ref eA, .ref nlA, .ref neA, .ref sA, .int (nI S.length), .int td, .int ip, .int il])) := by rw [eF136]; exact ah_up_s _ _ _
                      have hF138 : F136 dA = some (ah_ai D 8 df) := by rw [eF136]; exact ah_keep hF133 hF129 rfl
                      have hF139 : F136 eA = some (ah_ai D 320 ef1) := by rw [eF136]; exact ah_keep hF133 hF130 rfl
                      have hF140 : F136 neA = some (ah_ai D 320 nef) := by rw [eF136]; exact ah_keep hF133 hF131 rfl
                      have hF141 : F136 sA = some (ah_ai D 200 sf) := by rw [eF136]; exact ah_keep hF133 hF132 rfl
                      have hF142 : F136 lA = some (ah_ai D 40 (upd lf n (nI dr.length))) := by rw [eF136]; exact ah_keep hF133 hF134 rfl
                      have hF143 : F136 nlA = some (ah_ai D 40 (upd nlf n (nI 0))) := by rw [eF136]; exact ah_keep hF133 hF135 rfl
                      have hF144 : F136 tA = some (ah_az D 40 (upd tf n (nI 1))) := by rw [eF136]; exact ah_keep hF133 hF128 rfl
                      refine lv_aload_n hx hb dX7_enter_157 rfl (lv_at hl 0 rfl) ?_
                      refine lv_dup hx hb dX7_enter_158 rfl ?_
                      refine gf_Mod_36 E hP hF137 rfl dX7_enter_159 ?_
                      refine lv_iconst (v := (nI 1)) hx hb dX7_enter_162 (by decide) ?_
                      refine ah_iadd hx hb dX7_enter_163 ?_
                      refine pf_Mod_36 E hP hS hF137 (Nat.le_of_ble_eq_true rfl) dX7_enter_164 (fun H locs hP hS => ?_)
                      obtain ⟨F145, eF145⟩ : ∃ Fz : ah_F, Fz = ah_up F136 mo (.inr (7, [.int (nI 0), .ref dA, .int (nI 0), .int (nI (n + 1)), .ref tA, .ref lA, .ref eA, .ref nlA, .ref neA, .ref sA, .int (nI S.length), .int td, .int ip, .int il])) := ⟨_, rfl⟩
                      have hP : ah_K A D F145 H := by rw [eF145]; exact hP
                      have hF146 : F145 mo = some (.inr (7, [.int (nI 0), .ref dA, .int (nI 0), .int (nI (n + 1)), .ref tA, .ref lA, .ref eA, .ref nlA, .ref neA, .ref sA, .int (nI S.length), .int td, .int ip, .int il])) := by rw [eF145]; exact ah_up_s _ _ _
                      have hF147 : F145 dA = some (ah_ai D 8 df) := by rw [eF145]; exact ah_keep hF137 hF138 rfl
                      have hF148 : F145 eA = some (ah_ai D 320 ef1) := by rw [eF145]; exact ah_keep hF137 hF139 rfl
                      have hF149 : F145 neA = some (ah_ai D 320 nef) := by rw [eF145]; exact ah_keep hF137 hF140 rfl
                      have hF150 : F145 sA = some (ah_ai D 200 sf) := by rw [eF145]; exact ah_keep hF137 hF141 rfl
                      have hF151 : F145 lA = some (ah_ai D 40 (upd lf n (nI dr.length))) := by rw [eF145]; exact ah_keep hF137 hF142 rfl
                      have hF152 : F145 nlA = some (ah_ai D 40 (upd nlf n (nI 0))) := by rw [eF145]; exact ah_keep hF137 hF143 rfl
                      have hF153 : F145 tA = some (ah_az D 40 (upd tf n (nI 1))) := by rw [eF145]; exact ah_keep hF137 hF144 rfl
                      refine lv_aload_n hx hb dX7_enter_167 rfl (lv_at hl 0 rfl) ?_
                      refine gf_Mod_36 E hP hF146 rfl dX7_enter_168 ?_
                      refine lv_iconst (v := (nI 1)) hx hb dX7_enter_171 (by decide) ?_
                      refine ah_isub hx hb (by omega) dX7_enter_172 ?_
                      rw [hQ]
                      exact ah_iret E hr hP hS (md_An_i (P := ah_ins P n dr) (n := n + 1) (dr := []) (S := S) (td := td) (k := 0) (v := nI n) (by rw [sp_enter, if_pos hcan]) ⟨dA, tA, lA, eA, nlA, neA, sA, _, _, (fun j => if j = n then dr.length else ln j), _, _, _, _, _, _, _, hF146, hF147, hF153, hF151, hF148, hF152, hF149, hF150, hne1, hne2, hne3, hne4, (md_L_ins hL hcan (fun j hj => hkA j (by omega)) hkB)⟩ (fun _ => rfl)) (Nat.le_of_ble_eq_true rfl) (Nat.le_of_ble_eq_true rfl) dX7_enter_173
                    · skip
                      refine lv_aload_n hx hb dX7_enter_93 rfl (lv_at hl 0 rfl) ?_
                      refine gf_Mod_20 E hP hk101 rfl dX7_enter_94 ?_
                      refine lv_bipush (v := (nI 8)) hx hb dX7_enter_97 (by decide) ?_
                      refine lv_aload_n hx hb dX7_enter_99 rfl (lv_at hl 0 rfl) ?_
                      refine gf_Mod_36 E hP hk101 rfl dX7_enter_100 ?_
                      refine ah_imul hx hb dX7_enter_103 ?_
                      refine lv_iload_n hx hb dX7_enter_104 rfl (lv_at hl 1 rfl) ?_
                      refine ah_iadd hx hb dX7_enter_105 ?_
                      refine lv_aload_n hx hb dX7_enter_106 rfl (lv_at hl 0 rfl) ?_
                      refine gf_Mod_7 E hP hk101 rfl dX7_enter_107 ?_
                      refine lv_iload_n hx hb dX7_enter_110 rfl (lv_at hl 1 rfl) ?_
                      refine ah_iald E hP hk102 (by omega) (by omega) dX7_enter_111 ?_
                      rw [hdd k (by omega)]
                      refine ah_iast E hP hS hk105 (by omega) (by omega) dX7_enter_112 (fun H locs hP hS => ?_)
                      obtain ⟨F154, eF154⟩ : ∃ Fz : ah_F, Fz = ah_up Fv eA (ah_ai D 320 (upd ef1 ((8 * n) + k) (nI (96 + dr.getD k 0)))) := ⟨_, rfl⟩
                      have hP : ah_K A D F154 H := by rw [eF154]; exact hP
                      have hF155 : F154 eA = some (ah_ai D 320 (upd ef1 ((8 * n) + k) (nI (96 + dr.getD k 0)))) := by rw [eF154]; exact ah_up_s _ _ _
                      have hF156 : F154 dA = some (ah_ai D 8 df) := by rw [eF154]; exact ah_keep hk105 hk102 rfl
                      have hF157 : F154 tA = some (ah_az D 40 tf) := by rw [eF154]; exact ah_keep hk105 hk103 rfl
                      have hF158 : F154 lA = some (ah_ai D 40 lf) := by rw [eF154]; exact ah_keep hk105 hk104 rfl
                      have hF159 : F154 nlA = some (ah_ai D 40 nlf) := by rw [eF154]; exact ah_keep hk105 hk106 rfl
                      have hF160 : F154 neA = some (ah_ai D 320 nef) := by rw [eF154]; exact (ah_up_n _ _ (Ne.symm hne2)).trans hk107
                      have hF161 : F154 sA = some (ah_ai D 200 sf) := by rw [eF154]; exact ah_keep hk105 hk108 rfl
                      have hF162 : F154 mo = some (.inr (7, [.int (nI 0), .ref dA, .int (nI dr.length), .int (nI n), .ref tA, .ref lA, .ref eA, .ref nlA, .ref neA, .ref sA, .int (nI S.length), .int td, .int ip, .int il])) := by rw [eF154]; exact ah_keep hk105 hk101 rfl
                      refine lv_iinc (v := (nI (k + 1))) (lv' := [(2, .int (nI (k + 1))), (0, .ref mo)]) hx hb dX7_enter_113 hl (k := 1) rfl (ah_inc _) (by decide) rfl (fun ls hl => ?_)
                      refine lv_goto (tgt := 85) hx hb dX7_enter_116 (by decide) ?_
                      exact ih _ (k + 1) _ (by omega) (by omega) (md_wr_s (G := fun j => nI (96 + dr.getD j 0)) hkA) (md_wr_o (by omega) hkB) hF162 hF156 hF157 hF158 hF155 hF159 hF160 hF161 _ _ hP hS ls (lv_sub hl [1, 0] rfl)
                exact L85 (dr.length + 1) _ 0 _ (by omega) (Nat.zero_le _) (fun j hj => absurd hj (Nat.not_lt_zero j)) (fun x hx => rfl) hG100 hG93 hG94 hG95 hG96 hG97 hG98 hG99 _ _ hP hS ls (lv_sub hl [1, 0] rfl)
              · skip
                exact absurd hc78 (by decide)
          · skip
            refine lv_iload_n hx hb dX7_enter_41 rfl (lv_at hl 1 rfl) ?_
            refine ah_ifb_eq (tgt := 57) hx hb dX7_enter_42 (by decide) (fun hc42 => ?_) (fun hc42 => ?_)
            · skip
              refine lv_iconst (v := (bI_ false)) hx hb dX7_enter_57 (by decide) ?_
              refine lv_istore_n (lv' := [(1, .int (bI_ false)), (0, .ref mo), (2, .int (nI k))]) hx hb dX7_enter_58 rfl hl (by decide) rfl (fun ls hl => ?_)
              refine lv_iinc (v := (nI (k + 1))) (lv' := [(2, .int (nI (k + 1))), (1, .int (bI_ false)), (0, .ref mo)]) hx hb dX7_enter_59 hl (k := 2) rfl (ah_inc _) (by decide) rfl (fun ls hl => ?_)
              refine lv_goto (tgt := 33) hx hb dX7_enter_62 (by decide) ?_
              exact ih (k + 1) false (by omega) (by omega) (md_can_f hbe hc42) _ _ hP hS ls (lv_sub hl [2, 1, 0] rfl)
            · skip
              refine lv_aload_n hx hb dX7_enter_45 rfl (lv_at hl 0 rfl) ?_
              refine lv_iload_n hx hb dX7_enter_46 rfl (lv_at hl 2 rfl) ?_
              refine ah_calli (ah_runV E hP hS (As := [.int (nI k)]) (rest := []) (b := mo) (m_isDraft l A D _ hmo hdA htA hlA heA hnlA hneA hsA hL (i := k) (by omega)) lk_Mod_54 li_Mod_54 hmo rfl ⟨rfl, rfl, (Nat.le_of_ble_eq_true rfl), (Nat.le_of_ble_eq_true rfl)⟩ rfl hl.1 rfl (Nat.le_of_ble_eq_true rfl) dX7_enter_47 ⟨(Nat.le_of_ble_eq_true rfl), (Nat.le_of_ble_eq_true rfl)⟩) hS (fun r F163 H locs hq hP hS => ?_)
              obtain ⟨rfl, rfl⟩ := hq
              refine ah_ifb_ne (tgt := 57) hx hb dX7_enter_50 (by decide) (fun hc50 => ?_) (fun hc50 => ?_)
              · skip
                refine lv_iconst (v := (bI_ false)) hx hb dX7_enter_57 (by decide) ?_
                refine lv_istore_n (lv' := [(1, .int (bI_ false)), (0, .ref mo), (2, .int (nI k))]) hx hb dX7_enter_58 rfl hl (by decide) rfl (fun ls hl => ?_)
                refine lv_iinc (v := (nI (k + 1))) (lv' := [(2, .int (nI (k + 1))), (1, .int (bI_ false)), (0, .ref mo)]) hx hb dX7_enter_59 hl (k := 2) rfl (ah_inc _) (by decide) rfl (fun ls hl => ?_)
                refine lv_goto (tgt := 33) hx hb dX7_enter_62 (by decide) ?_
                exact ih (k + 1) false (by omega) (by omega) (md_can_h hc50) _ _ hP hS ls (lv_sub hl [2, 1, 0] rfl)
              · skip
                refine lv_iconst (v := (bI_ true)) hx hb dX7_enter_53 (by decide) ?_
                refine lv_goto (tgt := 58) hx hb dX7_enter_54 (by decide) ?_
                refine lv_istore_n (lv' := [(1, .int (bI_ true)), (0, .ref mo), (2, .int (nI k))]) hx hb dX7_enter_58 rfl hl (by decide) rfl (fun ls hl => ?_)
                refine lv_iinc (v := (nI (k + 1))) (lv' := [(2, .int (nI (k + 1))), (1, .int (bI_ true)), (0, .ref mo)]) hx hb dX7_enter_59 hl (k := 2) rfl (ah_inc _) (by decide) rfl (fun ls hl => ?_)
                refine lv_goto (tgt := 33) hx hb dX7_enter_62 (by decide) ?_
                exact ih (k + 1) true (by omega) (by omega) (md_can_t hbe hc42 hc50) _ _ hP hS ls (lv_sub hl [2, 1, 0] rfl)
      exact L33 (n + 1) 0 false (by omega) (Nat.zero_le _) (by rw [hc0]; rfl) _ _ hP hS ls (lv_sub hl [2, 1, 0] rfl)
    · skip
      refine lv_aload_n hx hb dX7_enter_16 rfl (lv_at hl 0 rfl) ?_
      refine gf_Mod_36 E hP hmo rfl dX7_enter_17 ?_
      refine lv_bipush (v := (nI 40)) hx hb dX7_enter_20 (by decide) ?_
      refine ah_icmp_ge (tgt := 29) hx hb (by omega) (by omega) dX7_enter_22 (by decide) (fun hc22 => ?_) (fun hc22 => ?_)
      · skip
        obtain ⟨c0, hc0⟩ : ∃ c0 : Bool, c0 = false := ⟨_, rfl⟩
        have hc01 : c0 = true ↔ (0 < dr.length ∧ pu_cn (fun i => (P i).isSome) 40 < 20 ∧ n < 40) := by rw [hc0]; exact ⟨fun h => absurd h (by decide), fun h => by omega⟩
        refine lv_iconst (v := (bI_ false)) hx hb dX7_enter_29 (by decide) ?_
        refine lv_istore_n (lv' := [(1, .int (bI_ false)), (0, .ref mo)]) hx hb dX7_enter_30 rfl hl (by decide) rfl (fun ls hl => ?_)
        refine lv_iconst (v := (nI 0)) hx hb dX7_enter_31 (by decide) ?_
        refine lv_istore_n (lv' := [(2, .int (nI 0)), (1, .int (bI_ false)), (0, .ref mo)]) hx hb dX7_enter_32 rfl hl (by decide) rfl (fun ls hl => ?_)
        have L33 : ∀ (fuel : Nat), ∀ (k : Nat) (b : Bool), n - k < fuel → k ≤ n → b = (c0 && !ah_any (ah_sat P (fun u => decide (u = dr))) k) → ∀ (H : Heap) (locs : List Loc), ah_K A D F H → va_S A s.heap H locs → ∀ (ls : Array Slot), lv_has ls 3 [(0, .ref mo), (1, .int (bI_ b)), (2, .int (nI k))] → W p l e { frames := 1, cells := 0, slots := 0, locals := 23 } s m [.ref mo].toArray below meth c H locs (0 + 0) (0 + 0) Q (F0 m 33 ls []) := by
          intro fuel
          induction fuel with
          | zero =>
            intro k b hm
            exact absurd hm (Nat.not_lt_zero _)
          | succ fuel ih =>
            intro k b hm hk hbe H locs hP hS ls hl
            refine lv_iload_n hx hb dX7_enter_33 rfl (lv_at hl 2 rfl) ?_
            refine lv_aload_n hx hb dX7_enter_34 rfl (lv_at hl 0 rfl) ?_
            refine gf_Mod_36 E hP hmo rfl dX7_enter_35 ?_
            refine ah_icmp_ge (tgt := 65) hx hb (by omega) (by omega) dX7_enter_38 (by decide) (fun hc38 => ?_) (fun hc38 => ?_)
            · skip
              rw [show k = n by omega] at hbe
              have hcan := md_can hn40 hPn hc01 hbe
              refine lv_aload_n hx hb dX7_enter_65 rfl (lv_at hl 0 rfl) ?_
              refine lv_iload_n hx hb dX7_enter_66 rfl (lv_at hl 1 rfl) ?_
              refine ah_ifb_eq (tgt := 74) hx hb dX7_enter_67 (by decide) (fun hc67 => ?_) (fun hc67 => ?_)
              · skip
                rw [hc67] at hcan
                refine lv_iconst (v := (nI 1)) hx hb dX7_enter_74 (by decide) ?_
                refine ah_calli (ah_runV E hP hS (As := [.int (nI 1)]) (rest := []) (b := mo) (m_holds l A D _ hmo hdA htA hlA heA hnlA hneA hsA hL (k := 1) (by omega)) lk_Mod_46 li_Mod_46 hmo rfl ⟨rfl, rfl, (Nat.le_of_ble_eq_true rfl), (Nat.le_of_ble_eq_true rfl)⟩ rfl hl.1 rfl (Nat.le_of_ble_eq_true rfl) dX7_enter_75 ⟨(Nat.le_of_ble_eq_true rfl), (Nat.le_of_ble_eq_true rfl)⟩) hS (fun r F164 H locs hho75 hP hS => ?_)
                obtain ⟨eho75, hro⟩ := hho75
                have hG165 : F164 dA = some (ah_ai D 8 df) := by rw [eho75]; exact ah_keep hmo hdA rfl
                have hG166 : F164 tA = some (ah_az D 40 tf) := by rw [eho75]; exact ah_keep hmo htA rfl
                have hG167 : F164 lA = some (ah_ai D 40 lf) := by rw [eho75]; exact ah_keep hmo hlA rfl
                have hG168 : F164 eA = some (ah_ai D 320 ef) := by rw [eho75]; exact ah_keep hmo heA rfl
                have hG169 : F164 nlA = some (ah_ai D 40 nlf) := by rw [eho75]; exact ah_keep hmo hnlA rfl
                have hG170 : F164 neA = some (ah_ai D 320 nef) := by rw [eho75]; exact ah_keep hmo hneA rfl
                have hG171 : F164 sA = some (ah_ai D 200 sf) := by rw [eho75]; exact ah_keep hmo hsA rfl
                have hG172 : F164 mo = some (.inr (7, [.int (nI 1), .ref dA, .int (nI dr.length), .int (nI n), .ref tA, .ref lA, .ref eA, .ref nlA, .ref neA, .ref sA, .int (nI S.length), .int td, .int ip, .int il])) := by rw [eho75]; exact ah_up_s _ _ _
                subst hro
                refine ah_ifb_ne (tgt := 83) hx hb dX7_enter_78 (by decide) (fun hc78 => ?_) (fun hc78 => ?_)
                · skip
                  exact absurd hc78 (by decide)
                · skip
                  refine lv_iconst (v := (nI 0)) hx hb dX7_enter_81 (by decide) ?_
                  rw [hQ]
                  exact ah_iret E hr hP hS (md_An_i (k := 1) (v := 0) (by rw [sp_enter, if_neg (by rw [hcan]; decide)]) ⟨dA, tA, lA, eA, nlA, neA, sA, _, _, ln, _, _, _, _, _, _, _, hG172, hG165, hG166, hG167, hG168, hG169, hG170, hG171, hne1, hne2, hne3, hne4, hL⟩ (fun h => absurd h (by decide))) (Nat.le_of_ble_eq_true rfl) (Nat.le_of_ble_eq_true rfl) dX7_enter_82
              · skip
                rw [hc67] at hcan
                have hcan2 := id hcan
                simp only [ah_can, Bool.and_eq_true, decide_eq_true_eq, Bool.not_eq_true', Bool.or_eq_false_iff, decide_eq_false_iff_not] at hcan2
                have hn39 : n < 40 := by omega
                refine lv_iconst (v := (nI 0)) hx hb dX7_enter_70 (by decide) ?_
                refine lv_goto (tgt := 75) hx hb dX7_enter_71 (by decide) ?_
                refine ah_calli (ah_runV E hP hS (As := [.int (nI 0)]) (rest := []) (b := mo) (m_holds l A D _ hmo hdA htA hlA heA hnlA hneA hsA hL (k := 0) (by omega)) lk_Mod_46 li_Mod_46 hmo rfl ⟨rfl, rfl, (Nat.le_of_ble_eq_true rfl), (Nat.le_of_ble_eq_true rfl)⟩ rfl hl.1 rfl (Nat.le_of_ble_eq_true rfl) dX7_enter_75 ⟨(Nat.le_of_ble_eq_true rfl), (Nat.le_of_ble_eq_true rfl)⟩) hS (fun r F173 H locs hho75 hP hS => ?_)
                obtain ⟨eho75, hro⟩ := hho75
                have hG174 : F173 dA = some (ah_ai D 8 df) := by rw [eho75]; exact ah_keep hmo hdA rfl
                have hG175 : F173 tA = some (ah_az D 40 tf) := by rw [eho75]; exact ah_keep hmo htA rfl
                have hG176 : F173 lA = some (ah_ai D 40 lf) := by rw [eho75]; exact ah_keep hmo hlA rfl
                have hG177 : F173 eA = some (ah_ai D 320 ef) := by rw [eho75]; exact ah_keep hmo heA rfl
                have hG178 : F173 nlA = some (ah_ai D 40 nlf) := by rw [eho75]; exact ah_keep hmo hnlA rfl
                have hG179 : F173 neA = some (ah_ai D 320 nef) := by rw [eho75]; exact ah_keep hmo hneA rfl
                have hG180 : F173 sA = some (ah_ai D 200 sf) := by rw [eho75]; exact ah_keep hmo hsA rfl
                have hG181 : F173 mo = some (.inr (7, [.int (nI 0), .ref dA, .int (nI dr.length), .int (nI n), .ref tA, .ref lA, .ref eA, .ref nlA, .ref neA, .ref sA, .int (nI S.length), .int td, .int ip, .int il])) := by rw [eho75]; exact ah_up_s _ _ _
                subst hro
                refine ah_ifb_ne (tgt := 83) hx hb dX7_enter_78 (by decide) (fun hc78 => ?_) (fun hc78 => ?_)
                · skip
                  refine lv_iconst (v := (nI 0)) hx hb dX7_enter_83 (by decide) ?_
                  refine lv_istore_n (lv' := [(2, .int (nI 0)), (0, .ref mo), (1, .int (bI_ b))]) hx hb dX7_enter_84 rfl hl (by decide) rfl (fun ls hl => ?_)
                  have L85 : ∀ (fuel : Nat), ∀ (Fv : ah_F) (k : Nat) (ef1 : Nat → Int32), dr.length - k < fuel → k ≤ dr.length → (∀ j, j < k → ef1 (8 * n + j) = nI (96 + dr.getD j 0)) → (∀ x, x < 8 * n ∨ 8 * n + 8 ≤ x → ef1 x = ef x) → Fv mo = some (.inr (7, [.int (nI 0), .ref dA, .int (nI dr.length), .int (nI n), .ref tA, .ref lA, .ref eA, .ref nlA, .ref neA, .ref sA, .int (nI S.length), .int td, .int ip, .int il])) → Fv dA = some (ah_ai D 8 df) → Fv tA = some (ah_az D 40 tf) → Fv lA = some (ah_ai D 40 lf) → Fv eA = some (ah_ai D 320 ef1) → Fv nlA = some (ah_ai D 40 nlf) → Fv neA = some (ah_ai D 320 nef) → Fv sA = some (ah_ai D 200 sf) → ∀ (H : Heap) (locs : List Loc), ah_K A D Fv H → va_S A s.heap H locs → ∀ (ls : Array Slot), lv_has ls 3 [(0, .ref mo), (2, .int (nI k))] → W p l e { frames := 1, cells := 0, slots := 0, locals := 23 } s m [.ref mo].toArray below meth c H locs ((0 + 0) + 0) ((0 + 0) + 0) Q (F0 m 85 ls []) := by
                    intro fuel
                    induction fuel with
                    | zero =>
                      intro Fv k ef1 hm
                      exact absurd hm (Nat.not_lt_zero _)
                    | succ fuel ih =>
                      intro Fv k ef1 hm hk hkA hkB hk182 hk183 hk184 hk185 hk186 hk187 hk188 hk189 H locs hP hS ls hl
                      refine lv_iload_n hx hb dX7_enter_85 rfl (lv_at hl 1 rfl) ?_
                      refine lv_aload_n hx hb dX7_enter_86 rfl (lv_at hl 0 rfl) ?_
                      refine gf_Mod_43 E hP hk182 rfl dX7_enter_87 ?_
                      refine ah_icmp_ge (tgt := 119) hx hb (by omega) (by omega) dX7_enter_90 (by decide) (fun hc90 => ?_) (fun hc90 => ?_)
                      · skip
                        refine lv_aload_n hx hb dX7_enter_119 rfl (lv_at hl 0 rfl) ?_
                        refine gf_Mod_17 E hP hk182 rfl dX7_enter_120 ?_
                        refine lv_aload_n hx hb dX7_enter_123 rfl (lv_at hl 0 rfl) ?_
                        refine gf_Mod_36 E hP hk182 rfl dX7_enter_124 ?_
                        refine lv_aload_n hx hb dX7_enter_127 rfl (lv_at hl 0 rfl) ?_
                        refine gf_Mod_43 E hP hk182 rfl dX7_enter_128 ?_
                        refine ah_iast E hP hS hk185 (by omega) (by omega) dX7_enter_131 (fun H locs hP hS => ?_)
                        obtain ⟨F190, eF190⟩ : ∃ Fz : ah_F, Fz = ah_up Fv lA (ah_ai D 40 (upd lf n (nI dr.length))) := ⟨_, rfl⟩
                        have hP : ah_K A D F190 H := by rw [eF190]; exact hP
                        have hF191 : F190 lA = some (ah_ai D 40 (upd lf n (nI dr.length))) := by rw [eF190]; exact ah_up_s _ _ _
                        have hF192 : F190 dA = some (ah_ai D 8 df) := by rw [eF190]; exact ah_keep hk185 hk183 rfl
                        have hF193 : F190 tA = some (ah_az D 40 tf) := by rw [eF190]; exact (ah_up_n _ _ hne3).trans hk184
                        have hF194 : F190 eA = some (ah_ai D 320 ef1) := by rw [eF190]; exact ah_keep hk185 hk186 rfl
                        have hF195 : F190 nlA = some (ah_ai D 40 nlf) := by rw [eF190]; exact (ah_up_n _ _ (Ne.symm hne1)).trans hk187
                        have hF196 : F190 neA = some (ah_ai D 320 nef) := by rw [eF190]; exact ah_keep hk185 hk188 rfl
                        have hF197 : F190 sA = some (ah_ai D 200 sf) := by rw [eF190]; exact ah_keep hk185 hk189 rfl
                        have hF198 : F190 mo = some (.inr (7, [.int (nI 0), .ref dA, .int (nI dr.length), .int (nI n), .ref tA, .ref lA, .ref eA, .ref nlA, .ref neA, .ref sA, .int (nI S.length), .int td, .int ip, .int il])) := by rw [eF190]; exact ah_keep hk185 hk182 rfl
                        refine lv_aload_n hx hb dX7_enter_132 rfl (lv_at hl 0 rfl) ?_
                        refine gf_Mod_23 E hP hF198 rfl dX7_enter_133 ?_
                        refine lv_aload_n hx hb dX7_enter_136 rfl (lv_at hl 0 rfl) ?_
                        refine gf_Mod_36 E hP hF198 rfl dX7_enter_137 ?_
                        refine lv_iconst (v := (nI 0)) hx hb dX7_enter_140 (by decide) ?_
                        refine ah_iast E hP hS hF195 (by omega) (by omega) dX7_enter_141 (fun H locs hP hS => ?_)
                        obtain ⟨F199, eF199⟩ : ∃ Fz : ah_F, Fz = ah_up F190 nlA (ah_ai D 40 (upd nlf n (nI 0))) := ⟨_, rfl⟩
                        have hP : ah_K A D F199 H := by rw [eF199]; exact hP
                        have hF200 : F199 nlA = some (ah_ai D 40 (upd nlf n (nI 0))) := by rw [eF199]; exact ah_up_s _ _ _
                        have hF201 : F199 dA = some (ah_ai D 8 df) := by rw [eF199]; exact ah_keep hF195 hF192 rfl
                        have hF202 : F199 tA = some (ah_az D 40 tf) := by rw [eF199]; exact (ah_up_n _ _ hne4).trans hF193
                        have hF203 : F199 eA = some (ah_ai D 320 ef1) := by rw [eF199]; exact ah_keep hF195 hF194 rfl
                        have hF204 : F199 neA = some (ah_ai D 320 nef) := by rw [eF199]; exact ah_keep hF195 hF196 rfl
                        have hF205 : F199 sA = some (ah_ai D 200 sf) := by rw [eF199]; exact ah_keep hF195 hF197 rfl
                        have hF206 : F199 mo = some (.inr (7, [.int (nI 0), .ref dA, .int (nI dr.length), .int (nI n), .ref tA, .ref lA, .ref eA, .ref nlA, .ref neA, .ref sA, .int (nI S.length), .int td, .int ip, .int il])) := by rw [eF199]; exact ah_keep hF195 hF198 rfl
                        have hF207 : F199 lA = some (ah_ai D 40 (upd lf n (nI dr.length))) := by rw [eF199]; exact (ah_up_n _ _ hne1).trans hF191
                        refine lv_aload_n hx hb dX7_enter_142 rfl (lv_at hl 0 rfl) ?_
                        refine gf_Mod_13 E hP hF206 rfl dX7_enter_143 ?_
                        refine lv_aload_n hx hb dX7_enter_146 rfl (lv_at hl 0 rfl) ?_
                        refine gf_Mod_36 E hP hF206 rfl dX7_enter_147 ?_
                        refine lv_iconst (v := (nI 1)) hx hb dX7_enter_150 (by decide) ?_
                        refine ah_zast E hP hS hF202 (by omega) (by omega) (by decide) dX7_enter_151 (fun H locs hP hS => ?_)
                        obtain ⟨F208, eF208⟩ : ∃ Fz : ah_F, Fz = ah_up F199 tA (ah_az D 40 (upd tf n (nI 1))) := ⟨_, rfl⟩
                        have hP : ah_K A D F208 H := by rw [eF208]; exact hP
                        have hF209 : F208 tA = some (ah_az D 40 (upd tf n (nI 1))) := by rw [eF208]; exact ah_up_s _ _ _
                        have hF210 : F208 dA = some (ah_ai D 8 df) := by rw [eF208]; exact ah_keep hF202 hF201 rfl
                        have hF211 : F208 eA = some (ah_ai D 320 ef1) := by rw [eF208]; exact ah_keep hF202 hF203 rfl
                        have hF212 : F208 neA = some (ah_ai D 320 nef) := by rw [eF208]; exact ah_keep hF202 hF204 rfl
                        have hF213 : F208 sA = some (ah_ai D 200 sf) := by rw [eF208]; exact ah_keep hF202 hF205 rfl
                        have hF214 : F208 mo = some (.inr (7, [.int (nI 0), .ref dA, .int (nI dr.length), .int (nI n), .ref tA, .ref lA, .ref eA, .ref nlA, .ref neA, .ref sA, .int (nI S.length), .int td, .int ip, .int il])) := by rw [eF208]; exact ah_keep hF202 hF206 rfl
                        have hF215 : F208 lA = some (ah_ai D 40 (upd lf n (nI dr.length))) := by rw [eF208]; exact (ah_up_n _ _ (Ne.symm hne3)).trans hF207
                        have hF216 : F208 nlA = some (ah_ai D 40 (upd nlf n (nI 0))) := by rw [eF208]; exact (ah_up_n _ _ (Ne.symm hne4)).trans hF200
                        refine lv_aload_n hx hb dX7_enter_152 rfl (lv_at hl 0 rfl) ?_
                        refine lv_iconst (v := (nI 0)) hx hb dX7_enter_153 (by decide) ?_
                        refine pf_Mod_43 E hP hS hF214 (Nat.le_of_ble_eq_true rfl) dX7_enter_154 (fun H locs hP hS => ?_)
                        obtain ⟨F217, eF217⟩ : ∃ Fz : ah_F, Fz = ah_up F208 mo (.inr (7, [.int (nI 0), .ref dA, .int (nI 0), .int (nI n), .ref tA, .ref lA, .ref eA, .ref nlA, .ref neA, .ref sA, .int (nI S.length), .int td, .int ip, .int il])) := ⟨_, rfl⟩
                        have hP : ah_K A D F217 H := by rw [eF217]; exact hP
                        have hF218 : F217 mo = some (.inr (7, [.int (nI 0), .ref dA, .int (nI 0), .int (nI n), .ref tA, .ref lA, .ref eA, .ref nlA, .ref neA, .ref sA, .int (nI S.length), .int td, .int ip, .int il])) := by rw [eF217]; exact ah_up_s _ _ _
                        have hF219 : F217 dA = some (ah_ai D 8 df) := by rw [eF217]; exact ah_keep hF214 hF210 rfl
                        have hF220 : F217 eA = some (ah_ai D 320 ef1) := by rw [eF217]; exact ah_keep hF214 hF211 rfl
                        have hF221 : F217 neA = some (ah_ai D 320 nef) := by rw [eF217]; exact ah_keep hF214 hF212 rfl
                        have hF222 : F217 sA = some (ah_ai D 200 sf) := by rw [eF217]; exact ah_keep hF214 hF213 rfl
                        have hF223 : F217 lA = some (ah_ai D 40 (upd lf n (nI dr.length))) := by rw [eF217]; exact ah_keep hF214 hF215 rfl
                        have hF224 : F217 nlA = some (ah_ai D 40 (upd nlf n (nI 0))) := by rw [eF217]; exact ah_keep hF214 hF216 rfl
                        have hF225 : F217 tA = some (ah_az D 40 (upd tf n (nI 1))) := by rw [eF217]; exact ah_keep hF214 hF209 rfl
                        refine lv_aload_n hx hb dX7_enter_157 rfl (lv_at hl 0 rfl) ?_
                        refine lv_dup hx hb dX7_enter_158 rfl ?_
                        refine gf_Mod_36 E hP hF218 rfl dX7_enter_159 ?_
                        refine lv_iconst (v := (nI 1)) hx hb dX7_enter_162 (by decide) ?_
                        refine ah_iadd hx hb dX7_enter_163 ?_
                        refine pf_Mod_36 E hP hS hF218 (Nat.le_of_ble_eq_true rfl) dX7_enter_164 (fun H locs hP hS => ?_)
                        obtain ⟨F226, eF226⟩ : ∃ Fz : ah_F, Fz = ah_up F217 mo (.inr (7, [.int (nI 0), .ref dA, .int (nI 0), .int (nI (n + 1)), .ref tA, .ref lA, .ref eA, .ref nlA, .ref neA, .ref sA, .int (nI S.length), .int td, .int ip, .int il])) := ⟨_, rfl⟩
                        have hP : ah_K A D F226 H := by rw [eF226]; exact hP
                        have hF227 : F226 mo = some (.inr (7, [.int (nI 0), .ref dA, .int (nI 0), .int (nI (n + 1)), .ref tA, .ref lA, .ref eA, .ref nlA, .ref neA, .ref sA, .int (nI S.length), .int td, .int ip, .int il])) := by rw [eF226]; exact ah_up_s _ _ _
                        have hF228 : F226 dA = some (ah_ai D 8 df) := by rw [eF226]; exact ah_keep hF218 hF219 rfl
                        have hF229 : F226 eA = some (ah_ai D 320 ef1) := by rw [eF226]; exact ah_keep hF218 hF220 rfl
                        have hF230 : F226 neA = some (ah_ai D 320 nef) := by rw [eF226]; exact ah_keep hF218 hF221 rfl
                        have hF231 : F226 sA = some (ah_ai D 200 sf) := by rw [eF226]; exact ah_keep hF218 hF222 rfl
                        have hF232 : F226 lA = some (ah_ai D 40 (upd lf n (nI dr.length))) := by rw [eF226]; exact ah_keep hF218 hF223 rfl
                        have hF233 : F226 nlA = some (ah_ai D 40 (upd nlf n (nI 0))) := by rw [eF226]; exact ah_keep hF218 hF224 rfl
                        have hF234 : F226 tA = some (ah_az D 40 (upd tf n (nI 1))) := by rw [eF226]; exact ah_keep hF218 hF225 rfl
                        refine lv_aload_n hx hb dX7_enter_167 rfl (lv_at hl 0 rfl) ?_
                        refine gf_Mod_36 E hP hF227 rfl dX7_enter_168 ?_
                        refine lv_iconst (v := (nI 1)) hx hb dX7_enter_171 (by decide) ?_
                        refine ah_isub hx hb (by omega) dX7_enter_172 ?_
                        rw [hQ]
                        exact ah_iret E hr hP hS (md_An_i (P := ah_ins P n dr) (n := n + 1) (dr := []) (S := S) (td := td) (k := 0) (v := nI n) (by rw [sp_enter, if_pos hcan]) ⟨dA, tA, lA, eA, nlA, neA, sA, _, _, (fun j => if j = n then dr.length else ln j), _, _, _, _, _, _, _, hF227, hF228, hF234, hF232, hF229, hF233, hF230, hF231, hne1, hne2, hne3, hne4, (md_L_ins hL hcan (fun j hj => hkA j (by omega)) hkB)⟩ (fun _ => rfl)) (Nat.le_of_ble_eq_true rfl) (Nat.le_of_ble_eq_true rfl) dX7_enter_173
                      · skip
                        refine lv_aload_n hx hb dX7_enter_93 rfl (lv_at hl 0 rfl) ?_
                        refine gf_Mod_20 E hP hk182 rfl dX7_enter_94 ?_
                        refine lv_bipush (v := (nI 8)) hx hb dX7_enter_97 (by decide) ?_
                        refine lv_aload_n hx hb dX7_enter_99 rfl (lv_at hl 0 rfl) ?_
                        refine gf_Mod_36 E hP hk182 rfl dX7_enter_100 ?_
                        refine ah_imul hx hb dX7_enter_103 ?_
                        refine lv_iload_n hx hb dX7_enter_104 rfl (lv_at hl 1 rfl) ?_
                        refine ah_iadd hx hb dX7_enter_105 ?_
                        refine lv_aload_n hx hb dX7_enter_106 rfl (lv_at hl 0 rfl) ?_
                        refine gf_Mod_7 E hP hk182 rfl dX7_enter_107 ?_
                        refine lv_iload_n hx hb dX7_enter_110 rfl (lv_at hl 1 rfl) ?_
                        refine ah_iald E hP hk183 (by omega) (by omega) dX7_enter_111 ?_
                        rw [hdd k (by omega)]
                        refine ah_iast E hP hS hk186 (by omega) (by omega) dX7_enter_112 (fun H locs hP hS => ?_)
                        obtain ⟨F235, eF235⟩ : ∃ Fz : ah_F, Fz = ah_up Fv eA (ah_ai D 320 (upd ef1 ((8 * n) + k) (nI (96 + dr.getD k 0)))) := ⟨_, rfl⟩
                        have hP : ah_K A D F235 H := by rw [eF235]; exact hP
                        have hF236 : F235 eA = some (ah_ai D 320 (upd ef1 ((8 * n) + k) (nI (96 + dr.getD k 0)))) := by rw [eF235]; exact ah_up_s _ _ _
                        have hF237 : F235 dA = some (ah_ai D 8 df) := by rw [eF235]; exact ah_keep hk186 hk183 rfl
                        have hF238 : F235 tA = some (ah_az D 40 tf) := by rw [eF235]; exact ah_keep hk186 hk184 rfl
                        have hF239 : F235 lA = some (ah_ai D 40 lf) := by rw [eF235]; exact ah_keep hk186 hk185 rfl
                        have hF240 : F235 nlA = some (ah_ai D 40 nlf) := by rw [eF235]; exact ah_keep hk186 hk187 rfl
                        have hF241 : F235 neA = some (ah_ai D 320 nef) := by rw [eF235]; exact (ah_up_n _ _ (Ne.symm hne2)).trans hk188
                        have hF242 : F235 sA = some (ah_ai D 200 sf) := by rw [eF235]; exact ah_keep hk186 hk189 rfl
                        have hF243 : F235 mo = some (.inr (7, [.int (nI 0), .ref dA, .int (nI dr.length), .int (nI n), .ref tA, .ref lA, .ref eA, .ref nlA, .ref neA, .ref sA, .int (nI S.length), .int td, .int ip, .int il])) := by rw [eF235]; exact ah_keep hk186 hk182 rfl
                        refine lv_iinc (v := (nI (k + 1))) (lv' := [(2, .int (nI (k + 1))), (0, .ref mo)]) hx hb dX7_enter_113 hl (k := 1) rfl (ah_inc _) (by decide) rfl (fun ls hl => ?_)
                        refine lv_goto (tgt := 85) hx hb dX7_enter_116 (by decide) ?_
                        exact ih _ (k + 1) _ (by omega) (by omega) (md_wr_s (G := fun j => nI (96 + dr.getD j 0)) hkA) (md_wr_o (by omega) hkB) hF243 hF237 hF238 hF239 hF236 hF240 hF241 hF242 _ _ hP hS ls (lv_sub hl [1, 0] rfl)
                  exact L85 (dr.length + 1) _ 0 _ (by omega) (Nat.zero_le _) (fun j hj => absurd hj (Nat.not_lt_zero j)) (fun x hx => rfl) hG181 hG174 hG175 hG176 hG177 hG178 hG179 hG180 _ _ hP hS ls (lv_sub hl [1, 0] rfl)
                · skip
                  exact absurd hc78 (by decide)
            · skip
              refine lv_iload_n hx hb dX7_enter_41 rfl (lv_at hl 1 rfl) ?_
              refine ah_ifb_eq (tgt := 57) hx hb dX7_enter_42 (by decide) (fun hc42 => ?_) (fun hc42 => ?_)
              · skip
                refine lv_iconst (v := (bI_ false)) hx hb dX7_enter_57 (by decide) ?_
                refine lv_istore_n (lv' := [(1, .int (bI_ false)), (0, .ref mo), (2, .int (nI k))]) hx hb dX7_enter_58 rfl hl (by decide) rfl (fun ls hl => ?_)
                refine lv_iinc (v := (nI (k + 1))) (lv' := [(2, .int (nI (k + 1))), (1, .int (bI_ false)), (0, .ref mo)]) hx hb dX7_enter_59 hl (k := 2) rfl (ah_inc _) (by decide) rfl (fun ls hl => ?_)
                refine lv_goto (tgt := 33) hx hb dX7_enter_62 (by decide) ?_
                exact ih (k + 1) false (by omega) (by omega) (md_can_f hbe hc42) _ _ hP hS ls (lv_sub hl [2, 1, 0] rfl)
              · skip
                refine lv_aload_n hx hb dX7_enter_45 rfl (lv_at hl 0 rfl) ?_
                refine lv_iload_n hx hb dX7_enter_46 rfl (lv_at hl 2 rfl) ?_
                refine ah_calli (ah_runV E hP hS (As := [.int (nI k)]) (rest := []) (b := mo) (m_isDraft l A D _ hmo hdA htA hlA heA hnlA hneA hsA hL (i := k) (by omega)) lk_Mod_54 li_Mod_54 hmo rfl ⟨rfl, rfl, (Nat.le_of_ble_eq_true rfl), (Nat.le_of_ble_eq_true rfl)⟩ rfl hl.1 rfl (Nat.le_of_ble_eq_true rfl) dX7_enter_47 ⟨(Nat.le_of_ble_eq_true rfl), (Nat.le_of_ble_eq_true rfl)⟩) hS (fun r F244 H locs hq hP hS => ?_)
                obtain ⟨rfl, rfl⟩ := hq
                refine ah_ifb_ne (tgt := 57) hx hb dX7_enter_50 (by decide) (fun hc50 => ?_) (fun hc50 => ?_)
                · skip
                  refine lv_iconst (v := (bI_ false)) hx hb dX7_enter_57 (by decide) ?_
                  refine lv_istore_n (lv' := [(1, .int (bI_ false)), (0, .ref mo), (2, .int (nI k))]) hx hb dX7_enter_58 rfl hl (by decide) rfl (fun ls hl => ?_)
                  refine lv_iinc (v := (nI (k + 1))) (lv' := [(2, .int (nI (k + 1))), (1, .int (bI_ false)), (0, .ref mo)]) hx hb dX7_enter_59 hl (k := 2) rfl (ah_inc _) (by decide) rfl (fun ls hl => ?_)
                  refine lv_goto (tgt := 33) hx hb dX7_enter_62 (by decide) ?_
                  exact ih (k + 1) false (by omega) (by omega) (md_can_h hc50) _ _ hP hS ls (lv_sub hl [2, 1, 0] rfl)
                · skip
                  refine lv_iconst (v := (bI_ true)) hx hb dX7_enter_53 (by decide) ?_
                  refine lv_goto (tgt := 58) hx hb dX7_enter_54 (by decide) ?_
                  refine lv_istore_n (lv' := [(1, .int (bI_ true)), (0, .ref mo), (2, .int (nI k))]) hx hb dX7_enter_58 rfl hl (by decide) rfl (fun ls hl => ?_)
                  refine lv_iinc (v := (nI (k + 1))) (lv' := [(2, .int (nI (k + 1))), (1, .int (bI_ true)), (0, .ref mo)]) hx hb dX7_enter_59 hl (k := 2) rfl (ah_inc _) (by decide) rfl (fun ls hl => ?_)
                  refine lv_goto (tgt := 33) hx hb dX7_enter_62 (by decide) ?_
                  exact ih (k + 1) true (by omega) (by omega) (md_can_t hbe hc42 hc50) _ _ hP hS ls (lv_sub hl [2, 1, 0] rfl)
        exact L33 (n + 1) 0 false (by omega) (Nat.zero_le _) (by rw [hc0]; rfl) _ _ hP hS ls (lv_sub hl [2, 1, 0] rfl)
      · skip
        obtain ⟨c0, hc0⟩ : ∃ c0 : Bool, c0 = true := ⟨_, rfl⟩
        have hc01 : c0 = true ↔ (0 < dr.length ∧ pu_cn (fun i => (P i).isSome) 40 < 20 ∧ n < 40) := by rw [hc0]; exact ⟨fun _ => by omega, fun _ => rfl⟩
        refine lv_iconst (v := (bI_ true)) hx hb dX7_enter_25 (by decide) ?_
        refine lv_goto (tgt := 30) hx hb dX7_enter_26 (by decide) ?_
        refine lv_istore_n (lv' := [(1, .int (bI_ true)), (0, .ref mo)]) hx hb dX7_enter_30 rfl hl (by decide) rfl (fun ls hl => ?_)
        refine lv_iconst (v := (nI 0)) hx hb dX7_enter_31 (by decide) ?_
        refine lv_istore_n (lv' := [(2, .int (nI 0)), (1, .int (bI_ true)), (0, .ref mo)]) hx hb dX7_enter_32 rfl hl (by decide) rfl (fun ls hl => ?_)
        have L33 : ∀ (fuel : Nat), ∀ (k : Nat) (b : Bool), n - k < fuel → k ≤ n → b = (c0 && !ah_any (ah_sat P (fun u => decide (u = dr))) k) → ∀ (H : Heap) (locs : List Loc), ah_K A D F H → va_S A s.heap H locs → ∀ (ls : Array Slot), lv_has ls 3 [(0, .ref mo), (1, .int (bI_ b)), (2, .int (nI k))] → W p l e { frames := 1, cells := 0, slots := 0, locals := 23 } s m [.ref mo].toArray below meth c H locs (0 + 0) (0 + 0) Q (F0 m 33 ls []) := by
          intro fuel
          induction fuel with
          | zero =>
            intro k b hm
            exact absurd hm (Nat.not_lt_zero _)
          | succ fuel ih =>
            intro k b hm hk hbe H locs hP hS ls hl
            refine lv_iload_n hx hb dX7_enter_33 rfl (lv_at hl 2 rfl) ?_
            refine lv_aload_n hx hb dX7_enter_34 rfl (lv_at hl 0 rfl) ?_
            refine gf_Mod_36 E hP hmo rfl dX7_enter_35 ?_
            refine ah_icmp_ge (tgt := 65) hx hb (by omega) (by omega) dX7_enter_38 (by decide) (fun hc38 => ?_) (fun hc38 => ?_)
            · skip
              rw [show k = n by omega] at hbe
              have hcan := md_can hn40 hPn hc01 hbe
              refine lv_aload_n hx hb dX7_enter_65 rfl (lv_at hl 0 rfl) ?_
              refine lv_iload_n hx hb dX7_enter_66 rfl (lv_at hl 1 rfl) ?_
              refine ah_ifb_eq (tgt := 74) hx hb dX7_enter_67 (by decide) (fun hc67 => ?_) (fun hc67 => ?_)
              · skip
                rw [hc67] at hcan
                refine lv_iconst (v := (nI 1)) hx hb dX7_enter_74 (by decide) ?_
                refine ah_calli (ah_runV E hP hS (As := [.int (nI 1)]) (rest := []) (b := mo) (m_holds l A D _ hmo hdA htA hlA heA hnlA hneA hsA hL (k := 1) (by omega)) lk_Mod_46 li_Mod_46 hmo rfl ⟨rfl, rfl, (Nat.le_of_ble_eq_true rfl), (Nat.le_of_ble_eq_true rfl)⟩ rfl hl.1 rfl (Nat.le_of_ble_eq_true rfl) dX7_enter_75 ⟨(Nat.le_of_ble_eq_true rfl), (Nat.le_of_ble_eq_true rfl)⟩) hS (fun r F245 H locs hho75 hP hS => ?_)
                obtain ⟨eho75, hro⟩ := hho75
                have hG246 : F245 dA = some (ah_ai D 8 df) := by rw [eho75]; exact ah_keep hmo hdA rfl
                have hG247 : F245 tA = some (ah_az D 40 tf) := by rw [eho75]; exact ah_keep hmo htA rfl
                have hG248 : F245 lA = some (ah_ai D 40 lf) := by rw [eho75]; exact ah_keep hmo hlA rfl
                have hG249 : F245 eA = some (ah_ai D 320 ef) := by rw [eho75]; exact ah_keep hmo heA rfl
                have hG250 : F245 nlA = some (ah_ai D 40 nlf) := by rw [eho75]; exact ah_keep hmo hnlA rfl
                have hG251 : F245 neA = some (ah_ai D 320 nef) := by rw [eho75]; exact ah_keep hmo hneA rfl
                have hG252 : F245 sA = some (ah_ai D 200 sf) := by rw [eho75]; exact ah_keep hmo hsA rfl
                have hG253 : F245 mo = some (.inr (7, [.int (nI 1), .ref dA, .int (nI dr.length), .int (nI n), .ref tA, .ref lA, .ref eA, .ref nlA, .ref neA, .ref sA, .int (nI S.length), .int td, .int ip, .int il])) := by rw [eho75]; exact ah_up_s _ _ _
                subst hro
                refine ah_ifb_ne (tgt := 83) hx hb dX7_enter_78 (by decide) (fun hc78 => ?_) (fun hc78 => ?_)
                · skip
                  exact absurd hc78 (by decide)
                · skip
                  refine lv_iconst (v := (nI 0)) hx hb dX7_enter_81 (by decide) ?_
                  rw [hQ]
                  exact ah_iret E hr hP hS (md_An_i (k := 1) (v := 0) (by rw [sp_enter, if_neg (by rw [hcan]; decide)]) ⟨dA, tA, lA, eA, nlA, neA, sA, _, _, ln, _, _, _, _, _, _, _, hG253, hG246, hG247, hG248, hG249, hG250, hG251, hG252, hne1, hne2, hne3, hne4, hL⟩ (fun h => absurd h (by decide))) (Nat.le_of_ble_eq_true rfl) (Nat.le_of_ble_eq_true rfl) dX7_enter_82
              · skip
                rw [hc67] at hcan
                have hcan2 := id hcan
                simp only [ah_can, Bool.and_eq_true, decide_eq_true_eq, Bool.not_eq_true', Bool.or_eq_false_iff, decide_eq_false_iff_not] at hcan2
                have hn39 : n < 40 := by omega
                refine lv_iconst (v := (nI 0)) hx hb dX7_enter_70 (by decide) ?_
                refine lv_goto (tgt := 75) hx hb dX7_enter_71 (by decide) ?_
                refine ah_calli (ah_runV E hP hS (As := [.int (nI 0)]) (rest := []) (b := mo) (m_holds l A D _ hmo hdA htA hlA heA hnlA hneA hsA hL (k := 0) (by omega)) lk_Mod_46 li_Mod_46 hmo rfl ⟨rfl, rfl, (Nat.le_of_ble_eq_true rfl), (Nat.le_of_ble_eq_true rfl)⟩ rfl hl.1 rfl (Nat.le_of_ble_eq_true rfl) dX7_enter_75 ⟨(Nat.le_of_ble_eq_true rfl), (Nat.le_of_ble_eq_true rfl)⟩) hS (fun r F254 H locs hho75 hP hS => ?_)
                obtain ⟨eho75, hro⟩ := hho75
                have hG255 : F254 dA = some (ah_ai D 8 df) := by rw [eho75]; exact ah_keep hmo hdA rfl
                have hG256 : F254 tA = some (ah_az D 40 tf) := by rw [eho75]; exact ah_keep hmo htA rfl
                have hG257 : F254 lA = some (ah_ai D 40 lf) := by rw [eho75]; exact ah_keep hmo hlA rfl
                have hG258 : F254 eA = some (ah_ai D 320 ef) := by rw [eho75]; exact ah_keep hmo heA rfl
                have hG259 : F254 nlA = some (ah_ai D 40 nlf) := by rw [eho75]; exact ah_keep hmo hnlA rfl
                have hG260 : F254 neA = some (ah_ai D 320 nef) := by rw [eho75]; exact ah_keep hmo hneA rfl
                have hG261 : F254 sA = some (ah_ai D 200 sf) := by rw [eho75]; exact ah_keep hmo hsA rfl
                have hG262 : F254 mo = some (.inr (7, [.int (nI 0), .ref dA, .int (nI dr.length), .int (nI n), .ref tA, .ref lA, .ref eA, .ref nlA, .ref neA, .ref sA, .int (nI S.length), .int td, .int ip, .int il])) := by rw [eho75]; exact ah_up_s _ _ _
                subst hro
                refine ah_ifb_ne (tgt := 83) hx hb dX7_enter_78 (by decide) (fun hc78 => ?_) (fun hc78 => ?_)
                · skip
                  refine lv_iconst (v := (nI 0)) hx hb dX7_enter_83 (by decide) ?_
                  refine lv_istore_n (lv' := [(2, .int (nI 0)), (0, .ref mo), (1, .int (bI_ b))]) hx hb dX7_enter_84 rfl hl (by decide) rfl (fun ls hl => ?_)
                  have L85 : ∀ (fuel : Nat), ∀ (Fv : ah_F) (k : Nat) (ef1 : Nat → Int32), dr.length - k < fuel → k ≤ dr.length → (∀ j, j < k → ef1 (8 * n + j) = nI (96 + dr.getD j 0)) → (∀ x, x < 8 * n ∨ 8 * n + 8 ≤ x → ef1 x = ef x) → Fv mo = some (.inr (7, [.int (nI 0), .ref dA, .int (nI dr.length), .int (nI n), .ref tA, .ref lA, .ref eA, .ref nlA, .ref neA, .ref sA, .int (nI S.length), .int td, .int ip, .int il])) → Fv dA = some (ah_ai D 8 df) → Fv tA = some (ah_az D 40 tf) → Fv lA = some (ah_ai D 40 lf) → Fv eA = some (ah_ai D 320 ef1) → Fv nlA = some (ah_ai D 40 nlf) → Fv neA = some (ah_ai D 320 nef) → Fv sA = some (ah_ai D 200 sf) → ∀ (H : Heap) (locs : List Loc), ah_K A D Fv H → va_S A s.heap H locs → ∀ (ls : Array Slot), lv_has ls 3 [(0, .ref mo), (2, .int (nI k))] → W p l e { frames := 1, cells := 0, slots := 0, locals := 23 } s m [.ref mo].toArray below meth c H locs ((0 + 0) + 0) ((0 + 0) + 0) Q (F0 m 85 ls []) := by
                    intro fuel
                    induction fuel with
                    | zero =>
                      intro Fv k ef1 hm
                      exact absurd hm (Nat.not_lt_zero _)
                    | succ fuel ih =>
                      intro Fv k ef1 hm hk hkA hkB hk263 hk264 hk265 hk266 hk267 hk268 hk269 hk270 H locs hP hS ls hl
                      refine lv_iload_n hx hb dX7_enter_85 rfl (lv_at hl 1 rfl) ?_
                      refine lv_aload_n hx hb dX7_enter_86 rfl (lv_at hl 0 rfl) ?_
                      refine gf_Mod_43 E hP hk263 rfl dX7_enter_87 ?_
                      refine ah_icmp_ge (tgt := 119) hx hb (by omega) (by omega) dX7_enter_90 (by decide) (fun hc90 => ?_) (fun hc90 => ?_)
                      · skip
                        refine lv_aload_n hx hb dX7_enter_119 rfl (lv_at hl 0 rfl) ?_
                        refine gf_Mod_17 E hP hk263 rfl dX7_enter_120 ?_
                        refine lv_aload_n hx hb dX7_enter_123 rfl (lv_at hl 0 rfl) ?_
                        refine gf_Mod_36 E hP hk263 rfl dX7_enter_124 ?_
                        refine lv_aload_n hx hb dX7_enter_127 rfl (lv_at hl 0 rfl) ?_
                        refine gf_Mod_43 E hP hk263 rfl dX7_enter_128 ?_
                        refine ah_iast E hP hS hk266 (by omega) (by omega) dX7_enter_131 (fun H locs hP hS => ?_)
                        obtain ⟨F271, eF271⟩ : ∃ Fz : ah_F, Fz = ah_up Fv lA (ah_ai D 40 (upd lf n (nI dr.length))) := ⟨_, rfl⟩
                        have hP : ah_K A D F271 H := by rw [eF271]; exact hP
                        have hF272 : F271 lA = some (ah_ai D 40 (upd lf n (nI dr.length))) := by rw [eF271]; exact ah_up_s _ _ _
                        have hF273 : F271 dA = some (ah_ai D 8 df) := by rw [eF271]; exact ah_keep hk266 hk264 rfl
                        have hF274 : F271 tA = some (ah_az D 40 tf) := by rw [eF271]; exact (ah_up_n _ _ hne3).trans hk265
                        have hF275 : F271 eA = some (ah_ai D 320 ef1) := by rw [eF271]; exact ah_keep hk266 hk267 rfl
                        have hF276 : F271 nlA = some (ah_ai D 40 nlf) := by rw [eF271]; exact (ah_up_n _ _ (Ne.symm hne1)).trans hk268
                        have hF277 : F271 neA = some (ah_ai D 320 nef) := by rw [eF271]; exact ah_keep hk266 hk269 rfl
                        have hF278 : F271 sA = some (ah_ai D 200 sf) := by rw [eF271]; exact ah_keep hk266 hk270 rfl
                        have hF279 : F271 mo = some (.inr (7, [.int (nI 0), .ref dA, .int (nI dr.length), .int (nI n), .ref tA, .ref lA, .ref eA, .ref nlA, .ref neA, .ref sA, .int (nI S.length), .int td, .int ip, .int il])) := by rw [eF271]; exact ah_keep hk266 hk263 rfl
                        refine lv_aload_n hx hb dX7_enter_132 rfl (lv_at hl 0 rfl) ?_
                        refine gf_Mod_23 E hP hF279 rfl dX7_enter_133 ?_
                        refine lv_aload_n hx hb dX7_enter_136 rfl (lv_at hl 0 rfl) ?_
                        refine gf_Mod_36 E hP hF279 rfl dX7_enter_137 ?_
                        refine lv_iconst (v := (nI 0)) hx hb dX7_enter_140 (by decide) ?_
                        refine ah_iast E hP hS hF276 (by omega) (by omega) dX7_enter_141 (fun H locs hP hS => ?_)
                        obtain ⟨F280, eF280⟩ : ∃ Fz : ah_F, Fz = ah_up F271 nlA (ah_ai D 40 (upd nlf n (nI 0))) := ⟨_, rfl⟩
                        have hP : ah_K A D F280 H := by rw [eF280]; exact hP
                        have hF281 : F280 nlA = some (ah_ai D 40 (upd nlf n (nI 0))) := by rw [eF280]; exact ah_up_s _ _ _
                        have hF282 : F280 dA = some (ah_ai D 8 df) := by rw [eF280]; exact ah_keep hF276 hF273 rfl
                        have hF283 : F280 tA = some (ah_az D 40 tf) := by rw [eF280]; exact (ah_up_n _ _ hne4).trans hF274
                        have hF284 : F280 eA = some (ah_ai D 320 ef1) := by rw [eF280]; exact ah_keep hF276 hF275 rfl
                        have hF285 : F280 neA = some (ah_ai D 320 nef) := by rw [eF280]; exact ah_keep hF276 hF277 rfl
                        have hF286 : F280 sA = some (ah_ai D 200 sf) := by rw [eF280]; exact ah_keep hF276 hF278 rfl
                        have hF287 : F280 mo = some (.inr (7, [.int (nI 0), .ref dA, .int (nI dr.length), .int (nI n), .ref tA, .ref lA, .ref eA, .ref nlA, .ref neA, .ref sA, .int (nI S.length), .int td, .int ip, .int il])) := by rw [eF280]; exact ah_keep hF276 hF279 rfl
                        have hF288 : F280 lA = some (ah_ai D 40 (upd lf n (nI dr.length))) := by rw [eF280]; exact (ah_up_n _ _ hne1).trans hF272
                        refine lv_aload_n hx hb dX7_enter_142 rfl (lv_at hl 0 rfl) ?_
                        refine gf_Mod_13 E hP hF287 rfl dX7_enter_143 ?_
                        refine lv_aload_n hx hb dX7_enter_146 rfl (lv_at hl 0 rfl) ?_
                        refine gf_Mod_36 E hP hF287 rfl dX7_enter_147 ?_
                        refine lv_iconst (v := (nI 1)) hx hb dX7_enter_150 (by decide) ?_
                        refine ah_zast E hP hS hF283 (by omega) (by omega) (by decide) dX7_enter_151 (fun H locs hP hS => ?_)
                        obtain ⟨F289, eF289⟩ : ∃ Fz : ah_F, Fz = ah_up F280 tA (ah_az D 40 (upd tf n (nI 1))) := ⟨_, rfl⟩
                        have hP : ah_K A D F289 H := by rw [eF289]; exact hP
                        have hF290 : F289 tA = some (ah_az D 40 (upd tf n (nI 1))) := by rw [eF289]; exact ah_up_s _ _ _
                        have hF291 : F289 dA = some (ah_ai D 8 df) := by rw [eF289]; exact ah_keep hF283 hF282 rfl
                        have hF292 : F289 eA = some (ah_ai D 320 ef1) := by rw [eF289]; exact ah_keep hF283 hF284 rfl
                        have hF293 : F289 neA = some (ah_ai D 320 nef) := by rw [eF289]; exact ah_keep hF283 hF285 rfl
                        have hF294 : F289 sA = some (ah_ai D 200 sf) := by rw [eF289]; exact ah_keep hF283 hF286 rfl
                        have hF295 : F289 mo = some (.inr (7, [.int (nI 0), .ref dA, .int (nI dr.length), .int (nI n), .ref tA, .ref lA, .ref eA, .ref nlA, .ref neA, .ref sA, .int (nI S.length), .int td, .int ip, .int il])) := by rw [eF289]; exact ah_keep hF283 hF287 rfl
                        have hF296 : F289 lA = some (ah_ai D 40 (upd lf n (nI dr.length))) := by rw [eF289]; exact (ah_up_n _ _ (Ne.symm hne3)).trans hF288
                        have hF297 : F289 nlA = some (ah_ai D 40 (upd nlf n (nI 0))) := by rw [eF289]; exact (ah_up_n _ _ (Ne.symm hne4)).trans hF281
                        refine lv_aload_n hx hb dX7_enter_152 rfl (lv_at hl 0 rfl) ?_
                        refine lv_iconst (v := (nI 0)) hx hb dX7_enter_153 (by decide) ?_
                        refine pf_Mod_43 E hP hS hF295 (Nat.le_of_ble_eq_true rfl) dX7_enter_154 (fun H locs hP hS => ?_)
                        obtain ⟨F298, eF298⟩ : ∃ Fz : ah_F, Fz = ah_up F289 mo (.inr (7, [.int (nI 0), .ref dA, .int (nI 0), .int (nI n), .ref tA, .ref lA, .ref eA, .ref nlA, .ref neA, .ref sA, .int (nI S.length), .int td, .int ip, .int il])) := ⟨_, rfl⟩
                        have hP : ah_K A D F298 H := by rw [eF298]; exact hP
                        have hF299 : F298 mo = some (.inr (7, [.int (nI 0), .ref dA, .int (nI 0), .int (nI n), .ref tA, .ref lA, .ref eA, .ref nlA, .ref neA, .ref sA, .int (nI S.length), .int td, .int ip, .int il])) := by rw [eF298]; exact ah_up_s _ _ _
                        have hF300 : F298 dA = some (ah_ai D 8 df) := by rw [eF298]; exact ah_keep hF295 hF291 rfl
                        have hF301 : F298 eA = some (ah_ai D 320 ef1) := by rw [eF298]; exact ah_keep hF295 hF292 rfl
                        have hF302 : F298 neA = some (ah_ai D 320 nef) := by rw [eF298]; exact ah_keep hF295 hF293 rfl
                        have hF303 : F298 sA = some (ah_ai D 200 sf) := by rw [eF298]; exact ah_keep hF295 hF294 rfl
                        have hF304 : F298 lA = some (ah_ai D 40 (upd lf n (nI dr.length))) := by rw [eF298]; exact ah_keep hF295 hF296 rfl
                        have hF305 : F298 nlA = some (ah_ai D 40 (upd nlf n (nI 0))) := by rw [eF298]; exact ah_keep hF295 hF297 rfl
                        have hF306 : F298 tA = some (ah_az D 40 (upd tf n (nI 1))) := by rw [eF298]; exact ah_keep hF295 hF290 rfl
                        refine lv_aload_n hx hb dX7_enter_157 rfl (lv_at hl 0 rfl) ?_
                        refine lv_dup hx hb dX7_enter_158 rfl ?_
                        refine gf_Mod_36 E hP hF299 rfl dX7_enter_159 ?_
                        refine lv_iconst (v := (nI 1)) hx hb dX7_enter_162 (by decide) ?_
                        refine ah_iadd hx hb dX7_enter_163 ?_
                        refine pf_Mod_36 E hP hS hF299 (Nat.le_of_ble_eq_true rfl) dX7_enter_164 (fun H locs hP hS => ?_)
                        obtain ⟨F307, eF307⟩ : ∃ Fz : ah_F, Fz = ah_up F298 mo (.inr (7, [.int (nI 0), .ref dA, .int (nI 0), .int (nI (n + 1)), .ref tA, .ref lA, .ref eA, .ref nlA, .ref neA, .ref sA, .int (nI S.length), .int td, .int ip, .int il])) := ⟨_, rfl⟩
                        have hP : ah_K A D F307 H := by rw [eF307]; exact hP
                        have hF308 : F307 mo = some (.inr (7, [.int (nI 0), .ref dA, .int (nI 0), .int (nI (n + 1)), .ref tA, .ref lA, .ref eA, .ref nlA, .ref neA, .ref sA, .int (nI S.length), .int td, .int ip, .int il])) := by rw [eF307]; exact ah_up_s _ _ _
                        have hF309 : F307 dA = some (ah_ai D 8 df) := by rw [eF307]; exact ah_keep hF299 hF300 rfl
                        have hF310 : F307 eA = some (ah_ai D 320 ef1) := by rw [eF307]; exact ah_keep hF299 hF301 rfl
                        have hF311 : F307 neA = some (ah_ai D 320 nef) := by rw [eF307]; exact ah_keep hF299 hF302 rfl
                        have hF312 : F307 sA = some (ah_ai D 200 sf) := by rw [eF307]; exact ah_keep hF299 hF303 rfl
                        have hF313 : F307 lA = some (ah_ai D 40 (upd lf n (nI dr.length))) := by rw [eF307]; exact ah_keep hF299 hF304 rfl
                        have hF314 : F307 nlA = some (ah_ai D 40 (upd nlf n (nI 0))) := by rw [eF307]; exact ah_keep hF299 hF305 rfl
                        have hF315 : F307 tA = some (ah_az D 40 (upd tf n (nI 1))) := by rw [eF307]; exact ah_keep hF299 hF306 rfl
                        refine lv_aload_n hx hb dX7_enter_167 rfl (lv_at hl 0 rfl) ?_
                        refine gf_Mod_36 E hP hF308 rfl dX7_enter_168 ?_
                        refine lv_iconst (v := (nI 1)) hx hb dX7_enter_171 (by decide) ?_
                        refine ah_isub hx hb (by omega) dX7_enter_172 ?_
                        rw [hQ]
                        exact ah_iret E hr hP hS (md_An_i (P := ah_ins P n dr) (n := n + 1) (dr := []) (S := S) (td := td) (k := 0) (v := nI n) (by rw [sp_enter, if_pos hcan]) ⟨dA, tA, lA, eA, nlA, neA, sA, _, _, (fun j => if j = n then dr.length else ln j), _, _, _, _, _, _, _, hF308, hF309, hF315, hF313, hF310, hF314, hF311, hF312, hne1, hne2, hne3, hne4, (md_L_ins hL hcan (fun j hj => hkA j (by omega)) hkB)⟩ (fun _ => rfl)) (Nat.le_of_ble_eq_true rfl) (Nat.le_of_ble_eq_true rfl) dX7_enter_173
                      · skip
                        refine lv_aload_n hx hb dX7_enter_93 rfl (lv_at hl 0 rfl) ?_
                        refine gf_Mod_20 E hP hk263 rfl dX7_enter_94 ?_
                        refine lv_bipush (v := (nI 8)) hx hb dX7_enter_97 (by decide) ?_
                        refine lv_aload_n hx hb dX7_enter_99 rfl (lv_at hl 0 rfl) ?_
                        refine gf_Mod_36 E hP hk263 rfl dX7_enter_100 ?_
                        refine ah_imul hx hb dX7_enter_103 ?_
                        refine lv_iload_n hx hb dX7_enter_104 rfl (lv_at hl 1 rfl) ?_
                        refine ah_iadd hx hb dX7_enter_105 ?_
                        refine lv_aload_n hx hb dX7_enter_106 rfl (lv_at hl 0 rfl) ?_
                        refine gf_Mod_7 E hP hk263 rfl dX7_enter_107 ?_
                        refine lv_iload_n hx hb dX7_enter_110 rfl (lv_at hl 1 rfl) ?_
                        refine ah_iald E hP hk264 (by omega) (by omega) dX7_enter_111 ?_
                        rw [hdd k (by omega)]
                        refine ah_iast E hP hS hk267 (by omega) (by omega) dX7_enter_112 (fun H locs hP hS => ?_)
                        obtain ⟨F316, eF316⟩ : ∃ Fz : ah_F, Fz = ah_up Fv eA (ah_ai D 320 (upd ef1 ((8 * n) + k) (nI (96 + dr.getD k 0)))) := ⟨_, rfl⟩
                        have hP : ah_K A D F316 H := by rw [eF316]; exact hP
                        have hF317 : F316 eA = some (ah_ai D 320 (upd ef1 ((8 * n) + k) (nI (96 + dr.getD k 0)))) := by rw [eF316]; exact ah_up_s _ _ _
                        have hF318 : F316 dA = some (ah_ai D 8 df) := by rw [eF316]; exact ah_keep hk267 hk264 rfl
                        have hF319 : F316 tA = some (ah_az D 40 tf) := by rw [eF316]; exact ah_keep hk267 hk265 rfl
                        have hF320 : F316 lA = some (ah_ai D 40 lf) := by rw [eF316]; exact ah_keep hk267 hk266 rfl
                        have hF321 : F316 nlA = some (ah_ai D 40 nlf) := by rw [eF316]; exact ah_keep hk267 hk268 rfl
                        have hF322 : F316 neA = some (ah_ai D 320 nef) := by rw [eF316]; exact (ah_up_n _ _ (Ne.symm hne2)).trans hk269
                        have hF323 : F316 sA = some (ah_ai D 200 sf) := by rw [eF316]; exact ah_keep hk267 hk270 rfl
                        have hF324 : F316 mo = some (.inr (7, [.int (nI 0), .ref dA, .int (nI dr.length), .int (nI n), .ref tA, .ref lA, .ref eA, .ref nlA, .ref neA, .ref sA, .int (nI S.length), .int td, .int ip, .int il])) := by rw [eF316]; exact ah_keep hk267 hk263 rfl
                        refine lv_iinc (v := (nI (k + 1))) (lv' := [(2, .int (nI (k + 1))), (0, .ref mo)]) hx hb dX7_enter_113 hl (k := 1) rfl (ah_inc _) (by decide) rfl (fun ls hl => ?_)
                        refine lv_goto (tgt := 85) hx hb dX7_enter_116 (by decide) ?_
                        exact ih _ (k + 1) _ (by omega) (by omega) (md_wr_s (G := fun j => nI (96 + dr.getD j 0)) hkA) (md_wr_o (by omega) hkB) hF324 hF318 hF319 hF320 hF317 hF321 hF322 hF323 _ _ hP hS ls (lv_sub hl [1, 0] rfl)
                  exact L85 (dr.length + 1) _ 0 _ (by omega) (Nat.zero_le _) (fun j hj => absurd hj (Nat.not_lt_zero j)) (fun x hx => rfl) hG262 hG255 hG256 hG257 hG258 hG259 hG260 hG261 _ _ hP hS ls (lv_sub hl [1, 0] rfl)
                · skip
                  exact absurd hc78 (by decide)
            · skip
              refine lv_iload_n hx hb dX7_enter_41 rfl (lv_at hl 1 rfl) ?_
              refine ah_ifb_eq (tgt := 57) hx hb dX7_enter_42 (by decide) (fun hc42 => ?_) (fun hc42 => ?_)
              · skip
                refine lv_iconst (v := (bI_ false)) hx hb dX7_enter_57 (by decide) ?_
                refine lv_istore_n (lv' := [(1, .int (bI_ false)), (0, .ref mo), (2, .int (nI k))]) hx hb dX7_enter_58 rfl hl (by decide) rfl (fun ls hl => ?_)
                refine lv_iinc (v := (nI (k + 1))) (lv' := [(2, .int (nI (k + 1))), (1, .int (bI_ false)), (0, .ref mo)]) hx hb dX7_enter_59 hl (k := 2) rfl (ah_inc _) (by decide) rfl (fun ls hl => ?_)
                refine lv_goto (tgt := 33) hx hb dX7_enter_62 (by decide) ?_
                exact ih (k + 1) false (by omega) (by omega) (md_can_f hbe hc42) _ _ hP hS ls (lv_sub hl [2, 1, 0] rfl)
              · skip
                refine lv_aload_n hx hb dX7_enter_45 rfl (lv_at hl 0 rfl) ?_
                refine lv_iload_n hx hb dX7_enter_46 rfl (lv_at hl 2 rfl) ?_
                refine ah_calli (ah_runV E hP hS (As := [.int (nI k)]) (rest := []) (b := mo) (m_isDraft l A D _ hmo hdA htA hlA heA hnlA hneA hsA hL (i := k) (by omega)) lk_Mod_54 li_Mod_54 hmo rfl ⟨rfl, rfl, (Nat.le_of_ble_eq_true rfl), (Nat.le_of_ble_eq_true rfl)⟩ rfl hl.1 rfl (Nat.le_of_ble_eq_true rfl) dX7_enter_47 ⟨(Nat.le_of_ble_eq_true rfl), (Nat.le_of_ble_eq_true rfl)⟩) hS (fun r F325 H locs hq hP hS => ?_)
                obtain ⟨rfl, rfl⟩ := hq
                refine ah_ifb_ne (tgt := 57) hx hb dX7_enter_50 (by decide) (fun hc50 => ?_) (fun hc50 => ?_)
                · skip
                  refine lv_iconst (v := (bI_ false)) hx hb dX7_enter_57 (by decide) ?_
                  refine lv_istore_n (lv' := [(1, .int (bI_ false)), (0, .ref mo), (2, .int (nI k))]) hx hb dX7_enter_58 rfl hl (by decide) rfl (fun ls hl => ?_)
                  refine lv_iinc (v := (nI (k + 1))) (lv' := [(2, .int (nI (k + 1))), (1, .int (bI_ false)), (0, .ref mo)]) hx hb dX7_enter_59 hl (k := 2) rfl (ah_inc _) (by decide) rfl (fun ls hl => ?_)
                  refine lv_goto (tgt := 33) hx hb dX7_enter_62 (by decide) ?_
                  exact ih (k + 1) false (by omega) (by omega) (md_can_h hc50) _ _ hP hS ls (lv_sub hl [2, 1, 0] rfl)
                · skip
                  refine lv_iconst (v := (bI_ true)) hx hb dX7_enter_53 (by decide) ?_
                  refine lv_goto (tgt := 58) hx hb dX7_enter_54 (by decide) ?_
                  refine lv_istore_n (lv' := [(1, .int (bI_ true)), (0, .ref mo), (2, .int (nI k))]) hx hb dX7_enter_58 rfl hl (by decide) rfl (fun ls hl => ?_)
                  refine lv_iinc (v := (nI (k + 1))) (lv' := [(2, .int (nI (k + 1))), (1, .int (bI_ true)), (0, .ref mo)]) hx hb dX7_enter_59 hl (k := 2) rfl (ah_inc _) (by decide) rfl (fun ls hl => ?_)
                  refine lv_goto (tgt := 33) hx hb dX7_enter_62 (by decide) ?_
                  exact ih (k + 1) true (by omega) (by omega) (md_can_t hbe hc42 hc50) _ _ hP hS ls (lv_sub hl [2, 1, 0] rfl)
        exact L33 (n + 1) 0 true (by omega) (Nat.zero_le _) (by rw [hc0]; rfl) _ _ hP hS ls (lv_sub hl [2, 1, 0] rfl)
