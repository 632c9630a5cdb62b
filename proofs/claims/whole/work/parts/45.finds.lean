/-! the reference's search by places -/
theorem md_best_none {P : ah_Pt} {f : List Nat → Bool} : ∀ {n : Nat}, ah_best P f n = none → ∀ i, i < n → ah_sat P f i = false
  | 0, _, i, hi => absurd hi (Nat.not_lt_zero i)
  | n + 1, h, i, hi => by
    cases hs : ah_sat P f n with
    | false =>
      rw [ah_best_f hs] at h
      by_cases e : i = n
      · rw [e]; exact hs
      · exact md_best_none h i (by omega)
    | true =>
      cases e1 : ah_best P f n with
      | none => rw [ah_best_0 hs e1] at h; cases h
      | some j =>
        by_cases q : (ah_w P j).length < (ah_w P n).length
        · rw [ah_best_g hs e1 q] at h; cases h
        · rw [ah_best_k hs e1 (by omega)] at h; cases h
theorem md_best_max {P : ah_Pt} {f : List Nat → Bool} : ∀ {n b : Nat}, ah_best P f n = some b → ∀ i, i < n → ah_sat P f i = true → (ah_w P i).length ≤ (ah_w P b).length
  | 0, _, _, i, hi, _ => absurd hi (Nat.not_lt_zero i)
  | n + 1, b, h, i, hi, hsi => by
    cases hs : ah_sat P f n with
    | false =>
      rw [ah_best_f hs] at h
      by_cases e : i = n
      · rw [e, hs] at hsi; cases hsi
      · exact md_best_max h i (by omega) hsi
    | true =>
      cases e1 : ah_best P f n with
      | none =>
        rw [ah_best_0 hs e1] at h
        cases h
        by_cases e : i = n
        · rw [e]; exact Nat.le_refl _
        · rw [md_best_none e1 i (by omega)] at hsi; cases hsi
      | some j =>
        by_cases q : (ah_w P j).length < (ah_w P n).length
        · rw [ah_best_g hs e1 q] at h
          cases h
          by_cases e : i = n
          · rw [e]; exact Nat.le_refl _
          · have := md_best_max e1 i (by omega) hsi; omega
        · rw [ah_best_k hs e1 (by omega)] at h
          cases h
          by_cases e : i = n
          · rw [e]; omega
          · exact md_best_max e1 i (by omega) hsi
theorem md_at_w {S w w2 : List Nat} {k : Nat} (h : ah_at S k w = true) (h2 : ah_at S k w2 = true) (hl : w.length = w2.length) : w = w2 := by
  have e1 : (S.drop k).take w.length = w := of_decide_eq_true h
  have e2 : (S.drop k).take w2.length = w2 := of_decide_eq_true h2
  rw [← e1, ← e2, hl]
theorem md_uniq {P : ah_Pt} {S : List Nat} {k i j : Nat} (hd : ah_Pdis P) (h : ah_sat P (fun w => ah_at S k w) i = true) (h2 : ah_sat P (fun w => ah_at S k w) j = true) (hl : (ah_w P i).length = (ah_w P j).length) : i = j := by
  obtain ⟨w, r, h3, h4⟩ := ah_sat_t h
  obtain ⟨w2, r2, h5, h6⟩ := ah_sat_t h2
  rw [ah_w_s h3, ah_w_s h5] at hl
  have e := md_at_w h4 h6 hl
  subst e
  exact hd i j _ _ _ h3 h5
def md_dv (P : ah_Pt) (f : List Nat → Bool) (ru o n : Nat) (ip : Int32) : Prop := (ip = -1 ∧ ∀ i, o ≤ i → i < n → ah_sat P f i = false) ∨ ∃ j : Nat, ip = nI j ∧ o ≤ j ∧ j < n ∧ ah_sat P f j = true ∧ (ru = 1 → ∀ i, o ≤ i → i < j → ah_sat P f i = false) ∧ (ru = 0 → ∀ i, o ≤ i → i < n → ah_sat P f i = true → (ah_w P i).length ≤ (ah_w P j).length)
theorem md_nm1 {j : Nat} (h : j < 2 ^ 31) : ¬ nI j = -1 := fun e => nI_pos h (by rw [e]; decide)
theorem md_dv_0 {P : ah_Pt} {f : List Nat → Bool} {ru n : Nat} : md_dv P f ru n n (-1) := Or.inl ⟨rfl, fun i h1 h2 => absurd h1 (by omega)⟩
theorem md_dv_l {P : ah_Pt} {f : List Nat → Bool} {ru o n : Nat} {ip : Int32} (hn : n ≤ 40) (h : md_dv P f ru o n ip) (e : ip = -1) : ∀ i, o ≤ i → i < n → ah_sat P f i = false := by
  rcases h with ⟨-, h⟩ | ⟨j, h1, h2, h3, -⟩
  · exact h
  · exact absurd (h1.symm.trans e) (md_nm1 (by omega))
theorem md_dv_r {P : ah_Pt} {f : List Nat → Bool} {ru o n : Nat} {ip : Int32} (h : md_dv P f ru o n ip) (e : ¬ ip = -1) : ∃ j : Nat, ip = nI j ∧ o ≤ j ∧ j < n ∧ ah_sat P f j = true ∧ (ru = 1 → ∀ i, o ≤ i → i < j → ah_sat P f i = false) ∧ (ru = 0 → ∀ i, o ≤ i → i < n → ah_sat P f i = true → (ah_w P i).length ≤ (ah_w P j).length) := by
  rcases h with ⟨h, -⟩ | h
  · exact absurd h e
  · exact h
theorem md_dv_f {P : ah_Pt} {f : List Nat → Bool} {ru o n : Nat} {ip : Int32} (h : md_dv P f ru (o + 1) n ip) (hs : ah_sat P f o = false) : md_dv P f ru o n ip := by
  rcases h with ⟨h1, h2⟩ | ⟨j, h1, h2, h3, h4, h5, h6⟩
  · exact Or.inl ⟨h1, fun i a b => by
      by_cases e : i = o
      · rw [e]; exact hs
      · exact h2 i (by omega) b⟩
  · refine Or.inr ⟨j, h1, by omega, h3, h4, fun q i a b => ?_, fun q i a b d => ?_⟩
    · by_cases e : i = o
      · rw [e]; exact hs
      · exact h5 q i (by omega) b
    · by_cases e : i = o
      · rw [e, hs] at d; cases d
      · exact h6 q i (by omega) b d
theorem md_dv_new {P : ah_Pt} {f : List Nat → Bool} {ru o n : Nat} (ho : o < n) (hs : ah_sat P f o = true) (h : ru = 0 → ∀ i, o + 1 ≤ i → i < n → ah_sat P f i = true → (ah_w P i).length ≤ (ah_w P o).length) : md_dv P f ru o n (nI o) :=
  Or.inr ⟨o, rfl, Nat.le_refl _, ho, hs, fun _ i a b => absurd a (by omega), fun q i a b d => by
    by_cases e : i = o
    · rw [e]; exact Nat.le_refl _
    · exact h q i (by omega) b d⟩
theorem md_dv_kp {P : ah_Pt} {f : List Nat → Bool} {ru o n j : Nat} (hoj : o + 1 ≤ j) (hjn : j < n) (hjs : ah_sat P f j = true) (hru : ru ≠ 1) (hr : ru = 0 → ∀ i, o + 1 ≤ i → i < n → ah_sat P f i = true → (ah_w P i).length ≤ (ah_w P j).length) (hle : (ah_w P o).length ≤ (ah_w P j).length) : md_dv P f ru o n (nI j) :=
  Or.inr ⟨j, rfl, by omega, hjn, hjs, fun q => absurd q hru, fun q i a b d => by
    by_cases e : i = o
    · rw [e]; exact hle
    · exact hr q i (by omega) b d⟩
theorem md_fst_off {p : Nat → Bool} {n : Nat} (h : ∀ i, n ≤ i → p i = false) : ∀ {N : Nat}, n ≤ N → ah_fst p N = ah_fst p n
  | 0, hN => by rw [show n = 0 by omega]
  | N + 1, hN => by
    by_cases e : n = N + 1
    · rw [e]
    · rw [← md_fst_off h (N := N) (by omega)]
      cases q : ah_fst p N with
      | none => exact ah_fst_0 q (h N (by omega))
      | some j => simp [ah_fst, q]
theorem md_dv_n {P : ah_Pt} {S : List Nat} {ru n k : Nat} {ip : Int32} (hn : n ≤ 40) (hPn : ∀ i, n ≤ i → P i = none) (h : md_dv P (fun w => ah_at S k w) ru 0 n ip) (e : ip = -1) : (if ru = 0 then ah_n0 P S else ah_n1 P S) k = none := by
  have ha := md_dv_l hn h e
  split
  · rw [ah_n0, ah_best_off hPn hn]
    cases q : ah_best P (fun w => ah_at S k w) n with
    | none => rfl
    | some j =>
      obtain ⟨h1, h2⟩ := ah_best_lt q
      rw [ha j (Nat.zero_le _) h1] at h2; cases h2
  · rw [ah_n1, md_fst_off (fun i hi => md_sat_n (by rw [hPn i hi]; rfl)) hn]
    exact ah_fst_n.mpr (fun i hi => ha i (Nat.zero_le _) hi)
theorem md_dv_s {P : ah_Pt} {S : List Nat} {ru n k : Nat} {ip : Int32} (hn : n ≤ 40) (hPn : ∀ i, n ≤ i → P i = none) (hd : ah_Pdis P) (hru : ru ≤ 1) (h : md_dv P (fun w => ah_at S k w) ru 0 n ip) (e : ¬ ip = -1) : ∃ j, ip = nI j ∧ (if ru = 0 then ah_n0 P S else ah_n1 P S) k = some j := by
  obtain ⟨j, h1, -, h3, h4, h5, h6⟩ := md_dv_r h e
  refine ⟨j, h1, ?_⟩
  by_cases q : ru = 0
  · rw [if_pos q, ah_n0, ah_best_off hPn hn]
    cases q2 : ah_best P (fun w => ah_at S k w) n with
    | none => rw [md_best_none q2 j h3] at h4; cases h4
    | some b =>
      obtain ⟨h7, h8⟩ := ah_best_lt q2
      have h9 := md_best_max q2 j h3 h4
      have h10 := h6 q b (Nat.zero_le _) h7 h8
      rw [md_uniq hd h4 h8 (by omega)]
  · rw [if_neg q, ah_n1, md_fst_off (fun i hi => md_sat_n (by rw [hPn i hi]; rfl)) hn]
    exact ah_fst_s.mpr ⟨h3, h4, fun i hi => h5 (by omega) i (Nat.zero_le _) hi⟩
theorem md_np_n {nx : Nat → Option Nat} {k N : Nat} (hk : k < N) (h : nx k = none) : md_np nx k (N - k) = md_np nx (k + 1) (N - (k + 1)) := by
  rw [show N - k = (N - (k + 1)) + 1 by omega, md_np, h]
theorem md_np_s {nx : Nat → Option Nat} {k N j : Nat} (hk : k < N) (h : nx k = some j) : md_np nx k (N - k) = some (j, k) := by
  rw [show N - k = (N - (k + 1)) + 1 by omega, md_np, h]
theorem md_np_0 {nx : Nat → Option Nat} {k N : Nat} (hk : N ≤ k) : md_np nx k (N - k) = none := by
  rw [show N - k = 0 by omega]; rfl
theorem md_pr (o : Nat) : nI (o + 1) - nI 1 = nI o := by rw [← nI_add o 1]; exact Int32.add_sub_cancel _ _
theorem md_dec (o : Nat) : nI o + Int32.ofInt (-1) = nI o - nI 1 := by rw [Int32.sub_eq_add_neg]; rfl
set_option maxHeartbeats 4000000 in
set_option maxRecDepth 100000 in
/-- finds -/
theorem m_finds (l : Launch) (A : Nat → Prop) (D : ah_G) (F : ah_F) {mo dA tA lA eA nlA neA sA n : Nat} {P : ah_Pt} {dr S : List Nat} {td th ip il : Int32} {ln : Nat → Nat} {df tf lf ef nlf nef sf : Nat → Int32} (hmo : F mo = some (.inr (7, [.int th, .ref dA, .int (nI dr.length), .int (nI n), .ref tA, .ref lA, .ref eA, .ref nlA, .ref neA, .ref sA, .int (nI S.length), .int td, .int ip, .int il]))) (hdA : F dA = some (ah_ai D 8 df)) (htA : F tA = some (ah_az D 40 tf)) (hlA : F lA = some (ah_ai D 40 lf)) (heA : F eA = some (ah_ai D 320 ef)) (hnlA : F nlA = some (ah_ai D 40 nlf)) (hneA : F neA = some (ah_ai D 320 nef)) (hsA : F sA = some (ah_ai D 200 sf)) (hL : md_L P n dr S ln df tf lf ef nlf nef sf) {ru fr : Nat} (hru : ru ≤ 2) (hfr : fr ≤ S.length) : Met l yX7_finds (Cond.code yX7_finds cX7_finds 6 (some .boolean) :: ah_T) { frames := 2, cells := 0, slots := 0, locals := 49 } (va_Pc [.ref mo, .int (nI ru), .int (nI fr)] (ah_B A D F)) (ah_Qi A D (fun (r : Int32) F1 => ∃ ip1 il1 : Int32, F1 mo = some (.inr (7, [.int th, .ref dA, .int (nI dr.length), .int (nI n), .ref tA, .ref lA, .ref eA, .ref nlA, .ref neA, .ref sA, .int (nI S.length), .int td, .int ip1, .int il1])) ∧ ah_ch F F1 [mo] ∧ bI_ (md_nx P S ru fr).isSome = r ∧ ∀ j p : Nat, md_nx P S ru fr = some (j, p) → ip1 = nI j ∧ il1 = nI p)) 0 0 A := by
  refine ah_met (own := "AhoarchModel") (by decide) rfl (Nat.le_of_ble_eq_true rfl) ?_
  intro p e s m below meth c ls E hr hini hl hP hS Q hQ
  have hx := E.1
  have hb := E.2.1
  have hl : lv_has ls 6 [(0, .ref mo), (1, .int (nI ru)), (2, .int (nI fr))] := hl
  obtain ⟨hn40, hPn, hdok, hSl, hS200, hPok, hdis, hp20, hln, hlP, hdd, hss⟩ := id hL
  have hdl := hdok.1
  have hch0 : ah_ch F F [mo] := ah_ch_r _ _
  refine lv_iload_n hx hb dX7_finds_0 rfl (lv_at hl 1 rfl) ?_
  refine lv_iconst (v := (nI 2)) hx hb dX7_finds_1 (by decide) ?_
  refine ah_icmp_ne (tgt := 11) hx hb (by omega) (by omega) dX7_finds_2 (by decide) (fun hc2 => ?_) (fun hc2 => ?_)
  · skip
    have hnx0 : md_nx P S ru fr = md_np (if ru = 0 then ah_n0 P S else ah_n1 P S) fr (S.length - fr) := by rw [md_nx, if_neg (by omega)]
    refine lv_iload_n hx hb dX7_finds_11 rfl (lv_at hl 2 rfl) ?_
    refine lv_istore_n (lv' := [(3, .int (nI fr)), (0, .ref mo), (1, .int (nI ru)), (2, .int (nI fr))]) hx hb dX7_finds_12 rfl hl (by decide) rfl (fun ls hl => ?_)
    have L13 : ∀ (fuel : Nat), ∀ (Fv : ah_F) (k : Nat) (ip1 il1 : Int32), S.length - k < fuel → fr ≤ k → k ≤ S.length → md_nx P S ru fr = md_np (if ru = 0 then ah_n0 P S else ah_n1 P S) k (S.length - k) → ah_ch F Fv [mo] → Fv mo = some (.inr (7, [.int th, .ref dA, .int (nI dr.length), .int (nI n), .ref tA, .ref lA, .ref eA, .ref nlA, .ref neA, .ref sA, .int (nI S.length), .int td, .int ip1, .int il1])) → Fv dA = some (ah_ai D 8 df) → Fv tA = some (ah_az D 40 tf) → Fv lA = some (ah_ai D 40 lf) → Fv eA = some (ah_ai D 320 ef) → Fv nlA = some (ah_ai D 40 nlf) → Fv neA = some (ah_ai D 320 nef) → Fv sA = some (ah_ai D 200 sf) → ∀ (H : Heap) (locs : List Loc), ah_K A D Fv H → va_S A s.heap H locs → ∀ (ls : Array Slot), lv_has ls 6 [(0, .ref mo), (1, .int (nI ru)), (2, .int (nI fr)), (3, .int (nI k))] → W p l e { frames := 2, cells := 0, slots := 0, locals := 49 } s m [.ref mo, .int (nI ru), .int (nI fr)].toArray below meth c H locs 0 0 Q (F0 m 13 ls []) := by
      intro fuel
      induction fuel with
      | zero =>
        intro Fv k ip1 il1 hm
        exact absurd hm (Nat.not_lt_zero _)
      | succ fuel ih13 =>
        intro Fv k ip1 il1 hm hfk hk hnx hch1 hk1 hk2 hk3 hk4 hk5 hk6 hk7 hk8 H locs hP hS ls hl
        refine lv_iload_n hx hb dX7_finds_13 rfl (lv_at hl 3 rfl) ?_
        refine lv_aload_n hx hb dX7_finds_14 rfl (lv_at hl 0 rfl) ?_
        refine gf_Mod_67 E hP hk1 rfl dX7_finds_15 ?_
        refine ah_icmp_ge (tgt := 133) hx hb (by omega) (by omega) dX7_finds_18 (by decide) (fun hc18 => ?_) (fun hc18 => ?_)
        · skip
          have hnx2 := hnx.trans (md_np_0 (by omega))
          refine lv_iconst (v := (bI_ false)) hx hb dX7_finds_133 (by decide) ?_
          rw [hQ]
          exact ah_zret E hr (by first | exact bI_nz _ | decide) hP hS ⟨_, _, hk1, hch1, congrArg (fun o => bI_ (Option.isSome o)) hnx2, md_non hnx2⟩ (Nat.le_of_ble_eq_true rfl) (Nat.le_of_ble_eq_true rfl) dX7_finds_134
        · skip
          refine lv_aload_n hx hb dX7_finds_21 rfl (lv_at hl 0 rfl) ?_
          refine lv_iconst (v := (-1)) hx hb dX7_finds_22 (by decide) ?_
          refine pf_Mod_90 E hP hS hk1 (Nat.le_of_ble_eq_true rfl) dX7_finds_23 (fun H locs hP hS => ?_)
          obtain ⟨F9, eF9⟩ : ∃ Fz : ah_F, Fz = ah_up Fv mo (.inr (7, [.int th, .ref dA, .int (nI dr.length), .int (nI n), .ref tA, .ref lA, .ref eA, .ref nlA, .ref neA, .ref sA, .int (nI S.length), .int td, .int (-1), .int il1])) := ⟨_, rfl⟩
          have hP : ah_K A D F9 H := by rw [eF9]; exact hP
          have hF10 : F9 mo = some (.inr (7, [.int th, .ref dA, .int (nI dr.length), .int (nI n), .ref tA, .ref lA, .ref eA, .ref nlA, .ref neA, .ref sA, .int (nI S.length), .int td, .int (-1), .int il1])) := by rw [eF9]; exact ah_up_s _ _ _
          have hF11 : F9 dA = some (ah_ai D 8 df) := by rw [eF9]; exact ah_keep hk1 hk2 rfl
          have hF12 : F9 tA = some (ah_az D 40 tf) := by rw [eF9]; exact ah_keep hk1 hk3 rfl
          have hF13 : F9 lA = some (ah_ai D 40 lf) := by rw [eF9]; exact ah_keep hk1 hk4 rfl
          have hF14 : F9 eA = some (ah_ai D 320 ef) := by rw [eF9]; exact ah_keep hk1 hk5 rfl
          have hF15 : F9 nlA = some (ah_ai D 40 nlf) := by rw [eF9]; exact ah_keep hk1 hk6 rfl
          have hF16 : F9 neA = some (ah_ai D 320 nef) := by rw [eF9]; exact ah_keep hk1 hk7 rfl
          have hF17 : F9 sA = some (ah_ai D 200 sf) := by rw [eF9]; exact ah_keep hk1 hk8 rfl
          have hC18 : ah_ch F F9 [mo] := by rw [eF9]; exact ah_ch_u hch1 (by simp)
          refine lv_aload_n hx hb dX7_finds_26 rfl (lv_at hl 0 rfl) ?_
          refine gf_Mod_36 E hP hF10 rfl dX7_finds_27 ?_
          refine lv_iconst (v := (nI 1)) hx hb dX7_finds_30 (by decide) ?_
          refine lv_isub hx hb dX7_finds_31 ?_
          refine lv_istore (lv' := [(4, .int ((nI n) - (nI 1))), (0, .ref mo), (1, .int (nI ru)), (2, .int (nI fr)), (3, .int (nI k))]) hx hb dX7_finds_32 hl (by decide) rfl (fun ls hl => ?_)
          have L34 : ∀ (fuel : Nat), ∀ (Fw : ah_F) (o : Nat) (ip2 : Int32), o < fuel → o ≤ n → md_dv P (fun w => ah_at S k w) ru o n ip2 → ah_ch F Fw [mo] → Fw mo = some (.inr (7, [.int th, .ref dA, .int (nI dr.length), .int (nI n), .ref tA, .ref lA, .ref eA, .ref nlA, .ref neA, .ref sA, .int (nI S.length), .int td, .int ip2, .int il1])) → Fw dA = some (ah_ai D 8 df) → Fw tA = some (ah_az D 40 tf) → Fw lA = some (ah_ai D 40 lf) → Fw eA = some (ah_ai D 320 ef) → Fw nlA = some (ah_ai D 40 nlf) → Fw neA = some (ah_ai D 320 nef) → Fw sA = some (ah_ai D 200 sf) → ∀ (H : Heap) (locs : List Loc), ah_K A D Fw H → va_S A s.heap H locs → ∀ (ls : Array Slot), lv_has ls 6 [(0, .ref mo), (1, .int (nI ru)), (2, .int (nI fr)), (3, .int (nI k)), (4, .int (nI o - nI 1))] → W p l e { frames := 2, cells := 0, slots := 0, locals := 49 } s m [.ref mo, .int (nI ru), .int (nI fr)].toArray below meth c H locs 0 0 Q (F0 m 34 ls []) := by
            intro fuel
            induction fuel with
            | zero =>
              intro Fw o ip2 hm
              exact absurd hm (Nat.not_lt_zero _)
            | succ fuel ih34 =>
              intro Fw o ip2 hm ho hdv hch2 hk19 hk20 hk21 hk22 hk23 hk24 hk25 hk26 H locs hP hS ls hl
              refine lv_iload hx hb dX7_finds_34 (lv_at hl 4 rfl) ?_
              by_cases ho0 : o = 0
              · skip
                rw [ho0] at hdv
                refine lv_if_lt (tgt := 112) hx hb dX7_finds_36 (by decide) (fun hc36 => ?_) (fun hc36 => ?_)
                · skip
                  refine lv_aload_n hx hb dX7_finds_112 rfl (lv_at hl 0 rfl) ?_
                  refine lv_iload_n hx hb dX7_finds_113 rfl (lv_at hl 3 rfl) ?_
                  refine pf_Mod_93 E hP hS hk19 (Nat.le_of_ble_eq_true rfl) dX7_finds_114 (fun H locs hP hS => ?_)
                  obtain ⟨F27, eF27⟩ : ∃ Fz : ah_F, Fz = ah_up Fw mo (.inr (7, [.int th, .ref dA, .int (nI dr.length), .int (nI n), .ref tA, .ref lA, .ref eA, .ref nlA, .ref neA, .ref sA, .int (nI S.length), .int td, .int ip2, .int (nI k)])) := ⟨_, rfl⟩
                  have hP : ah_K A D F27 H := by rw [eF27]; exact hP
                  have hF28 : F27 mo = some (.inr (7, [.int th, .ref dA, .int (nI dr.length), .int (nI n), .ref tA, .ref lA, .ref eA, .ref nlA, .ref neA, .ref sA, .int (nI S.length), .int td, .int ip2, .int (nI k)])) := by rw [eF27]; exact ah_up_s _ _ _
                  have hF29 : F27 dA = some (ah_ai D 8 df) := by rw [eF27]; exact ah_keep hk19 hk20 rfl
                  have hF30 : F27 tA = some (ah_az D 40 tf) := by rw [eF27]; exact ah_keep hk19 hk21 rfl
                  have hF31 : F27 lA = some (ah_ai D 40 lf) := by rw [eF27]; exact ah_keep hk19 hk22 rfl
                  have hF32 : F27 eA = some (ah_ai D 320 ef) := by rw [eF27]; exact ah_keep hk19 hk23 rfl
                  have hF33 : F27 nlA = some (ah_ai D 40 nlf) := by rw [eF27]; exact ah_keep hk19 hk24 rfl
                  have hF34 : F27 neA = some (ah_ai D 320 nef) := by rw [eF27]; exact ah_keep hk19 hk25 rfl
                  have hF35 : F27 sA = some (ah_ai D 200 sf) := by rw [eF27]; exact ah_keep hk19 hk26 rfl
                  have hC36 : ah_ch F F27 [mo] := by rw [eF27]; exact ah_ch_u hch2 (by simp)
                  refine lv_aload_n hx hb dX7_finds_117 rfl (lv_at hl 0 rfl) ?_
                  refine gf_Mod_90 E hP hF28 rfl dX7_finds_118 ?_
                  refine lv_iconst (v := (-1)) hx hb dX7_finds_121 (by decide) ?_
                  refine lv_icmp_eq (tgt := 127) hx hb dX7_finds_122 (by decide) (fun hc122 => ?_) (fun hc122 => ?_)
                  · skip
                    refine lv_iinc (v := (nI (k + 1))) (lv' := [(3, .int (nI (k + 1))), (0, .ref mo), (1, .int (nI ru)), (2, .int (nI fr)), (4, .int (nI o - nI 1))]) hx hb dX7_finds_127 hl (k := 3) rfl (ah_inc _) (by decide) rfl (fun ls hl => ?_)
                    refine lv_goto (tgt := 13) hx hb dX7_finds_130 (by decide) ?_
                    exact ih13 _ (k + 1) _ _ (by omega) (by omega) (by omega) (hnx.trans (md_np_n (by omega) (md_dv_n hn40 hPn hdv hc122))) hC36 hF28 hF29 hF30 hF31 hF32 hF33 hF34 hF35 _ _ hP hS ls (lv_sub hl [1, 2, 3, 0] rfl)
                  · skip
                    obtain ⟨j, hj1, hj2⟩ := md_dv_s hn40 hPn hdis (by omega) hdv hc122
                    have hnx2 := hnx.trans (md_np_s (by omega) hj2)
                    refine lv_iconst (v := (bI_ true)) hx hb dX7_finds_125 (by decide) ?_
                    rw [hQ]
                    exact ah_zret E hr (by first | exact bI_nz _ | decide) hP hS ⟨_, _, hF28, hC36, congrArg (fun o => bI_ (Option.isSome o)) hnx2, md_som hnx2 hj1 rfl⟩ (Nat.le_of_ble_eq_true rfl) (Nat.le_of_ble_eq_true rfl) dX7_finds_126
                · skip
                  exact absurd (by rw [ho0]; decide) hc36
              · skip
                obtain ⟨o2, hoe⟩ : ∃ o2, o = o2 + 1 := ⟨o - 1, by omega⟩
                have hov : nI o - nI 1 = nI o2 := by rw [hoe]; exact md_pr o2
                rw [hov]
                rw [hov] at hl
                rw [hoe] at hdv
                obtain ⟨hl8, hlf, htf⟩ := hln o2 (by omega)
                have hlk := fun w r h => (hlP o2 w r h).1
                refine ah_if_lt (tgt := 112) hx hb (by omega) dX7_finds_36 (by decide) ?_
                by_cases hie : ip2 = -1
                · skip
                  have hno := md_dv_l hn40 hdv hie
                  rw [hie] at hdv
                  rw [hie] at hk19
                  refine lv_aload_n hx hb dX7_finds_39 rfl (lv_at hl 0 rfl) ?_
                  refine gf_Mod_90 E hP hk19 rfl dX7_finds_40 ?_
                  refine lv_iconst (v := (-1)) hx hb dX7_finds_43 (by decide) ?_
                  refine lv_icmp_eq (tgt := 71) hx hb dX7_finds_44 (by decide) (fun hc44 => ?_) (fun hc44 => ?_)
                  · skip
                    refine lv_iconst (v := (bI_ true)) hx hb dX7_finds_71 (by decide) ?_
                    refine lv_goto (tgt := 76) hx hb dX7_finds_72 (by decide) ?_
                    refine lv_istore (lv' := [(5, .int (bI_ true)), (0, .ref mo), (1, .int (nI ru)), (2, .int (nI fr)), (3, .int (nI k)), (4, .int (nI o2))]) hx hb dX7_finds_76 hl (by decide) rfl (fun ls hl => ?_)
                    refine lv_aload_n hx hb dX7_finds_78 rfl (lv_at hl 1 rfl) ?_
                    refine lv_aload_n hx hb dX7_finds_79 rfl (lv_at hl 1 rfl) ?_
                    refine lv_iload hx hb dX7_finds_80 (lv_at hl 5 rfl) ?_
                    refine lv_iload_n hx hb dX7_finds_82 rfl (lv_at hl 4 rfl) ?_
                    refine ah_calli (ah_runV E hP hS (As := [.int (nI o2), .int (nI k)]) (rest := [.ref mo]) (b := mo) (m_stands l A D _ hk19 hk20 hk21 hk22 hk23 hk24 hk25 hk26 hL (pl := k) (i := o2) (by omega) (by omega)) lk_Mod_70 li_Mod_70 hk19 rfl ⟨rfl, rfl, (Nat.le_of_ble_eq_true rfl), (Nat.le_of_ble_eq_true rfl)⟩ rfl hl.1 rfl (Nat.le_of_ble_eq_true rfl) dX7_finds_83 ⟨(Nat.le_of_ble_eq_true rfl), (Nat.le_of_ble_eq_true rfl)⟩) hS (fun r F37 H locs hq hP hS => ?_)
                    obtain ⟨rfl, rfl⟩ := hq
                    refine ah_ifb_eq (tgt := 99) hx hb dX7_finds_86 (by decide) (fun hc86 => ?_) (fun hc86 => ?_)
                    · skip
                      refine lv_aload_n hx hb dX7_finds_99 rfl (lv_at hl 1 rfl) ?_
                      refine gf_Mod_90 E hP hk19 rfl dX7_finds_100 ?_
                      refine pf_Mod_90 E hP hS hk19 (Nat.le_of_ble_eq_true rfl) dX7_finds_103 (fun H locs hP hS => ?_)
                      obtain ⟨F38, eF38⟩ : ∃ Fz : ah_F, Fz = ah_up Fw mo (.inr (7, [.int th, .ref dA, .int (nI dr.length), .int (nI n), .ref tA, .ref lA, .ref eA, .ref nlA, .ref neA, .ref sA, .int (nI S.length), .int td, .int (-1), .int il1])) := ⟨_, rfl⟩
                      have hP : ah_K A D F38 H := by rw [eF38]; exact hP
                      have hF39 : F38 mo = some (.inr (7, [.int th, .ref dA, .int (nI dr.length), .int (nI n), .ref tA, .ref lA, .ref eA, .ref nlA, .ref neA, .ref sA, .int (nI S.length), .int td, .int (-1), .int il1])) := by rw [eF38]; exact ah_up_s _ _ _
                      have hF40 : F38 dA = some (ah_ai D 8 df) := by rw [eF38]; exact ah_keep hk19 hk20 rfl
                      have hF41 : F38 tA = some (ah_az D 40 tf) := by rw [eF38]; exact ah_keep hk19 hk21 rfl
                      have hF42 : F38 lA = some (ah_ai D 40 lf) := by rw [eF38]; exact ah_keep hk19 hk22 rfl
                      have hF43 : F38 eA = some (ah_ai D 320 ef) := by rw [eF38]; exact ah_keep hk19 hk23 rfl
                      have hF44 : F38 nlA = some (ah_ai D 40 nlf) := by rw [eF38]; exact ah_keep hk19 hk24 rfl
                      have hF45 : F38 neA = some (ah_ai D 320 nef) := by rw [eF38]; exact ah_keep hk19 hk25 rfl
                      have hF46 : F38 sA = some (ah_ai D 200 sf) := by rw [eF38]; exact ah_keep hk19 hk26 rfl
                      have hC47 : ah_ch F F38 [mo] := by rw [eF38]; exact ah_ch_u hch2 (by simp)
                      refine lv_iinc (v := (nI o2 - nI 1)) (lv' := [(4, .int (nI o2 - nI 1)), (5, .int (bI_ true)), (0, .ref mo), (1, .int (nI ru)), (2, .int (nI fr)), (3, .int (nI k))]) hx hb dX7_finds_106 hl (k := 5) rfl (md_dec o2) (by decide) rfl (fun ls hl => ?_)
                      refine lv_goto (tgt := 34) hx hb dX7_finds_109 (by decide) ?_
                      exact ih34 _ o2 _ (by omega) (by omega) (md_dv_f hdv hc86) hC47 hF39 hF40 hF41 hF42 hF43 hF44 hF45 hF46 _ _ hP hS ls (lv_sub hl [2, 3, 4, 5, 0] rfl)
                    · skip
                      refine lv_iload hx hb dX7_finds_89 (lv_at hl 0 rfl) ?_
                      refine ah_ifb_eq (tgt := 99) hx hb dX7_finds_91 (by decide) (fun hc91 => ?_) (fun hc91 => ?_)
                      · skip
                        exact absurd hc91 (by decide)
                      · skip
                        refine lv_iload hx hb dX7_finds_94 (lv_at hl 5 rfl) ?_
                        refine lv_goto (tgt := 103) hx hb dX7_finds_96 (by decide) ?_
                        refine pf_Mod_90 E hP hS hk19 (Nat.le_of_ble_eq_true rfl) dX7_finds_103 (fun H locs hP hS => ?_)
                        obtain ⟨F48, eF48⟩ : ∃ Fz : ah_F, Fz = ah_up Fw mo (.inr (7, [.int th, .ref dA, .int (nI dr.length), .int (nI n), .ref tA, .ref lA, .ref eA, .ref nlA, .ref neA, .ref sA, .int (nI S.length), .int td, .int (nI o2), .int il1])) := ⟨_, rfl⟩
                        have hP : ah_K A D F48 H := by rw [eF48]; exact hP
                        have hF49 : F48 mo = some (.inr (7, [.int th, .ref dA, .int (nI dr.length), .int (nI n), .ref tA, .ref lA, .ref eA, .ref nlA, .ref neA, .ref sA, .int (nI S.length), .int td, .int (nI o2), .int il1])) := by rw [eF48]; exact ah_up_s _ _ _
                        have hF50 : F48 dA = some (ah_ai D 8 df) := by rw [eF48]; exact ah_keep hk19 hk20 rfl
                        have hF51 : F48 tA = some (ah_az D 40 tf) := by rw [eF48]; exact ah_keep hk19 hk21 rfl
                        have hF52 : F48 lA = some (ah_ai D 40 lf) := by rw [eF48]; exact ah_keep hk19 hk22 rfl
                        have hF53 : F48 eA = some (ah_ai D 320 ef) := by rw [eF48]; exact ah_keep hk19 hk23 rfl
                        have hF54 : F48 nlA = some (ah_ai D 40 nlf) := by rw [eF48]; exact ah_keep hk19 hk24 rfl
                        have hF55 : F48 neA = some (ah_ai D 320 nef) := by rw [eF48]; exact ah_keep hk19 hk25 rfl
                        have hF56 : F48 sA = some (ah_ai D 200 sf) := by rw [eF48]; exact ah_keep hk19 hk26 rfl
                        have hC57 : ah_ch F F48 [mo] := by rw [eF48]; exact ah_ch_u hch2 (by simp)
                        refine lv_iinc (v := (nI o2 - nI 1)) (lv' := [(4, .int (nI o2 - nI 1)), (5, .int (bI_ true)), (0, .ref mo), (1, .int (nI ru)), (2, .int (nI fr)), (3, .int (nI k))]) hx hb dX7_finds_106 hl (k := 5) rfl (md_dec o2) (by decide) rfl (fun ls hl => ?_)
                        refine lv_goto (tgt := 34) hx hb dX7_finds_109 (by decide) ?_
                        exact ih34 _ o2 _ (by omega) (by omega) (md_dv_new (by omega) hc86 (fun _ i h1 h2 h3 => absurd (h3.symm.trans (hno i h1 h2)) (by decide))) hC57 hF49 hF50 hF51 hF52 hF53 hF54 hF55 hF56 _ _ hP hS ls (lv_sub hl [2, 3, 4, 5, 0] rfl)
                  · skip
                    exact absurd rfl hc44
                · skip
                  obtain ⟨j, hij, hoj, hjn, hjs, hr1, hr0⟩ := md_dv_r hdv hie
                  rw [hij] at hdv
                  rw [hij] at hk19
                  obtain ⟨hl8j, hlfj, -⟩ := hln j (by omega)
                  have hlkj := fun w r h => (hlP j w r h).1
                  refine lv_aload_n hx hb dX7_finds_39 rfl (lv_at hl 0 rfl) ?_
                  refine gf_Mod_90 E hP hk19 rfl dX7_finds_40 ?_
                  refine lv_iconst (v := (-1)) hx hb dX7_finds_43 (by decide) ?_
                  refine lv_icmp_eq (tgt := 71) hx hb dX7_finds_44 (by decide) (fun hc44 => ?_) (fun hc44 => ?_)
                  · skip
                    exact absurd hc44 (md_nm1 (by omega))
                  · skip
                    refine lv_iload_n hx hb dX7_finds_47 rfl (lv_at hl 1 rfl) ?_
                    refine lv_iconst (v := (nI 1)) hx hb dX7_finds_48 (by decide) ?_
                    refine ah_icmp_eq (tgt := 71) hx hb (by omega) (by omega) dX7_finds_49 (by decide) (fun hc49 => ?_) (fun hc49 => ?_)
                    · skip
                      refine lv_iconst (v := (bI_ true)) hx hb dX7_finds_71 (by decide) ?_
                      refine lv_goto (tgt := 76) hx hb dX7_finds_72 (by decide) ?_
                      refine lv_istore (lv' := [(5, .int (bI_ true)), (0, .ref mo), (1, .int (nI ru)), (2, .int (nI fr)), (3, .int (nI k)), (4, .int (nI o2))]) hx hb dX7_finds_76 hl (by decide) rfl (fun ls hl => ?_)
                      refine lv_aload_n hx hb dX7_finds_78 rfl (lv_at hl 1 rfl) ?_
                      refine lv_aload_n hx hb dX7_finds_79 rfl (lv_at hl 1 rfl) ?_
                      refine lv_iload hx hb dX7_finds_80 (lv_at hl 5 rfl) ?_
                      refine lv_iload_n hx hb dX7_finds_82 rfl (lv_at hl 4 rfl) ?_
                      refine ah_calli (ah_runV E hP hS (As := [.int (nI o2), .int (nI k)]) (rest := [.ref mo]) (b := mo) (m_stands l A D _ hk19 hk20 hk21 hk22 hk23 hk24 hk25 hk26 hL (pl := k) (i := o2) (by omega) (by omega)) lk_Mod_70 li_Mod_70 hk19 rfl ⟨rfl, rfl, (Nat.le_of_ble_eq_true rfl), (Nat.le_of_ble_eq_true rfl)⟩ rfl hl.1 rfl (Nat.le_of_ble_eq_true rfl) dX7_finds_83 ⟨(Nat.le_of_ble_eq_true rfl), (Nat.le_of_ble_eq_true rfl)⟩) hS (fun r F58 H locs hq hP hS => ?_)
                      obtain ⟨rfl, rfl⟩ := hq
                      refine ah_ifb_eq (tgt := 99) hx hb dX7_finds_86 (by decide) (fun hc86 => ?_) (fun hc86 => ?_)
                      · skip
                        refine lv_aload_n hx hb dX7_finds_99 rfl (lv_at hl 1 rfl) ?_
                        refine gf_Mod_90 E hP hk19 rfl dX7_finds_100 ?_
                        refine pf_Mod_90 E hP hS hk19 (Nat.le_of_ble_eq_true rfl) dX7_finds_103 (fun H locs hP hS => ?_)
                        obtain ⟨F59, eF59⟩ : ∃ Fz : ah_F, Fz = ah_up Fw mo (.inr (7, [.int th, .ref dA, .int (nI dr.length), .int (nI n), .ref tA, .ref lA, .ref eA, .ref nlA, .ref neA, .ref sA, .int (nI S.length), .int td, .int (nI j), .int il1])) := ⟨_, rfl⟩
                        have hP : ah_K A D F59 H := by rw [eF59]; exact hP
                        have hF60 : F59 mo = some (.inr (7, [.int th, .ref dA, .int (nI dr.length), .int (nI n), .ref tA, .ref lA, .ref eA, .ref nlA, .ref neA, .ref sA, .int (nI S.length), .int td, .int (nI j), .int il1])) := by rw [eF59]; exact ah_up_s _ _ _
                        have hF61 : F59 dA = some (ah_ai D 8 df) := by rw [eF59]; exact ah_keep hk19 hk20 rfl
                        have hF62 : F59 tA = some (ah_az D 40 tf) := by rw [eF59]; exact ah_keep hk19 hk21 rfl
                        have hF63 : F59 lA = some (ah_ai D 40 lf) := by rw [eF59]; exact ah_keep hk19 hk22 rfl
                        have hF64 : F59 eA = some (ah_ai D 320 ef) := by rw [eF59]; exact ah_keep hk19 hk23 rfl
                        have hF65 : F59 nlA = some (ah_ai D 40 nlf) := by rw [eF59]; exact ah_keep hk19 hk24 rfl
                        have hF66 : F59 neA = some (ah_ai D 320 nef) := by rw [eF59]; exact ah_keep hk19 hk25 rfl
                        have hF67 : F59 sA = some (ah_ai D 200 sf) := by rw [eF59]; exact ah_keep hk19 hk26 rfl
                        have hC68 : ah_ch F F59 [mo] := by rw [eF59]; exact ah_ch_u hch2 (by simp)
                        refine lv_iinc (v := (nI o2 - nI 1)) (lv' := [(4, .int (nI o2 - nI 1)), (5, .int (bI_ true)), (0, .ref mo), (1, .int (nI ru)), (2, .int (nI fr)), (3, .int (nI k))]) hx hb dX7_finds_106 hl (k := 5) rfl (md_dec o2) (by decide) rfl (fun ls hl => ?_)
                        refine lv_goto (tgt := 34) hx hb dX7_finds_109 (by decide) ?_
                        exact ih34 _ o2 _ (by omega) (by omega) (md_dv_f hdv hc86) hC68 hF60 hF61 hF62 hF63 hF64 hF65 hF66 hF67 _ _ hP hS ls (lv_sub hl [2, 3, 4, 5, 0] rfl)
                      · skip
                        refine lv_iload hx hb dX7_finds_89 (lv_at hl 0 rfl) ?_
                        refine ah_ifb_eq (tgt := 99) hx hb dX7_finds_91 (by decide) (fun hc91 => ?_) (fun hc91 => ?_)
                        · skip
                          exact absurd hc91 (by decide)
                        · skip
                          refine lv_iload hx hb dX7_finds_94 (lv_at hl 5 rfl) ?_
                          refine lv_goto (tgt := 103) hx hb dX7_finds_96 (by decide) ?_
                          refine pf_Mod_90 E hP hS hk19 (Nat.le_of_ble_eq_true rfl) dX7_finds_103 (fun H locs hP hS => ?_)
                          obtain ⟨F69, eF69⟩ : ∃ Fz : ah_F, Fz = ah_up Fw mo (.inr (7, [.int th, .ref dA, .int (nI dr.length), .int (nI n), .ref tA, .ref lA, .ref eA, .ref nlA, .ref neA, .ref sA, .int (nI S.length), .int td, .int (nI o2), .int il1])) := ⟨_, rfl⟩
                          have hP : ah_K A D F69 H := by rw [eF69]; exact hP
                          have hF70 : F69 mo = some (.inr (7, [.int th, .ref dA, .int (nI dr.length), .int (nI n), .ref tA, .ref lA, .ref eA, .ref nlA, .ref neA, .ref sA, .int (nI S.length), .int td, .int (nI o2), .int il1])) := by rw [eF69]; exact ah_up_s _ _ _
                          have hF71 : F69 dA = some (ah_ai D 8 df) := by rw [eF69]; exact ah_keep hk19 hk20 rfl
                          have hF72 : F69 tA = some (ah_az D 40 tf) := by rw [eF69]; exact ah_keep hk19 hk21 rfl
                          have hF73 : F69 lA = some (ah_ai D 40 lf) := by rw [eF69]; exact ah_keep hk19 hk22 rfl
                          have hF74 : F69 eA = some (ah_ai D 320 ef) := by rw [eF69]; exact ah_keep hk19 hk23 rfl
                          have hF75 : F69 nlA = some (ah_ai D 40 nlf) := by rw [eF69]; exact ah_keep hk19 hk24 rfl
                          have hF76 : F69 neA = some (ah_ai D 320 nef) := by rw [eF69]; exact ah_keep hk19 hk25 rfl
                          have hF77 : F69 sA = some (ah_ai D 200 sf) := by rw [eF69]; exact ah_keep hk19 hk26 rfl
                          have hC78 : ah_ch F F69 [mo] := by rw [eF69]; exact ah_ch_u hch2 (by simp)
                          refine lv_iinc (v := (nI o2 - nI 1)) (lv' := [(4, .int (nI o2 - nI 1)), (5, .int (bI_ true)), (0, .ref mo), (1, .int (nI ru)), (2, .int (nI fr)), (3, .int (nI k))]) hx hb dX7_finds_106 hl (k := 5) rfl (md_dec o2) (by decide) rfl (fun ls hl => ?_)
                          refine lv_goto (tgt := 34) hx hb dX7_finds_109 (by decide) ?_
                          exact ih34 _ o2 _ (by omega) (by omega) (md_dv_new (by omega) hc86 (fun h => absurd h (by omega))) hC78 hF70 hF71 hF72 hF73 hF74 hF75 hF76 hF77 _ _ hP hS ls (lv_sub hl [2, 3, 4, 5, 0] rfl)
                    · skip
                      refine lv_aload_n hx hb dX7_finds_52 rfl (lv_at hl 0 rfl) ?_
                      refine gf_Mod_17 E hP hk19 rfl dX7_finds_53 ?_
                      refine lv_iload hx hb dX7_finds_56 (lv_at hl 4 rfl) ?_
                      refine ah_iald E hP hk22 (by omega) (by omega) dX7_finds_58 ?_
                      rw [hlf]
                      refine lv_aload_n hx hb dX7_finds_59 rfl (lv_at hl 0 rfl) ?_
                      refine gf_Mod_17 E hP hk19 rfl dX7_finds_60 ?_
                      refine lv_aload_n hx hb dX7_finds_63 rfl (lv_at hl 0 rfl) ?_
                      refine gf_Mod_90 E hP hk19 rfl dX7_finds_64 ?_
                      refine ah_iald E hP hk22 (by omega) (by omega) dX7_finds_67 ?_
                      rw [hlfj]
                      refine ah_icmp_le (tgt := 75) hx hb (by omega) (by omega) dX7_finds_68 (by decide) (fun hc68 => ?_) (fun hc68 => ?_)
                      · skip
                        refine lv_iconst (v := (bI_ false)) hx hb dX7_finds_75 (by decide) ?_
                        refine lv_istore (lv' := [(5, .int (bI_ false)), (0, .ref mo), (1, .int (nI ru)), (2, .int (nI fr)), (3, .int (nI k)), (4, .int (nI o2))]) hx hb dX7_finds_76 hl (by decide) rfl (fun ls hl => ?_)
                        refine lv_aload_n hx hb dX7_finds_78 rfl (lv_at hl 1 rfl) ?_
                        refine lv_aload_n hx hb dX7_finds_79 rfl (lv_at hl 1 rfl) ?_
                        refine lv_iload hx hb dX7_finds_80 (lv_at hl 5 rfl) ?_
                        refine lv_iload_n hx hb dX7_finds_82 rfl (lv_at hl 4 rfl) ?_
                        refine ah_calli (ah_runV E hP hS (As := [.int (nI o2), .int (nI k)]) (rest := [.ref mo]) (b := mo) (m_stands l A D _ hk19 hk20 hk21 hk22 hk23 hk24 hk25 hk26 hL (pl := k) (i := o2) (by omega) (by omega)) lk_Mod_70 li_Mod_70 hk19 rfl ⟨rfl, rfl, (Nat.le_of_ble_eq_true rfl), (Nat.le_of_ble_eq_true rfl)⟩ rfl hl.1 rfl (Nat.le_of_ble_eq_true rfl) dX7_finds_83 ⟨(Nat.le_of_ble_eq_true rfl), (Nat.le_of_ble_eq_true rfl)⟩) hS (fun r F79 H locs hq hP hS => ?_)
                        obtain ⟨rfl, rfl⟩ := hq
                        refine ah_ifb_eq (tgt := 99) hx hb dX7_finds_86 (by decide) (fun hc86 => ?_) (fun hc86 => ?_)
                        · skip
                          refine lv_aload_n hx hb dX7_finds_99 rfl (lv_at hl 1 rfl) ?_
                          refine gf_Mod_90 E hP hk19 rfl dX7_finds_100 ?_
                          refine pf_Mod_90 E hP hS hk19 (Nat.le_of_ble_eq_true rfl) dX7_finds_103 (fun H locs hP hS => ?_)
                          obtain ⟨F80, eF80⟩ : ∃ Fz : ah_F, Fz = ah_up Fw mo (.inr (7, [.int th, .ref dA, .int (nI dr.length), .int (nI n), .ref tA, .ref lA, .ref eA, .ref nlA, .ref neA, .ref sA, .int (nI S.length), .int td, .int (nI j), .int il1])) := ⟨_, rfl⟩
                          have hP : ah_K A D F80 H := by rw [eF80]; exact hP
                          have hF81 : F80 mo = some (.inr (7, [.int th, .ref dA, .int (nI dr.length), .int (nI n), .ref tA, .ref lA, .ref eA, .ref nlA, .ref neA, .ref sA, .int (nI S.length), .int td, .int (nI j), .int il1])) := by rw [eF80]; exact ah_up_s _ _ _
                          have hF82 : F80 dA = some (ah_ai D 8 df) := by rw [eF80]; exact ah_keep hk19 hk20 rfl
                          have hF83 : F80 tA = some (ah_az D 40 tf) := by rw [eF80]; exact ah_keep hk19 hk21 rfl
                          have hF84 : F80 lA = some (ah_ai D 40 lf) := by rw [eF80]; exact ah_keep hk19 hk22 rfl
                          have hF85 : F80 eA = some (ah_ai D 320 ef) := by rw [eF80]; exact ah_keep hk19 hk23 rfl
                          have hF86 : F80 nlA = some (ah_ai D 40 nlf) := by rw [eF80]; exact ah_keep hk19 hk24 rfl
                          have hF87 : F80 neA = some (ah_ai D 320 nef) := by rw [eF80]; exact ah_keep hk19 hk25 rfl
                          have hF88 : F80 sA = some (ah_ai D 200 sf) := by rw [eF80]; exact ah_keep hk19 hk26 rfl
                          have hC89 : ah_ch F F80 [mo] := by rw [eF80]; exact ah_ch_u hch2 (by simp)
                          refine lv_iinc (v := (nI o2 - nI 1)) (lv' := [(4, .int (nI o2 - nI 1)), (5, .int (bI_ false)), (0, .ref mo), (1, .int (nI ru)), (2, .int (nI fr)), (3, .int (nI k))]) hx hb dX7_finds_106 hl (k := 5) rfl (md_dec o2) (by decide) rfl (fun ls hl => ?_)
                          refine lv_goto (tgt := 34) hx hb dX7_finds_109 (by decide) ?_
                          exact ih34 _ o2 _ (by omega) (by omega) (md_dv_f hdv hc86) hC89 hF81 hF82 hF83 hF84 hF85 hF86 hF87 hF88 _ _ hP hS ls (lv_sub hl [2, 3, 4, 5, 0] rfl)
                        · skip
                          refine lv_iload hx hb dX7_finds_89 (lv_at hl 0 rfl) ?_
                          refine ah_ifb_eq (tgt := 99) hx hb dX7_finds_91 (by decide) (fun hc91 => ?_) (fun hc91 => ?_)
                          · skip
                            refine lv_aload_n hx hb dX7_finds_99 rfl (lv_at hl 1 rfl) ?_
                            refine gf_Mod_90 E hP hk19 rfl dX7_finds_100 ?_
                            refine pf_Mod_90 E hP hS hk19 (Nat.le_of_ble_eq_true rfl) dX7_finds_103 (fun H locs hP hS => ?_)
                            obtain ⟨F90, eF90⟩ : ∃ Fz : ah_F, Fz = ah_up Fw mo (.inr (7, [.int th, .ref dA, .int (nI dr.length), .int (nI n), .ref tA, .ref lA, .ref eA, .ref nlA, .ref neA, .ref sA, .int (nI S.length), .int td, .int (nI j), .int il1])) := ⟨_, rfl⟩
                            have hP : ah_K A D F90 H := by rw [eF90]; exact hP
                            have hF91 : F90 mo = some (.inr (7, [.int th, .ref dA, .int (nI dr.length), .int (nI n), .ref tA, .ref lA, .ref eA, .ref nlA, .ref neA, .ref sA, .int (nI S.length), .int td, .int (nI j), .int il1])) := by rw [eF90]; exact ah_up_s _ _ _
                            have hF92 : F90 dA = some (ah_ai D 8 df) := by rw [eF90]; exact ah_keep hk19 hk20 rfl
                            have hF93 : F90 tA = some (ah_az D 40 tf) := by rw [eF90]; exact ah_keep hk19 hk21 rfl
                            have hF94 : F90 lA = some (ah_ai D 40 lf) := by rw [eF90]; exact ah_keep hk19 hk22 rfl
                            have hF95 : F90 eA = some (ah_ai D 320 ef) := by rw [eF90]; exact ah_keep hk19 hk23 rfl
                            have hF96 : F90 nlA = some (ah_ai D 40 nlf) := by rw [eF90]; exact ah_keep hk19 hk24 rfl
                            have hF97 : F90 neA = some (ah_ai D 320 nef) := by rw [eF90]; exact ah_keep hk19 hk25 rfl
                            have hF98 : F90 sA = some (ah_ai D 200 sf) := by rw [eF90]; exact ah_keep hk19 hk26 rfl
                            have hC99 : ah_ch F F90 [mo] := by rw [eF90]; exact ah_ch_u hch2 (by simp)
                            refine lv_iinc (v := (nI o2 - nI 1)) (lv' := [(4, .int (nI o2 - nI 1)), (5, .int (bI_ false)), (0, .ref mo), (1, .int (nI ru)), (2, .int (nI fr)), (3, .int (nI k))]) hx hb dX7_finds_106 hl (k := 5) rfl (md_dec o2) (by decide) rfl (fun ls hl => ?_)
                            refine lv_goto (tgt := 34) hx hb dX7_finds_109 (by decide) ?_
                            exact ih34 _ o2 _ (by omega) (by omega) (md_dv_kp hoj hjn hjs (by omega) hr0 (by rw [md_sat_w hlkj hjs, md_sat_w hlk hc86]; omega)) hC99 hF91 hF92 hF93 hF94 hF95 hF96 hF97 hF98 _ _ hP hS ls (lv_sub hl [2, 3, 4, 5, 0] rfl)
                          · skip
                            exact absurd hc91 (by decide)
                      · skip
                        refine lv_iconst (v := (bI_ true)) hx hb dX7_finds_71 (by decide) ?_
                        refine lv_goto (tgt := 76) hx hb dX7_finds_72 (by decide) ?_
                        refine lv_istore (lv' := [(5, .int (bI_ true)), (0, .ref mo), (1, .int (nI ru)), (2, .int (nI fr)), (3, .int (nI k)), (4, .int (nI o2))]) hx hb dX7_finds_76 hl (by decide) rfl (fun ls hl => ?_)
                        refine lv_aload_n hx hb dX7_finds_78 rfl (lv_at hl 1 rfl) ?_
                        refine lv_aload_n hx hb dX7_finds_79 rfl (lv_at hl 1 rfl) ?_
                        refine lv_iload hx hb dX7_finds_80 (lv_at hl 5 rfl) ?_
                        refine lv_iload_n hx hb dX7_finds_82 rfl (lv_at hl 4 rfl) ?_
                        refine ah_calli (ah_runV E hP hS (As := [.int (nI o2), .int (nI k)]) (rest := [.ref mo]) (b := mo) (m_stands l A D _ hk19 hk20 hk21 hk22 hk23 hk24 hk25 hk26 hL (pl := k) (i := o2) (by omega) (by omega)) lk_Mod_70 li_Mod_70 hk19 rfl ⟨rfl, rfl, (Nat.le_of_ble_eq_true rfl), (Nat.le_of_ble_eq_true rfl)⟩ rfl hl.1 rfl (Nat.le_of_ble_eq_true rfl) dX7_finds_83 ⟨(Nat.le_of_ble_eq_true rfl), (Nat.le_of_ble_eq_true rfl)⟩) hS (fun r F100 H locs hq hP hS => ?_)
                        obtain ⟨rfl, rfl⟩ := hq
                        refine ah_ifb_eq (tgt := 99) hx hb dX7_finds_86 (by decide) (fun hc86 => ?_) (fun hc86 => ?_)
                        · skip
                          refine lv_aload_n hx hb dX7_finds_99 rfl (lv_at hl 1 rfl) ?_
                          refine gf_Mod_90 E hP hk19 rfl dX7_finds_100 ?_
                          refine pf_Mod_90 E hP hS hk19 (Nat.le_of_ble_eq_true rfl) dX7_finds_103 (fun H locs hP hS => ?_)
                          obtain ⟨F101, eF101⟩ : ∃ Fz : ah_F, Fz = ah_up Fw mo (.inr (7, [.int th, .ref dA, .int (nI dr.length), .int (nI n), .ref tA, .ref lA, .ref eA, .ref nlA, .ref neA, .ref sA, .int (nI S.length), .int td, .int (nI j), .int il1])) := ⟨_, rfl⟩
                          have hP : ah_K A D F101 H := by rw [eF101]; exact hP
                          have hF102 : F101 mo = some (.inr (7, [.int th, .ref dA, .int (nI dr.length), .int (nI n), .ref tA, .ref lA, .ref eA, .ref nlA, .ref neA, .ref sA, .int (nI S.length), .int td, .int (nI j), .int il1])) := by rw [eF101]; exact ah_up_s _ _ _
                          have hF103 : F101 dA = some (ah_ai D 8 df) := by rw [eF101]; exact ah_keep hk19 hk20 rfl
                          have hF104 : F101 tA = some (ah_az D 40 tf) := by rw [eF101]; exact ah_keep hk19 hk21 rfl
                          have hF105 : F101 lA = some (ah_ai D 40 lf) := by rw [eF101]; exact ah_keep hk19 hk22 rfl
                          have hF106 : F101 eA = some (ah_ai D 320 ef) := by rw [eF101]; exact ah_keep hk19 hk23 rfl
                          have hF107 : F101 nlA = some (ah_ai D 40 nlf) := by rw [eF101]; exact ah_keep hk19 hk24 rfl
                          have hF108 : F101 neA = some (ah_ai D 320 nef) := by rw [eF101]; exact ah_keep hk19 hk25 rfl
                          have hF109 : F101 sA = some (ah_ai D 200 sf) := by rw [eF101]; exact ah_keep hk19 hk26 rfl
                          have hC110 : ah_ch F F101 [mo] := by rw [eF101]; exact ah_ch_u hch2 (by simp)
                          refine lv_iinc (v := (nI o2 - nI 1)) (lv' := [(4, .int (nI o2 - nI 1)), (5, .int (bI_ true)), (0, .ref mo), (1, .int (nI ru)), (2, .int (nI fr)), (3, .int (nI k))]) hx hb dX7_finds_106 hl (k := 5) rfl (md_dec o2) (by decide) rfl (fun ls hl => ?_)
                          refine lv_goto (tgt := 34) hx hb dX7_finds_109 (by decide) ?_
                          exact ih34 _ o2 _ (by omega) (by omega) (md_dv_f hdv hc86) hC110 hF102 hF103 hF104 hF105 hF106 hF107 hF108 hF109 _ _ hP hS ls (lv_sub hl [2, 3, 4, 5, 0] rfl)
                        · skip
                          refine lv_iload hx hb dX7_finds_89 (lv_at hl 0 rfl) ?_
                          refine ah_ifb_eq (tgt := 99) hx hb dX7_finds_91 (by decide) (fun hc91 => ?_) (fun hc91 => ?_)
                          · skip
                            exact absurd hc91 (by decide)
                          · skip
                            refine lv_iload hx hb dX7_finds_94 (lv_at hl 5 rfl) ?_
                            refine lv_goto (tgt := 103) hx hb dX7_finds_96 (by decide) ?_
                            refine pf_Mod_90 E hP hS hk19 (Nat.le_of_ble_eq_true rfl) dX7_finds_103 (fun H locs hP hS => ?_)
                            obtain ⟨F111, eF111⟩ : ∃ Fz : ah_F, Fz = ah_up Fw mo (.inr (7, [.int th, .ref dA, .int (nI dr.length), .int (nI n), .ref tA, .ref lA, .ref eA, .ref nlA, .ref neA, .ref sA, .int (nI S.length), .int td, .int (nI o2), .int il1])) := ⟨_, rfl⟩
                            have hP : ah_K A D F111 H := by rw [eF111]; exact hP
                            have hF112 : F111 mo = some (.inr (7, [.int th, .ref dA, .int (nI dr.length), .int (nI n), .ref tA, .ref lA, .ref eA, .ref nlA, .ref neA, .ref sA, .int (nI S.length), .int td, .int (nI o2), .int il1])) := by rw [eF111]; exact ah_up_s _ _ _
                            have hF113 : F111 dA = some (ah_ai D 8 df) := by rw [eF111]; exact ah_keep hk19 hk20 rfl
                            have hF114 : F111 tA = some (ah_az D 40 tf) := by rw [eF111]; exact ah_keep hk19 hk21 rfl
                            have hF115 : F111 lA = some (ah_ai D 40 lf) := by rw [eF111]; exact ah_keep hk19 hk22 rfl
                            have hF116 : F111 eA = some (ah_ai D 320 ef) := by rw [eF111]; exact ah_keep hk19 hk23 rfl
                            have hF117 : F111 nlA = some (ah_ai D 40 nlf) := by rw [eF111]; exact ah_keep hk19 hk24 rfl
                            have hF118 : F111 neA = some (ah_ai D 320 nef) := by rw [eF111]; exact ah_keep hk19 hk25 rfl
                            have hF119 : F111 sA = some (ah_ai D 200 sf) := by rw [eF111]; exact ah_keep hk19 hk26 rfl
                            have hC120 : ah_ch F F111 [mo] := by rw [eF111]; exact ah_ch_u hch2 (by simp)
                            refine lv_iinc (v := (nI o2 - nI 1)) (lv' := [(4, .int (nI o2 - nI 1)), (5, .int (bI_ true)), (0, .ref mo), (1, .int (nI ru)), (2, .int (nI fr)), (3, .int (nI k))]) hx hb dX7_finds_106 hl (k := 5) rfl (md_dec o2) (by decide) rfl (fun ls hl => ?_)
                            refine lv_goto (tgt := 34) hx hb dX7_finds_109 (by decide) ?_
                            exact ih34 _ o2 _ (by omega) (by omega) (md_dv_new (by omega) hc86 (fun h i h1 h2 h3 => Nat.le_trans (hr0 h i h1 h2 h3) (by rw [md_sat_w hlkj hjs, md_sat_w hlk hc86]; omega))) hC120 hF112 hF113 hF114 hF115 hF116 hF117 hF118 hF119 _ _ hP hS ls (lv_sub hl [2, 3, 4, 5, 0] rfl)
          exact L34 (n + 1) _ n _ (by omega) (Nat.le_refl _) md_dv_0 hC18 hF10 hF11 hF12 hF13 hF14 hF15 hF16 hF17 _ _ hP hS ls (lv_sub hl [1, 2, 3, 4, 0] rfl)
    exact L13 (S.length + 1) _ fr _ _ (by omega) (Nat.le_refl _) hfr hnx0 hch0 hmo hdA htA hlA heA hnlA hneA hsA _ _ hP hS ls (lv_sub hl [1, 2, 3, 0] rfl)
  · skip
    have hnx0 : md_nx P S ru fr = md_ne P S fr fr (S.length - fr) := by rw [md_nx, if_pos (by omega)]
    refine lv_aload_n hx hb dX7_finds_5 rfl (lv_at hl 0 rfl) ?_
    refine lv_iload_n hx hb dX7_finds_6 rfl (lv_at hl 2 rfl) ?_
    refine ah_calli (ah_runV E hP hS (As := [.int (nI fr)]) (rest := []) (b := mo) (m_findsByEnd l A D _ hmo hdA htA hlA heA hnlA hneA hsA hL hfr) lk_Mod_96 li_Mod_96 hmo rfl ⟨rfl, rfl, (Nat.le_of_ble_eq_true rfl), (Nat.le_of_ble_eq_true rfl)⟩ rfl hl.1 rfl (Nat.le_of_ble_eq_true rfl) dX7_finds_7 ⟨(Nat.le_of_ble_eq_true rfl), (Nat.le_of_ble_eq_true rfl)⟩) hS (fun r F121 H locs hfd2 hP hS => ?_)
    obtain ⟨ip2, il2, hm2, hcg2, hro2, hjo2⟩ := hfd2
    subst hro2
    have hG122 : F121 dA = some (ah_ai D 8 df) := (hcg2 dA (ah_nin1 (ah_ne hdA hmo rfl))).trans hdA
    have hG123 : F121 tA = some (ah_az D 40 tf) := (hcg2 tA (ah_nin1 (ah_ne htA hmo rfl))).trans htA
    have hG124 : F121 lA = some (ah_ai D 40 lf) := (hcg2 lA (ah_nin1 (ah_ne hlA hmo rfl))).trans hlA
    have hG125 : F121 eA = some (ah_ai D 320 ef) := (hcg2 eA (ah_nin1 (ah_ne heA hmo rfl))).trans heA
    have hG126 : F121 nlA = some (ah_ai D 40 nlf) := (hcg2 nlA (ah_nin1 (ah_ne hnlA hmo rfl))).trans hnlA
    have hG127 : F121 neA = some (ah_ai D 320 nef) := (hcg2 neA (ah_nin1 (ah_ne hneA hmo rfl))).trans hneA
    have hG128 : F121 sA = some (ah_ai D 200 sf) := (hcg2 sA (ah_nin1 (ah_ne hsA hmo rfl))).trans hsA
    have hC129 : ah_ch F F121 [mo] := ah_ch_t hch0 hcg2 (by intro a ha; simp only [List.mem_cons, List.not_mem_nil, or_false] at ha ⊢; omega)
    rw [hQ]
    exact ah_zret E hr (by first | exact bI_nz _ | decide) hP hS ⟨_, _, hm2, hC129, by rw [hnx0], by rw [hnx0]; exact hjo2⟩ (Nat.le_of_ble_eq_true rfl) (Nat.le_of_ble_eq_true rfl) dX7_finds_10
