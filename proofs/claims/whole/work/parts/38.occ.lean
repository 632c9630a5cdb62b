def md_sm (f : Nat → Nat) : Nat → Nat
  | 0 => 0
  | k + 1 => md_sm f k + f k
theorem md_sm_congr {f g : Nat → Nat} : ∀ {n : Nat}, (∀ i, i < n → f i = g i) → md_sm f n = md_sm g n
  | 0, _ => rfl
  | n + 1, h => by rw [md_sm, md_sm, md_sm_congr (fun i hi => h i (by omega)), h n (by omega)]
theorem md_sm_add {f g : Nat → Nat} : ∀ n, md_sm (fun i => f i + g i) n = md_sm f n + md_sm g n
  | 0 => rfl
  | n + 1 => by simp only [md_sm, md_sm_add n]; omega
theorem md_sm_cn {p : Nat → Bool} : ∀ n, md_sm (fun i => if p i then 1 else 0) n = pu_cn p n
  | 0 => rfl
  | n + 1 => by rw [md_sm, pu_cn, md_sm_cn n]
theorem md_sm_0 : ∀ n, md_sm (fun _ => 0) n = 0
  | 0 => rfl
  | n + 1 => by rw [md_sm, md_sm_0 n]
theorem md_oc {P : ah_Pt} {S : List Nat} {n : Nat} (hn : n ≤ 40) (hP : ∀ i, n ≤ i → P i = none) : ∀ N, md_sm (fun i => pu_cn (fun e => ah_sat P (fun w => ah_en S (e + 1) w) i) N) n = ah_oc P S N
  | 0 => md_sm_0 n
  | N + 1 => by
    rw [ah_oc, ← md_oc hn hP N, pu_cn_off hn (p := ah_sat P (fun w => ah_en S (N + 1) w)) (fun i hi => md_sat_n (by rw [hP i hi]; rfl)), ← md_sm_cn, ← md_sm_add]
    rfl
theorem md_shift1 {S w : List Nat} (hw : 0 < w.length) : ∀ N, pu_cn (fun e => ah_en S (e + 1) w) (N + (w.length - 1)) = pu_cn (fun j => ah_at S j w) N
  | 0 => by
    have : ∀ M, M ≤ w.length - 1 → pu_cn (fun e => ah_en S (e + 1) w) M = 0 := by
      intro M
      induction M with
      | zero => intro _; rfl
      | succ M ih => intro hM; rw [pu_cn_f (by rw [ah_en, decide_eq_false (by omega), Bool.false_and]), ih (by omega)]
    rw [Nat.zero_add]; exact this _ (Nat.le_refl _)
  | N + 1 => by
    have e : ah_en S (N + (w.length - 1) + 1) w = ah_at S N w := by rw [ah_en, decide_eq_true (by omega), Bool.true_and, show N + (w.length - 1) + 1 - w.length = N by omega]
    rw [show N + 1 + (w.length - 1) = N + (w.length - 1) + 1 by omega, pu_cn, pu_cn, md_shift1 hw N, e]
theorem md_shift {S w : List Nat} (hw : w ≠ []) : pu_cn (fun j => ah_at S j w) S.length = pu_cn (fun e => ah_en S (e + 1) w) S.length := by
  have hp := List.length_pos_iff.mpr hw
  rcases Nat.lt_or_ge S.length (w.length - 1) with h | h
  · rw [pu_cn_off (Nat.zero_le _) (p := fun j => ah_at S j w) (fun i _ => ah_at_no hw (by omega))]
    have hz := pu_cn_congr (p := fun e => ah_en S (e + 1) w) (q := fun _ => false) (n := S.length) (fun i hi => by show ah_en S (i + 1) w = false; rw [ah_en, decide_eq_false (by omega), Bool.false_and])
    rw [hz, pu_cn_off (Nat.zero_le _) (p := fun _ => false) (fun _ _ => rfl)]
    rfl
  · rw [show S.length = (S.length - (w.length - 1)) + (w.length - 1) by omega, md_shift1 hp, ← show S.length = (S.length - (w.length - 1)) + (w.length - 1) by omega]
    exact pu_cn_off (by omega) (fun i hi => ah_at_no hw (by omega))
theorem md_occ {P : ah_Pt} {S : List Nat} {n : Nat} (hPok : ah_Pok P) (hn : n ≤ 40) (hP : ∀ i, n ≤ i → P i = none) : md_sm (fun i => pu_cn (fun j => ah_sat P (fun u => ah_at S j u) i) S.length) n = ah_oc P S S.length := by
  rw [← md_oc hn hP]
  apply md_sm_congr
  intro i hi
  cases hp : P i with
  | none => rw [pu_cn_congr (q := fun e => ah_sat P (fun w => ah_en S (e + 1) w) i) (fun j hj => by rw [md_sat_n (by rw [hp]; rfl), md_sat_n (by rw [hp]; rfl)])]
  | some q =>
    obtain ⟨w, r⟩ := q
    rw [pu_cn_congr (fun j hj => md_sat_s hp), md_shift (hPok _ _ _ hp).2.2]
    exact pu_cn_congr (fun j hj => (md_sat_s hp).symm)
set_option maxHeartbeats 4000000 in
set_option maxRecDepth 100000 in
/-- occurrences -/
theorem m_occurrences (l : Launch) (A : Nat → Prop) (D : ah_G) (F : ah_F) {mo n : Nat} {P : ah_Pt} {dr S : List Nat} {td th : Int32} (hC : md_C D F mo P n dr S td th)  : Met l yX7_occurrences (Cond.code yX7_occurrences cX7_occurrences 3 (some .int) :: ah_T) { frames := 2, cells := 0, slots := 0, locals := 47 } (va_Pc [.ref mo] (ah_B A D F)) (ah_Qi A D (fun (r : Int32) F1 => md_An D F1 mo (0, nI (ah_oc P S S.length), (P, n, dr, S, td)) r)) 0 0 A := by
  refine ah_met (own := "AhoarchModel") (by decide) rfl (Nat.le_of_ble_eq_true rfl) ?_
  intro p e s m below meth c ls E hr hini hl hP hS Q hQ
  have hx := E.1
  have hb := E.2.1
  have hl : lv_has ls 3 [(0, .ref mo)] := hl
  obtain ⟨dA, tA, lA, eA, nlA, neA, sA, ip, il, ln, df, tf, lf, ef, nlf, nef, sf, hmo, hdA, htA, hlA, heA, hnlA, hneA, hsA, hne1, hne2, hne3, hne4, hL⟩ := id hC
  obtain ⟨hn40, hPn, hdok, hSl, hS200, hPok, hdis, hp20, hln, hlP, hdd, hss⟩ := id hL
  have hdl := hdok.1
  refine lv_aload_n hx hb dX7_occurrences_0 rfl (lv_at hl 0 rfl) ?_
  refine lv_iconst (v := (nI 0)) hx hb dX7_occurrences_1 (by decide) ?_
  refine pf_Mod_32 E hP hS hmo (Nat.le_of_ble_eq_true rfl) dX7_occurrences_2 (fun H locs hP hS => ?_)
  obtain ⟨F1, eF1⟩ : ∃ Fz : ah_F, Fz = ah_up F mo (.inr (7, [.int (nI 0), .ref dA, .int (nI dr.length), .int (nI n), .ref tA, .ref lA, .ref eA, .ref nlA, .ref neA, .ref sA, .int (nI S.length), .int td, .int ip, .int il])) := ⟨_, rfl⟩
  have hP : ah_K A D F1 H := by rw [eF1]; exact hP
  have hF2 : F1 mo = some (.inr (7, [.int (nI 0), .ref dA, .int (nI dr.length), .int (nI n), .ref tA, .ref lA, .ref eA, .ref nlA, .ref neA, .ref sA, .int (nI S.length), .int td, .int ip, .int il])) := by rw [eF1]; exact ah_up_s _ _ _
  have hF3 : F1 dA = some (ah_ai D 8 df) := by rw [eF1]; exact ah_keep hmo hdA rfl
  have hF4 : F1 tA = some (ah_az D 40 tf) := by rw [eF1]; exact ah_keep hmo htA rfl
  have hF5 : F1 lA = some (ah_ai D 40 lf) := by rw [eF1]; exact ah_keep hmo hlA rfl
  have hF6 : F1 eA = some (ah_ai D 320 ef) := by rw [eF1]; exact ah_keep hmo heA rfl
  have hF7 : F1 nlA = some (ah_ai D 40 nlf) := by rw [eF1]; exact ah_keep hmo hnlA rfl
  have hF8 : F1 neA = some (ah_ai D 320 nef) := by rw [eF1]; exact ah_keep hmo hneA rfl
  have hF9 : F1 sA = some (ah_ai D 200 sf) := by rw [eF1]; exact ah_keep hmo hsA rfl
  refine lv_iconst (v := (nI 0)) hx hb dX7_occurrences_5 (by decide) ?_
  refine lv_istore_n (lv' := [(1, .int (nI 0)), (0, .ref mo)]) hx hb dX7_occurrences_6 rfl hl (by decide) rfl (fun ls hl => ?_)
  refine lv_iconst (v := (nI 0)) hx hb dX7_occurrences_7 (by decide) ?_
  refine lv_istore_n (lv' := [(2, .int (nI 0)), (1, .int (nI 0)), (0, .ref mo)]) hx hb dX7_occurrences_8 rfl hl (by decide) rfl (fun ls hl => ?_)
  have L9 : ∀ (fuel : Nat), ∀ (k a : Nat), n - k < fuel → k ≤ n → a = md_sm (fun i => pu_cn (fun j => ah_sat P (fun u => ah_at S j u) i) S.length) k → a ≤ 200 * k → ∀ (H : Heap) (locs : List Loc), ah_K A D F1 H → va_S A s.heap H locs → ∀ (ls : Array Slot), lv_has ls 3 [(0, .ref mo), (1, .int (nI a)), (2, .int (nI k))] → W p l e { frames := 2, cells := 0, slots := 0, locals := 47 } s m [.ref mo].toArray below meth c H locs 0 0 Q (F0 m 9 ls []) := by
    intro fuel
    induction fuel with
    | zero =>
      intro k a hm
      exact absurd hm (Nat.not_lt_zero _)
    | succ fuel ih9 =>
      intro k a hm hk ha ha2 H locs hP hS ls hl
      refine lv_iload_n hx hb dX7_occurrences_9 rfl (lv_at hl 2 rfl) ?_
      refine lv_aload_n hx hb dX7_occurrences_10 rfl (lv_at hl 0 rfl) ?_
      refine gf_Mod_36 E hP hF2 rfl dX7_occurrences_11 ?_
      refine ah_icmp_ge (tgt := 31) hx hb (by omega) (by omega) dX7_occurrences_14 (by decide) (fun hc14 => ?_) (fun hc14 => ?_)
      · skip
        refine lv_iload_n hx hb dX7_occurrences_31 rfl (lv_at hl 1 rfl) ?_
        rw [hQ]
        exact ah_iret E hr hP hS (md_An_i (k := 0) (v := _) (rfl) ⟨dA, tA, lA, eA, nlA, neA, sA, _, _, ln, _, _, _, _, _, _, _, hF2, hF3, hF4, hF5, hF6, hF7, hF8, hF9, hne1, hne2, hne3, hne4, hL⟩ (fun _ => by rw [ha, show k = n by omega, md_occ hPok hn40 hPn])) (Nat.le_of_ble_eq_true rfl) (Nat.le_of_ble_eq_true rfl) dX7_occurrences_32
      · skip
        refine lv_iload_n hx hb dX7_occurrences_17 rfl (lv_at hl 1 rfl) ?_
        refine lv_aload_n hx hb dX7_occurrences_18 rfl (lv_at hl 0 rfl) ?_
        refine lv_iload_n hx hb dX7_occurrences_19 rfl (lv_at hl 2 rfl) ?_
        refine ah_calli (ah_runV E hP hS (As := [.int (nI k)]) (rest := [.int (nI a)]) (b := mo) (m_countOf l A D _ hF2 hF3 hF4 hF5 hF6 hF7 hF8 hF9 hL (i := k) (by omega)) lk_Mod_87 li_Mod_87 hF2 rfl ⟨rfl, rfl, (Nat.le_of_ble_eq_true rfl), (Nat.le_of_ble_eq_true rfl)⟩ rfl hl.1 rfl (Nat.le_of_ble_eq_true rfl) dX7_occurrences_20 ⟨(Nat.le_of_ble_eq_true rfl), (Nat.le_of_ble_eq_true rfl)⟩) hS (fun r F10 H locs hq hP hS => ?_)
        obtain ⟨rfl, rfl⟩ := hq
        have hcn := pu_cn_le (fun j => ah_sat P (fun u => ah_at S j u) k) S.length
        refine ah_iadd hx hb dX7_occurrences_23 ?_
        refine lv_istore_n (lv' := [(1, .int (nI (a + (pu_cn (fun j => ah_sat P (fun u => ah_at S j u) k) S.length)))), (0, .ref mo), (2, .int (nI k))]) hx hb dX7_occurrences_24 rfl hl (by decide) rfl (fun ls hl => ?_)
        refine lv_iinc (v := (nI (k + 1))) (lv' := [(2, .int (nI (k + 1))), (1, .int (nI (a + (pu_cn (fun j => ah_sat P (fun u => ah_at S j u) k) S.length)))), (0, .ref mo)]) hx hb dX7_occurrences_25 hl (k := 2) rfl (ah_inc _) (by decide) rfl (fun ls hl => ?_)
        refine lv_goto (tgt := 9) hx hb dX7_occurrences_28 (by decide) ?_
        exact ih9 (k + 1) _ (by omega) (by omega) (by rw [md_sm, ← ha]) (by omega) _ _ hP hS ls (lv_sub hl [2, 1, 0] rfl)
  exact L9 (n + 1) 0 0 (by omega) (Nat.zero_le _) rfl (by omega) _ _ hP hS ls (lv_sub hl [2, 1, 0] rfl)
