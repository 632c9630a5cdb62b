theorem md_bw_pre {w u : List Nat} {c s : Nat} (hs : s ≤ w.length) (hc : c ≤ s) (h : ah_bw (w.take s) u = true) : ah_bw (w.take c) u = true := by
  have h1 : u.take (w.take s).length = w.take s := of_decide_eq_true h
  rw [List.length_take, Nat.min_eq_left hs] at h1
  apply decide_eq_true
  rw [List.length_take, Nat.min_eq_left (by omega), show u.take c = (u.take s).take c by rw [List.take_take, Nat.min_eq_left hc], h1, List.take_take, Nat.min_eq_left hc]
theorem md_sh_at {u w : List Nat} : ∀ n, 0 < ah_sh u w n → ah_bw (w.take (ah_sh u w n)) u = true ∧ ah_sh u w n ≤ n
  | 0, h => absurd h (Nat.lt_irrefl 0)
  | n + 1, h => by
    by_cases q : ah_bw (w.take (n + 1)) u = true
    · rw [ah_sh, if_pos q]; exact ⟨q, Nat.le_refl _⟩
    · rw [ah_sh, if_neg q] at h ⊢
      have := md_sh_at n h
      exact ⟨this.1, by omega⟩
theorem md_sh_ge {u w : List Nat} {c : Nat} (h : ah_bw (w.take c) u = true) : ∀ n, c ≤ n → c ≤ ah_sh u w n
  | 0, hc => by omega
  | n + 1, hc => by
    by_cases q : ah_bw (w.take (n + 1)) u = true
    · rw [ah_sh, if_pos q]; exact hc
    · rw [ah_sh, if_neg q]
      by_cases e : c = n + 1
      · rw [e] at h; exact absurd h q
      · exact md_sh_ge h n (by omega)
theorem md_sh_iff {u w : List Nat} {c : Nat} (h1 : 1 ≤ c) (h2 : c ≤ w.length) : c ≤ ah_sh u w (min u.length w.length) ↔ ah_bw (w.take c) u = true := by
  constructor
  · intro h
    obtain ⟨h3, h4⟩ := md_sh_at (u := u) (w := w) (min u.length w.length) (by omega)
    exact md_bw_pre (by omega) h h3
  · intro h
    have h3 : c ≤ u.length := by
      rcases Nat.lt_or_ge u.length c with q | q
      · rw [ah_bw_no (by rw [List.length_take]; omega)] at h; cases h
      · exact q
    exact md_sh_ge h _ (by omega)
theorem md_ls_iff {P : ah_Pt} {k c : Nat} {w : List Nat} (h1 : 1 ≤ c) (h2 : c ≤ w.length) : ∀ j, c ≤ ah_ls P k w j ↔ ∃ o, o < j ∧ o < k ∧ ah_sat P (fun u => ah_bw (w.take c) u) o = true
  | 0 => by
    constructor
    · intro h; rw [ah_ls] at h; omega
    · rintro ⟨o, h, -⟩; omega
  | j + 1 => by
    have ih := md_ls_iff (P := P) (k := k) (w := w) h1 h2 j
    have up : (∃ o, o < j ∧ o < k ∧ ah_sat P (fun u => ah_bw (w.take c) u) o = true) → ∃ o, o < j + 1 ∧ o < k ∧ ah_sat P (fun u => ah_bw (w.take c) u) o = true := fun ⟨o, a, b, d⟩ => ⟨o, by omega, b, d⟩
    have dn : ¬ (j < k ∧ ah_sat P (fun u => ah_bw (w.take c) u) j = true) → (∃ o, o < j + 1 ∧ o < k ∧ ah_sat P (fun u => ah_bw (w.take c) u) o = true) → ∃ o, o < j ∧ o < k ∧ ah_sat P (fun u => ah_bw (w.take c) u) o = true := fun hn ⟨o, a, b, d⟩ => ⟨o, by
      by_cases e : o = j
      · subst e; exact absurd ⟨b, d⟩ hn
      · omega, b, d⟩
    cases hp : P j with
    | none => rw [ah_ls_n hp, ih]; exact ⟨up, dn (fun q => by rw [md_sat_n (by rw [hp]; rfl)] at q; exact absurd q.2 (by decide))⟩
    | some q =>
      obtain ⟨u, r⟩ := q
      by_cases hj : j < k
      · rw [ah_ls_t hp hj]
        by_cases hb : ah_bw (w.take c) u = true
        · have := (md_sh_iff h1 h2).mpr hb
          exact ⟨fun _ => ⟨j, by omega, hj, by rw [md_sat_s hp]; exact hb⟩, fun _ => by omega⟩
        · have hn : ¬ c ≤ ah_sh u w (min u.length w.length) := fun q => hb ((md_sh_iff h1 h2).mp q)
          rw [show c ≤ max (ah_ls P k w j) (ah_sh u w (min u.length w.length)) ↔ c ≤ ah_ls P k w j from ⟨fun q => by omega, fun q => by omega⟩, ih]
          exact ⟨up, dn (fun q => by rw [md_sat_s hp] at q; exact hb q.2)⟩
      · rw [ah_ls_f hp (by omega), ih]
        exact ⟨up, dn (fun q => hj q.1)⟩
theorem md_ls_any {P : ah_Pt} {k c : Nat} {w : List Nat} (hk : k ≤ 40) (h1 : 1 ≤ c) (h2 : c ≤ w.length) : ah_any (ah_sat P (fun u => ah_bw (w.take c) u)) k = decide (c ≤ ah_ls P k w 40) := by
  have h := md_ls_iff (P := P) (k := k) h1 h2 40
  cases e : ah_any (ah_sat P (fun u => ah_bw (w.take c) u)) k with
  | true =>
    obtain ⟨o, h3, h4⟩ := ah_any_iff.mp e
    exact (decide_eq_true (h.mpr ⟨o, by omega, h3, h4⟩)).symm
  | false => exact (decide_eq_false (fun q => by
      obtain ⟨o, -, h3, h4⟩ := h.mp q
      rw [ah_any_iff.mpr ⟨o, h3, h4⟩] at e; cases e)).symm
theorem md_cb_e {P : ah_Pt} {k a c ln : Nat} (hl : ∀ w r, P k = some (w, r) → ln = w.length) (hn : (P k).isSome = false → c = 1) (hc : (P k).isSome = true → c = ln + 1) (ha : a = pu_cb P k + (c - 1 - ah_ls P k (ah_w P k) 40)) : a = pu_cb P (k + 1) := by
  cases hp : P k with
  | none =>
    have := hn (by rw [hp]; rfl)
    subst this
    rw [pu_cb_n hp, ha]; omega
  | some q =>
    obtain ⟨w, r⟩ := q
    have h1 := hc (by rw [hp]; rfl)
    have h2 := hl w r hp
    rw [ah_w_s hp] at ha
    rw [pu_cb_s hp, ha, h1, h2]; rfl
theorem md_cb_off {P : ah_Pt} {n : Nat} (hn : n ≤ 40) (hP : ∀ i, n ≤ i → P i = none) : pu_cb P 40 = pu_cb P n := by
  have h : ∀ N, n ≤ N → pu_cb P N = pu_cb P n := by
    intro N
    induction N with
    | zero => intro h; rw [show n = 0 by omega]
    | succ N ih =>
      intro h
      by_cases e : n = N + 1
      · rw [e]
      · rw [pu_cb_n (hP N (by omega)), ih (by omega)]
  exact h 40 hn
set_option maxHeartbeats 4000000 in
set_option maxRecDepth 100000 in
/-- beginnings -/
theorem m_beginnings (l : Launch) (A : Nat → Prop) (D : ah_G) (F : ah_F) {mo n : Nat} {P : ah_Pt} {dr S : List Nat} {td th : Int32} (hC : md_C D F mo P n dr S td th)  : Met l yX7_beginnings (Cond.code yX7_beginnings cX7_beginnings 6 (some .int) :: ah_T) { frames := 1, cells := 0, slots := 0, locals := 26 } (va_Pc [.ref mo] (ah_B A D F)) (ah_Qi A D (fun (r : Int32) F1 => md_An D F1 mo (0, nI (pu_cb P 40), (P, n, dr, S, td)) r)) 0 0 A := by
  refine ah_met (own := "AhoarchModel") (by decide) rfl (Nat.le_of_ble_eq_true rfl) ?_
  intro p e s m below meth c ls E hr hini hl hP hS Q hQ
  have hx := E.1
  have hb := E.2.1
  have hl : lv_has ls 6 [(0, .ref mo)] := hl
  obtain ⟨dA, tA, lA, eA, nlA, neA, sA, ip, il, ln, df, tf, lf, ef, nlf, nef, sf, hmo, hdA, htA, hlA, heA, hnlA, hneA, hsA, hne1, hne2, hne3, hne4, hL⟩ := id hC
  obtain ⟨hn40, hPn, hdok, hSl, hS200, hPok, hdis, hp20, hln, hlP, hdd, hss⟩ := id hL
  have hdl := hdok.1
  refine lv_aload_n hx hb dX7_beginnings_0 rfl (lv_at hl 0 rfl) ?_
  refine lv_iconst (v := (nI 0)) hx hb dX7_beginnings_1 (by decide) ?_
  refine pf_Mod_32 E hP hS hmo (Nat.le_of_ble_eq_true rfl) dX7_beginnings_2 (fun H locs hP hS => ?_)
  obtain ⟨F1, eF1⟩ : ∃ Fz : ah_F, Fz = ah_up F mo (.inr (7, [.int (nI 0), .ref dA, .int (nI dr.length), .int (nI n), .ref tA, .ref lA, .ref eA, .ref nlA, .ref neA, .ref sA, .int (nI S.length), .int td, .int ip, .int il])) := ⟨_, rfl⟩
  have hP : ah_K A D F1 H := by rw [eF1]; exact hP
  have hF2 : F1 mo = some (.inr (7, [.int (nI 0), .ref dA, .int (nI dr.length), .int (nI n), .ref tA, .ref lA, .ref eA, .ref nlA, .ref neA, .ref sA, .int (nI S.length), .int td, .int ip, .int il])) := by rw [eF1]; exact ah_up_s _ _ _
  have hF3 : F1 dA = some (ah_ai D 8 df) := by rw [eF1]; exact ah_keep hmo hdA rfl
  have hF4 : F1 tA = some (ah_az D 40 tf) := by rw [eF1]; exact ah_keep hmo htA rfl
  have hF5 : F1 lA = some (ah_ai D 40 lf) := by rw [eF1]; exact ah_keep hmo hlA rfl
  have hF6 : F1 eA = some (ah_ai D 320 ef) := by rw [eF1]; exact ah_keep hmo heA rfl
  have hF7 : F1 nlA = some (ah_ai D 40 nlf) := by rw [eF1]; exact ah_keep hmo hnlA rfl
  have hF8 : F1 neA = some (ah_ai D 320 nef) := by rw [eF1]; exact ah_keep hmo hneA rfl
  have hF9 : F1 sA = some (ah_ai D 200 sf) := by rw [eF1]; exact ah_keep hmo hsA rfl
  refine lv_iconst (v := (nI 0)) hx hb dX7_beginnings_5 (by decide) ?_
  refine lv_istore_n (lv' := [(1, .int (nI 0)), (0, .ref mo)]) hx hb dX7_beginnings_6 rfl hl (by decide) rfl (fun ls hl => ?_)
  refine lv_iconst (v := (nI 0)) hx hb dX7_beginnings_7 (by decide) ?_
  refine lv_istore_n (lv' := [(2, .int (nI 0)), (1, .int (nI 0)), (0, .ref mo)]) hx hb dX7_beginnings_8 rfl hl (by decide) rfl (fun ls hl => ?_)
  have L9 : ∀ (fuel : Nat), ∀ (k a : Nat), n - k < fuel → k ≤ n → a = pu_cb P k → a ≤ 8 * k → ∀ (H : Heap) (locs : List Loc), ah_K A D F1 H → va_S A s.heap H locs → ∀ (ls : Array Slot), lv_has ls 6 [(0, .ref mo), (1, .int (nI a)), (2, .int (nI k))] → W p l e { frames := 1, cells := 0, slots := 0, locals := 26 } s m [.ref mo].toArray below meth c H locs 0 0 Q (F0 m 9 ls []) := by
    intro fuel
    induction fuel with
    | zero =>
      intro k a hm
      exact absurd hm (Nat.not_lt_zero _)
    | succ fuel ih9 =>
      intro k a hm hk ha ha8 H locs hP hS ls hl
      refine lv_iload_n hx hb dX7_beginnings_9 rfl (lv_at hl 2 rfl) ?_
      refine lv_aload_n hx hb dX7_beginnings_10 rfl (lv_at hl 0 rfl) ?_
      refine gf_Mod_36 E hP hF2 rfl dX7_beginnings_11 ?_
      refine ah_icmp_ge (tgt := 105) hx hb (by omega) (by omega) dX7_beginnings_14 (by decide) (fun hc14 => ?_) (fun hc14 => ?_)
      · skip
        refine lv_iload_n hx hb dX7_beginnings_105 rfl (lv_at hl 1 rfl) ?_
        rw [hQ]
        exact ah_iret E hr hP hS (md_An_i (k := 0) (v := _) (rfl) ⟨dA, tA, lA, eA, nlA, neA, sA, _, _, ln, _, _, _, _, _, _, _, hF2, hF3, hF4, hF5, hF6, hF7, hF8, hF9, hne1, hne2, hne3, hne4, hL⟩ (fun _ => by rw [ha, show k = n by omega, md_cb_off hn40 hPn])) (Nat.le_of_ble_eq_true rfl) (Nat.le_of_ble_eq_true rfl) dX7_beginnings_106
      · skip
        obtain ⟨hl8, hlf, htf⟩ := hln k (by omega)
        have hlk := fun w r h => (hlP k w r h).1
        refine lv_iconst (v := (nI 1)) hx hb dX7_beginnings_17 (by decide) ?_
        refine lv_istore_n (lv' := [(3, .int (nI 1)), (0, .ref mo), (1, .int (nI a)), (2, .int (nI k))]) hx hb dX7_beginnings_18 rfl hl (by decide) rfl (fun ls hl => ?_)
        have L19 : ∀ (fuel : Nat), ∀ (c0 y : Nat), ln k + 1 - c0 < fuel → 1 ≤ c0 → c0 ≤ ln k + 1 → ((P k).isSome = false → c0 = 1) → y = pu_cb P k + (c0 - 1 - ah_ls P k (ah_w P k) 40) → y ≤ 8 * k + (c0 - 1) → ∀ (H : Heap) (locs : List Loc), ah_K A D F1 H → va_S A s.heap H locs → ∀ (ls : Array Slot), lv_has ls 6 [(0, .ref mo), (1, .int (nI y)), (2, .int (nI k)), (3, .int (nI c0))] → W p l e { frames := 1, cells := 0, slots := 0, locals := 26 } s m [.ref mo].toArray below meth c H locs 0 0 Q (F0 m 19 ls []) := by
          intro fuel
          induction fuel with
          | zero =>
            intro c0 y hm
            exact absurd hm (Nat.not_lt_zero _)
          | succ fuel ih19 =>
            intro c0 y hm hc1 hc2 hcn hy hy8 H locs hP hS ls hl
            refine lv_iload_n hx hb dX7_beginnings_19 rfl (lv_at hl 3 rfl) ?_
            refine lv_aload_n hx hb dX7_beginnings_20 rfl (lv_at hl 0 rfl) ?_
            refine gf_Mod_17 E hP hF2 rfl dX7_beginnings_21 ?_
            refine lv_iload_n hx hb dX7_beginnings_24 rfl (lv_at hl 2 rfl) ?_
            refine ah_iald E hP hF5 (by omega) (by omega) dX7_beginnings_25 ?_
            rw [hlf]
            refine ah_icmp_gt (tgt := 99) hx hb (by omega) (by omega) dX7_beginnings_26 (by decide) (fun hc26 => ?_) (fun hc26 => ?_)
            · skip
              have hnx : y = pu_cb P (k + 1) := md_cb_e hlk hcn (fun _ => by omega) hy
              refine lv_iinc (v := (nI (k + 1))) (lv' := [(2, .int (nI (k + 1))), (0, .ref mo), (1, .int (nI y)), (3, .int (nI c0))]) hx hb dX7_beginnings_99 hl (k := 2) rfl (ah_inc _) (by decide) rfl (fun ls hl => ?_)
              refine lv_goto (tgt := 9) hx hb dX7_beginnings_102 (by decide) ?_
              exact ih9 (k + 1) _ (by omega) (by omega) hnx (by omega) _ _ hP hS ls (lv_sub hl [1, 2, 0] rfl)
            · skip
              refine lv_aload_n hx hb dX7_beginnings_29 rfl (lv_at hl 0 rfl) ?_
              refine gf_Mod_13 E hP hF2 rfl dX7_beginnings_30 ?_
              refine lv_iload_n hx hb dX7_beginnings_33 rfl (lv_at hl 2 rfl) ?_
              refine ah_zald E hP hF4 (by omega) (by omega) dX7_beginnings_34 ?_
              rw [htf]
              refine ah_ifb_eq (tgt := 99) hx hb dX7_beginnings_35 (by decide) (fun hc35 => ?_) (fun hc35 => ?_)
              · skip
                have hnx : y = pu_cb P (k + 1) := md_cb_e hlk hcn (fun h => absurd (h.symm.trans hc35) (by decide)) hy
                refine lv_iinc (v := (nI (k + 1))) (lv' := [(2, .int (nI (k + 1))), (0, .ref mo), (1, .int (nI y)), (3, .int (nI c0))]) hx hb dX7_beginnings_99 hl (k := 2) rfl (ah_inc _) (by decide) rfl (fun ls hl => ?_)
                refine lv_goto (tgt := 9) hx hb dX7_beginnings_102 (by decide) ?_
                exact ih9 (k + 1) _ (by omega) (by omega) hnx (by omega) _ _ hP hS ls (lv_sub hl [1, 2, 0] rfl)
              · skip
                obtain ⟨⟨w, r⟩, hPi⟩ := Option.isSome_iff_exists.mp hc35
                have hlw := hlk w r hPi
                have hany := md_ls_any (P := P) (k := k) (c := c0) (w := w) (by omega) hc1 (by omega)
                refine lv_iconst (v := (bI_ true)) hx hb dX7_beginnings_38 (by decide) ?_
                refine lv_istore (lv' := [(4, .int (bI_ true)), (0, .ref mo), (1, .int (nI y)), (2, .int (nI k)), (3, .int (nI c0))]) hx hb dX7_beginnings_39 hl (by decide) rfl (fun ls hl => ?_)
                refine lv_iconst (v := (nI 0)) hx hb dX7_beginnings_41 (by decide) ?_
                refine lv_istore (lv' := [(5, .int (nI 0)), (4, .int (bI_ true)), (0, .ref mo), (1, .int (nI y)), (2, .int (nI k)), (3, .int (nI c0))]) hx hb dX7_beginnings_42 hl (by decide) rfl (fun ls hl => ?_)
                have L44 : ∀ (fuel : Nat), ∀ (o : Nat) (b : Bool), k - o < fuel → o ≤ k → b = (true && !ah_any (ah_sat P (fun u => ah_bw ((w.drop 0).take c0) u)) o) → ∀ (H : Heap) (locs : List Loc), ah_K A D F1 H → va_S A s.heap H locs → ∀ (ls : Array Slot), lv_has ls 6 [(0, .ref mo), (1, .int (nI y)), (2, .int (nI k)), (3, .int (nI c0)), (4, .int (bI_ b)), (5, .int (nI o))] → W p l e { frames := 1, cells := 0, slots := 0, locals := 26 } s m [.ref mo].toArray below meth c H locs 0 0 Q (F0 m 44 ls []) := by
                  intro fuel
                  induction fuel with
                  | zero =>
                    intro o b hm
                    exact absurd hm (Nat.not_lt_zero _)
                  | succ fuel ih44 =>
                    intro o b hm ho hbe H locs hP hS ls hl
                    refine lv_iload hx hb dX7_beginnings_44 (lv_at hl 5 rfl) ?_
                    refine lv_iload_n hx hb dX7_beginnings_46 rfl (lv_at hl 2 rfl) ?_
                    refine ah_icmp_ge (tgt := 80) hx hb (by omega) (by omega) dX7_beginnings_47 (by decide) (fun hc47 => ?_) (fun hc47 => ?_)
                    · skip
                      rw [show o = k by omega, List.drop_zero, Bool.true_and] at hbe
                      refine lv_iload_n hx hb dX7_beginnings_80 rfl (lv_at hl 1 rfl) ?_
                      refine lv_iload hx hb dX7_beginnings_81 (lv_at hl 4 rfl) ?_
                      refine ah_ifb_eq (tgt := 90) hx hb dX7_beginnings_83 (by decide) (fun hc83 => ?_) (fun hc83 => ?_)
                      · skip
                        have hb2 : ah_any (ah_sat P (fun u => ah_bw (w.take c0) u)) k = true := by
                          cases q : ah_any (ah_sat P (fun u => ah_bw (w.take c0) u)) k with
                          | true => rfl
                          | false => rw [q, hc83] at hbe; cases hbe
                        refine lv_iconst (v := (nI 0)) hx hb dX7_beginnings_90 (by decide) ?_
                        refine ah_iadd hx hb dX7_beginnings_91 ?_
                        refine lv_istore_n (lv' := [(1, .int (nI (y + 0))), (0, .ref mo), (2, .int (nI k)), (3, .int (nI c0)), (4, .int (bI_ b)), (5, .int (nI o))]) hx hb dX7_beginnings_92 rfl hl (by decide) rfl (fun ls hl => ?_)
                        refine lv_iinc (v := (nI (c0 + 1))) (lv' := [(3, .int (nI (c0 + 1))), (1, .int (nI (y + 0))), (0, .ref mo), (2, .int (nI k)), (4, .int (bI_ b)), (5, .int (nI o))]) hx hb dX7_beginnings_93 hl (k := 3) rfl (ah_inc _) (by decide) rfl (fun ls hl => ?_)
                        refine lv_goto (tgt := 19) hx hb dX7_beginnings_96 (by decide) ?_
                        exact ih19 (c0 + 1) _ (by omega) (by omega) (by omega) (fun h => absurd (h.symm.trans hc35) (by decide)) (by rw [ah_w_s hPi]; have := of_decide_eq_true (hany.symm.trans hb2); rw [ah_w_s hPi] at hy; omega) (by omega) _ _ hP hS ls (lv_sub hl [2, 1, 3, 0] rfl)
                      · skip
                        have hb2 : ah_any (ah_sat P (fun u => ah_bw (w.take c0) u)) k = false := by
                          cases q : ah_any (ah_sat P (fun u => ah_bw (w.take c0) u)) k with
                          | false => rfl
                          | true => rw [q, hc83] at hbe; cases hbe
                        refine lv_iconst (v := (nI 1)) hx hb dX7_beginnings_86 (by decide) ?_
                        refine lv_goto (tgt := 91) hx hb dX7_beginnings_87 (by decide) ?_
                        refine ah_iadd hx hb dX7_beginnings_91 ?_
                        refine lv_istore_n (lv' := [(1, .int (nI (y + 1))), (0, .ref mo), (2, .int (nI k)), (3, .int (nI c0)), (4, .int (bI_ b)), (5, .int (nI o))]) hx hb dX7_beginnings_92 rfl hl (by decide) rfl (fun ls hl => ?_)
                        refine lv_iinc (v := (nI (c0 + 1))) (lv' := [(3, .int (nI (c0 + 1))), (1, .int (nI (y + 1))), (0, .ref mo), (2, .int (nI k)), (4, .int (bI_ b)), (5, .int (nI o))]) hx hb dX7_beginnings_93 hl (k := 3) rfl (ah_inc _) (by decide) rfl (fun ls hl => ?_)
                        refine lv_goto (tgt := 19) hx hb dX7_beginnings_96 (by decide) ?_
                        exact ih19 (c0 + 1) _ (by omega) (by omega) (by omega) (fun h => absurd (h.symm.trans hc35) (by decide)) (by rw [ah_w_s hPi]; have := of_decide_eq_false (hany.symm.trans hb2); rw [ah_w_s hPi] at hy; omega) (by omega) _ _ hP hS ls (lv_sub hl [2, 1, 3, 0] rfl)
                    · skip
                      refine lv_iload hx hb dX7_beginnings_50 (lv_at hl 4 rfl) ?_
                      refine ah_ifb_eq (tgt := 71) hx hb dX7_beginnings_52 (by decide) (fun hc52 => ?_) (fun hc52 => ?_)
                      · skip
                        refine lv_iconst (v := (bI_ false)) hx hb dX7_beginnings_71 (by decide) ?_
                        refine lv_istore (lv' := [(4, .int (bI_ false)), (0, .ref mo), (1, .int (nI y)), (2, .int (nI k)), (3, .int (nI c0)), (5, .int (nI o))]) hx hb dX7_beginnings_72 hl (by decide) rfl (fun ls hl => ?_)
                        refine lv_iinc (v := (nI (o + 1))) (lv' := [(5, .int (nI (o + 1))), (4, .int (bI_ false)), (0, .ref mo), (1, .int (nI y)), (2, .int (nI k)), (3, .int (nI c0))]) hx hb dX7_beginnings_74 hl (k := 5) rfl (ah_inc _) (by decide) rfl (fun ls hl => ?_)
                        refine lv_goto (tgt := 44) hx hb dX7_beginnings_77 (by decide) ?_
                        exact ih44 (o + 1) false (by omega) (by omega) (md_can_f hbe hc52) _ _ hP hS ls (lv_sub hl [2, 3, 4, 5, 1, 0] rfl)
                      · skip
                        refine lv_aload_n hx hb dX7_beginnings_55 rfl (lv_at hl 0 rfl) ?_
                        refine lv_iload_n hx hb dX7_beginnings_56 rfl (lv_at hl 2 rfl) ?_
                        refine lv_iconst (v := (nI 0)) hx hb dX7_beginnings_57 (by decide) ?_
                        refine lv_iload_n hx hb dX7_beginnings_58 rfl (lv_at hl 3 rfl) ?_
                        refine lv_iload hx hb dX7_beginnings_59 (lv_at hl 5 rfl) ?_
                        refine ah_calli (ah_runV E hP hS (As := [.int (nI k), .int (nI 0), .int (nI c0), .int (nI o)]) (rest := []) (b := mo) (m_begins l A D _ hF2 hF3 hF4 hF5 hF6 hF7 hF8 hF9 hL hPi (by omega) (by omega) (i := o) (by omega)) lk_Mod_63 li_Mod_63 hF2 rfl ⟨rfl, rfl, (Nat.le_of_ble_eq_true rfl), (Nat.le_of_ble_eq_true rfl)⟩ rfl hl.1 rfl (Nat.le_of_ble_eq_true rfl) dX7_beginnings_61 ⟨(Nat.le_of_ble_eq_true rfl), (Nat.le_of_ble_eq_true rfl)⟩) hS (fun r F10 H locs hq hP hS => ?_)
                        obtain ⟨rfl, rfl⟩ := hq
                        refine ah_ifb_ne (tgt := 71) hx hb dX7_beginnings_64 (by decide) (fun hc64 => ?_) (fun hc64 => ?_)
                        · skip
                          refine lv_iconst (v := (bI_ false)) hx hb dX7_beginnings_71 (by decide) ?_
                          refine lv_istore (lv' := [(4, .int (bI_ false)), (0, .ref mo), (1, .int (nI y)), (2, .int (nI k)), (3, .int (nI c0)), (5, .int (nI o))]) hx hb dX7_beginnings_72 hl (by decide) rfl (fun ls hl => ?_)
                          refine lv_iinc (v := (nI (o + 1))) (lv' := [(5, .int (nI (o + 1))), (4, .int (bI_ false)), (0, .ref mo), (1, .int (nI y)), (2, .int (nI k)), (3, .int (nI c0))]) hx hb dX7_beginnings_74 hl (k := 5) rfl (ah_inc _) (by decide) rfl (fun ls hl => ?_)
                          refine lv_goto (tgt := 44) hx hb dX7_beginnings_77 (by decide) ?_
                          exact ih44 (o + 1) false (by omega) (by omega) (md_can_h hc64) _ _ hP hS ls (lv_sub hl [2, 3, 4, 5, 1, 0] rfl)
                        · skip
                          refine lv_iconst (v := (bI_ true)) hx hb dX7_beginnings_67 (by decide) ?_
                          refine lv_goto (tgt := 72) hx hb dX7_beginnings_68 (by decide) ?_
                          refine lv_istore (lv' := [(4, .int (bI_ true)), (0, .ref mo), (1, .int (nI y)), (2, .int (nI k)), (3, .int (nI c0)), (5, .int (nI o))]) hx hb dX7_beginnings_72 hl (by decide) rfl (fun ls hl => ?_)
                          refine lv_iinc (v := (nI (o + 1))) (lv' := [(5, .int (nI (o + 1))), (4, .int (bI_ true)), (0, .ref mo), (1, .int (nI y)), (2, .int (nI k)), (3, .int (nI c0))]) hx hb dX7_beginnings_74 hl (k := 5) rfl (ah_inc _) (by decide) rfl (fun ls hl => ?_)
                          refine lv_goto (tgt := 44) hx hb dX7_beginnings_77 (by decide) ?_
                          exact ih44 (o + 1) true (by omega) (by omega) (md_can_t hbe hc52 hc64) _ _ hP hS ls (lv_sub hl [2, 3, 4, 5, 1, 0] rfl)
                exact L44 (k + 1) 0 true (by omega) (Nat.zero_le _) rfl _ _ hP hS ls (lv_sub hl [2, 3, 4, 5, 1, 0] rfl)
        exact L19 (ln k + 1) 1 a (by omega) (by omega) (by omega) (fun _ => rfl) (by rw [ha]; omega) (by omega) _ _ hP hS ls (lv_sub hl [1, 2, 3, 0] rfl)
  exact L9 (n + 1) 0 0 (by omega) (Nat.zero_le _) rfl (by omega) _ _ hP hS ls (lv_sub hl [2, 1, 0] rfl)
