/-! the reference's search by ends -/
theorem md_wi_t {P : ah_Pt} {S : List Nat} {k e fr c : Nat} (h : ∀ w r, P k = some (w, r) → c = w.length) (hle : c ≤ e) (hf : c ≤ e - fr) : ah_sat P (fun u => ah_at S (e - c) u) k = ah_sat P (fun w => decide (w.length ≤ e - fr) && ah_en S e w) k := by
  rw [md_sat_en_t h hle]
  cases hp : P k with
  | none => rw [md_sat_n (by rw [hp]; rfl), md_sat_n (by rw [hp]; rfl)]
  | some q =>
    obtain ⟨w, r⟩ := q
    have := h w r hp
    rw [md_sat_s hp, md_sat_s hp, decide_eq_true (show w.length ≤ e - fr by omega), Bool.true_and]
theorem md_wi_f {P : ah_Pt} {S : List Nat} {k e fr c : Nat} (h : ∀ w r, P k = some (w, r) → c = w.length) (hf : ¬ c ≤ e - fr) : ah_sat P (fun w => decide (w.length ≤ e - fr) && ah_en S e w) k = false := by
  cases hp : P k with
  | none => rw [md_sat_n (by rw [hp]; rfl)]
  | some q =>
    obtain ⟨w, r⟩ := q
    have := h w r hp
    rw [md_sat_s hp, decide_eq_false (show ¬ w.length ≤ e - fr by omega), Bool.false_and]
theorem md_bz_le {P : ah_Pt} {f : List Nat → Bool} {e o z c : Nat} {ip il : Int32} (hP : ah_Pok P) (hk : ∀ w r, P o = some (w, r) → c = w.length) (h : md_bz P f e o z ip il) (hz : c ≤ z) : md_bz P f e (o + 1) z ip il := by
  cases hs : ah_sat P f o with
  | false => exact md_bz_f h hs
  | true => exact md_bz_k hP h hs (by rw [md_sat_w hk hs]; exact hz)
theorem md_bz_n {P : ah_Pt} {S : List Nat} {e fr n : Nat} {ip il : Int32} (hP : ah_Pok P) (hn : n ≤ 40) (hPn : ∀ i, n ≤ i → P i = none) (h : md_bz P (fun w => decide (w.length ≤ e - fr) && ah_en S e w) e n 0 ip il) : ah_wi P S fr e = none := by
  rw [ah_wi, ah_best_off hPn hn]
  rw [md_bz] at h
  cases e1 : ah_best P (fun w => decide (w.length ≤ e - fr) && ah_en S e w) n with
  | none => rfl
  | some j =>
    rw [e1] at h
    have h : 0 = (ah_w P j).length ∧ ip = nI j ∧ il = nI (e - 0) := h
    obtain ⟨-, h3⟩ := ah_best_lt e1
    obtain ⟨w, r, h4, -⟩ := ah_sat_t h3
    have h5 := List.length_pos_iff.mpr (hP _ _ _ h4).2.2
    rw [ah_w_s h4] at h
    omega
theorem md_bz_s {P : ah_Pt} {S : List Nat} {e fr n z : Nat} {ip il : Int32} (hn : n ≤ 40) (hPn : ∀ i, n ≤ i → P i = none) (hz : 0 < z) (h : md_bz P (fun w => decide (w.length ≤ e - fr) && ah_en S e w) e n z ip il) : ∃ j, ah_wi P S fr e = some j ∧ ip = nI j ∧ il = nI (e - (ah_w P j).length) := by
  rw [ah_wi, ah_best_off hPn hn]
  rw [md_bz] at h
  cases e1 : ah_best P (fun w => decide (w.length ≤ e - fr) && ah_en S e w) n with
  | none =>
    rw [e1] at h
    have h : z = 0 := h
    omega
  | some j =>
    rw [e1] at h
    have h : z = (ah_w P j).length ∧ ip = nI j ∧ il = nI (e - z) := h
    obtain ⟨h1, h2, h3⟩ := h
    exact ⟨j, rfl, h2, by rw [h3, h1]⟩
theorem md_ne_n {P : ah_Pt} {S : List Nat} {fr k : Nat} (hk : k < S.length) (h : ah_wi P S fr (k + 1) = none) : md_ne P S fr k (S.length - k) = md_ne P S fr (k + 1) (S.length - (k + 1)) := by
  rw [show S.length - k = (S.length - (k + 1)) + 1 by omega, md_ne, h]
theorem md_ne_s {P : ah_Pt} {S : List Nat} {fr k j : Nat} (hk : k < S.length) (h : ah_wi P S fr (k + 1) = some j) : md_ne P S fr k (S.length - k) = some (j, k + 1 - (ah_w P j).length) := by
  rw [show S.length - k = (S.length - (k + 1)) + 1 by omega, md_ne, h]
theorem md_ne_0 {P : ah_Pt} {S : List Nat} {fr k : Nat} (hk : S.length ≤ k) : md_ne P S fr k (S.length - k) = none := by
  rw [show S.length - k = 0 by omega]; rfl
theorem md_lt_r {a b : Nat} {c : Nat} (ha : a < 2 ^ 30) (hb : b < 2 ^ 30) (h : ¬ b ≤ a) (hc : c < 2 ^ 31) : nI a - nI b < nI c := Int32.lt_of_lt_of_le (md_neg ha hb h) (nI_pos' hc)
theorem md_som {o : Option (Nat × Nat)} {j p : Nat} {ip il : Int32} (h : o = some (j, p)) (h1 : ip = nI j) (h2 : il = nI p) : ∀ j p : Nat, o = some (j, p) → ip = nI j ∧ il = nI p := fun a b e => by
  rw [h] at e; cases e; exact ⟨h1, h2⟩
theorem md_non {o : Option (Nat × Nat)} {ip il : Int32} (h : o = none) : ∀ j p : Nat, o = some (j, p) → ip = nI j ∧ il = nI p := fun a b e => by
  rw [h] at e; cases e
set_option maxHeartbeats 4000000 in
set_option maxRecDepth 100000 in
/-- findsByEnd -/
theorem m_findsByEnd (l : Launch) (A : Nat → Prop) (D : ah_G) (F : ah_F) {mo dA tA lA eA nlA neA sA n : Nat} {P : ah_Pt} {dr S : List Nat} {td th ip il : Int32} {ln : Nat → Nat} {df tf lf ef nlf nef sf : Nat → Int32} (hmo : F mo = some (.inr (7, [.int th, .ref dA, .int (nI dr.length), .int (nI n), .ref tA, .ref lA, .ref eA, .ref nlA, .ref neA, .ref sA, .int (nI S.length), .int td, .int ip, .int il]))) (hdA : F dA = some (ah_ai D 8 df)) (htA : F tA = some (ah_az D 40 tf)) (hlA : F lA = some (ah_ai D 40 lf)) (heA : F eA = some (ah_ai D 320 ef)) (hnlA : F nlA = some (ah_ai D 40 nlf)) (hneA : F neA = some (ah_ai D 320 nef)) (hsA : F sA = some (ah_ai D 200 sf)) (hL : md_L P n dr S ln df tf lf ef nlf nef sf) {fr : Nat} (hfr : fr ≤ S.length) : Met l yX7_findsByEnd (Cond.code yX7_findsByEnd cX7_findsByEnd 6 (some .boolean) :: ah_T) { frames := 1, cells := 0, slots := 0, locals := 24 } (va_Pc [.ref mo, .int (nI fr)] (ah_B A D F)) (ah_Qi A D (fun (r : Int32) F1 => ∃ ip1 il1 : Int32, F1 mo = some (.inr (7, [.int th, .ref dA, .int (nI dr.length), .int (nI n), .ref tA, .ref lA, .ref eA, .ref nlA, .ref neA, .ref sA, .int (nI S.length), .int td, .int ip1, .int il1])) ∧ ah_ch F F1 [mo] ∧ bI_ (md_ne P S fr fr (S.length - fr)).isSome = r ∧ ∀ j p : Nat, md_ne P S fr fr (S.length - fr) = some (j, p) → ip1 = nI j ∧ il1 = nI p)) 0 0 A := by
  refine ah_met (own := "AhoarchModel") (by decide) rfl (Nat.le_of_ble_eq_true rfl) ?_
  intro p e s m below meth c ls E hr hini hl hP hS Q hQ
  have hx := E.1
  have hb := E.2.1
  have hl : lv_has ls 6 [(0, .ref mo), (1, .int (nI fr))] := hl
  obtain ⟨hn40, hPn, hdok, hSl, hS200, hPok, hdis, hp20, hln, hlP, hdd, hss⟩ := id hL
  have hdl := hdok.1
  have hch0 : ah_ch F F [mo] := ah_ch_r _ _
  refine lv_iload_n hx hb dX7_findsByEnd_0 rfl (lv_at hl 1 rfl) ?_
  refine lv_iconst (v := (nI 1)) hx hb dX7_findsByEnd_1 (by decide) ?_
  refine ah_iadd hx hb dX7_findsByEnd_2 ?_
  refine lv_istore_n (lv' := [(2, .int (nI (fr + 1))), (0, .ref mo), (1, .int (nI fr))]) hx hb dX7_findsByEnd_3 rfl hl (by decide) rfl (fun ls hl => ?_)
  have L4 : ∀ (fuel : Nat), ∀ (Fv : ah_F) (k : Nat) (ip1 il1 : Int32), S.length - k < fuel → fr ≤ k → k ≤ S.length → md_ne P S fr fr (S.length - fr) = md_ne P S fr k (S.length - k) → ah_ch F Fv [mo] → Fv mo = some (.inr (7, [.int th, .ref dA, .int (nI dr.length), .int (nI n), .ref tA, .ref lA, .ref eA, .ref nlA, .ref neA, .ref sA, .int (nI S.length), .int td, .int ip1, .int il1])) → Fv dA = some (ah_ai D 8 df) → Fv tA = some (ah_az D 40 tf) → Fv lA = some (ah_ai D 40 lf) → Fv eA = some (ah_ai D 320 ef) → Fv nlA = some (ah_ai D 40 nlf) → Fv neA = some (ah_ai D 320 nef) → Fv sA = some (ah_ai D 200 sf) → ∀ (H : Heap) (locs : List Loc), ah_K A D Fv H → va_S A s.heap H locs → ∀ (ls : Array Slot), lv_has ls 6 [(0, .ref mo), (1, .int (nI fr)), (2, .int (nI (k + 1)))] → W p l e { frames := 1, cells := 0, slots := 0, locals := 24 } s m [.ref mo, .int (nI fr)].toArray below meth c H locs 0 0 Q (F0 m 4 ls []) := by
    intro fuel
    induction fuel with
    | zero =>
      intro Fv k ip1 il1 hm
      exact absurd hm (Nat.not_lt_zero _)
    | succ fuel ih4 =>
      intro Fv k ip1 il1 hm hfk hk hnx hch1 hk1 hk2 hk3 hk4 hk5 hk6 hk7 hk8 H locs hP hS ls hl
      refine lv_iload_n hx hb dX7_findsByEnd_4 rfl (lv_at hl 2 rfl) ?_
      refine lv_aload_n hx hb dX7_findsByEnd_5 rfl (lv_at hl 0 rfl) ?_
      refine gf_Mod_67 E hP hk1 rfl dX7_findsByEnd_6 ?_
      refine ah_icmp_gt (tgt := 97) hx hb (by omega) (by omega) dX7_findsByEnd_9 (by decide) (fun hc9 => ?_) (fun hc9 => ?_)
      · skip
        refine lv_iconst (v := (bI_ false)) hx hb dX7_findsByEnd_97 (by decide) ?_
        have hnx2 := hnx.trans (md_ne_0 (by omega))
        rw [hQ]
        exact ah_zret E hr (by first | exact bI_nz _ | decide) hP hS ⟨_, _, hk1, hch1, congrArg (fun o => bI_ (Option.isSome o)) hnx2, md_non hnx2⟩ (Nat.le_of_ble_eq_true rfl) (Nat.le_of_ble_eq_true rfl) dX7_findsByEnd_98
      · skip
        refine lv_iconst (v := (nI 0)) hx hb dX7_findsByEnd_12 (by decide) ?_
        refine lv_istore_n (lv' := [(3, .int (nI 0)), (0, .ref mo), (1, .int (nI fr)), (2, .int (nI (k + 1)))]) hx hb dX7_findsByEnd_13 rfl hl (by decide) rfl (fun ls hl => ?_)
        refine lv_iconst (v := (nI 0)) hx hb dX7_findsByEnd_14 (by decide) ?_
        refine lv_istore (lv' := [(4, .int (nI 0)), (3, .int (nI 0)), (0, .ref mo), (1, .int (nI fr)), (2, .int (nI (k + 1)))]) hx hb dX7_findsByEnd_15 hl (by decide) rfl (fun ls hl => ?_)
        have L17 : ∀ (fuel : Nat), ∀ (Fw : ah_F) (o z : Nat) (ip2 il2 : Int32), n - o < fuel → o ≤ n → md_bz P (fun w => decide (w.length ≤ k + 1 - fr) && ah_en S (k + 1) w) (k + 1) o z ip2 il2 → z ≤ 8 → ah_ch F Fw [mo] → Fw mo = some (.inr (7, [.int th, .ref dA, .int (nI dr.length), .int (nI n), .ref tA, .ref lA, .ref eA, .ref nlA, .ref neA, .ref sA, .int (nI S.length), .int td, .int ip2, .int il2])) → Fw dA = some (ah_ai D 8 df) → Fw tA = some (ah_az D 40 tf) → Fw lA = some (ah_ai D 40 lf) → Fw eA = some (ah_ai D 320 ef) → Fw nlA = some (ah_ai D 40 nlf) → Fw neA = some (ah_ai D 320 nef) → Fw sA = some (ah_ai D 200 sf) → ∀ (H : Heap) (locs : List Loc), ah_K A D Fw H → va_S A s.heap H locs → ∀ (ls : Array Slot), lv_has ls 6 [(0, .ref mo), (1, .int (nI fr)), (2, .int (nI (k + 1))), (3, .int (nI z)), (4, .int (nI o))] → W p l e { frames := 1, cells := 0, slots := 0, locals := 24 } s m [.ref mo, .int (nI fr)].toArray below meth c H locs 0 0 Q (F0 m 17 ls []) := by
          intro fuel
          induction fuel with
          | zero =>
            intro Fw o z ip2 il2 hm
            exact absurd hm (Nat.not_lt_zero _)
          | succ fuel ih17 =>
            intro Fw o z ip2 il2 hm ho hbz hz8 hch2 hk9 hk10 hk11 hk12 hk13 hk14 hk15 hk16 H locs hP hS ls hl
            refine lv_iload hx hb dX7_findsByEnd_17 (lv_at hl 4 rfl) ?_
            refine lv_aload_n hx hb dX7_findsByEnd_19 rfl (lv_at hl 0 rfl) ?_
            refine gf_Mod_36 E hP hk9 rfl dX7_findsByEnd_20 ?_
            refine ah_icmp_ge (tgt := 85) hx hb (by omega) (by omega) dX7_findsByEnd_23 (by decide) (fun hc23 => ?_) (fun hc23 => ?_)
            · skip
              rw [show o = n by omega] at hbz
              refine lv_iload_n hx hb dX7_findsByEnd_85 rfl (lv_at hl 3 rfl) ?_
              refine ah_if_le (tgt := 91) hx hb (by omega) dX7_findsByEnd_86 (by decide) (fun hc86 => ?_) (fun hc86 => ?_)
              · skip
                rw [hc86] at hbz
                refine lv_iinc (v := (nI ((k + 1) + 1))) (lv' := [(2, .int (nI ((k + 1) + 1))), (0, .ref mo), (1, .int (nI fr)), (3, .int (nI z)), (4, .int (nI o))]) hx hb dX7_findsByEnd_91 hl (k := 2) rfl (ah_inc _) (by decide) rfl (fun ls hl => ?_)
                refine lv_goto (tgt := 4) hx hb dX7_findsByEnd_94 (by decide) ?_
                exact ih4 _ (k + 1) _ _ (by omega) (by omega) (by omega) (hnx.trans (md_ne_n (by omega) (md_bz_n hPok hn40 hPn hbz))) hch2 hk9 hk10 hk11 hk12 hk13 hk14 hk15 hk16 _ _ hP hS ls (lv_sub hl [1, 2, 0] rfl)
              · skip
                obtain ⟨jj, hj1, hj2, hj3⟩ := md_bz_s hn40 hPn hc86 hbz
                have hnx2 := hnx.trans (md_ne_s (by omega) hj1)
                refine lv_iconst (v := (bI_ true)) hx hb dX7_findsByEnd_89 (by decide) ?_
                rw [hQ]
                exact ah_zret E hr (by first | exact bI_nz _ | decide) hP hS ⟨_, _, hk9, hch2, congrArg (fun o => bI_ (Option.isSome o)) hnx2, md_som hnx2 hj2 hj3⟩ (Nat.le_of_ble_eq_true rfl) (Nat.le_of_ble_eq_true rfl) dX7_findsByEnd_90
            · skip
              obtain ⟨hl8, hlf, htf⟩ := hln o (by omega)
              have hlk := fun w r h => (hlP o w r h).1
              refine lv_aload_n hx hb dX7_findsByEnd_26 rfl (lv_at hl 0 rfl) ?_
              refine gf_Mod_17 E hP hk9 rfl dX7_findsByEnd_27 ?_
              refine lv_iload hx hb dX7_findsByEnd_30 (lv_at hl 4 rfl) ?_
              refine ah_iald E hP hk12 (by omega) (by omega) dX7_findsByEnd_32 ?_
              rw [hlf]
              refine lv_istore (lv' := [(5, .int (nI (ln o))), (0, .ref mo), (1, .int (nI fr)), (2, .int (nI (k + 1))), (3, .int (nI z)), (4, .int (nI o))]) hx hb dX7_findsByEnd_33 hl (by decide) rfl (fun ls hl => ?_)
              refine lv_iload_n hx hb dX7_findsByEnd_35 rfl (lv_at hl 3 rfl) ?_
              refine lv_iload hx hb dX7_findsByEnd_36 (lv_at hl 0 rfl) ?_
              by_cases hle : ln o ≤ k + 1
              · skip
                refine ah_isub hx hb (by omega) dX7_findsByEnd_38 ?_
                refine lv_iload_n hx hb dX7_findsByEnd_39 rfl (lv_at hl 2 rfl) ?_
                refine ah_icmp_lt (tgt := 79) hx hb (by omega) (by omega) dX7_findsByEnd_40 (by decide) (fun hc40 => ?_) (fun hc40 => ?_)
                · skip
                  refine lv_iinc (v := (nI (o + 1))) (lv' := [(4, .int (nI (o + 1))), (5, .int (nI (ln o))), (0, .ref mo), (1, .int (nI fr)), (2, .int (nI (k + 1))), (3, .int (nI z))]) hx hb dX7_findsByEnd_79 hl (k := 5) rfl (ah_inc _) (by decide) rfl (fun ls hl => ?_)
                  refine lv_goto (tgt := 17) hx hb dX7_findsByEnd_82 (by decide) ?_
                  exact ih17 _ (o + 1) _ _ _ (by omega) (by omega) (md_bz_f hbz (md_wi_f hlk (by omega))) hz8 hch2 hk9 hk10 hk11 hk12 hk13 hk14 hk15 hk16 _ _ hP hS ls (lv_sub hl [2, 3, 4, 5, 0] rfl)
                · skip
                  refine lv_iload hx hb dX7_findsByEnd_43 (lv_at hl 0 rfl) ?_
                  refine lv_iload_n hx hb dX7_findsByEnd_45 rfl (lv_at hl 4 rfl) ?_
                  refine ah_icmp_le (tgt := 79) hx hb (by omega) (by omega) dX7_findsByEnd_46 (by decide) (fun hc46 => ?_) (fun hc46 => ?_)
                  · skip
                    refine lv_iinc (v := (nI (o + 1))) (lv' := [(4, .int (nI (o + 1))), (5, .int (nI (ln o))), (0, .ref mo), (1, .int (nI fr)), (2, .int (nI (k + 1))), (3, .int (nI z))]) hx hb dX7_findsByEnd_79 hl (k := 5) rfl (ah_inc _) (by decide) rfl (fun ls hl => ?_)
                    refine lv_goto (tgt := 17) hx hb dX7_findsByEnd_82 (by decide) ?_
                    exact ih17 _ (o + 1) _ _ _ (by omega) (by omega) (md_bz_le hPok hlk hbz (by omega)) hz8 hch2 hk9 hk10 hk11 hk12 hk13 hk14 hk15 hk16 _ _ hP hS ls (lv_sub hl [2, 3, 4, 5, 0] rfl)
                  · skip
                    refine lv_aload_n hx hb dX7_findsByEnd_49 rfl (lv_at hl 1 rfl) ?_
                    refine lv_iload hx hb dX7_findsByEnd_50 (lv_at hl 5 rfl) ?_
                    refine lv_iload_n hx hb dX7_findsByEnd_52 rfl (lv_at hl 3 rfl) ?_
                    refine lv_iload hx hb dX7_findsByEnd_53 (lv_at hl 0 rfl) ?_
                    refine ah_isub hx hb (by omega) dX7_findsByEnd_55 ?_
                    refine ah_calli (ah_runV E hP hS (As := [.int (nI o), .int (nI ((k + 1) - (ln o)))]) (rest := []) (b := mo) (m_stands l A D _ hk9 hk10 hk11 hk12 hk13 hk14 hk15 hk16 hL (pl := k + 1 - ln o) (i := o) (by omega) (by omega)) lk_Mod_70 li_Mod_70 hk9 rfl ⟨rfl, rfl, (Nat.le_of_ble_eq_true rfl), (Nat.le_of_ble_eq_true rfl)⟩ rfl hl.1 rfl (Nat.le_of_ble_eq_true rfl) dX7_findsByEnd_56 ⟨(Nat.le_of_ble_eq_true rfl), (Nat.le_of_ble_eq_true rfl)⟩) hS (fun r F17 H locs hq hP hS => ?_)
                    obtain ⟨rfl, rfl⟩ := hq
                    refine ah_ifb_eq (tgt := 79) hx hb dX7_findsByEnd_59 (by decide) (fun hc59 => ?_) (fun hc59 => ?_)
                    · skip
                      refine lv_iinc (v := (nI (o + 1))) (lv' := [(4, .int (nI (o + 1))), (5, .int (nI (ln o))), (0, .ref mo), (1, .int (nI fr)), (2, .int (nI (k + 1))), (3, .int (nI z))]) hx hb dX7_findsByEnd_79 hl (k := 5) rfl (ah_inc _) (by decide) rfl (fun ls hl => ?_)
                      refine lv_goto (tgt := 17) hx hb dX7_findsByEnd_82 (by decide) ?_
                      exact ih17 _ (o + 1) _ _ _ (by omega) (by omega) (md_bz_f hbz ((md_wi_t hlk hle (by omega)).symm.trans hc59)) hz8 hch2 hk9 hk10 hk11 hk12 hk13 hk14 hk15 hk16 _ _ hP hS ls (lv_sub hl [2, 3, 4, 5, 0] rfl)
                    · skip
                      refine lv_iload hx hb dX7_findsByEnd_62 (lv_at hl 0 rfl) ?_
                      refine lv_istore_n (lv' := [(3, .int (nI (ln o))), (5, .int (nI (ln o))), (0, .ref mo), (1, .int (nI fr)), (2, .int (nI (k + 1))), (4, .int (nI o))]) hx hb dX7_findsByEnd_64 rfl hl (by decide) rfl (fun ls hl => ?_)
                      refine lv_aload_n hx hb dX7_findsByEnd_65 rfl (lv_at hl 2 rfl) ?_
                      refine lv_iload hx hb dX7_findsByEnd_66 (lv_at hl 5 rfl) ?_
                      refine pf_Mod_90 E hP hS hk9 (Nat.le_of_ble_eq_true rfl) dX7_findsByEnd_68 (fun H locs hP hS => ?_)
                      obtain ⟨F18, eF18⟩ : ∃ Fz : ah_F, Fz = ah_up Fw mo (.inr (7, [.int th, .ref dA, .int (nI dr.length), .int (nI n), .ref tA, .ref lA, .ref eA, .ref nlA, .ref neA, .ref sA, .int (nI S.length), .int td, .int (nI o), .int il2])) := ⟨_, rfl⟩
                      have hP : ah_K A D F18 H := by rw [eF18]; exact hP
                      have hF19 : F18 mo = some (.inr (7, [.int th, .ref dA, .int (nI dr.length), .int (nI n), .ref tA, .ref lA, .ref eA, .ref nlA, .ref neA, .ref sA, .int (nI S.length), .int td, .int (nI o), .int il2])) := by rw [eF18]; exact ah_up_s _ _ _
                      have hF20 : F18 dA = some (ah_ai D 8 df) := by rw [eF18]; exact ah_keep hk9 hk10 rfl
                      have hF21 : F18 tA = some (ah_az D 40 tf) := by rw [eF18]; exact ah_keep hk9 hk11 rfl
                      have hF22 : F18 lA = some (ah_ai D 40 lf) := by rw [eF18]; exact ah_keep hk9 hk12 rfl
                      have hF23 : F18 eA = some (ah_ai D 320 ef) := by rw [eF18]; exact ah_keep hk9 hk13 rfl
                      have hF24 : F18 nlA = some (ah_ai D 40 nlf) := by rw [eF18]; exact ah_keep hk9 hk14 rfl
                      have hF25 : F18 neA = some (ah_ai D 320 nef) := by rw [eF18]; exact ah_keep hk9 hk15 rfl
                      have hF26 : F18 sA = some (ah_ai D 200 sf) := by rw [eF18]; exact ah_keep hk9 hk16 rfl
                      have hC27 : ah_ch F F18 [mo] := by rw [eF18]; exact ah_ch_u hch2 (by simp)
                      refine lv_aload_n hx hb dX7_findsByEnd_71 rfl (lv_at hl 2 rfl) ?_
                      refine lv_iload_n hx hb dX7_findsByEnd_72 rfl (lv_at hl 4 rfl) ?_
                      refine lv_iload hx hb dX7_findsByEnd_73 (lv_at hl 1 rfl) ?_
                      refine ah_isub hx hb (by omega) dX7_findsByEnd_75 ?_
                      refine pf_Mod_93 E hP hS hF19 (Nat.le_of_ble_eq_true rfl) dX7_findsByEnd_76 (fun H locs hP hS => ?_)
                      obtain ⟨F28, eF28⟩ : ∃ Fz : ah_F, Fz = ah_up F18 mo (.inr (7, [.int th, .ref dA, .int (nI dr.length), .int (nI n), .ref tA, .ref lA, .ref eA, .ref nlA, .ref neA, .ref sA, .int (nI S.length), .int td, .int (nI o), .int (nI ((k + 1) - (ln o)))])) := ⟨_, rfl⟩
                      have hP : ah_K A D F28 H := by rw [eF28]; exact hP
                      have hF29 : F28 mo = some (.inr (7, [.int th, .ref dA, .int (nI dr.length), .int (nI n), .ref tA, .ref lA, .ref eA, .ref nlA, .ref neA, .ref sA, .int (nI S.length), .int td, .int (nI o), .int (nI ((k + 1) - (ln o)))])) := by rw [eF28]; exact ah_up_s _ _ _
                      have hF30 : F28 dA = some (ah_ai D 8 df) := by rw [eF28]; exact ah_keep hF19 hF20 rfl
                      have hF31 : F28 tA = some (ah_az D 40 tf) := by rw [eF28]; exact ah_keep hF19 hF21 rfl
                      have hF32 : F28 lA = some (ah_ai D 40 lf) := by rw [eF28]; exact ah_keep hF19 hF22 rfl
                      have hF33 : F28 eA = some (ah_ai D 320 ef) := by rw [eF28]; exact ah_keep hF19 hF23 rfl
                      have hF34 : F28 nlA = some (ah_ai D 40 nlf) := by rw [eF28]; exact ah_keep hF19 hF24 rfl
                      have hF35 : F28 neA = some (ah_ai D 320 nef) := by rw [eF28]; exact ah_keep hF19 hF25 rfl
                      have hF36 : F28 sA = some (ah_ai D 200 sf) := by rw [eF28]; exact ah_keep hF19 hF26 rfl
                      have hC37 : ah_ch F F28 [mo] := by rw [eF28]; exact ah_ch_u hC27 (by simp)
                      refine lv_iinc (v := (nI (o + 1))) (lv' := [(4, .int (nI (o + 1))), (3, .int (nI (ln o))), (5, .int (nI (ln o))), (0, .ref mo), (1, .int (nI fr)), (2, .int (nI (k + 1)))]) hx hb dX7_findsByEnd_79 hl (k := 5) rfl (ah_inc _) (by decide) rfl (fun ls hl => ?_)
                      refine lv_goto (tgt := 17) hx hb dX7_findsByEnd_82 (by decide) ?_
                      exact ih17 _ (o + 1) _ _ _ (by omega) (by omega) (md_bz_g hbz ((md_wi_t hlk hle (by omega)).symm.trans hc59) (by rw [md_sat_w hlk ((md_wi_t (fr := fr) hlk hle (by omega)).symm.trans hc59)]; omega) (md_sat_w hlk ((md_wi_t (fr := fr) hlk hle (by omega)).symm.trans hc59))) (by omega) hC37 hF29 hF30 hF31 hF32 hF33 hF34 hF35 hF36 _ _ hP hS ls (lv_sub hl [3, 4, 5, 1, 0] rfl)
              · skip
                refine lv_isub hx hb dX7_findsByEnd_38 ?_
                refine lv_iload_n hx hb dX7_findsByEnd_39 rfl (lv_at hl 2 rfl) ?_
                refine lv_icmp_lt (tgt := 79) hx hb dX7_findsByEnd_40 (by decide) (fun hc40 => ?_) (fun hc40 => ?_)
                · skip
                  refine lv_iinc (v := (nI (o + 1))) (lv' := [(4, .int (nI (o + 1))), (5, .int (nI (ln o))), (0, .ref mo), (1, .int (nI fr)), (2, .int (nI (k + 1))), (3, .int (nI z))]) hx hb dX7_findsByEnd_79 hl (k := 5) rfl (ah_inc _) (by decide) rfl (fun ls hl => ?_)
                  refine lv_goto (tgt := 17) hx hb dX7_findsByEnd_82 (by decide) ?_
                  exact ih17 _ (o + 1) _ _ _ (by omega) (by omega) (md_bz_f hbz (md_wi_f hlk (by omega))) hz8 hch2 hk9 hk10 hk11 hk12 hk13 hk14 hk15 hk16 _ _ hP hS ls (lv_sub hl [2, 3, 4, 5, 0] rfl)
                · skip
                  exact absurd (md_lt_r (by omega) (by omega) hle (by omega)) hc40
        exact L17 (n + 1) _ 0 0 _ _ (by omega) (Nat.zero_le _) md_bz_0 (by omega) hch1 hk1 hk2 hk3 hk4 hk5 hk6 hk7 hk8 _ _ hP hS ls (lv_sub hl [2, 3, 4, 1, 0] rfl)
  exact L4 (S.length + 1) _ fr _ _ (by omega) (Nat.le_refl _) hfr rfl hch0 hmo hdA htA hlA heA hnlA hneA hsA _ _ hP hS ls (lv_sub hl [1, 2, 0] rfl)
