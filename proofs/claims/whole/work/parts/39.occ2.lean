theorem md_kt_none {p : Nat → Bool} {N : Nat} {x : Int32} (hN : N < 2 ^ 31) (h : x < 0 ∨ nI (pu_cn p N) ≤ x) : ah_kt p N x = none := by
  cases e : ah_kt p N x with
  | none => rfl
  | some j =>
    obtain ⟨h1, h2, -⟩ := ah_fst_s.mp e
    simp only [Bool.and_eq_true, decide_eq_true_eq] at h2
    obtain ⟨h3, h4⟩ := h2
    have h5 := pu_cn_mono p (show j + 1 ≤ N from h1)
    rw [pu_cn_t h3] at h5
    have h6 := pu_cn_le p N
    subst h4
    rcases h with h | h
    · exact absurd h (nI_pos (by omega))
    · have := (nI_leI (by omega) (by omega)).mp h
      omega
set_option maxHeartbeats 4000000 in
set_option maxRecDepth 100000 in
/-- occurrence -/
theorem m_occurrence (l : Launch) (A : Nat → Prop) (D : ah_G) (F : ah_F) {mo n : Nat} {P : ah_Pt} {dr S : List Nat} {td th : Int32} (hC : md_C D F mo P n dr S td th) {v0 v1 : Int32} : Met l yX7_occurrence (Cond.code yX7_occurrence cX7_occurrence 6 (some .int) :: ah_T) { frames := 2, cells := 0, slots := 0, locals := 47 } (va_Pc [.ref mo, .int v0, .int v1] (ah_B A D F)) (ah_Qi A D (fun (r : Int32) F1 => md_An D F1 mo (sp_occurrence P n dr S td v0 v1) r)) 0 0 A := by
  refine ah_met (own := "AhoarchModel") (by decide) rfl (Nat.le_of_ble_eq_true rfl) ?_
  intro p e s m below meth c ls E hr hini hl hP hS Q hQ
  have hx := E.1
  have hb := E.2.1
  have hl : lv_has ls 6 [(0, .ref mo), (1, .int v0), (2, .int v1)] := hl
  obtain ⟨dA, tA, lA, eA, nlA, neA, sA, ip, il, ln, df, tf, lf, ef, nlf, nef, sf, hmo, hdA, htA, hlA, heA, hnlA, hneA, hsA, hne1, hne2, hne3, hne4, hL⟩ := id hC
  obtain ⟨hn40, hPn, hdok, hSl, hS200, hPok, hdis, hp20, hln, hlP, hdd, hss⟩ := id hL
  have hdl := hdok.1
  refine lv_aload_n hx hb dX7_occurrence_0 rfl (lv_at hl 0 rfl) ?_
  refine lv_iload_n hx hb dX7_occurrence_1 rfl (lv_at hl 1 rfl) ?_
  refine ah_calli (ah_runV E hP hS (As := [.int v0]) (rest := []) (b := mo) (m_isPattern l A D _ hmo hdA htA hlA heA hnlA hneA hsA hL (v0 := v0)) lk_Mod_57 li_Mod_57 hmo rfl ⟨rfl, rfl, (Nat.le_of_ble_eq_true rfl), (Nat.le_of_ble_eq_true rfl)⟩ rfl hl.1 rfl (Nat.le_of_ble_eq_true rfl) dX7_occurrence_2 ⟨(Nat.le_of_ble_eq_true rfl), (Nat.le_of_ble_eq_true rfl)⟩) hS (fun r F1 H locs hq hP hS => ?_)
  obtain ⟨rfl, rfl⟩ := hq
  refine lv_istore_n (lv' := [(3, .int (bI_ ((ah_pi P v0).isSome))), (0, .ref mo), (1, .int v0), (2, .int v1)]) hx hb dX7_occurrence_5 rfl hl (by decide) rfl (fun ls hl => ?_)
  refine lv_aload_n hx hb dX7_occurrence_6 rfl (lv_at hl 1 rfl) ?_
  refine lv_iload_n hx hb dX7_occurrence_7 rfl (lv_at hl 0 rfl) ?_
  refine ah_ifb_ne (tgt := 15) hx hb dX7_occurrence_8 (by decide) (fun hc8 => ?_) (fun hc8 => ?_)
  · skip
    have hcY := hc8
    obtain ⟨i, hpi⟩ := Option.isSome_iff_exists.mp hcY
    obtain ⟨hi40, hvi, hPs⟩ := ah_pi_lt hpi
    obtain ⟨⟨w, r0⟩, hPi⟩ := Option.isSome_iff_exists.mp hPs
    have hin := md_lt hPn hPs
    obtain ⟨hl8, hlf, htf⟩ := hln i hin
    obtain ⟨hlw, hew, hnl, hnew⟩ := hlP i w r0 hPi
    obtain ⟨hok, hokr, hnw⟩ := hPok i w r0 hPi
    have hwl := hok.1
    have hrl := hokr.1
    have hwb := ah_getD_le hok.2
    rw [hvi] at hl
    have hfe : (fun j => ah_sat P (fun u => ah_at S j u) i) = (fun k => ah_at S k w) := funext (fun j => md_sat_s hPi)
    have hcl := pu_cn_le (fun j => ah_sat P (fun u => ah_at S j u) i) S.length
    refine lv_iload_n hx hb dX7_occurrence_15 rfl (lv_at hl 3 rfl) ?_
    refine lv_if_lt (tgt := 28) hx hb dX7_occurrence_16 (by decide) (fun hc16 => ?_) (fun hc16 => ?_)
    · skip
      have hkn : ah_kt (fun k => ah_at S k w) S.length v1 = none := by rw [← hfe]; exact md_kt_none (by omega) (Or.inl hc16)
      refine lv_iconst (v := (nI 2)) hx hb dX7_occurrence_28 (by decide) ?_
      refine lv_goto (tgt := 33) hx hb dX7_occurrence_29 (by decide) ?_
      refine ah_calli (ah_runV E hP hS (As := [.int (nI 2)]) (rest := []) (b := mo) (m_holds l A D _ hmo hdA htA hlA heA hnlA hneA hsA hL (k := 2) (by omega)) lk_Mod_46 li_Mod_46 hmo rfl ⟨rfl, rfl, (Nat.le_of_ble_eq_true rfl), (Nat.le_of_ble_eq_true rfl)⟩ rfl hl.1 rfl (Nat.le_of_ble_eq_true rfl) dX7_occurrence_33 ⟨(Nat.le_of_ble_eq_true rfl), (Nat.le_of_ble_eq_true rfl)⟩) hS (fun r F2 H locs hho33 hP hS => ?_)
      obtain ⟨eho33, hro⟩ := hho33
      have hG3 : F2 dA = some (ah_ai D 8 df) := by rw [eho33]; exact ah_keep hmo hdA rfl
      have hG4 : F2 tA = some (ah_az D 40 tf) := by rw [eho33]; exact ah_keep hmo htA rfl
      have hG5 : F2 lA = some (ah_ai D 40 lf) := by rw [eho33]; exact ah_keep hmo hlA rfl
      have hG6 : F2 eA = some (ah_ai D 320 ef) := by rw [eho33]; exact ah_keep hmo heA rfl
      have hG7 : F2 nlA = some (ah_ai D 40 nlf) := by rw [eho33]; exact ah_keep hmo hnlA rfl
      have hG8 : F2 neA = some (ah_ai D 320 nef) := by rw [eho33]; exact ah_keep hmo hneA rfl
      have hG9 : F2 sA = some (ah_ai D 200 sf) := by rw [eho33]; exact ah_keep hmo hsA rfl
      have hG10 : F2 mo = some (.inr (7, [.int (nI 2), .ref dA, .int (nI dr.length), .int (nI n), .ref tA, .ref lA, .ref eA, .ref nlA, .ref neA, .ref sA, .int (nI S.length), .int td, .int ip, .int il])) := by rw [eho33]; exact ah_up_s _ _ _
      subst hro
      refine ah_ifb_ne (tgt := 41) hx hb dX7_occurrence_36 (by decide) (fun hc36 => ?_) (fun hc36 => ?_)
      · skip
        exact absurd hc36 (by decide)
      · skip
        refine lv_iconst (v := (nI 0)) hx hb dX7_occurrence_39 (by decide) ?_
        rw [hQ]
        exact ah_iret E hr hP hS (md_An_i (k := 2) (v := 0) (by simp only [sp_occurrence, hpi, ah_w_s hPi, hkn]) ⟨dA, tA, lA, eA, nlA, neA, sA, _, _, ln, _, _, _, _, _, _, _, hG10, hG3, hG4, hG5, hG6, hG7, hG8, hG9, hne1, hne2, hne3, hne4, hL⟩ (fun h => absurd h (by decide))) (Nat.le_of_ble_eq_true rfl) (Nat.le_of_ble_eq_true rfl) dX7_occurrence_40
    · skip
      refine lv_iload_n hx hb dX7_occurrence_19 rfl (lv_at hl 3 rfl) ?_
      refine lv_aload_n hx hb dX7_occurrence_20 rfl (lv_at hl 1 rfl) ?_
      refine lv_iload_n hx hb dX7_occurrence_21 rfl (lv_at hl 2 rfl) ?_
      refine ah_calli (ah_runV E hP hS (As := [.int (nI i)]) (rest := [.int v1, .ref mo]) (b := mo) (m_countOf l A D _ hmo hdA htA hlA heA hnlA hneA hsA hL hin) lk_Mod_87 li_Mod_87 hmo rfl ⟨rfl, rfl, (Nat.le_of_ble_eq_true rfl), (Nat.le_of_ble_eq_true rfl)⟩ rfl hl.1 rfl (Nat.le_of_ble_eq_true rfl) dX7_occurrence_22 ⟨(Nat.le_of_ble_eq_true rfl), (Nat.le_of_ble_eq_true rfl)⟩) hS (fun r F11 H locs hq hP hS => ?_)
      obtain ⟨rfl, rfl⟩ := hq
      refine lv_icmp_lt (tgt := 32) hx hb dX7_occurrence_25 (by decide) (fun hc25 => ?_) (fun hc25 => ?_)
      · skip
        obtain ⟨t, ht, hvt⟩ : ∃ t : Nat, t < pu_cn (fun j => ah_sat P (fun u => ah_at S j u) i) S.length ∧ v1 = nI t := by
          rcases pk_ix v1 (n := pu_cn (fun j => ah_sat P (fun u => ah_at S j u) i) S.length) (by omega) with h | h | h
          · exact absurd h hc16
          · exact absurd h (Int32.not_le.mpr hc25)
          · exact h
        rw [hvt] at hl
        refine lv_iconst (v := (nI 0)) hx hb dX7_occurrence_32 (by decide) ?_
        refine ah_calli (ah_runV E hP hS (As := [.int (nI 0)]) (rest := []) (b := mo) (m_holds l A D _ hmo hdA htA hlA heA hnlA hneA hsA hL (k := 0) (by omega)) lk_Mod_46 li_Mod_46 hmo rfl ⟨rfl, rfl, (Nat.le_of_ble_eq_true rfl), (Nat.le_of_ble_eq_true rfl)⟩ rfl hl.1 rfl (Nat.le_of_ble_eq_true rfl) dX7_occurrence_33 ⟨(Nat.le_of_ble_eq_true rfl), (Nat.le_of_ble_eq_true rfl)⟩) hS (fun r F12 H locs hho33 hP hS => ?_)
        obtain ⟨eho33, hro⟩ := hho33
        have hG13 : F12 dA = some (ah_ai D 8 df) := by rw [eho33]; exact ah_keep hmo hdA rfl
        have hG14 : F12 tA = some (ah_az D 40 tf) := by rw [eho33]; exact ah_keep hmo htA rfl
        have hG15 : F12 lA = some (ah_ai D 40 lf) := by rw [eho33]; exact ah_keep hmo hlA rfl
        have hG16 : F12 eA = some (ah_ai D 320 ef) := by rw [eho33]; exact ah_keep hmo heA rfl
        have hG17 : F12 nlA = some (ah_ai D 40 nlf) := by rw [eho33]; exact ah_keep hmo hnlA rfl
        have hG18 : F12 neA = some (ah_ai D 320 nef) := by rw [eho33]; exact ah_keep hmo hneA rfl
        have hG19 : F12 sA = some (ah_ai D 200 sf) := by rw [eho33]; exact ah_keep hmo hsA rfl
        have hG20 : F12 mo = some (.inr (7, [.int (nI 0), .ref dA, .int (nI dr.length), .int (nI n), .ref tA, .ref lA, .ref eA, .ref nlA, .ref neA, .ref sA, .int (nI S.length), .int td, .int ip, .int il])) := by rw [eho33]; exact ah_up_s _ _ _
        subst hro
        refine ah_ifb_ne (tgt := 41) hx hb dX7_occurrence_36 (by decide) (fun hc36 => ?_) (fun hc36 => ?_)
        · skip
          refine lv_iload_n hx hb dX7_occurrence_41 rfl (lv_at hl 3 rfl) ?_
          refine lv_istore (lv' := [(4, .int (nI t)), (3, .int (bI_ ((ah_pi P (nI i)).isSome))), (0, .ref mo), (1, .int (nI i)), (2, .int (nI t))]) hx hb dX7_occurrence_42 hl (by decide) rfl (fun ls hl => ?_)
          refine lv_iconst (v := (nI 0)) hx hb dX7_occurrence_44 (by decide) ?_
          refine lv_istore (lv' := [(5, .int (nI 0)), (4, .int (nI t)), (3, .int (bI_ ((ah_pi P (nI i)).isSome))), (0, .ref mo), (1, .int (nI i)), (2, .int (nI t))]) hx hb dX7_occurrence_45 hl (by decide) rfl (fun ls hl => ?_)
          have L47 : ∀ (fuel : Nat), ∀ (lf2 k : Nat), S.length - k < fuel → lf2 + pu_cn (fun j => ah_sat P (fun u => ah_at S j u) i) k = t → k ≤ S.length → ∀ (H : Heap) (locs : List Loc), ah_K A D F12 H → va_S A s.heap H locs → ∀ (ls : Array Slot), lv_has ls 6 [(0, .ref mo), (1, .int (nI i)), (4, .int (nI lf2)), (5, .int (nI k))] → W p l e { frames := 2, cells := 0, slots := 0, locals := 47 } s m [.ref mo, .int v0, .int v1].toArray below meth c H locs (((0 + 0) + 0) + 0) (((0 + 0) + 0) + 0) Q (F0 m 47 ls []) := by
            intro fuel
            induction fuel with
            | zero =>
              intro lf2 k hm
              exact absurd hm (Nat.not_lt_zero _)
            | succ fuel ih47 =>
              intro lf2 k hm hlk hk H locs hP hS ls hl
              have hkl : k < S.length := by
                rcases Nat.lt_or_ge k S.length with h | h
                · exact h
                · have h9 := pu_cn_mono (fun j => ah_sat P (fun u => ah_at S j u) i) h
                  omega
              refine lv_iload hx hb dX7_occurrence_47 (lv_at hl 2 rfl) ?_
              refine ah_if_gt (tgt := 62) hx hb (by omega) dX7_occurrence_49 (by decide) (fun hc49 => ?_) (fun hc49 => ?_)
              · skip
                refine lv_iload hx hb dX7_occurrence_62 (lv_at hl 2 rfl) ?_
                refine lv_aload_n hx hb dX7_occurrence_64 rfl (lv_at hl 0 rfl) ?_
                refine lv_iload_n hx hb dX7_occurrence_65 rfl (lv_at hl 1 rfl) ?_
                refine lv_iload hx hb dX7_occurrence_66 (lv_at hl 3 rfl) ?_
                refine ah_calli (ah_runV E hP hS (As := [.int (nI i), .int (nI k)]) (rest := [.int (nI lf2)]) (b := mo) (m_stands l A D _ hG20 hG13 hG14 hG15 hG16 hG17 hG18 hG19 hL (pl := k) hin (by omega)) lk_Mod_70 li_Mod_70 hG20 rfl ⟨rfl, rfl, (Nat.le_of_ble_eq_true rfl), (Nat.le_of_ble_eq_true rfl)⟩ rfl hl.1 rfl (Nat.le_of_ble_eq_true rfl) dX7_occurrence_68 ⟨(Nat.le_of_ble_eq_true rfl), (Nat.le_of_ble_eq_true rfl)⟩) hS (fun r F21 H locs hq hP hS => ?_)
                obtain ⟨rfl, rfl⟩ := hq
                refine ah_ifb_eq (tgt := 78) hx hb dX7_occurrence_71 (by decide) (fun hc71 => ?_) (fun hc71 => ?_)
                · skip
                  refine lv_iconst (v := (nI 0)) hx hb dX7_occurrence_78 (by decide) ?_
                  refine ah_isub hx hb (by omega) dX7_occurrence_79 ?_
                  refine lv_istore (lv' := [(4, .int (nI (lf2 - 0))), (0, .ref mo), (1, .int (nI i)), (5, .int (nI k))]) hx hb dX7_occurrence_80 hl (by decide) rfl (fun ls hl => ?_)
                  refine lv_iinc (v := (nI (k + 1))) (lv' := [(5, .int (nI (k + 1))), (4, .int (nI (lf2 - 0))), (0, .ref mo), (1, .int (nI i))]) hx hb dX7_occurrence_82 hl (k := 3) rfl (ah_inc _) (by decide) rfl (fun ls hl => ?_)
                  refine lv_goto (tgt := 47) hx hb dX7_occurrence_85 (by decide) ?_
                  exact ih47 _ (k + 1) (by omega) (by rw [pu_cn_f (p := fun j => ah_sat P (fun u => ah_at S j u) i) (n := k) hc71]; omega) (by omega) _ _ hP hS ls (lv_sub hl [2, 3, 1, 0] rfl)
                · skip
                  refine lv_iconst (v := (nI 1)) hx hb dX7_occurrence_74 (by decide) ?_
                  refine lv_goto (tgt := 79) hx hb dX7_occurrence_75 (by decide) ?_
                  refine ah_isub hx hb (by omega) dX7_occurrence_79 ?_
                  refine lv_istore (lv' := [(4, .int (nI (lf2 - 1))), (0, .ref mo), (1, .int (nI i)), (5, .int (nI k))]) hx hb dX7_occurrence_80 hl (by decide) rfl (fun ls hl => ?_)
                  refine lv_iinc (v := (nI (k + 1))) (lv' := [(5, .int (nI (k + 1))), (4, .int (nI (lf2 - 1))), (0, .ref mo), (1, .int (nI i))]) hx hb dX7_occurrence_82 hl (k := 3) rfl (ah_inc _) (by decide) rfl (fun ls hl => ?_)
                  refine lv_goto (tgt := 47) hx hb dX7_occurrence_85 (by decide) ?_
                  exact ih47 _ (k + 1) (by omega) (by rw [pu_cn_t (p := fun j => ah_sat P (fun u => ah_at S j u) i) (n := k) hc71]; omega) (by omega) _ _ hP hS ls (lv_sub hl [2, 3, 1, 0] rfl)
              · skip
                refine lv_aload_n hx hb dX7_occurrence_52 rfl (lv_at hl 0 rfl) ?_
                refine lv_iload_n hx hb dX7_occurrence_53 rfl (lv_at hl 1 rfl) ?_
                refine lv_iload hx hb dX7_occurrence_54 (lv_at hl 3 rfl) ?_
                refine ah_calli (ah_runV E hP hS (As := [.int (nI i), .int (nI k)]) (rest := []) (b := mo) (m_stands l A D _ hG20 hG13 hG14 hG15 hG16 hG17 hG18 hG19 hL (pl := k) hin (by omega)) lk_Mod_70 li_Mod_70 hG20 rfl ⟨rfl, rfl, (Nat.le_of_ble_eq_true rfl), (Nat.le_of_ble_eq_true rfl)⟩ rfl hl.1 rfl (Nat.le_of_ble_eq_true rfl) dX7_occurrence_56 ⟨(Nat.le_of_ble_eq_true rfl), (Nat.le_of_ble_eq_true rfl)⟩) hS (fun r F22 H locs hq hP hS => ?_)
                obtain ⟨rfl, rfl⟩ := hq
                refine ah_ifb_ne (tgt := 88) hx hb dX7_occurrence_59 (by decide) (fun hc59 => ?_) (fun hc59 => ?_)
                · skip
                  refine lv_iload hx hb dX7_occurrence_88 (lv_at hl 3 rfl) ?_
                  have hkt : ah_kt (fun k => ah_at S k w) S.length v1 = some k := by
                    rw [← hfe]
                    have h8 : lf2 = 0 := by omega
                    subst h8
                    rw [Nat.zero_add] at hlk
                    exact ah_kt_hit hkl hc59 (by rw [hlk, hvt]) (md_kt_none (by omega) (Or.inr (by rw [hlk, hvt]; exact Int32.le_refl _)))
                  rw [hQ]
                  exact ah_iret E hr hP hS (md_An_i (k := 0) (v := nI k) (by simp only [sp_occurrence, hpi, ah_w_s hPi, hkt]) ⟨dA, tA, lA, eA, nlA, neA, sA, _, _, ln, _, _, _, _, _, _, _, hG20, hG13, hG14, hG15, hG16, hG17, hG18, hG19, hne1, hne2, hne3, hne4, hL⟩ (fun _ => rfl)) (Nat.le_of_ble_eq_true rfl) (Nat.le_of_ble_eq_true rfl) dX7_occurrence_90
                · skip
                  refine lv_iload hx hb dX7_occurrence_62 (lv_at hl 2 rfl) ?_
                  refine lv_aload_n hx hb dX7_occurrence_64 rfl (lv_at hl 0 rfl) ?_
                  refine lv_iload_n hx hb dX7_occurrence_65 rfl (lv_at hl 1 rfl) ?_
                  refine lv_iload hx hb dX7_occurrence_66 (lv_at hl 3 rfl) ?_
                  refine ah_calli (ah_runV E hP hS (As := [.int (nI i), .int (nI k)]) (rest := [.int (nI lf2)]) (b := mo) (m_stands l A D _ hG20 hG13 hG14 hG15 hG16 hG17 hG18 hG19 hL (pl := k) hin (by omega)) lk_Mod_70 li_Mod_70 hG20 rfl ⟨rfl, rfl, (Nat.le_of_ble_eq_true rfl), (Nat.le_of_ble_eq_true rfl)⟩ rfl hl.1 rfl (Nat.le_of_ble_eq_true rfl) dX7_occurrence_68 ⟨(Nat.le_of_ble_eq_true rfl), (Nat.le_of_ble_eq_true rfl)⟩) hS (fun r F23 H locs hq hP hS => ?_)
                  obtain ⟨rfl, rfl⟩ := hq
                  refine ah_ifb_eq (tgt := 78) hx hb dX7_occurrence_71 (by decide) (fun hc71 => ?_) (fun hc71 => ?_)
                  · skip
                    refine lv_iconst (v := (nI 0)) hx hb dX7_occurrence_78 (by decide) ?_
                    refine ah_isub hx hb (by omega) dX7_occurrence_79 ?_
                    refine lv_istore (lv' := [(4, .int (nI (lf2 - 0))), (0, .ref mo), (1, .int (nI i)), (5, .int (nI k))]) hx hb dX7_occurrence_80 hl (by decide) rfl (fun ls hl => ?_)
                    refine lv_iinc (v := (nI (k + 1))) (lv' := [(5, .int (nI (k + 1))), (4, .int (nI (lf2 - 0))), (0, .ref mo), (1, .int (nI i))]) hx hb dX7_occurrence_82 hl (k := 3) rfl (ah_inc _) (by decide) rfl (fun ls hl => ?_)
                    refine lv_goto (tgt := 47) hx hb dX7_occurrence_85 (by decide) ?_
                    exact ih47 _ (k + 1) (by omega) (by rw [pu_cn_f (p := fun j => ah_sat P (fun u => ah_at S j u) i) (n := k) hc71]; omega) (by omega) _ _ hP hS ls (lv_sub hl [2, 3, 1, 0] rfl)
                  · skip
                    rw [hc59] at hc71; cases hc71
          exact L47 (S.length + 1) t 0 (by omega) rfl (Nat.zero_le _) _ _ hP hS ls (lv_sub hl [3, 4, 1, 0] rfl)
        · skip
          exact absurd hc36 (by decide)
      · skip
        have hkn : ah_kt (fun k => ah_at S k w) S.length v1 = none := by rw [← hfe]; exact md_kt_none (by omega) (Or.inr (Int32.not_lt.mp hc25))
        refine lv_iconst (v := (nI 2)) hx hb dX7_occurrence_28 (by decide) ?_
        refine lv_goto (tgt := 33) hx hb dX7_occurrence_29 (by decide) ?_
        refine ah_calli (ah_runV E hP hS (As := [.int (nI 2)]) (rest := []) (b := mo) (m_holds l A D _ hmo hdA htA hlA heA hnlA hneA hsA hL (k := 2) (by omega)) lk_Mod_46 li_Mod_46 hmo rfl ⟨rfl, rfl, (Nat.le_of_ble_eq_true rfl), (Nat.le_of_ble_eq_true rfl)⟩ rfl hl.1 rfl (Nat.le_of_ble_eq_true rfl) dX7_occurrence_33 ⟨(Nat.le_of_ble_eq_true rfl), (Nat.le_of_ble_eq_true rfl)⟩) hS (fun r F24 H locs hho33 hP hS => ?_)
        obtain ⟨eho33, hro⟩ := hho33
        have hG25 : F24 dA = some (ah_ai D 8 df) := by rw [eho33]; exact ah_keep hmo hdA rfl
        have hG26 : F24 tA = some (ah_az D 40 tf) := by rw [eho33]; exact ah_keep hmo htA rfl
        have hG27 : F24 lA = some (ah_ai D 40 lf) := by rw [eho33]; exact ah_keep hmo hlA rfl
        have hG28 : F24 eA = some (ah_ai D 320 ef) := by rw [eho33]; exact ah_keep hmo heA rfl
        have hG29 : F24 nlA = some (ah_ai D 40 nlf) := by rw [eho33]; exact ah_keep hmo hnlA rfl
        have hG30 : F24 neA = some (ah_ai D 320 nef) := by rw [eho33]; exact ah_keep hmo hneA rfl
        have hG31 : F24 sA = some (ah_ai D 200 sf) := by rw [eho33]; exact ah_keep hmo hsA rfl
        have hG32 : F24 mo = some (.inr (7, [.int (nI 2), .ref dA, .int (nI dr.length), .int (nI n), .ref tA, .ref lA, .ref eA, .ref nlA, .ref neA, .ref sA, .int (nI S.length), .int td, .int ip, .int il])) := by rw [eho33]; exact ah_up_s _ _ _
        subst hro
        refine ah_ifb_ne (tgt := 41) hx hb dX7_occurrence_36 (by decide) (fun hc36 => ?_) (fun hc36 => ?_)
        · skip
          exact absurd hc36 (by decide)
        · skip
          refine lv_iconst (v := (nI 0)) hx hb dX7_occurrence_39 (by decide) ?_
          rw [hQ]
          exact ah_iret E hr hP hS (md_An_i (k := 2) (v := 0) (by simp only [sp_occurrence, hpi, ah_w_s hPi, hkn]) ⟨dA, tA, lA, eA, nlA, neA, sA, _, _, ln, _, _, _, _, _, _, _, hG32, hG25, hG26, hG27, hG28, hG29, hG30, hG31, hne1, hne2, hne3, hne4, hL⟩ (fun h => absurd h (by decide))) (Nat.le_of_ble_eq_true rfl) (Nat.le_of_ble_eq_true rfl) dX7_occurrence_40
  · skip
    have hnone := md_none hc8
    refine lv_iconst (v := (nI 1)) hx hb dX7_occurrence_11 (by decide) ?_
    refine lv_goto (tgt := 33) hx hb dX7_occurrence_12 (by decide) ?_
    refine ah_calli (ah_runV E hP hS (As := [.int (nI 1)]) (rest := []) (b := mo) (m_holds l A D _ hmo hdA htA hlA heA hnlA hneA hsA hL (k := 1) (by omega)) lk_Mod_46 li_Mod_46 hmo rfl ⟨rfl, rfl, (Nat.le_of_ble_eq_true rfl), (Nat.le_of_ble_eq_true rfl)⟩ rfl hl.1 rfl (Nat.le_of_ble_eq_true rfl) dX7_occurrence_33 ⟨(Nat.le_of_ble_eq_true rfl), (Nat.le_of_ble_eq_true rfl)⟩) hS (fun r F33 H locs hho33 hP hS => ?_)
    obtain ⟨eho33, hro⟩ := hho33
    have hG34 : F33 dA = some (ah_ai D 8 df) := by rw [eho33]; exact ah_keep hmo hdA rfl
    have hG35 : F33 tA = some (ah_az D 40 tf) := by rw [eho33]; exact ah_keep hmo htA rfl
    have hG36 : F33 lA = some (ah_ai D 40 lf) := by rw [eho33]; exact ah_keep hmo hlA rfl
    have hG37 : F33 eA = some (ah_ai D 320 ef) := by rw [eho33]; exact ah_keep hmo heA rfl
    have hG38 : F33 nlA = some (ah_ai D 40 nlf) := by rw [eho33]; exact ah_keep hmo hnlA rfl
    have hG39 : F33 neA = some (ah_ai D 320 nef) := by rw [eho33]; exact ah_keep hmo hneA rfl
    have hG40 : F33 sA = some (ah_ai D 200 sf) := by rw [eho33]; exact ah_keep hmo hsA rfl
    have hG41 : F33 mo = some (.inr (7, [.int (nI 1), .ref dA, .int (nI dr.length), .int (nI n), .ref tA, .ref lA, .ref eA, .ref nlA, .ref neA, .ref sA, .int (nI S.length), .int td, .int ip, .int il])) := by rw [eho33]; exact ah_up_s _ _ _
    subst hro
    refine ah_ifb_ne (tgt := 41) hx hb dX7_occurrence_36 (by decide) (fun hc36 => ?_) (fun hc36 => ?_)
    · skip
      exact absurd hc36 (by decide)
    · skip
      refine lv_iconst (v := (nI 0)) hx hb dX7_occurrence_39 (by decide) ?_
      rw [hQ]
      exact ah_iret E hr hP hS (md_An_i (k := 1) (v := 0) (by simp only [sp_occurrence, hnone]) ⟨dA, tA, lA, eA, nlA, neA, sA, _, _, ln, _, _, _, _, _, _, _, hG41, hG34, hG35, hG36, hG37, hG38, hG39, hG40, hne1, hne2, hne3, hne4, hL⟩ (fun h => absurd h (by decide))) (Nat.le_of_ble_eq_true rfl) (Nat.le_of_ble_eq_true rfl) dX7_occurrence_40
