/-- a pattern has that length, or it is 0 -/
def pg_L (P : ah_Pt) (Lg : Nat) : Prop := Lg = 0 ∨ ∃ (m0 : Nat) (u s0 : List Nat), m0 < 40 ∧ P m0 = some (u, s0) ∧ Lg = u.length
theorem pg_L8 {P : ah_Pt} {Lg : Nat} (hok : ah_Pok P) (h : pg_L P Lg) : Lg ≤ 8 := by
  rcases h with h | ⟨m0, u, s0, h1, h2, h3⟩
  · omega
  · rw [h3]; exact (hok _ _ _ h2).1.1
theorem pg_Lb {P : ah_Pt} {Lg : Nat} (h : pg_L P Lg) : Lg ≤ pu_cb P 40 := by
  rcases h with h | ⟨m0, u, s0, h1, h2, h3⟩
  · omega
  · rw [h3]; exact pb_ge' h1 h2
set_option maxHeartbeats 4000000 in
set_option maxRecDepth 100000 in
/-- arePatterns -/
theorem w_arePatterns (l : Launch) (A : Nat → Prop) (D : ah_G) (F : ah_F) {x n : Nat} {P : ah_Pt} {dr S : List Nat} {td : Int32} (hC : ah_C D F x P n dr S td) {o : Nat} {rv : Nat → Int32} (ho : F o = some (ah_ai D 42 rv)) (hR : pr_R P n dr rv) : Met l yL_arePatterns (Cond.code yL_arePatterns cL_arePatterns 9 (some .boolean) :: ah_T) { frames := 5, cells := 0, slots := 0, locals := 116 } (va_Pc [.ref x, .ref o] (ah_B A D F)) (ah_Qi A D (fun (r : Int32) F1 => F = F1 ∧ nI 1 = r)) 0 0 A := by
  refine ah_met (own := "AhoarchLaw") (by decide) rfl (Nat.le_of_ble_eq_true rfl) ?_
  intro p e s m below meth c ls E hr hini hl hP hS Q hQ
  have hx := E.1
  have hb := E.2.1
  have hl : lv_has ls 9 [(0, .ref x), (1, .ref o)] := hl
  obtain ⟨hPok, hn40, hPn, hS200, hSlt, hdok, hcnt⟩ := ah_C_ok hC
  obtain ⟨fs0, hxx⟩ := ah_C_x hC
  obtain ⟨hdl8, hdlt⟩ := id hdok
  have hoc := ah_oc_le P S S.length
  have hfin := pb_fin hPok hn40 hPn
  refine lv_iconst (v := (nI 0)) hx hb dL_arePatterns_0 (by decide) ?_
  refine lv_istore_n (lv' := [(2, .int (nI 0)), (0, .ref x), (1, .ref o)]) hx hb dL_arePatterns_1 rfl hl (by decide) rfl (fun ls hl => ?_)
  refine lv_iconst (v := (nI 0)) hx hb dL_arePatterns_2 (by decide) ?_
  refine lv_istore_n (lv' := [(3, .int (nI 0)), (2, .int (nI 0)), (0, .ref x), (1, .ref o)]) hx hb dL_arePatterns_3 rfl hl (by decide) rfl (fun ls hl => ?_)
  refine lv_iconst (v := (nI 0)) hx hb dL_arePatterns_4 (by decide) ?_
  refine lv_istore (lv' := [(4, .int (nI 0)), (3, .int (nI 0)), (2, .int (nI 0)), (0, .ref x), (1, .ref o)]) hx hb dL_arePatterns_5 hl (by decide) rfl (fun ls hl => ?_)
  refine lv_iconst (v := (nI 1)) hx hb dL_arePatterns_7 (by decide) ?_
  refine lv_istore (lv' := [(5, .int (nI 1)), (4, .int (nI 0)), (3, .int (nI 0)), (2, .int (nI 0)), (0, .ref x), (1, .ref o)]) hx hb dL_arePatterns_8 hl (by decide) rfl (fun ls hl => ?_)
  refine lv_iconst (v := (nI 0)) hx hb dL_arePatterns_10 (by decide) ?_
  refine lv_istore (lv' := [(6, .int (nI 0)), (5, .int (nI 1)), (4, .int (nI 0)), (3, .int (nI 0)), (2, .int (nI 0)), (0, .ref x), (1, .ref o)]) hx hb dL_arePatterns_11 hl (by decide) rfl (fun ls hl => ?_)
  have L13 : ∀ (fuel : Nat), ∀ (p0 su le Lg : Nat), n - p0 < fuel → p0 ≤ n → su = pm_sm (pm_n P S) p0 → le = pm_sm (pm_l P) p0 → pg_L P Lg → ∀ (H : Heap) (locs : List Loc), ah_K A D F H → va_S A s.heap H locs → ∀ (ls : Array Slot), lv_has ls 9 [(0, .ref x), (1, .ref o), (2, .int (nI su)), (3, .int (nI le)), (4, .int (nI Lg)), (5, .int (nI 1)), (6, .int (nI p0))] → W p l e { frames := 5, cells := 0, slots := 0, locals := 116 } s m [.ref x, .ref o].toArray below meth c H locs 0 0 Q (F0 m 13 ls []) := by
    intro fuel
    induction fuel with
    | zero =>
      intro p0 su le Lg hm
      exact absurd hm (Nat.not_lt_zero _)
    | succ fuel ih13 =>
      intro p0 su le Lg hm hp0n hsu hle hLg H locs hP hS ls hl
      have hpl := pr_l_le hPok p0
      refine lv_iload hx hb dL_arePatterns_13 (lv_at hl 6 rfl) ?_
      refine lv_aload_n hx hb dL_arePatterns_15 rfl (lv_at hl 1 rfl) ?_
      refine lv_bipush (v := (nI 40)) hx hb dL_arePatterns_16 (by decide) ?_
      refine ah_iald E hP ho (by omega) (by omega) dL_arePatterns_18 ?_
      rw [hR.2.1]
      refine ah_icmp_ge (tgt := 264) hx hb (by omega) (by omega) dL_arePatterns_19 (by decide) (fun hc19 => ?_) (fun hc19 => ?_)
      · skip
        have hpe : p0 = n := by omega
        have hse : su = ah_oc P S S.length := by rw [hsu, hpe]; exact pm_occ hPok hn40 hPn
        rw [hpe] at hle
        have hLb := pg_Lb hLg
        refine lv_iload hx hb dL_arePatterns_264 (lv_at hl 5 rfl) ?_
        refine ah_if_eq (tgt := 298) hx hb (by omega) dL_arePatterns_266 (by decide) (fun hc266 => ?_) (fun hc266 => ?_)
        · skip
          exact absurd hc266 (by decide)
        · skip
          refine lv_aload_n hx hb dL_arePatterns_269 rfl (lv_at hl 0 rfl) ?_
          refine ah_calli (ah_runV E hP hS (As := []) (rest := []) (b := x) (c_occurrences l A D _ hC) lk_Law_58 li_Law_58 hxx rfl ⟨rfl, rfl, (Nat.le_of_ble_eq_true rfl), (Nat.le_of_ble_eq_true rfl)⟩ rfl hl.1 rfl (Nat.le_of_ble_eq_true rfl) dL_arePatterns_270 ⟨(Nat.le_of_ble_eq_true rfl), (Nat.le_of_ble_eq_true rfl)⟩) hS (fun r F1 H locs hq hP hS => ?_)
          obtain ⟨rfl, rfl⟩ := hq
          refine lv_iload_n hx hb dL_arePatterns_273 rfl (lv_at hl 2 rfl) ?_
          refine ah_icmp_ne (tgt := 298) hx hb (by omega) (by omega) dL_arePatterns_274 (by decide) (fun hc274 => ?_) (fun hc274 => ?_)
          · skip
            exact (hc274 (by omega)).elim
          · skip
            refine lv_aload_n hx hb dL_arePatterns_277 rfl (lv_at hl 0 rfl) ?_
            refine ah_calli (ah_runV E hP hS (As := []) (rest := []) (b := x) (c_beginnings l A D _ hC) lk_Law_97 li_Law_97 hxx rfl ⟨rfl, rfl, (Nat.le_of_ble_eq_true rfl), (Nat.le_of_ble_eq_true rfl)⟩ rfl hl.1 rfl (Nat.le_of_ble_eq_true rfl) dL_arePatterns_278 ⟨(Nat.le_of_ble_eq_true rfl), (Nat.le_of_ble_eq_true rfl)⟩) hS (fun r F2 H locs hq hP hS => ?_)
            obtain ⟨rfl, rfl⟩ := hq
            refine lv_iload_n hx hb dL_arePatterns_281 rfl (lv_at hl 3 rfl) ?_
            refine ah_icmp_gt (tgt := 298) hx hb (by omega) (by omega) dL_arePatterns_282 (by decide) (fun hc282 => ?_) (fun hc282 => ?_)
            · skip
              exact absurd hc282 (by omega)
            · skip
              refine lv_aload_n hx hb dL_arePatterns_285 rfl (lv_at hl 0 rfl) ?_
              refine ah_calli (ah_runV E hP hS (As := []) (rest := []) (b := x) (c_beginnings l A D _ hC) lk_Law_97 li_Law_97 hxx rfl ⟨rfl, rfl, (Nat.le_of_ble_eq_true rfl), (Nat.le_of_ble_eq_true rfl)⟩ rfl hl.1 rfl (Nat.le_of_ble_eq_true rfl) dL_arePatterns_286 ⟨(Nat.le_of_ble_eq_true rfl), (Nat.le_of_ble_eq_true rfl)⟩) hS (fun r F3 H locs hq hP hS => ?_)
              obtain ⟨rfl, rfl⟩ := hq
              refine lv_iload hx hb dL_arePatterns_289 (lv_at hl 4 rfl) ?_
              refine ah_icmp_lt (tgt := 298) hx hb (by omega) (by omega) dL_arePatterns_291 (by decide) (fun hc291 => ?_) (fun hc291 => ?_)
              · skip
                exact absurd hc291 (by omega)
              · skip
                refine lv_iconst (v := (nI 1)) hx hb dL_arePatterns_294 (by decide) ?_
                refine lv_goto (tgt := 299) hx hb dL_arePatterns_295 (by decide) ?_
                rw [hQ]
                exact ah_zret E hr (by first | exact bI_nz _ | decide) hP hS ⟨rfl, rfl⟩ (Nat.le_of_ble_eq_true rfl) (Nat.le_of_ble_eq_true rfl) dL_arePatterns_299
      · skip
        refine lv_iload hx hb dL_arePatterns_22 (lv_at hl 5 rfl) ?_
        refine ah_if_eq (tgt := 264) hx hb (by omega) dL_arePatterns_24 (by decide) (fun hc24 => ?_) (fun hc24 => ?_)
        · skip
          exact absurd hc24 (by decide)
        · skip
          refine lv_aload_n hx hb dL_arePatterns_27 rfl (lv_at hl 1 rfl) ?_
          refine lv_iload hx hb dL_arePatterns_28 (lv_at hl 6 rfl) ?_
          refine ah_iald E hP ho (by omega) (by omega) dL_arePatterns_30 ?_
          rw [hR.1 p0 (by omega)]
          refine ah_if_le (tgt := 258) hx hb (by omega) dL_arePatterns_31 (by decide) (fun hc31 => ?_) (fun hc31 => ?_)
          · skip
            have hp0 := pr_l_n hc31
            refine lv_iinc (v := (nI (p0 + 1))) (lv' := [(6, .int (nI (p0 + 1))), (0, .ref x), (1, .ref o), (2, .int (nI su)), (3, .int (nI le)), (4, .int (nI Lg)), (5, .int (nI 1))]) hx hb dL_arePatterns_258 hl (k := 6) rfl (ah_inc _) (by decide) rfl (fun ls hl => ?_)
            refine lv_goto (tgt := 13) hx hb dL_arePatterns_261 (by decide) ?_
            exact ih13 (p0 + 1) su le Lg (by omega) (by omega) (by have h9 : pm_sm (pm_n P S) (p0 + 1) = pm_sm (pm_n P S) p0 + pm_n P S p0 := rfl; rw [h9, pm_n_n hp0]; omega) (by have h9 : pm_sm (pm_l P) (p0 + 1) = pm_sm (pm_l P) p0 + pm_l P p0 := rfl; rw [h9, pm_l_0 hp0]; omega) hLg _ _ hP hS ls (lv_sub hl [1, 2, 3, 4, 5, 6, 0] rfl)
          · skip
            obtain ⟨w, r0, hp0⟩ := pr_l_s hc31
            have hok := hPok _ _ _ hp0
            have hwp := List.length_pos_iff.mpr hok.2.2
            have hwl := hok.1.1
            have hj : p0 < 40 := by omega
            have hml := pu_cn_le (fun i => ah_at S i w) S.length
            have hlk := pl_lt (P := P) hwp
            refine lv_aload_n hx hb dL_arePatterns_34 rfl (lv_at hl 0 rfl) ?_
            refine lv_iload hx hb dL_arePatterns_35 (lv_at hl 6 rfl) ?_
            refine ah_calli (ah_runV E hP hS (As := [.int (nI p0)]) (rest := []) (b := x) (q_occurrencesOf l A D _ hC hj hp0) lk_Law_84 li_Law_84 hxx rfl ⟨rfl, rfl, (Nat.le_of_ble_eq_true rfl), (Nat.le_of_ble_eq_true rfl)⟩ rfl hl.1 rfl (Nat.le_of_ble_eq_true rfl) dL_arePatterns_37 ⟨(Nat.le_of_ble_eq_true rfl), (Nat.le_of_ble_eq_true rfl)⟩) hS (fun r F4 H locs hq hP hS => ?_)
            obtain ⟨rfl, rfl⟩ := hq
            refine lv_istore (lv' := [(7, .int (nI (pu_cn (fun i => ah_at S i w) S.length))), (0, .ref x), (1, .ref o), (2, .int (nI su)), (3, .int (nI le)), (4, .int (nI Lg)), (5, .int (nI 1)), (6, .int (nI p0))]) hx hb dL_arePatterns_40 hl (by decide) rfl (fun ls hl => ?_)
            refine lv_iload_n hx hb dL_arePatterns_42 rfl (lv_at hl 3 rfl) ?_
            refine lv_iload hx hb dL_arePatterns_43 (lv_at hl 0 rfl) ?_
            refine ah_iadd hx hb dL_arePatterns_45 ?_
            refine lv_istore_n (lv' := [(2, .int (nI (su + (pu_cn (fun i => ah_at S i w) S.length)))), (7, .int (nI (pu_cn (fun i => ah_at S i w) S.length))), (0, .ref x), (1, .ref o), (3, .int (nI le)), (4, .int (nI Lg)), (5, .int (nI 1)), (6, .int (nI p0))]) hx hb dL_arePatterns_46 rfl hl (by decide) rfl (fun ls hl => ?_)
            refine lv_iload_n hx hb dL_arePatterns_47 rfl (lv_at hl 4 rfl) ?_
            refine lv_aload_n hx hb dL_arePatterns_48 rfl (lv_at hl 2 rfl) ?_
            refine lv_iload hx hb dL_arePatterns_49 (lv_at hl 7 rfl) ?_
            refine ah_calli (ah_runV E hP hS (As := [.int (nI p0)]) (rest := [.int (nI le)]) (b := x) (q_length l A D _ hC hj hp0) lk_Law_40 li_Law_40 hxx rfl ⟨rfl, rfl, (Nat.le_of_ble_eq_true rfl), (Nat.le_of_ble_eq_true rfl)⟩ rfl hl.1 rfl (Nat.le_of_ble_eq_true rfl) dL_arePatterns_51 ⟨(Nat.le_of_ble_eq_true rfl), (Nat.le_of_ble_eq_true rfl)⟩) hS (fun r F5 H locs hq hP hS => ?_)
            obtain ⟨rfl, rfl⟩ := hq
            refine ah_iadd hx hb dL_arePatterns_54 ?_
            refine lv_istore_n (lv' := [(3, .int (nI (le + w.length))), (2, .int (nI (su + (pu_cn (fun i => ah_at S i w) S.length)))), (7, .int (nI (pu_cn (fun i => ah_at S i w) S.length))), (0, .ref x), (1, .ref o), (4, .int (nI Lg)), (5, .int (nI 1)), (6, .int (nI p0))]) hx hb dL_arePatterns_55 rfl hl (by decide) rfl (fun ls hl => ?_)
            have J80 : ∀ (Lg2 : Nat), pg_L P Lg2 → ∀ (H : Heap) (locs : List Loc), ah_K A D F H → va_S A s.heap H locs → ∀ (ls : Array Slot), lv_has ls 9 [(0, .ref x), (1, .ref o), (2, .int (nI (su + pu_cn (fun i => ah_at S i w) S.length))), (3, .int (nI (le + w.length))), (4, .int (nI Lg2)), (5, .int (nI 1)), (6, .int (nI p0)), (7, .int (nI (pu_cn (fun i => ah_at S i w) S.length)))] → W p l e { frames := 5, cells := 0, slots := 0, locals := 116 } s m [.ref x, .ref o].toArray below meth c H locs ((0 + 0) + 0) ((0 + 0) + 0) Q (F0 m 80 ls []) := by
              intro Lg2 hLg2 H locs hP hS ls hl
              refine lv_aload_n hx hb dL_arePatterns_80 rfl (lv_at hl 0 rfl) ?_
              refine lv_iload hx hb dL_arePatterns_81 (lv_at hl 6 rfl) ?_
              refine ah_calli (ah_runV E hP hS (As := [.int (nI p0)]) (rest := []) (b := x) (q_link l A D _ hC hj hp0) lk_Law_87 li_Law_87 hxx rfl ⟨rfl, rfl, (Nat.le_of_ble_eq_true rfl), (Nat.le_of_ble_eq_true rfl)⟩ rfl hl.1 rfl (Nat.le_of_ble_eq_true rfl) dL_arePatterns_83 ⟨(Nat.le_of_ble_eq_true rfl), (Nat.le_of_ble_eq_true rfl)⟩) hS (fun r F6 H locs hq hP hS => ?_)
              obtain ⟨rfl, rfl⟩ := hq
              refine ah_if_lt (tgt := 108) hx hb (by omega) dL_arePatterns_86 (by decide) ?_
              refine lv_aload_n hx hb dL_arePatterns_89 rfl (lv_at hl 0 rfl) ?_
              refine lv_iload hx hb dL_arePatterns_90 (lv_at hl 6 rfl) ?_
              refine ah_calli (ah_runV E hP hS (As := [.int (nI p0)]) (rest := []) (b := x) (q_link l A D _ hC hj hp0) lk_Law_87 li_Law_87 hxx rfl ⟨rfl, rfl, (Nat.le_of_ble_eq_true rfl), (Nat.le_of_ble_eq_true rfl)⟩ rfl hl.1 rfl (Nat.le_of_ble_eq_true rfl) dL_arePatterns_92 ⟨(Nat.le_of_ble_eq_true rfl), (Nat.le_of_ble_eq_true rfl)⟩) hS (fun r F7 H locs hq hP hS => ?_)
              obtain ⟨rfl, rfl⟩ := hq
              refine lv_aload_n hx hb dL_arePatterns_95 rfl (lv_at hl 0 rfl) ?_
              refine lv_iload hx hb dL_arePatterns_96 (lv_at hl 6 rfl) ?_
              refine ah_calli (ah_runV E hP hS (As := [.int (nI p0)]) (rest := [.int (nI (ah_le P w (w.length - 1)))]) (b := x) (q_length l A D _ hC hj hp0) lk_Law_40 li_Law_40 hxx rfl ⟨rfl, rfl, (Nat.le_of_ble_eq_true rfl), (Nat.le_of_ble_eq_true rfl)⟩ rfl hl.1 rfl (Nat.le_of_ble_eq_true rfl) dL_arePatterns_98 ⟨(Nat.le_of_ble_eq_true rfl), (Nat.le_of_ble_eq_true rfl)⟩) hS (fun r F8 H locs hq hP hS => ?_)
              obtain ⟨rfl, rfl⟩ := hq
              refine ah_icmp_ge (tgt := 108) hx hb (by omega) (by omega) dL_arePatterns_101 (by decide) (fun hc101 => ?_) (fun hc101 => ?_)
              · skip
                exact absurd hc101 (by omega)
              · skip
                refine lv_iconst (v := (nI 1)) hx hb dL_arePatterns_104 (by decide) ?_
                refine lv_goto (tgt := 109) hx hb dL_arePatterns_105 (by decide) ?_
                refine lv_istore (lv' := [(5, .int (nI 1)), (0, .ref x), (1, .ref o), (2, .int (nI (su + pu_cn (fun i => ah_at S i w) S.length))), (3, .int (nI (le + w.length))), (4, .int (nI Lg2)), (6, .int (nI p0)), (7, .int (nI (pu_cn (fun i => ah_at S i w) S.length)))]) hx hb dL_arePatterns_109 hl (by decide) rfl (fun ls hl => ?_)
                refine lv_iconst (v := (nI 0)) hx hb dL_arePatterns_111 (by decide) ?_
                refine lv_istore (lv' := [(8, .int (nI 0)), (5, .int (nI 1)), (0, .ref x), (1, .ref o), (2, .int (nI (su + pu_cn (fun i => ah_at S i w) S.length))), (3, .int (nI (le + w.length))), (4, .int (nI Lg2)), (6, .int (nI p0)), (7, .int (nI (pu_cn (fun i => ah_at S i w) S.length)))]) hx hb dL_arePatterns_112 hl (by decide) rfl (fun ls hl => ?_)
                have L114 : ∀ (fuel : Nat), ∀ (k : Nat), pu_cn (fun i => ah_at S i w) S.length - k < fuel → k ≤ pu_cn (fun i => ah_at S i w) S.length → ∀ (H : Heap) (locs : List Loc), ah_K A D F H → va_S A s.heap H locs → ∀ (ls : Array Slot), lv_has ls 9 [(0, .ref x), (1, .ref o), (2, .int (nI (su + pu_cn (fun i => ah_at S i w) S.length))), (3, .int (nI (le + w.length))), (4, .int (nI Lg2)), (5, .int (nI 1)), (6, .int (nI p0)), (7, .int (nI (pu_cn (fun i => ah_at S i w) S.length))), (8, .int (nI k))] → W p l e { frames := 5, cells := 0, slots := 0, locals := 116 } s m [.ref x, .ref o].toArray below meth c H locs (((((0 + 0) + 0) + 0) + 0) + 0) (((((0 + 0) + 0) + 0) + 0) + 0) Q (F0 m 114 ls []) := by
                  intro fuel
                  induction fuel with
                  | zero =>
                    intro k hm
                    exact absurd hm (Nat.not_lt_zero _)
                  | succ fuel ih114 =>
                    intro k hm hk H locs hP hS ls hl
                    refine lv_iload hx hb dL_arePatterns_114 (lv_at hl 8 rfl) ?_
                    refine lv_iload hx hb dL_arePatterns_116 (lv_at hl 7 rfl) ?_
                    refine ah_icmp_ge (tgt := 187) hx hb (by omega) (by omega) dL_arePatterns_118 (by decide) (fun hc118 => ?_) (fun hc118 => ?_)
                    · skip
                      refine lv_iconst (v := (nI 0)) hx hb dL_arePatterns_187 (by decide) ?_
                      refine lv_istore (lv' := [(8, .int (nI 0)), (0, .ref x), (1, .ref o), (2, .int (nI (su + pu_cn (fun i => ah_at S i w) S.length))), (3, .int (nI (le + w.length))), (4, .int (nI Lg2)), (5, .int (nI 1)), (6, .int (nI p0)), (7, .int (nI (pu_cn (fun i => ah_at S i w) S.length)))]) hx hb dL_arePatterns_188 hl (by decide) rfl (fun ls hl => ?_)
                      have L190 : ∀ (fuel : Nat), ∀ (q0 : Nat), n - q0 < fuel → q0 ≤ n → ∀ (H : Heap) (locs : List Loc), ah_K A D F H → va_S A s.heap H locs → ∀ (ls : Array Slot), lv_has ls 9 [(0, .ref x), (1, .ref o), (2, .int (nI (su + pu_cn (fun i => ah_at S i w) S.length))), (3, .int (nI (le + w.length))), (4, .int (nI Lg2)), (5, .int (nI 1)), (6, .int (nI p0)), (8, .int (nI q0))] → W p l e { frames := 5, cells := 0, slots := 0, locals := 116 } s m [.ref x, .ref o].toArray below meth c H locs (((((0 + 0) + 0) + 0) + 0) + 0) (((((0 + 0) + 0) + 0) + 0) + 0) Q (F0 m 190 ls []) := by
                        intro fuel
                        induction fuel with
                        | zero =>
                          intro q0 hm
                          exact absurd hm (Nat.not_lt_zero _)
                        | succ fuel ih190 =>
                          intro q0 hm hq0 H locs hP hS ls hl
                          have hpl2 := pr_l_le hPok q0
                          refine lv_iload hx hb dL_arePatterns_190 (lv_at hl 7 rfl) ?_
                          refine lv_aload_n hx hb dL_arePatterns_192 rfl (lv_at hl 1 rfl) ?_
                          refine lv_bipush (v := (nI 40)) hx hb dL_arePatterns_193 (by decide) ?_
                          refine ah_iald E hP ho (by omega) (by omega) dL_arePatterns_195 ?_
                          rw [hR.2.1]
                          refine ah_icmp_ge (tgt := 258) hx hb (by omega) (by omega) dL_arePatterns_196 (by decide) (fun hc196 => ?_) (fun hc196 => ?_)
                          · skip
                            refine lv_iinc (v := (nI (p0 + 1))) (lv' := [(6, .int (nI (p0 + 1))), (0, .ref x), (1, .ref o), (2, .int (nI (su + pu_cn (fun i => ah_at S i w) S.length))), (3, .int (nI (le + w.length))), (4, .int (nI Lg2)), (5, .int (nI 1)), (8, .int (nI q0))]) hx hb dL_arePatterns_258 hl (k := 6) rfl (ah_inc _) (by decide) rfl (fun ls hl => ?_)
                            refine lv_goto (tgt := 13) hx hb dL_arePatterns_261 (by decide) ?_
                            exact ih13 (p0 + 1) _ _ Lg2 (by omega) (by omega) (by have h9 : pm_sm (pm_n P S) (p0 + 1) = pm_sm (pm_n P S) p0 + pm_n P S p0 := rfl; rw [h9, pm_n_s hp0]; omega) (by have h9 : pm_sm (pm_l P) (p0 + 1) = pm_sm (pm_l P) p0 + pm_l P p0 := rfl; rw [h9, pm_l_s hp0]; omega) hLg2 _ _ hP hS ls (lv_sub hl [1, 2, 3, 4, 5, 6, 0] rfl)
                          · skip
                            refine lv_iload hx hb dL_arePatterns_199 (lv_at hl 5 rfl) ?_
                            refine ah_if_eq (tgt := 258) hx hb (by omega) dL_arePatterns_201 (by decide) (fun hc201 => ?_) (fun hc201 => ?_)
                            · skip
                              exact absurd hc201 (by decide)
                            · skip
                              refine lv_aload_n hx hb dL_arePatterns_204 rfl (lv_at hl 1 rfl) ?_
                              refine lv_iload hx hb dL_arePatterns_205 (lv_at hl 7 rfl) ?_
                              refine ah_iald E hP ho (by omega) (by omega) dL_arePatterns_207 ?_
                              rw [hR.1 q0 (by omega)]
                              refine ah_if_eq (tgt := 245) hx hb (by omega) dL_arePatterns_208 (by decide) (fun hc208 => ?_) (fun hc208 => ?_)
                              · skip
                                refine lv_iconst (v := (nI 1)) hx hb dL_arePatterns_245 (by decide) ?_
                                refine lv_goto (tgt := 250) hx hb dL_arePatterns_246 (by decide) ?_
                                refine lv_istore (lv' := [(5, .int (nI 1)), (0, .ref x), (1, .ref o), (2, .int (nI (su + pu_cn (fun i => ah_at S i w) S.length))), (3, .int (nI (le + w.length))), (4, .int (nI Lg2)), (6, .int (nI p0)), (8, .int (nI q0))]) hx hb dL_arePatterns_250 hl (by decide) rfl (fun ls hl => ?_)
                                refine lv_iinc (v := (nI (q0 + 1))) (lv' := [(8, .int (nI (q0 + 1))), (5, .int (nI 1)), (0, .ref x), (1, .ref o), (2, .int (nI (su + pu_cn (fun i => ah_at S i w) S.length))), (3, .int (nI (le + w.length))), (4, .int (nI Lg2)), (6, .int (nI p0))]) hx hb dL_arePatterns_252 hl (k := 7) rfl (ah_inc _) (by decide) rfl (fun ls hl => ?_)
                                refine lv_goto (tgt := 190) hx hb dL_arePatterns_255 (by decide) ?_
                                exact ih190 (q0 + 1) (by omega) (by omega) _ _ hP hS ls (lv_sub hl [2, 3, 4, 5, 6, 1, 7, 0] rfl)
                              · skip
                                obtain ⟨w2, r2, hp2⟩ := pr_l_s hc208
                                have hok2 := hPok _ _ _ hp2
                                have hwp2 := List.length_pos_iff.mpr hok2.2.2
                                have hwl2 := hok2.1.1
                                have hj2 : q0 < 40 := by omega
                                have hov := po_link (w := w) hj2 hp2 hwp
                                have hov2 := po_lt (w := w) hwp2
                                refine lv_aload_n hx hb dL_arePatterns_211 rfl (lv_at hl 0 rfl) ?_
                                refine lv_iload hx hb dL_arePatterns_212 (lv_at hl 6 rfl) ?_
                                refine lv_iload hx hb dL_arePatterns_214 (lv_at hl 7 rfl) ?_
                                refine ah_calli (ah_runV E hP hS (As := [.int (nI p0), .int (nI q0)]) (rest := []) (b := x) (q_overlap l A D _ hC hj hp0 hj2 hp2) lk_Law_94 li_Law_94 hxx rfl ⟨rfl, rfl, (Nat.le_of_ble_eq_true rfl), (Nat.le_of_ble_eq_true rfl)⟩ rfl hl.1 rfl (Nat.le_of_ble_eq_true rfl) dL_arePatterns_216 ⟨(Nat.le_of_ble_eq_true rfl), (Nat.le_of_ble_eq_true rfl)⟩) hS (fun r F9 H locs hq hP hS => ?_)
                                obtain ⟨rfl, rfl⟩ := hq
                                refine lv_aload_n hx hb dL_arePatterns_219 rfl (lv_at hl 0 rfl) ?_
                                refine lv_iload hx hb dL_arePatterns_220 (lv_at hl 6 rfl) ?_
                                refine ah_calli (ah_runV E hP hS (As := [.int (nI p0)]) (rest := [.int (nI (ah_ov w w2 (min w.length w2.length - 1)))]) (b := x) (q_link l A D _ hC hj hp0) lk_Law_87 li_Law_87 hxx rfl ⟨rfl, rfl, (Nat.le_of_ble_eq_true rfl), (Nat.le_of_ble_eq_true rfl)⟩ rfl hl.1 rfl (Nat.le_of_ble_eq_true rfl) dL_arePatterns_222 ⟨(Nat.le_of_ble_eq_true rfl), (Nat.le_of_ble_eq_true rfl)⟩) hS (fun r F10 H locs hq hP hS => ?_)
                                obtain ⟨rfl, rfl⟩ := hq
                                refine ah_icmp_gt (tgt := 249) hx hb (by omega) (by omega) dL_arePatterns_225 (by decide) (fun hc225 => ?_) (fun hc225 => ?_)
                                · skip
                                  exact absurd hc225 (by omega)
                                · skip
                                  refine lv_aload_n hx hb dL_arePatterns_228 rfl (lv_at hl 0 rfl) ?_
                                  refine lv_iload hx hb dL_arePatterns_229 (lv_at hl 6 rfl) ?_
                                  refine lv_iload hx hb dL_arePatterns_231 (lv_at hl 7 rfl) ?_
                                  refine ah_calli (ah_runV E hP hS (As := [.int (nI p0), .int (nI q0)]) (rest := []) (b := x) (q_overlap l A D _ hC hj hp0 hj2 hp2) lk_Law_94 li_Law_94 hxx rfl ⟨rfl, rfl, (Nat.le_of_ble_eq_true rfl), (Nat.le_of_ble_eq_true rfl)⟩ rfl hl.1 rfl (Nat.le_of_ble_eq_true rfl) dL_arePatterns_233 ⟨(Nat.le_of_ble_eq_true rfl), (Nat.le_of_ble_eq_true rfl)⟩) hS (fun r F11 H locs hq hP hS => ?_)
                                  obtain ⟨rfl, rfl⟩ := hq
                                  refine lv_aload_n hx hb dL_arePatterns_236 rfl (lv_at hl 0 rfl) ?_
                                  refine lv_iload hx hb dL_arePatterns_237 (lv_at hl 7 rfl) ?_
                                  refine ah_calli (ah_runV E hP hS (As := [.int (nI q0)]) (rest := [.int (nI (ah_ov w w2 (min w.length w2.length - 1)))]) (b := x) (q_length l A D _ hC hj2 hp2) lk_Law_40 li_Law_40 hxx rfl ⟨rfl, rfl, (Nat.le_of_ble_eq_true rfl), (Nat.le_of_ble_eq_true rfl)⟩ rfl hl.1 rfl (Nat.le_of_ble_eq_true rfl) dL_arePatterns_239 ⟨(Nat.le_of_ble_eq_true rfl), (Nat.le_of_ble_eq_true rfl)⟩) hS (fun r F12 H locs hq hP hS => ?_)
                                  obtain ⟨rfl, rfl⟩ := hq
                                  refine ah_icmp_ge (tgt := 249) hx hb (by omega) (by omega) dL_arePatterns_242 (by decide) (fun hc242 => ?_) (fun hc242 => ?_)
                                  · skip
                                    exact absurd hc242 (by omega)
                                  · skip
                                    refine lv_iconst (v := (nI 1)) hx hb dL_arePatterns_245 (by decide) ?_
                                    refine lv_goto (tgt := 250) hx hb dL_arePatterns_246 (by decide) ?_
                                    refine lv_istore (lv' := [(5, .int (nI 1)), (0, .ref x), (1, .ref o), (2, .int (nI (su + pu_cn (fun i => ah_at S i w) S.length))), (3, .int (nI (le + w.length))), (4, .int (nI Lg2)), (6, .int (nI p0)), (8, .int (nI q0))]) hx hb dL_arePatterns_250 hl (by decide) rfl (fun ls hl => ?_)
                                    refine lv_iinc (v := (nI (q0 + 1))) (lv' := [(8, .int (nI (q0 + 1))), (5, .int (nI 1)), (0, .ref x), (1, .ref o), (2, .int (nI (su + pu_cn (fun i => ah_at S i w) S.length))), (3, .int (nI (le + w.length))), (4, .int (nI Lg2)), (6, .int (nI p0))]) hx hb dL_arePatterns_252 hl (k := 7) rfl (ah_inc _) (by decide) rfl (fun ls hl => ?_)
                                    refine lv_goto (tgt := 190) hx hb dL_arePatterns_255 (by decide) ?_
                                    exact ih190 (q0 + 1) (by omega) (by omega) _ _ hP hS ls (lv_sub hl [2, 3, 4, 5, 6, 1, 7, 0] rfl)
                      exact L190 (n + 1) 0 (by omega) (Nat.zero_le _) _ _ hP hS ls (lv_sub hl [1, 2, 3, 4, 5, 6, 7, 0] rfl)
                    · skip
                      refine lv_iload hx hb dL_arePatterns_121 (lv_at hl 5 rfl) ?_
                      refine ah_if_eq (tgt := 187) hx hb (by omega) dL_arePatterns_123 (by decide) (fun hc123 => ?_) (fun hc123 => ?_)
                      · skip
                        exact absurd hc123 (by decide)
                      · skip
                        refine lv_aload_n hx hb dL_arePatterns_126 rfl (lv_at hl 0 rfl) ?_
                        refine lv_iload hx hb dL_arePatterns_127 (lv_at hl 6 rfl) ?_
                        refine lv_iload hx hb dL_arePatterns_129 (lv_at hl 8 rfl) ?_
                        obtain ⟨i2, hi2, hat2, hk2⟩ := pc_ex (p := (fun i => ah_at S i w)) (k := k) (n := S.length) (by omega)
                        have hkt := pc_kt (p := (fun i => ah_at S i w)) (n := S.length) (by omega) hi2 hat2 hk2
                        have hin := ah_at_in hat2 hok.2.2
                        refine ah_calli (ah_runV E hP hS (As := [.int (nI p0), .int (nI k)]) (rest := []) (b := x) (q_occurrence l A D _ hC hj hp0 hkt) lk_Law_90 li_Law_90 hxx rfl ⟨rfl, rfl, (Nat.le_of_ble_eq_true rfl), (Nat.le_of_ble_eq_true rfl)⟩ rfl hl.1 rfl (Nat.le_of_ble_eq_true rfl) dL_arePatterns_131 ⟨(Nat.le_of_ble_eq_true rfl), (Nat.le_of_ble_eq_true rfl)⟩) hS (fun r F13 H locs hq hP hS => ?_)
                        obtain ⟨rfl, rfl⟩ := hq
                        refine lv_aload_n hx hb dL_arePatterns_134 rfl (lv_at hl 0 rfl) ?_
                        refine lv_iload hx hb dL_arePatterns_135 (lv_at hl 6 rfl) ?_
                        refine ah_calli (ah_runV E hP hS (As := [.int (nI p0)]) (rest := [.int (nI i2)]) (b := x) (q_length l A D _ hC hj hp0) lk_Law_40 li_Law_40 hxx rfl ⟨rfl, rfl, (Nat.le_of_ble_eq_true rfl), (Nat.le_of_ble_eq_true rfl)⟩ rfl hl.1 rfl (Nat.le_of_ble_eq_true rfl) dL_arePatterns_137 ⟨(Nat.le_of_ble_eq_true rfl), (Nat.le_of_ble_eq_true rfl)⟩) hS (fun r F14 H locs hq hP hS => ?_)
                        obtain ⟨rfl, rfl⟩ := hq
                        refine ah_iadd hx hb dL_arePatterns_140 ?_
                        refine lv_aload_n hx hb dL_arePatterns_141 rfl (lv_at hl 0 rfl) ?_
                        refine ah_calli (ah_runV E hP hS (As := []) (rest := [.int (nI (i2 + w.length))]) (b := x) (c_streamLength l A D _ hC) lk_Law_37 li_Law_37 hxx rfl ⟨rfl, rfl, (Nat.le_of_ble_eq_true rfl), (Nat.le_of_ble_eq_true rfl)⟩ rfl hl.1 rfl (Nat.le_of_ble_eq_true rfl) dL_arePatterns_142 ⟨(Nat.le_of_ble_eq_true rfl), (Nat.le_of_ble_eq_true rfl)⟩) hS (fun r F15 H locs hq hP hS => ?_)
                        obtain ⟨rfl, rfl⟩ := hq
                        refine ah_icmp_gt (tgt := 178) hx hb (by omega) (by omega) dL_arePatterns_145 (by decide) (fun hc145 => ?_) (fun hc145 => ?_)
                        · skip
                          exact absurd hc145 (by omega)
                        · skip
                          refine lv_iload hx hb dL_arePatterns_148 (lv_at hl 8 rfl) ?_
                          refine ah_if_eq (tgt := 174) hx hb (by omega) dL_arePatterns_150 (by decide) (fun hc150 => ?_) (fun hc150 => ?_)
                          · skip
                            refine lv_iconst (v := (nI 1)) hx hb dL_arePatterns_174 (by decide) ?_
                            refine lv_goto (tgt := 179) hx hb dL_arePatterns_175 (by decide) ?_
                            refine lv_istore (lv' := [(5, .int (nI 1)), (0, .ref x), (1, .ref o), (2, .int (nI (su + pu_cn (fun i => ah_at S i w) S.length))), (3, .int (nI (le + w.length))), (4, .int (nI Lg2)), (6, .int (nI p0)), (7, .int (nI (pu_cn (fun i => ah_at S i w) S.length))), (8, .int (nI k))]) hx hb dL_arePatterns_179 hl (by decide) rfl (fun ls hl => ?_)
                            refine lv_iinc (v := (nI (k + 1))) (lv' := [(8, .int (nI (k + 1))), (5, .int (nI 1)), (0, .ref x), (1, .ref o), (2, .int (nI (su + pu_cn (fun i => ah_at S i w) S.length))), (3, .int (nI (le + w.length))), (4, .int (nI Lg2)), (6, .int (nI p0)), (7, .int (nI (pu_cn (fun i => ah_at S i w) S.length)))]) hx hb dL_arePatterns_181 hl (k := 8) rfl (ah_inc _) (by decide) rfl (fun ls hl => ?_)
                            refine lv_goto (tgt := 114) hx hb dL_arePatterns_184 (by decide) ?_
                            exact ih114 (k + 1) (by omega) (by omega) _ _ hP hS ls (lv_sub hl [2, 3, 4, 5, 6, 1, 7, 8, 0] rfl)
                          · skip
                            refine lv_aload_n hx hb dL_arePatterns_153 rfl (lv_at hl 0 rfl) ?_
                            refine lv_iload hx hb dL_arePatterns_154 (lv_at hl 6 rfl) ?_
                            refine lv_iload hx hb dL_arePatterns_156 (lv_at hl 8 rfl) ?_
                            refine ah_calli (ah_runV E hP hS (As := [.int (nI p0), .int (nI k)]) (rest := []) (b := x) (q_occurrence l A D _ hC hj hp0 hkt) lk_Law_90 li_Law_90 hxx rfl ⟨rfl, rfl, (Nat.le_of_ble_eq_true rfl), (Nat.le_of_ble_eq_true rfl)⟩ rfl hl.1 rfl (Nat.le_of_ble_eq_true rfl) dL_arePatterns_158 ⟨(Nat.le_of_ble_eq_true rfl), (Nat.le_of_ble_eq_true rfl)⟩) hS (fun r F16 H locs hq hP hS => ?_)
                            obtain ⟨rfl, rfl⟩ := hq
                            refine lv_aload_n hx hb dL_arePatterns_161 rfl (lv_at hl 0 rfl) ?_
                            refine lv_iload hx hb dL_arePatterns_162 (lv_at hl 6 rfl) ?_
                            refine lv_iload hx hb dL_arePatterns_164 (lv_at hl 8 rfl) ?_
                            refine lv_iconst (v := (nI 1)) hx hb dL_arePatterns_166 (by decide) ?_
                            refine ah_isub hx hb (by omega) dL_arePatterns_167 ?_
                            obtain ⟨i3, hi3, hat3, hk3⟩ := pc_ex (p := (fun i => ah_at S i w)) (k := k - 1) (n := S.length) (by omega)
                            have hkt3 := pc_kt (p := (fun i => ah_at S i w)) (n := S.length) (by omega) hi3 hat3 hk3
                            have hlt : i3 < i2 := pc_lt (p := (fun i => ah_at S i w)) (by omega)
                            refine ah_calli (ah_runV E hP hS (As := [.int (nI p0), .int (nI (k - 1))]) (rest := [.int (nI i2)]) (b := x) (q_occurrence l A D _ hC hj hp0 hkt3) lk_Law_90 li_Law_90 hxx rfl ⟨rfl, rfl, (Nat.le_of_ble_eq_true rfl), (Nat.le_of_ble_eq_true rfl)⟩ rfl hl.1 rfl (Nat.le_of_ble_eq_true rfl) dL_arePatterns_168 ⟨(Nat.le_of_ble_eq_true rfl), (Nat.le_of_ble_eq_true rfl)⟩) hS (fun r F17 H locs hq hP hS => ?_)
                            obtain ⟨rfl, rfl⟩ := hq
                            refine ah_icmp_le (tgt := 178) hx hb (by omega) (by omega) dL_arePatterns_171 (by decide) (fun hc171 => ?_) (fun hc171 => ?_)
                            · skip
                              exact absurd hc171 (by omega)
                            · skip
                              refine lv_iconst (v := (nI 1)) hx hb dL_arePatterns_174 (by decide) ?_
                              refine lv_goto (tgt := 179) hx hb dL_arePatterns_175 (by decide) ?_
                              refine lv_istore (lv' := [(5, .int (nI 1)), (0, .ref x), (1, .ref o), (2, .int (nI (su + pu_cn (fun i => ah_at S i w) S.length))), (3, .int (nI (le + w.length))), (4, .int (nI Lg2)), (6, .int (nI p0)), (7, .int (nI (pu_cn (fun i => ah_at S i w) S.length))), (8, .int (nI k))]) hx hb dL_arePatterns_179 hl (by decide) rfl (fun ls hl => ?_)
                              refine lv_iinc (v := (nI (k + 1))) (lv' := [(8, .int (nI (k + 1))), (5, .int (nI 1)), (0, .ref x), (1, .ref o), (2, .int (nI (su + pu_cn (fun i => ah_at S i w) S.length))), (3, .int (nI (le + w.length))), (4, .int (nI Lg2)), (6, .int (nI p0)), (7, .int (nI (pu_cn (fun i => ah_at S i w) S.length)))]) hx hb dL_arePatterns_181 hl (k := 8) rfl (ah_inc _) (by decide) rfl (fun ls hl => ?_)
                              refine lv_goto (tgt := 114) hx hb dL_arePatterns_184 (by decide) ?_
                              exact ih114 (k + 1) (by omega) (by omega) _ _ hP hS ls (lv_sub hl [2, 3, 4, 5, 6, 1, 7, 8, 0] rfl)
                exact L114 (pu_cn (fun i => ah_at S i w) S.length + 1) 0 (by omega) (Nat.zero_le _) _ _ hP hS ls (lv_sub hl [2, 3, 4, 5, 6, 1, 7, 8, 0] rfl)
            refine lv_aload_n hx hb dL_arePatterns_56 rfl (lv_at hl 3 rfl) ?_
            refine lv_iload hx hb dL_arePatterns_57 (lv_at hl 7 rfl) ?_
            refine ah_calli (ah_runV E hP hS (As := [.int (nI p0)]) (rest := []) (b := x) (q_length l A D _ hC hj hp0) lk_Law_40 li_Law_40 hxx rfl ⟨rfl, rfl, (Nat.le_of_ble_eq_true rfl), (Nat.le_of_ble_eq_true rfl)⟩ rfl hl.1 rfl (Nat.le_of_ble_eq_true rfl) dL_arePatterns_59 ⟨(Nat.le_of_ble_eq_true rfl), (Nat.le_of_ble_eq_true rfl)⟩) hS (fun r F18 H locs hq hP hS => ?_)
            obtain ⟨rfl, rfl⟩ := hq
            refine lv_iload hx hb dL_arePatterns_62 (lv_at hl 5 rfl) ?_
            refine ah_icmp_le (tgt := 76) hx hb (by omega) (by have := pg_L8 hPok hLg; omega) dL_arePatterns_64 (by decide) (fun hc64 => ?_) (fun hc64 => ?_)
            · skip
              refine lv_iload hx hb dL_arePatterns_76 (lv_at hl 5 rfl) ?_
              refine lv_istore (lv' := [(4, .int (nI Lg)), (3, .int (nI (le + w.length))), (2, .int (nI (su + (pu_cn (fun i => ah_at S i w) S.length)))), (7, .int (nI (pu_cn (fun i => ah_at S i w) S.length))), (0, .ref x), (1, .ref o), (5, .int (nI 1)), (6, .int (nI p0))]) hx hb dL_arePatterns_78 hl (by decide) rfl (fun ls hl => ?_)
              exact J80 Lg hLg _ _ hP hS ls (lv_sub hl [4, 5, 2, 1, 0, 6, 7, 3] rfl)
            · skip
              refine lv_aload_n hx hb dL_arePatterns_67 rfl (lv_at hl 3 rfl) ?_
              refine lv_iload hx hb dL_arePatterns_68 (lv_at hl 7 rfl) ?_
              refine ah_calli (ah_runV E hP hS (As := [.int (nI p0)]) (rest := []) (b := x) (q_length l A D _ hC hj hp0) lk_Law_40 li_Law_40 hxx rfl ⟨rfl, rfl, (Nat.le_of_ble_eq_true rfl), (Nat.le_of_ble_eq_true rfl)⟩ rfl hl.1 rfl (Nat.le_of_ble_eq_true rfl) dL_arePatterns_70 ⟨(Nat.le_of_ble_eq_true rfl), (Nat.le_of_ble_eq_true rfl)⟩) hS (fun r F19 H locs hq hP hS => ?_)
              obtain ⟨rfl, rfl⟩ := hq
              refine lv_goto (tgt := 78) hx hb dL_arePatterns_73 (by decide) ?_
              refine lv_istore (lv' := [(4, .int (nI w.length)), (3, .int (nI (le + w.length))), (2, .int (nI (su + (pu_cn (fun i => ah_at S i w) S.length)))), (7, .int (nI (pu_cn (fun i => ah_at S i w) S.length))), (0, .ref x), (1, .ref o), (5, .int (nI 1)), (6, .int (nI p0))]) hx hb dL_arePatterns_78 hl (by decide) rfl (fun ls hl => ?_)
              exact J80 w.length (Or.inr ⟨p0, w, r0, hj, hp0, rfl⟩) _ _ hP hS ls (lv_sub hl [4, 5, 2, 1, 0, 6, 7, 3] rfl)
  exact L13 (n + 1) 0 0 0 0 (by omega) (Nat.zero_le _) rfl rfl (Or.inl rfl) _ _ hP hS ls (lv_sub hl [5, 6, 4, 3, 2, 1, 0] rfl)
