set_option maxHeartbeats 4000000 in
set_option maxRecDepth 100000 in
/-- step -/
theorem w_step (l : Launch) (A : Nat → Prop) (D : ah_G) (F : ah_F) (hl1 : l.stackTraces = false) {x n : Nat} {P : ah_Pt} {dr S : List Nat} {td : Int32} (hC : ah_C D F x P n dr S td) {o : Nat} {rv : Nat → Int32} (ho : F o = some (ah_ai D 42 rv)) (hR : pr_R P n dr rv) (hD : pd_D P) (hS6 : S.length ≤ 60) {wh aa bb : Nat} (hwh : wh < 2 ^ 31) (haa : aa < 2 ^ 31) (hbb : bb < 2 ^ 31) : Met l yL_step (Cond.code yL_step cL_step 10 (some .boolean) :: ah_T) { frames := 9, cells := 5, slots := 15, locals := 193 } (va_Pc [.ref x, .ref o, .int (nI wh), .int (nI aa), .int (nI bb)] (ah_B A D F)) (ah_Qi A D (fun (r : Int32) F1 => nI 1 = r ∧ pr_S D F1 x o)) 5 15 A := by
  refine ah_met (own := "AhoarchLaw") (by decide) rfl (Nat.le_of_ble_eq_true rfl) ?_
  intro p e s m below meth c ls E hr hini hl hP hS Q hQ
  have hx := E.1
  have hb := E.2.1
  have hl : lv_has ls 10 [(0, .ref x), (1, .ref o), (2, .int (nI wh)), (3, .int (nI aa)), (4, .int (nI bb))] := hl
  obtain ⟨hPok, hn40, hPn, hS200, hSlt, hdok, hcnt⟩ := ah_C_ok hC
  obtain ⟨fs0, hxx⟩ := ah_C_x hC
  obtain ⟨hdl8, hdlt⟩ := id hdok
  have J19 : ∀ (pt : Nat), pt < 40 → ∀ (H : Heap) (locs : List Loc), ah_K A D F H → va_S A s.heap H locs → ∀ (ls : Array Slot), lv_has ls 10 [(0, .ref x), (1, .ref o), (2, .int (nI wh)), (3, .int (nI aa)), (4, .int (nI bb)), (5, .int (nI pt))] → W p l e { frames := 9, cells := 5, slots := 15, locals := 193 } s m [.ref x, .ref o, .int (nI wh), .int (nI aa), .int (nI bb)].toArray below meth c H locs 0 0 Q (F0 m 19 ls []) := by
    intro pt hpt H locs hP hS ls hl
    have hpl := pr_l_le hPok pt
    have J33 : ∀ (it : Bool), it = decide (0 < pr_l P pt) → ∀ (H : Heap) (locs : List Loc), ah_K A D F H → va_S A s.heap H locs → ∀ (ls : Array Slot), lv_has ls 10 [(0, .ref x), (1, .ref o), (2, .int (nI wh)), (3, .int (nI aa)), (4, .int (nI bb)), (5, .int (nI pt)), (6, .int (bI_ it))] → W p l e { frames := 9, cells := 5, slots := 15, locals := 193 } s m [.ref x, .ref o, .int (nI wh), .int (nI aa), .int (nI bb)].toArray below meth c H locs 0 0 Q (F0 m 33 ls []) := by
      intro it hit H locs hP hS ls hl
      have J430 : S.length < 60 → ∀ (H : Heap) (locs : List Loc), ah_K A D F H → va_S A s.heap H locs → ∀ (ls : Array Slot), lv_has ls 10 [(0, .ref x), (1, .ref o), (2, .int (nI wh)), (3, .int (nI aa)), (4, .int (nI bb)), (5, .int (nI pt)), (6, .int (bI_ it))] → W p l e { frames := 9, cells := 5, slots := 15, locals := 193 } s m [.ref x, .ref o, .int (nI wh), .int (nI aa), .int (nI bb)].toArray below meth c H locs 0 0 Q (F0 m 430 ls []) := by
        intro hl6 H locs hP hS ls hl
        refine lv_aload_n hx hb dL_step_430 rfl (lv_at hl 0 rfl) ?_
        refine lv_iload hx hb dL_step_431 (lv_at hl 4 rfl) ?_
        refine ah_calli (ah_runS E hP hS (As := [.int (nI bb)]) (rest := [.ref x]) (w_letter l A D _ (v := bb) hbb) lk_Law_10 li_Law_10 ⟨rfl, rfl, (Nat.le_of_ble_eq_true rfl), (Nat.le_of_ble_eq_true rfl)⟩ rfl hl.1 rfl (Nat.le_of_ble_eq_true rfl) dL_step_433 ⟨(Nat.le_of_ble_eq_true rfl), (Nat.le_of_ble_eq_true rfl)⟩) hS (fun r F1 H locs hq hP hS => ?_)
        obtain ⟨rfl, cv, hcv1, hcv2, rfl⟩ := hq
        refine ah_calli (ah_runS E hP hS (As := [.ref x, .int (nI cv)]) (rest := []) (w_feeds l A D _ hl1 hC hcv1 hcv2 hl6 ho) lk_Law_61 li_Law_61 ⟨rfl, rfl, (Nat.le_of_ble_eq_true rfl), (Nat.le_of_ble_eq_true rfl)⟩ rfl hl.1 rfl (Nat.le_of_ble_eq_true rfl) dL_step_436 ⟨(Nat.le_of_ble_eq_true rfl), (Nat.le_of_ble_eq_true rfl)⟩) hS (fun r F2 H locs hq hP hS => ?_)
        obtain ⟨rfl, hC1, ho1⟩ := hq
        rw [hQ]
        exact ah_zret E hr (by first | exact bI_nz _ | decide) hP hS ⟨rfl, P, n, dr, S ++ [cv - 96], _, rv, hC1, ho1, hR, hD, by simp; omega⟩ (Nat.le_of_ble_eq_true rfl) (Nat.le_of_ble_eq_true rfl) dL_step_439
      have J374 : ∀ (H : Heap) (locs : List Loc), ah_K A D F H → va_S A s.heap H locs → ∀ (ls : Array Slot), lv_has ls 10 [(0, .ref x), (1, .ref o), (2, .int (nI wh)), (3, .int (nI aa)), (4, .int (nI bb)), (5, .int (nI pt)), (6, .int (bI_ it))] → W p l e { frames := 9, cells := 5, slots := 15, locals := 193 } s m [.ref x, .ref o, .int (nI wh), .int (nI aa), .int (nI bb)].toArray below meth c H locs 0 0 Q (F0 m 374 ls []) := by
        intro H locs hP hS ls hl
        have hz : ah_le P (ah_l8 []) (min ([] : List Nat).length 8) = 0 := Nat.eq_zero_of_le_zero (pl_le P (ah_l8 []) (min ([] : List Nat).length 8))
        have hz2 := pf_end0 hPok
        have hz3 : ah_oc P [] ([] : List Nat).length = 0 := rfl
        refine lv_aload_n hx hb dL_step_374 rfl (lv_at hl 0 rfl) ?_
        refine ah_calli (ah_runV E hP hS (As := []) (rest := []) (b := x) (c_streamLength l A D _ hC) lk_Law_37 li_Law_37 hxx rfl ⟨rfl, rfl, (Nat.le_of_ble_eq_true rfl), (Nat.le_of_ble_eq_true rfl)⟩ rfl hl.1 rfl (Nat.le_of_ble_eq_true rfl) dL_step_375 ⟨(Nat.le_of_ble_eq_true rfl), (Nat.le_of_ble_eq_true rfl)⟩) hS (fun r F3 H locs hq hP hS => ?_)
        obtain ⟨rfl, rfl⟩ := hq
        refine lv_istore (lv' := [(7, .int (nI S.length)), (0, .ref x), (1, .ref o), (2, .int (nI wh)), (3, .int (nI aa)), (4, .int (nI bb)), (5, .int (nI pt)), (6, .int (bI_ it))]) hx hb dL_step_378 hl (by decide) rfl (fun ls hl => ?_)
        refine lv_aload_n hx hb dL_step_380 rfl (lv_at hl 1 rfl) ?_
        refine ah_calli (ah_runV E hP hS (As := []) (rest := []) (b := x) (c_clear l A D _ hC) lk_Law_52 li_Law_52 hxx rfl ⟨rfl, rfl, (Nat.le_of_ble_eq_true rfl), (Nat.le_of_ble_eq_true rfl)⟩ rfl hl.1 rfl (Nat.le_of_ble_eq_true rfl) dL_step_381 ⟨(Nat.le_of_ble_eq_true rfl), (Nat.le_of_ble_eq_true rfl)⟩) hS (fun r F4 H locs hq hP hS => ?_)
        obtain ⟨rfl, hCw5, houtw5⟩ := hq
        have how5 := (houtw5 _ _ ho).trans ho
        obtain ⟨fsw5, hxxw5⟩ := ah_C_x hCw5
        refine lv_iload hx hb dL_step_384 (lv_at hl 0 rfl) ?_
        refine ah_icmp_ne (tgt := 428) hx hb (by omega) (by omega) dL_step_386 (by decide) (fun hc386 => ?_) (fun hc386 => ?_)
        · skip
          exact (hc386 rfl).elim
        · skip
          refine lv_aload_n hx hb dL_step_389 rfl (lv_at hl 1 rfl) ?_
          refine ah_calli (ah_runV E hP hS (As := []) (rest := []) (b := x) (c_streamLength l A D _ hCw5) lk_Law_37 li_Law_37 hxxw5 rfl ⟨rfl, rfl, (Nat.le_of_ble_eq_true rfl), (Nat.le_of_ble_eq_true rfl)⟩ rfl hl.1 rfl (Nat.le_of_ble_eq_true rfl) dL_step_390 ⟨(Nat.le_of_ble_eq_true rfl), (Nat.le_of_ble_eq_true rfl)⟩) hS (fun r F6 H locs hq hP hS => ?_)
          obtain ⟨rfl, rfl⟩ := hq
          refine ah_if_ne (tgt := 428) hx hb (by decide) dL_step_393 (by decide) (fun hc393 => ?_) (fun hc393 => ?_)
          · skip
            exact absurd hc393 (by decide)
          · skip
            refine lv_aload_n hx hb dL_step_396 rfl (lv_at hl 1 rfl) ?_
            refine ah_calli (ah_runV E hP hS (As := []) (rest := []) (b := x) (c_told l A D _ hCw5) lk_Law_43 li_Law_43 hxxw5 rfl ⟨rfl, rfl, (Nat.le_of_ble_eq_true rfl), (Nat.le_of_ble_eq_true rfl)⟩ rfl hl.1 rfl (Nat.le_of_ble_eq_true rfl) dL_step_397 ⟨(Nat.le_of_ble_eq_true rfl), (Nat.le_of_ble_eq_true rfl)⟩) hS (fun r F7 H locs hq hP hS => ?_)
            obtain ⟨rfl, rfl⟩ := hq
            refine ah_if_ne (tgt := 428) hx hb (by omega) dL_step_400 (by decide) (fun hc400 => ?_) (fun hc400 => ?_)
            · skip
              exact absurd hc400 (by decide)
            · skip
              refine lv_aload_n hx hb dL_step_403 rfl (lv_at hl 1 rfl) ?_
              refine ah_calli (ah_runV E hP hS (As := []) (rest := []) (b := x) (c_depth l A D _ hCw5) lk_Law_55 li_Law_55 hxxw5 rfl ⟨rfl, rfl, (Nat.le_of_ble_eq_true rfl), (Nat.le_of_ble_eq_true rfl)⟩ rfl hl.1 rfl (Nat.le_of_ble_eq_true rfl) dL_step_404 ⟨(Nat.le_of_ble_eq_true rfl), (Nat.le_of_ble_eq_true rfl)⟩) hS (fun r F8 H locs hq hP hS => ?_)
              obtain ⟨rfl, rfl⟩ := hq
              refine ah_if_ne (tgt := 428) hx hb (by omega) dL_step_407 (by decide) (fun hc407 => ?_) (fun hc407 => ?_)
              · skip
                exact absurd hc407 (by omega)
              · skip
                refine lv_aload_n hx hb dL_step_410 rfl (lv_at hl 1 rfl) ?_
                refine ah_calli (ah_runV E hP hS (As := []) (rest := []) (b := x) (c_ending l A D _ hCw5) lk_Law_49 li_Law_49 hxxw5 rfl ⟨rfl, rfl, (Nat.le_of_ble_eq_true rfl), (Nat.le_of_ble_eq_true rfl)⟩ rfl hl.1 rfl (Nat.le_of_ble_eq_true rfl) dL_step_411 ⟨(Nat.le_of_ble_eq_true rfl), (Nat.le_of_ble_eq_true rfl)⟩) hS (fun r F9 H locs hq hP hS => ?_)
                obtain ⟨rfl, rfl⟩ := hq
                refine ah_if_ne (tgt := 428) hx hb (by omega) dL_step_414 (by decide) (fun hc414 => ?_) (fun hc414 => ?_)
                · skip
                  exact absurd hc414 (by omega)
                · skip
                  refine lv_aload_n hx hb dL_step_417 rfl (lv_at hl 1 rfl) ?_
                  refine ah_calli (ah_runV E hP hS (As := []) (rest := []) (b := x) (c_occurrences l A D _ hCw5) lk_Law_58 li_Law_58 hxxw5 rfl ⟨rfl, rfl, (Nat.le_of_ble_eq_true rfl), (Nat.le_of_ble_eq_true rfl)⟩ rfl hl.1 rfl (Nat.le_of_ble_eq_true rfl) dL_step_418 ⟨(Nat.le_of_ble_eq_true rfl), (Nat.le_of_ble_eq_true rfl)⟩) hS (fun r F10 H locs hq hP hS => ?_)
                  obtain ⟨rfl, rfl⟩ := hq
                  refine ah_if_ne (tgt := 428) hx hb (by omega) dL_step_421 (by decide) (fun hc421 => ?_) (fun hc421 => ?_)
                  · skip
                    exact absurd hc421 (by omega)
                  · skip
                    refine lv_iconst (v := (nI 1)) hx hb dL_step_424 (by decide) ?_
                    refine lv_goto (tgt := 429) hx hb dL_step_425 (by decide) ?_
                    rw [hQ]
                    exact ah_zret E hr (by first | exact bI_nz _ | decide) hP hS ⟨rfl, P, n, dr, [], _, rv, hCw5, how5, hR, hD, by simp⟩ (Nat.le_of_ble_eq_true rfl) (Nat.le_of_ble_eq_true rfl) dL_step_429
      have J349 : ∀ (H : Heap) (locs : List Loc), ah_K A D F H → va_S A s.heap H locs → ∀ (ls : Array Slot), lv_has ls 10 [(0, .ref x), (1, .ref o), (2, .int (nI wh)), (3, .int (nI aa)), (4, .int (nI bb)), (5, .int (nI pt)), (6, .int (bI_ it))] → W p l e { frames := 9, cells := 5, slots := 15, locals := 193 } s m [.ref x, .ref o, .int (nI wh), .int (nI aa), .int (nI bb)].toArray below meth c H locs 0 0 Q (F0 m 349 ls []) := by
        intro H locs hP hS ls hl
        refine lv_iload_n hx hb dL_step_349 rfl (lv_at hl 2 rfl) ?_
        refine lv_bipush (v := (nI 12)) hx hb dL_step_350 (by decide) ?_
        refine lv_irem hx hb dL_step_352 (nI_ne0 (by omega) (by omega)) ?_
        rw [pk_rem (a := wh) (d := 12) (by omega) (by omega) (by omega)]
        refine lv_bipush (v := (nI 8)) hx hb dL_step_353 (by decide) ?_
        refine ah_icmp_ne (tgt := 365) hx hb (by omega) (by omega) dL_step_355 (by decide) (fun hc355 => ?_) (fun hc355 => ?_)
        · skip
          refine lv_aload_n hx hb dL_step_365 rfl (lv_at hl 0 rfl) ?_
          refine ah_calli (ah_runV E hP hS (As := []) (rest := []) (b := x) (c_streamLength l A D _ hC) lk_Law_37 li_Law_37 hxx rfl ⟨rfl, rfl, (Nat.le_of_ble_eq_true rfl), (Nat.le_of_ble_eq_true rfl)⟩ rfl hl.1 rfl (Nat.le_of_ble_eq_true rfl) dL_step_366 ⟨(Nat.le_of_ble_eq_true rfl), (Nat.le_of_ble_eq_true rfl)⟩) hS (fun r F11 H locs hq hP hS => ?_)
          obtain ⟨rfl, rfl⟩ := hq
          refine lv_bipush (v := (nI 60)) hx hb dL_step_369 (by decide) ?_
          refine ah_icmp_lt (tgt := 430) hx hb (by omega) (by omega) dL_step_371 (by decide) (fun hc371 => ?_) (fun hc371 => ?_)
          · skip
            exact J430 (by omega) _ _ hP hS ls (lv_sub hl [0, 1, 2, 3, 4, 5, 6] rfl)
          · skip
            exact J374  _ _ hP hS ls (lv_sub hl [0, 1, 2, 3, 4, 5, 6] rfl)
        · skip
          refine lv_iload hx hb dL_step_358 (lv_at hl 4 rfl) ?_
          refine lv_iconst (v := (nI 5)) hx hb dL_step_360 (by decide) ?_
          refine lv_irem hx hb dL_step_361 (nI_ne0 (by omega) (by omega)) ?_
          rw [pk_rem (a := bb) (d := 5) (by omega) (by omega) (by omega)]
          refine ah_if_eq (tgt := 374) hx hb (by omega) dL_step_362 (by decide) (fun hc362 => ?_) (fun hc362 => ?_)
          · skip
            exact J374  _ _ hP hS ls (lv_sub hl [0, 1, 2, 3, 4, 5, 6] rfl)
          · skip
            refine lv_aload_n hx hb dL_step_365 rfl (lv_at hl 0 rfl) ?_
            refine ah_calli (ah_runV E hP hS (As := []) (rest := []) (b := x) (c_streamLength l A D _ hC) lk_Law_37 li_Law_37 hxx rfl ⟨rfl, rfl, (Nat.le_of_ble_eq_true rfl), (Nat.le_of_ble_eq_true rfl)⟩ rfl hl.1 rfl (Nat.le_of_ble_eq_true rfl) dL_step_366 ⟨(Nat.le_of_ble_eq_true rfl), (Nat.le_of_ble_eq_true rfl)⟩) hS (fun r F12 H locs hq hP hS => ?_)
            obtain ⟨rfl, rfl⟩ := hq
            refine lv_bipush (v := (nI 60)) hx hb dL_step_369 (by decide) ?_
            refine ah_icmp_lt (tgt := 430) hx hb (by omega) (by omega) dL_step_371 (by decide) (fun hc371 => ?_) (fun hc371 => ?_)
            · skip
              exact J430 (by omega) _ _ hP hS ls (lv_sub hl [0, 1, 2, 3, 4, 5, 6] rfl)
            · skip
              exact J374  _ _ hP hS ls (lv_sub hl [0, 1, 2, 3, 4, 5, 6] rfl)
      have J251 : ∀ (H : Heap) (locs : List Loc), ah_K A D F H → va_S A s.heap H locs → ∀ (ls : Array Slot), lv_has ls 10 [(0, .ref x), (1, .ref o), (2, .int (nI wh)), (3, .int (nI aa)), (4, .int (nI bb)), (5, .int (nI pt)), (6, .int (bI_ it))] → W p l e { frames := 9, cells := 5, slots := 15, locals := 193 } s m [.ref x, .ref o, .int (nI wh), .int (nI aa), .int (nI bb)].toArray below meth c H locs 0 0 Q (F0 m 251 ls []) := by
        intro H locs hP hS ls hl
        refine lv_iload_n hx hb dL_step_251 rfl (lv_at hl 2 rfl) ?_
        refine lv_bipush (v := (nI 12)) hx hb dL_step_252 (by decide) ?_
        refine lv_irem hx hb dL_step_254 (nI_ne0 (by omega) (by omega)) ?_
        rw [pk_rem (a := wh) (d := 12) (by omega) (by omega) (by omega)]
        refine lv_bipush (v := (nI 7)) hx hb dL_step_255 (by decide) ?_
        refine ah_icmp_ne (tgt := 349) hx hb (by omega) (by omega) dL_step_257 (by decide) (fun hc257 => ?_) (fun hc257 => ?_)
        · skip
          exact J349  _ _ hP hS ls (lv_sub hl [0, 1, 2, 3, 4, 5, 6] rfl)
        · skip
          refine lv_iload hx hb dL_step_260 (lv_at hl 6 rfl) ?_
          refine ah_ifb_eq (tgt := 349) hx hb dL_step_262 (by decide) (fun hc262 => ?_) (fun hc262 => ?_)
          · skip
            exact J349  _ _ hP hS ls (lv_sub hl [0, 1, 2, 3, 4, 5, 6] rfl)
          · skip
            obtain ⟨w, r0, hp0⟩ := pr_l_s (of_decide_eq_true (hit.symm.trans hc262))
            have hok := hPok _ _ _ hp0
            have hrl := hok.2.1.1
            have hwl := hok.1.1
            have hwp := List.length_pos_iff.mpr hok.2.2
            refine lv_aload_n hx hb dL_step_265 rfl (lv_at hl 0 rfl) ?_
            refine ah_calli (ah_runV E hP hS (As := []) (rest := []) (b := x) (c_streamLength l A D _ hC) lk_Law_37 li_Law_37 hxx rfl ⟨rfl, rfl, (Nat.le_of_ble_eq_true rfl), (Nat.le_of_ble_eq_true rfl)⟩ rfl hl.1 rfl (Nat.le_of_ble_eq_true rfl) dL_step_266 ⟨(Nat.le_of_ble_eq_true rfl), (Nat.le_of_ble_eq_true rfl)⟩) hS (fun r F13 H locs hq hP hS => ?_)
            obtain ⟨rfl, rfl⟩ := hq
            refine lv_aload_n hx hb dL_step_269 rfl (lv_at hl 0 rfl) ?_
            refine lv_iload hx hb dL_step_270 (lv_at hl 5 rfl) ?_
            refine ah_calli (ah_runV E hP hS (As := [.int (nI pt)]) (rest := [.int (nI S.length)]) (b := x) (q_length l A D _ hC hpt hp0) lk_Law_40 li_Law_40 hxx rfl ⟨rfl, rfl, (Nat.le_of_ble_eq_true rfl), (Nat.le_of_ble_eq_true rfl)⟩ rfl hl.1 rfl (Nat.le_of_ble_eq_true rfl) dL_step_272 ⟨(Nat.le_of_ble_eq_true rfl), (Nat.le_of_ble_eq_true rfl)⟩) hS (fun r F14 H locs hq hP hS => ?_)
            obtain ⟨rfl, rfl⟩ := hq
            refine ah_iadd hx hb dL_step_275 ?_
            refine lv_bipush (v := (nI 60)) hx hb dL_step_276 (by decide) ?_
            refine ah_icmp_gt (tgt := 349) hx hb (by omega) (by omega) dL_step_278 (by decide) (fun hc278 => ?_) (fun hc278 => ?_)
            · skip
              exact J349  _ _ hP hS ls (lv_sub hl [0, 1, 2, 3, 4, 5, 6] rfl)
            · skip
              have hfs := pf_fs (S := S) hpt hp0 hwp
              have hfsb := ah_fs_le P S w w.length
              have hsl : (S ++ w).length = S.length + w.length := List.length_append
              have hen1 : 0 < pu_cn (ah_sat P (fun u => ah_en (S ++ w) (S ++ w).length u)) 40 := pf_e1 hpt hp0
              have hen2 : pu_cn (ah_sat P (fun u => ah_en (S ++ w) (S ++ w).length u)) 40 ≤ 40 := pu_cn_le _ _
              refine lv_aload_n hx hb dL_step_281 rfl (lv_at hl 0 rfl) ?_
              refine ah_calli (ah_runV E hP hS (As := []) (rest := []) (b := x) (c_streamLength l A D _ hC) lk_Law_37 li_Law_37 hxx rfl ⟨rfl, rfl, (Nat.le_of_ble_eq_true rfl), (Nat.le_of_ble_eq_true rfl)⟩ rfl hl.1 rfl (Nat.le_of_ble_eq_true rfl) dL_step_282 ⟨(Nat.le_of_ble_eq_true rfl), (Nat.le_of_ble_eq_true rfl)⟩) hS (fun r F15 H locs hq hP hS => ?_)
              obtain ⟨rfl, rfl⟩ := hq
              refine lv_istore (lv' := [(7, .int (nI S.length)), (0, .ref x), (1, .ref o), (2, .int (nI wh)), (3, .int (nI aa)), (4, .int (nI bb)), (5, .int (nI pt)), (6, .int (bI_ it))]) hx hb dL_step_285 hl (by decide) rfl (fun ls hl => ?_)
              refine lv_aload_n hx hb dL_step_287 rfl (lv_at hl 1 rfl) ?_
              refine ah_calli (ah_runV E hP hS (As := []) (rest := []) (b := x) (c_told l A D _ hC) lk_Law_43 li_Law_43 hxx rfl ⟨rfl, rfl, (Nat.le_of_ble_eq_true rfl), (Nat.le_of_ble_eq_true rfl)⟩ rfl hl.1 rfl (Nat.le_of_ble_eq_true rfl) dL_step_288 ⟨(Nat.le_of_ble_eq_true rfl), (Nat.le_of_ble_eq_true rfl)⟩) hS (fun r F16 H locs hq hP hS => ?_)
              obtain ⟨rfl, rfl⟩ := hq
              refine lv_istore (lv' := [(8, .int td), (7, .int (nI S.length)), (0, .ref x), (1, .ref o), (2, .int (nI wh)), (3, .int (nI aa)), (4, .int (nI bb)), (5, .int (nI pt)), (6, .int (bI_ it))]) hx hb dL_step_291 hl (by decide) rfl (fun ls hl => ?_)
              refine lv_aload_n hx hb dL_step_293 rfl (lv_at hl 2 rfl) ?_
              refine lv_iload hx hb dL_step_294 (lv_at hl 7 rfl) ?_
              refine ah_calli (ah_runV E hP hS (As := [.int (nI pt)]) (rest := []) (b := x) (q_feedPattern l hl1 A D _ hC hpt hp0 (by omega)) lk_Law_46 li_Law_46 hxx rfl ⟨rfl, rfl, (Nat.le_of_ble_eq_true rfl), (Nat.le_of_ble_eq_true rfl)⟩ rfl hl.1 rfl (Nat.le_of_ble_eq_true rfl) dL_step_296 ⟨(Nat.le_of_ble_eq_true rfl), (Nat.le_of_ble_eq_true rfl)⟩) hS (fun r F17 H locs hq hP hS => ?_)
              obtain ⟨rfl, hCw18, houtw18⟩ := hq
              have how18 := (houtw18 _ _ ho).trans ho
              obtain ⟨fsw18, hxxw18⟩ := ah_C_x hCw18
              refine lv_istore (lv' := [(9, .int (nI (ah_fs P S w w.length))), (8, .int td), (7, .int (nI S.length)), (0, .ref x), (1, .ref o), (2, .int (nI wh)), (3, .int (nI aa)), (4, .int (nI bb)), (5, .int (nI pt)), (6, .int (bI_ it))]) hx hb dL_step_299 hl (by decide) rfl (fun ls hl => ?_)
              refine lv_iload hx hb dL_step_301 (lv_at hl 0 rfl) ?_
              refine lv_iconst (v := (nI 1)) hx hb dL_step_303 (by decide) ?_
              refine ah_icmp_lt (tgt := 347) hx hb (by omega) (by omega) dL_step_304 (by decide) (fun hc304 => ?_) (fun hc304 => ?_)
              · skip
                exact absurd hc304 (by omega)
              · skip
                refine lv_aload_n hx hb dL_step_307 rfl (lv_at hl 3 rfl) ?_
                refine ah_calli (ah_runV E hP hS (As := []) (rest := []) (b := x) (c_told l A D _ hCw18) lk_Law_43 li_Law_43 hxxw18 rfl ⟨rfl, rfl, (Nat.le_of_ble_eq_true rfl), (Nat.le_of_ble_eq_true rfl)⟩ rfl hl.1 rfl (Nat.le_of_ble_eq_true rfl) dL_step_308 ⟨(Nat.le_of_ble_eq_true rfl), (Nat.le_of_ble_eq_true rfl)⟩) hS (fun r F19 H locs hq hP hS => ?_)
                obtain ⟨rfl, rfl⟩ := hq
                refine lv_iload hx hb dL_step_311 (lv_at hl 1 rfl) ?_
                refine lv_iload hx hb dL_step_313 (lv_at hl 0 rfl) ?_
                refine lv_iadd hx hb dL_step_315 ?_
                refine lv_icmp_ne (tgt := 347) hx hb dL_step_316 (by decide) (fun hc316 => ?_) (fun hc316 => ?_)
                · skip
                  exact (hc316 rfl).elim
                · skip
                  refine lv_aload_n hx hb dL_step_319 rfl (lv_at hl 3 rfl) ?_
                  refine ah_calli (ah_runV E hP hS (As := []) (rest := []) (b := x) (c_streamLength l A D _ hCw18) lk_Law_37 li_Law_37 hxxw18 rfl ⟨rfl, rfl, (Nat.le_of_ble_eq_true rfl), (Nat.le_of_ble_eq_true rfl)⟩ rfl hl.1 rfl (Nat.le_of_ble_eq_true rfl) dL_step_320 ⟨(Nat.le_of_ble_eq_true rfl), (Nat.le_of_ble_eq_true rfl)⟩) hS (fun r F20 H locs hq hP hS => ?_)
                  obtain ⟨rfl, rfl⟩ := hq
                  refine lv_iload hx hb dL_step_323 (lv_at hl 2 rfl) ?_
                  refine lv_aload_n hx hb dL_step_325 rfl (lv_at hl 3 rfl) ?_
                  refine lv_iload hx hb dL_step_326 (lv_at hl 8 rfl) ?_
                  refine ah_calli (ah_runV E hP hS (As := [.int (nI pt)]) (rest := [.int (nI S.length), .int (nI ((S ++ w).length))]) (b := x) (q_length l A D _ hCw18 hpt hp0) lk_Law_40 li_Law_40 hxxw18 rfl ⟨rfl, rfl, (Nat.le_of_ble_eq_true rfl), (Nat.le_of_ble_eq_true rfl)⟩ rfl hl.1 rfl (Nat.le_of_ble_eq_true rfl) dL_step_328 ⟨(Nat.le_of_ble_eq_true rfl), (Nat.le_of_ble_eq_true rfl)⟩) hS (fun r F21 H locs hq hP hS => ?_)
                  obtain ⟨rfl, rfl⟩ := hq
                  refine ah_iadd hx hb dL_step_331 ?_
                  refine ah_icmp_ne (tgt := 347) hx hb (by omega) (by omega) dL_step_332 (by decide) (fun hc332 => ?_) (fun hc332 => ?_)
                  · skip
                    exact (hc332 hsl).elim
                  · skip
                    refine lv_aload_n hx hb dL_step_335 rfl (lv_at hl 3 rfl) ?_
                    refine ah_calli (ah_runV E hP hS (As := []) (rest := []) (b := x) (c_ending l A D _ hCw18) lk_Law_49 li_Law_49 hxxw18 rfl ⟨rfl, rfl, (Nat.le_of_ble_eq_true rfl), (Nat.le_of_ble_eq_true rfl)⟩ rfl hl.1 rfl (Nat.le_of_ble_eq_true rfl) dL_step_336 ⟨(Nat.le_of_ble_eq_true rfl), (Nat.le_of_ble_eq_true rfl)⟩) hS (fun r F22 H locs hq hP hS => ?_)
                    obtain ⟨rfl, rfl⟩ := hq
                    refine lv_iconst (v := (nI 1)) hx hb dL_step_339 (by decide) ?_
                    refine ah_icmp_lt (tgt := 347) hx hb (by omega) (by omega) dL_step_340 (by decide) (fun hc340 => ?_) (fun hc340 => ?_)
                    · skip
                      exact absurd hc340 (by omega)
                    · skip
                      refine lv_iconst (v := (nI 1)) hx hb dL_step_343 (by decide) ?_
                      refine lv_goto (tgt := 348) hx hb dL_step_344 (by decide) ?_
                      rw [hQ]
                      exact ah_zret E hr (by first | exact bI_nz _ | decide) hP hS ⟨rfl, P, n, dr, S ++ w, _, rv, hCw18, how18, hR, hD, by omega⟩ (Nat.le_of_ble_eq_true rfl) (Nat.le_of_ble_eq_true rfl) dL_step_348
      have J189 : ∀ (H : Heap) (locs : List Loc), ah_K A D F H → va_S A s.heap H locs → ∀ (ls : Array Slot), lv_has ls 10 [(0, .ref x), (1, .ref o), (2, .int (nI wh)), (3, .int (nI aa)), (4, .int (nI bb)), (5, .int (nI pt)), (6, .int (bI_ it))] → W p l e { frames := 9, cells := 5, slots := 15, locals := 193 } s m [.ref x, .ref o, .int (nI wh), .int (nI aa), .int (nI bb)].toArray below meth c H locs 0 0 Q (F0 m 189 ls []) := by
        intro H locs hP hS ls hl
        refine lv_iload_n hx hb dL_step_189 rfl (lv_at hl 2 rfl) ?_
        refine lv_bipush (v := (nI 12)) hx hb dL_step_190 (by decide) ?_
        refine lv_irem hx hb dL_step_192 (nI_ne0 (by omega) (by omega)) ?_
        rw [pk_rem (a := wh) (d := 12) (by omega) (by omega) (by omega)]
        refine lv_bipush (v := (nI 6)) hx hb dL_step_193 (by decide) ?_
        refine ah_icmp_ne (tgt := 251) hx hb (by omega) (by omega) dL_step_195 (by decide) (fun hc195 => ?_) (fun hc195 => ?_)
        · skip
          exact J251  _ _ hP hS ls (lv_sub hl [0, 1, 2, 3, 4, 5, 6] rfl)
        · skip
          refine lv_iload hx hb dL_step_198 (lv_at hl 6 rfl) ?_
          refine ah_ifb_eq (tgt := 251) hx hb dL_step_200 (by decide) (fun hc200 => ?_) (fun hc200 => ?_)
          · skip
            exact J251  _ _ hP hS ls (lv_sub hl [0, 1, 2, 3, 4, 5, 6] rfl)
          · skip
            obtain ⟨w, r0, hp0⟩ := pr_l_s (of_decide_eq_true (hit.symm.trans hc200))
            have hok := hPok _ _ _ hp0
            have hrl := hok.2.1.1
            have hwl := hok.1.1
            have hwp := List.length_pos_iff.mpr hok.2.2
            refine lv_iload hx hb dL_step_203 (lv_at hl 4 rfl) ?_
            refine lv_iconst (v := (nI 3)) hx hb dL_step_205 (by decide) ?_
            refine lv_irem hx hb dL_step_206 (nI_ne0 (by omega) (by omega)) ?_
            rw [pk_rem (a := bb) (d := 3) (by omega) (by omega) (by omega)]
            refine ah_if_ne (tgt := 251) hx hb (by omega) dL_step_207 (by decide) (fun hc207 => ?_) (fun hc207 => ?_)
            · skip
              exact J251  _ _ hP hS ls (lv_sub hl [0, 1, 2, 3, 4, 5, 6] rfl)
            · skip
              have hdel := ah_cn_del (P := P) (i := pt) hpt (by rw [hp0]; rfl)
              refine lv_aload_n hx hb dL_step_210 rfl (lv_at hl 0 rfl) ?_
              refine ah_calli (ah_runV E hP hS (As := []) (rest := []) (b := x) (c_patterns l A D _ hC) lk_Law_30 li_Law_30 hxx rfl ⟨rfl, rfl, (Nat.le_of_ble_eq_true rfl), (Nat.le_of_ble_eq_true rfl)⟩ rfl hl.1 rfl (Nat.le_of_ble_eq_true rfl) dL_step_211 ⟨(Nat.le_of_ble_eq_true rfl), (Nat.le_of_ble_eq_true rfl)⟩) hS (fun r F23 H locs hq hP hS => ?_)
              obtain ⟨rfl, rfl⟩ := hq
              refine lv_istore (lv' := [(7, .int (nI (pu_cn (fun i => (P i).isSome) 40))), (0, .ref x), (1, .ref o), (2, .int (nI wh)), (3, .int (nI aa)), (4, .int (nI bb)), (5, .int (nI pt)), (6, .int (bI_ it))]) hx hb dL_step_214 hl (by decide) rfl (fun ls hl => ?_)
              refine lv_aload_n hx hb dL_step_216 rfl (lv_at hl 2 rfl) ?_
              refine lv_iload hx hb dL_step_217 (lv_at hl 6 rfl) ?_
              refine lv_iconst (v := (nI 0)) hx hb dL_step_219 (by decide) ?_
              refine ah_iast E hP hS ho (by omega) (by omega) dL_step_220 (fun H locs hP hS => ?_)
              obtain ⟨F24, eF24⟩ : ∃ Fz : ah_F, Fz = ah_up F o (ah_ai D 42 (upd rv pt (nI 0))) := ⟨_, rfl⟩
              have hP : ah_K A D F24 H := by rw [eF24]; exact hP
              have hF25 : F24 o = some (ah_ai D 42 (upd rv pt (nI 0))) := by rw [eF24]; exact ah_up_s _ _ _
              have hF26 : F24 x = some (.inr (6, fs0)) := by rw [eF24]; exact ah_keep ho hxx rfl
              have hCF24 := ah_C_o (e := ah_ai D 42 (upd rv pt (nI 0))) hC ho
              rw [← eF24] at hCF24
              refine lv_aload_n hx hb dL_step_221 rfl (lv_at hl 1 rfl) ?_
              refine lv_iload hx hb dL_step_222 (lv_at hl 6 rfl) ?_
              refine ah_calli (ah_runV E hP hS (As := [.int (nI pt)]) (rest := []) (b := x) (q_takeOut l hl1 A D _ hCF24 hpt hp0) lk_Law_34 li_Law_34 hF26 rfl ⟨rfl, rfl, (Nat.le_of_ble_eq_true rfl), (Nat.le_of_ble_eq_true rfl)⟩ rfl hl.1 rfl (Nat.le_of_ble_eq_true rfl) dL_step_224 ⟨(Nat.le_of_ble_eq_true rfl), (Nat.le_of_ble_eq_true rfl)⟩) hS (fun r F27 H locs hq hP hS => ?_)
              obtain ⟨rfl, hCw28, houtw28⟩ := hq
              have how28 := (houtw28 _ _ hF25).trans hF25
              obtain ⟨fsw28, hxxw28⟩ := ah_C_x hCw28
              refine lv_iload hx hb dL_step_227 (lv_at hl 0 rfl) ?_
              refine lv_iconst (v := (nI 1)) hx hb dL_step_229 (by decide) ?_
              refine ah_isub hx hb (by omega) dL_step_230 ?_
              refine ah_icmp_ne (tgt := 249) hx hb (by omega) (by omega) dL_step_231 (by decide) (fun hc231 => ?_) (fun hc231 => ?_)
              · skip
                exact (hc231 (by omega)).elim
              · skip
                refine lv_aload_n hx hb dL_step_234 rfl (lv_at hl 1 rfl) ?_
                refine ah_calli (ah_runV E hP hS (As := []) (rest := []) (b := x) (c_patterns l A D _ hCw28) lk_Law_30 li_Law_30 hxxw28 rfl ⟨rfl, rfl, (Nat.le_of_ble_eq_true rfl), (Nat.le_of_ble_eq_true rfl)⟩ rfl hl.1 rfl (Nat.le_of_ble_eq_true rfl) dL_step_235 ⟨(Nat.le_of_ble_eq_true rfl), (Nat.le_of_ble_eq_true rfl)⟩) hS (fun r F29 H locs hq hP hS => ?_)
                obtain ⟨rfl, rfl⟩ := hq
                refine lv_iload hx hb dL_step_238 (lv_at hl 0 rfl) ?_
                refine lv_iconst (v := (nI 1)) hx hb dL_step_240 (by decide) ?_
                refine ah_isub hx hb (by omega) dL_step_241 ?_
                refine ah_icmp_ne (tgt := 249) hx hb (by omega) (by omega) dL_step_242 (by decide) (fun hc242 => ?_) (fun hc242 => ?_)
                · skip
                  exact (hc242 (by omega)).elim
                · skip
                  refine lv_iconst (v := (nI 1)) hx hb dL_step_245 (by decide) ?_
                  refine lv_goto (tgt := 250) hx hb dL_step_246 (by decide) ?_
                  rw [hQ]
                  exact ah_zret E hr (by first | exact bI_nz _ | decide) hP hS ⟨rfl, ah_del P pt, n, dr, S, td, _, hCw28, how28, pr_R_del hR hpt, pd_del hD, hS6⟩ (Nat.le_of_ble_eq_true rfl) (Nat.le_of_ble_eq_true rfl) dL_step_250
      have J115 : ∀ (H : Heap) (locs : List Loc), ah_K A D F H → va_S A s.heap H locs → ∀ (ls : Array Slot), lv_has ls 10 [(0, .ref x), (1, .ref o), (2, .int (nI wh)), (3, .int (nI aa)), (4, .int (nI bb)), (5, .int (nI pt)), (6, .int (bI_ it))] → W p l e { frames := 9, cells := 5, slots := 15, locals := 193 } s m [.ref x, .ref o, .int (nI wh), .int (nI aa), .int (nI bb)].toArray below meth c H locs 0 0 Q (F0 m 115 ls []) := by
        intro H locs hP hS ls hl
        refine lv_iload_n hx hb dL_step_115 rfl (lv_at hl 2 rfl) ?_
        refine lv_bipush (v := (nI 12)) hx hb dL_step_116 (by decide) ?_
        refine lv_irem hx hb dL_step_118 (nI_ne0 (by omega) (by omega)) ?_
        rw [pk_rem (a := wh) (d := 12) (by omega) (by omega) (by omega)]
        refine lv_iconst (v := (nI 5)) hx hb dL_step_119 (by decide) ?_
        refine ah_icmp_lt (tgt := 130) hx hb (by omega) (by omega) dL_step_120 (by decide) (fun hc120 => ?_) (fun hc120 => ?_)
        · skip
          refine lv_aload_n hx hb dL_step_130 rfl (lv_at hl 0 rfl) ?_
          refine lv_aload_n hx hb dL_step_131 rfl (lv_at hl 1 rfl) ?_
          refine ah_calli (ah_runS E hP hS (As := [.ref x, .ref o]) (rest := []) (w_enters l A D _ hl1 hC ho hR hD) lk_Law_22 li_Law_22 ⟨rfl, rfl, (Nat.le_of_ble_eq_true rfl), (Nat.le_of_ble_eq_true rfl)⟩ rfl hl.1 rfl (Nat.le_of_ble_eq_true rfl) dL_step_132 ⟨(Nat.le_of_ble_eq_true rfl), (Nat.le_of_ble_eq_true rfl)⟩) hS (fun r F30 H locs hq hP hS => ?_)
          obtain ⟨rfl, P1, n1, dr1, rv1, hC1, ho1, hR1, hD1⟩ := hq
          rw [hQ]
          exact ah_zret E hr (by first | exact bI_nz _ | decide) hP hS ⟨rfl, P1, n1, dr1, S, td, rv1, hC1, ho1, hR1, hD1, hS6⟩ (Nat.le_of_ble_eq_true rfl) (Nat.le_of_ble_eq_true rfl) dL_step_135
        · skip
          refine lv_aload_n hx hb dL_step_123 rfl (lv_at hl 1 rfl) ?_
          refine lv_bipush (v := (nI 40)) hx hb dL_step_124 (by decide) ?_
          refine ah_iald E hP ho (by omega) (by omega) dL_step_126 ?_
          rw [hR.2.1]
          refine ah_if_ne (tgt := 136) hx hb (by omega) dL_step_127 (by decide) (fun hc127 => ?_) (fun hc127 => ?_)
          · skip
            refine lv_iload_n hx hb dL_step_136 rfl (lv_at hl 2 rfl) ?_
            refine lv_bipush (v := (nI 12)) hx hb dL_step_137 (by decide) ?_
            refine lv_irem hx hb dL_step_139 (nI_ne0 (by omega) (by omega)) ?_
            rw [pk_rem (a := wh) (d := 12) (by omega) (by omega) (by omega)]
            refine lv_iconst (v := (nI 5)) hx hb dL_step_140 (by decide) ?_
            refine ah_icmp_ne (tgt := 189) hx hb (by omega) (by omega) dL_step_141 (by decide) (fun hc141 => ?_) (fun hc141 => ?_)
            · skip
              exact J189  _ _ hP hS ls (lv_sub hl [0, 1, 2, 3, 4, 5, 6] rfl)
            · skip
              refine lv_iload hx hb dL_step_144 (lv_at hl 6 rfl) ?_
              refine ah_ifb_eq (tgt := 189) hx hb dL_step_146 (by decide) (fun hc146 => ?_) (fun hc146 => ?_)
              · skip
                exact J189  _ _ hP hS ls (lv_sub hl [0, 1, 2, 3, 4, 5, 6] rfl)
              · skip
                obtain ⟨w, r0, hp0⟩ := pr_l_s (of_decide_eq_true (hit.symm.trans hc146))
                have hok := hPok _ _ _ hp0
                have hrl := hok.2.1.1
                have hwl := hok.1.1
                have hwp := List.length_pos_iff.mpr hok.2.2
                refine lv_aload_n hx hb dL_step_149 rfl (lv_at hl 1 rfl) ?_
                refine lv_iload hx hb dL_step_150 (lv_at hl 5 rfl) ?_
                refine ah_iald E hP ho (by omega) (by omega) dL_step_152 ?_
                rw [hR.1 pt (by omega)]
                rw [pr_l_e hp0]
                refine lv_iconst (v := (nI 1)) hx hb dL_step_153 (by decide) ?_
                refine ah_isub hx hb (by omega) dL_step_154 ?_
                refine lv_istore (lv' := [(7, .int (nI ((r0.length + 1) - 1))), (0, .ref x), (1, .ref o), (2, .int (nI wh)), (3, .int (nI aa)), (4, .int (nI bb)), (5, .int (nI pt)), (6, .int (bI_ it))]) hx hb dL_step_155 hl (by decide) rfl (fun ls hl => ?_)
                refine lv_aload_n hx hb dL_step_157 rfl (lv_at hl 2 rfl) ?_
                refine lv_iload hx hb dL_step_158 (lv_at hl 6 rfl) ?_
                refine lv_aload_n hx hb dL_step_160 rfl (lv_at hl 2 rfl) ?_
                refine lv_bipush (v := (nI 41)) hx hb dL_step_161 (by decide) ?_
                refine ah_iald E hP ho (by omega) (by omega) dL_step_163 ?_
                rw [hR.2.2]
                refine lv_iconst (v := (nI 1)) hx hb dL_step_164 (by decide) ?_
                refine ah_iadd hx hb dL_step_165 ?_
                refine ah_iast E hP hS ho (by omega) (by omega) dL_step_166 (fun H locs hP hS => ?_)
                obtain ⟨F31, eF31⟩ : ∃ Fz : ah_F, Fz = ah_up F o (ah_ai D 42 (upd rv pt (nI (dr.length + 1)))) := ⟨_, rfl⟩
                have hP : ah_K A D F31 H := by rw [eF31]; exact hP
                have hF32 : F31 o = some (ah_ai D 42 (upd rv pt (nI (dr.length + 1)))) := by rw [eF31]; exact ah_up_s _ _ _
                have hF33 : F31 x = some (.inr (6, fs0)) := by rw [eF31]; exact ah_keep ho hxx rfl
                have hCF31 := ah_C_o (e := ah_ai D 42 (upd rv pt (nI (dr.length + 1)))) hC ho
                rw [← eF31] at hCF31
                refine lv_aload_n hx hb dL_step_167 rfl (lv_at hl 2 rfl) ?_
                refine lv_bipush (v := (nI 41)) hx hb dL_step_168 (by decide) ?_
                refine lv_iconst (v := (nI 0)) hx hb dL_step_170 (by decide) ?_
                refine ah_iast E hP hS hF32 (by omega) (by omega) dL_step_171 (fun H locs hP hS => ?_)
                obtain ⟨F34, eF34⟩ : ∃ Fz : ah_F, Fz = ah_up F31 o (ah_ai D 42 (upd (upd rv pt (nI (dr.length + 1))) 41 (nI 0))) := ⟨_, rfl⟩
                have hP : ah_K A D F34 H := by rw [eF34]; exact hP
                have hF35 : F34 o = some (ah_ai D 42 (upd (upd rv pt (nI (dr.length + 1))) 41 (nI 0))) := by rw [eF34]; exact ah_up_s _ _ _
                have hF36 : F34 x = some (.inr (6, fs0)) := by rw [eF34]; exact ah_keep hF32 hF33 rfl
                have hCF34 := ah_C_o (e := ah_ai D 42 (upd (upd rv pt (nI (dr.length + 1))) 41 (nI 0))) hCF31 hF32
                rw [← eF34] at hCF34
                refine lv_aload_n hx hb dL_step_172 rfl (lv_at hl 1 rfl) ?_
                refine lv_iload hx hb dL_step_173 (lv_at hl 6 rfl) ?_
                refine ah_calli (ah_runV E hP hS (As := [.int (nI pt)]) (rest := []) (b := x) (q_setReplacement l hl1 A D _ hCF34 hpt hp0) lk_Law_26 li_Law_26 hF36 rfl ⟨rfl, rfl, (Nat.le_of_ble_eq_true rfl), (Nat.le_of_ble_eq_true rfl)⟩ rfl hl.1 rfl (Nat.le_of_ble_eq_true rfl) dL_step_175 ⟨(Nat.le_of_ble_eq_true rfl), (Nat.le_of_ble_eq_true rfl)⟩) hS (fun r F37 H locs hq hP hS => ?_)
                obtain ⟨rfl, hCw38, houtw38⟩ := hq
                have how38 := (houtw38 _ _ hF35).trans hF35
                obtain ⟨fsw38, hxxw38⟩ := ah_C_x hCw38
                refine lv_iload hx hb dL_step_178 (lv_at hl 0 rfl) ?_
                refine ah_icmp_ne (tgt := 187) hx hb (by omega) (by omega) dL_step_180 (by decide) (fun hc180 => ?_) (fun hc180 => ?_)
                · skip
                  exact (hc180 (by omega)).elim
                · skip
                  refine lv_iconst (v := (nI 1)) hx hb dL_step_183 (by decide) ?_
                  refine lv_goto (tgt := 188) hx hb dL_step_184 (by decide) ?_
                  rw [hQ]
                  exact ah_zret E hr (by first | exact bI_nz _ | decide) hP hS ⟨rfl, ah_rep P pt w dr, n, [], S, td, _, hCw38, how38, pr_R_rep hR hpt, pd_rep hD hp0, hS6⟩ (Nat.le_of_ble_eq_true rfl) (Nat.le_of_ble_eq_true rfl) dL_step_188
          · skip
            refine lv_aload_n hx hb dL_step_130 rfl (lv_at hl 0 rfl) ?_
            refine lv_aload_n hx hb dL_step_131 rfl (lv_at hl 1 rfl) ?_
            refine ah_calli (ah_runS E hP hS (As := [.ref x, .ref o]) (rest := []) (w_enters l A D _ hl1 hC ho hR hD) lk_Law_22 li_Law_22 ⟨rfl, rfl, (Nat.le_of_ble_eq_true rfl), (Nat.le_of_ble_eq_true rfl)⟩ rfl hl.1 rfl (Nat.le_of_ble_eq_true rfl) dL_step_132 ⟨(Nat.le_of_ble_eq_true rfl), (Nat.le_of_ble_eq_true rfl)⟩) hS (fun r F39 H locs hq hP hS => ?_)
            obtain ⟨rfl, P1, n1, dr1, rv1, hC1, ho1, hR1, hD1⟩ := hq
            rw [hQ]
            exact ah_zret E hr (by first | exact bI_nz _ | decide) hP hS ⟨rfl, P1, n1, dr1, S, td, rv1, hC1, ho1, hR1, hD1, hS6⟩ (Nat.le_of_ble_eq_true rfl) (Nat.le_of_ble_eq_true rfl) dL_step_135
      have J55 : ∀ (H : Heap) (locs : List Loc), ah_K A D F H → va_S A s.heap H locs → ∀ (ls : Array Slot), lv_has ls 10 [(0, .ref x), (1, .ref o), (2, .int (nI wh)), (3, .int (nI aa)), (4, .int (nI bb)), (5, .int (nI pt)), (6, .int (bI_ it))] → W p l e { frames := 9, cells := 5, slots := 15, locals := 193 } s m [.ref x, .ref o, .int (nI wh), .int (nI aa), .int (nI bb)].toArray below meth c H locs 0 0 Q (F0 m 55 ls []) := by
        intro H locs hP hS ls hl
        refine lv_aload_n hx hb dL_step_55 rfl (lv_at hl 1 rfl) ?_
        refine lv_bipush (v := (nI 41)) hx hb dL_step_56 (by decide) ?_
        refine ah_iald E hP ho (by omega) (by omega) dL_step_58 ?_
        rw [hR.2.2]
        refine lv_bipush (v := (nI 8)) hx hb dL_step_59 (by decide) ?_
        refine ah_icmp_ge (tgt := 68) hx hb (by omega) (by omega) dL_step_61 (by decide) (fun hc61 => ?_) (fun hc61 => ?_)
        · skip
          refine lv_iconst (v := (bI_ false)) hx hb dL_step_68 (by decide) ?_
          refine lv_istore (lv' := [(7, .int (bI_ false)), (0, .ref x), (1, .ref o), (2, .int (nI wh)), (3, .int (nI aa)), (4, .int (nI bb)), (5, .int (nI pt)), (6, .int (bI_ it))]) hx hb dL_step_69 hl (by decide) rfl (fun ls hl => ?_)
          refine lv_aload_n hx hb dL_step_71 rfl (lv_at hl 2 rfl) ?_
          refine lv_bipush (v := (nI 41)) hx hb dL_step_72 (by decide) ?_
          refine lv_dup2_11 hx hb dL_step_74 rfl rfl ?_
          refine ah_iald E hP ho (by omega) (by omega) dL_step_75 ?_
          rw [hR.2.2]
          refine lv_iload hx hb dL_step_76 (lv_at hl 0 rfl) ?_
          refine ah_ifb_eq (tgt := 85) hx hb dL_step_78 (by decide) (fun hc78 => ?_) (fun hc78 => ?_)
          · skip
            refine lv_iconst (v := (nI 0)) hx hb dL_step_85 (by decide) ?_
            refine ah_iadd hx hb dL_step_86 ?_
            refine ah_iast E hP hS ho (by omega) (by omega) dL_step_87 (fun H locs hP hS => ?_)
            obtain ⟨F40, eF40⟩ : ∃ Fz : ah_F, Fz = ah_up F o (ah_ai D 42 (upd rv 41 (nI (dr.length + 0)))) := ⟨_, rfl⟩
            have hP : ah_K A D F40 H := by rw [eF40]; exact hP
            have hF41 : F40 o = some (ah_ai D 42 (upd rv 41 (nI (dr.length + 0)))) := by rw [eF40]; exact ah_up_s _ _ _
            have hF42 : F40 x = some (.inr (6, fs0)) := by rw [eF40]; exact ah_keep ho hxx rfl
            have hCF40 := ah_C_o (e := ah_ai D 42 (upd rv 41 (nI (dr.length + 0)))) hC ho
            rw [← eF40] at hCF40
            refine lv_iload hx hb dL_step_88 (lv_at hl 0 rfl) ?_
            refine ah_ifb_eq (tgt := 109) hx hb dL_step_90 (by decide) (fun hc90 => ?_) (fun hc90 => ?_)
            · skip
              refine lv_iconst (v := (nI 1)) hx hb dL_step_109 (by decide) ?_
              refine lv_goto (tgt := 114) hx hb dL_step_110 (by decide) ?_
              rw [hQ]
              exact ah_zret E hr (by first | exact bI_nz _ | decide) hP hS ⟨rfl, P, n, dr, S, td, _, hCF40, hF41, pr_R_dr hR rfl, hD, hS6⟩ (Nat.le_of_ble_eq_true rfl) (Nat.le_of_ble_eq_true rfl) dL_step_114
            · skip
              exact absurd hc90 (by decide)
          · skip
            exact absurd hc78 (by decide)
        · skip
          refine lv_iconst (v := (bI_ true)) hx hb dL_step_64 (by decide) ?_
          refine lv_goto (tgt := 69) hx hb dL_step_65 (by decide) ?_
          refine lv_istore (lv' := [(7, .int (bI_ true)), (0, .ref x), (1, .ref o), (2, .int (nI wh)), (3, .int (nI aa)), (4, .int (nI bb)), (5, .int (nI pt)), (6, .int (bI_ it))]) hx hb dL_step_69 hl (by decide) rfl (fun ls hl => ?_)
          refine lv_aload_n hx hb dL_step_71 rfl (lv_at hl 2 rfl) ?_
          refine lv_bipush (v := (nI 41)) hx hb dL_step_72 (by decide) ?_
          refine lv_dup2_11 hx hb dL_step_74 rfl rfl ?_
          refine ah_iald E hP ho (by omega) (by omega) dL_step_75 ?_
          rw [hR.2.2]
          refine lv_iload hx hb dL_step_76 (lv_at hl 0 rfl) ?_
          refine ah_ifb_eq (tgt := 85) hx hb dL_step_78 (by decide) (fun hc78 => ?_) (fun hc78 => ?_)
          · skip
            exact absurd hc78 (by decide)
          · skip
            refine lv_iconst (v := (nI 1)) hx hb dL_step_81 (by decide) ?_
            refine lv_goto (tgt := 86) hx hb dL_step_82 (by decide) ?_
            refine ah_iadd hx hb dL_step_86 ?_
            refine ah_iast E hP hS ho (by omega) (by omega) dL_step_87 (fun H locs hP hS => ?_)
            obtain ⟨F43, eF43⟩ : ∃ Fz : ah_F, Fz = ah_up F o (ah_ai D 42 (upd rv 41 (nI (dr.length + 1)))) := ⟨_, rfl⟩
            have hP : ah_K A D F43 H := by rw [eF43]; exact hP
            have hF44 : F43 o = some (ah_ai D 42 (upd rv 41 (nI (dr.length + 1)))) := by rw [eF43]; exact ah_up_s _ _ _
            have hF45 : F43 x = some (.inr (6, fs0)) := by rw [eF43]; exact ah_keep ho hxx rfl
            have hCF43 := ah_C_o (e := ah_ai D 42 (upd rv 41 (nI (dr.length + 1)))) hC ho
            rw [← eF43] at hCF43
            refine lv_iload hx hb dL_step_88 (lv_at hl 0 rfl) ?_
            refine ah_ifb_eq (tgt := 109) hx hb dL_step_90 (by decide) (fun hc90 => ?_) (fun hc90 => ?_)
            · skip
              exact absurd hc90 (by decide)
            · skip
              refine lv_aload_n hx hb dL_step_93 rfl (lv_at hl 1 rfl) ?_
              refine lv_iload hx hb dL_step_94 (lv_at hl 5 rfl) ?_
              refine ah_calli (ah_runS E hP hS (As := [.int (nI bb)]) (rest := [.ref x]) (w_letter l A D _ (v := bb) hbb) lk_Law_10 li_Law_10 ⟨rfl, rfl, (Nat.le_of_ble_eq_true rfl), (Nat.le_of_ble_eq_true rfl)⟩ rfl hl.1 rfl (Nat.le_of_ble_eq_true rfl) dL_step_96 ⟨(Nat.le_of_ble_eq_true rfl), (Nat.le_of_ble_eq_true rfl)⟩) hS (fun r F46 H locs hq hP hS => ?_)
              obtain ⟨rfl, cv, hcv1, hcv2, rfl⟩ := hq
              refine ah_calli (ah_runV E hP hS (As := [.int (nI cv)]) (rest := []) (b := x) (q_draft l hl1 A D _ hCF43 hcv1 hcv2 (by omega)) lk_Law_16 li_Law_16 hF45 rfl ⟨rfl, rfl, (Nat.le_of_ble_eq_true rfl), (Nat.le_of_ble_eq_true rfl)⟩ rfl hl.1 rfl (Nat.le_of_ble_eq_true rfl) dL_step_99 ⟨(Nat.le_of_ble_eq_true rfl), (Nat.le_of_ble_eq_true rfl)⟩) hS (fun r F47 H locs hq hP hS => ?_)
              obtain ⟨rfl, hCw48, houtw48⟩ := hq
              have how48 := (houtw48 _ _ hF44).trans hF44
              obtain ⟨fsw48, hxxw48⟩ := ah_C_x hCw48
              refine lv_aload_n hx hb dL_step_102 rfl (lv_at hl 2 rfl) ?_
              refine lv_bipush (v := (nI 41)) hx hb dL_step_103 (by decide) ?_
              refine ah_iald E hP how48 (by omega) (by omega) dL_step_105 ?_
              rw [(show upd rv 41 (nI (dr.length + 1)) 41 = nI (dr.length + 1) from pk_us)]
              refine ah_icmp_ne (tgt := 113) hx hb (by omega) (by omega) dL_step_106 (by decide) (fun hc106 => ?_) (fun hc106 => ?_)
              · skip
                exact (hc106 rfl).elim
              · skip
                refine lv_iconst (v := (nI 1)) hx hb dL_step_109 (by decide) ?_
                refine lv_goto (tgt := 114) hx hb dL_step_110 (by decide) ?_
                rw [hQ]
                exact ah_zret E hr (by first | exact bI_nz _ | decide) hP hS ⟨rfl, P, n, dr ++ [cv - 96], S, td, _, hCw48, how48, pr_R_dr hR (by simp), hD, hS6⟩ (Nat.le_of_ble_eq_true rfl) (Nat.le_of_ble_eq_true rfl) dL_step_114
      refine lv_iload_n hx hb dL_step_33 rfl (lv_at hl 2 rfl) ?_
      refine lv_bipush (v := (nI 12)) hx hb dL_step_34 (by decide) ?_
      refine lv_irem hx hb dL_step_36 (nI_ne0 (by omega) (by omega)) ?_
      rw [pk_rem (a := wh) (d := 12) (by omega) (by omega) (by omega)]
      refine lv_iconst (v := (nI 3)) hx hb dL_step_37 (by decide) ?_
      refine ah_icmp_lt (tgt := 55) hx hb (by omega) (by omega) dL_step_38 (by decide) (fun hc38 => ?_) (fun hc38 => ?_)
      · skip
        exact J55  _ _ hP hS ls (lv_sub hl [0, 1, 2, 3, 4, 5, 6] rfl)
      · skip
        refine lv_aload_n hx hb dL_step_41 rfl (lv_at hl 1 rfl) ?_
        refine lv_bipush (v := (nI 40)) hx hb dL_step_42 (by decide) ?_
        refine ah_iald E hP ho (by omega) (by omega) dL_step_44 ?_
        rw [hR.2.1]
        refine ah_if_ne (tgt := 115) hx hb (by omega) dL_step_45 (by decide) (fun hc45 => ?_) (fun hc45 => ?_)
        · skip
          exact J115  _ _ hP hS ls (lv_sub hl [0, 1, 2, 3, 4, 5, 6] rfl)
        · skip
          refine lv_aload_n hx hb dL_step_48 rfl (lv_at hl 1 rfl) ?_
          refine lv_bipush (v := (nI 41)) hx hb dL_step_49 (by decide) ?_
          refine ah_iald E hP ho (by omega) (by omega) dL_step_51 ?_
          rw [hR.2.2]
          refine ah_if_ne (tgt := 115) hx hb (by omega) dL_step_52 (by decide) (fun hc52 => ?_) (fun hc52 => ?_)
          · skip
            exact J115  _ _ hP hS ls (lv_sub hl [0, 1, 2, 3, 4, 5, 6] rfl)
          · skip
            exact J55  _ _ hP hS ls (lv_sub hl [0, 1, 2, 3, 4, 5, 6] rfl)
    refine lv_aload_n hx hb dL_step_19 rfl (lv_at hl 1 rfl) ?_
    refine lv_iload hx hb dL_step_20 (lv_at hl 5 rfl) ?_
    refine ah_iald E hP ho (by omega) (by omega) dL_step_22 ?_
    rw [hR.1 pt (by omega)]
    refine ah_if_le (tgt := 30) hx hb (by omega) dL_step_23 (by decide) (fun hc23 => ?_) (fun hc23 => ?_)
    · skip
      refine lv_iconst (v := (bI_ false)) hx hb dL_step_30 (by decide) ?_
      refine lv_istore (lv' := [(6, .int (bI_ false)), (0, .ref x), (1, .ref o), (2, .int (nI wh)), (3, .int (nI aa)), (4, .int (nI bb)), (5, .int (nI pt))]) hx hb dL_step_31 hl (by decide) rfl (fun ls hl => ?_)
      exact J33 false (by rw [hc23]; rfl) _ _ hP hS ls (lv_sub hl [1, 2, 3, 4, 5, 6, 0] rfl)
    · skip
      refine lv_iconst (v := (bI_ true)) hx hb dL_step_26 (by decide) ?_
      refine lv_goto (tgt := 31) hx hb dL_step_27 (by decide) ?_
      refine lv_istore (lv' := [(6, .int (bI_ true)), (0, .ref x), (1, .ref o), (2, .int (nI wh)), (3, .int (nI aa)), (4, .int (nI bb)), (5, .int (nI pt))]) hx hb dL_step_31 hl (by decide) rfl (fun ls hl => ?_)
      exact J33 true (decide_eq_true hc23).symm _ _ hP hS ls (lv_sub hl [1, 2, 3, 4, 5, 6, 0] rfl)
  refine lv_aload_n hx hb dL_step_0 rfl (lv_at hl 1 rfl) ?_
  refine lv_bipush (v := (nI 40)) hx hb dL_step_1 (by decide) ?_
  refine ah_iald E hP ho (by omega) (by omega) dL_step_3 ?_
  rw [hR.2.1]
  refine ah_if_ne (tgt := 11) hx hb (by omega) dL_step_4 (by decide) (fun hc4 => ?_) (fun hc4 => ?_)
  · skip
    refine lv_iload_n hx hb dL_step_11 rfl (lv_at hl 3 rfl) ?_
    refine lv_aload_n hx hb dL_step_12 rfl (lv_at hl 1 rfl) ?_
    refine lv_bipush (v := (nI 40)) hx hb dL_step_13 (by decide) ?_
    refine ah_iald E hP ho (by omega) (by omega) dL_step_15 ?_
    rw [hR.2.1]
    refine lv_irem hx hb dL_step_16 (nI_ne0 (by omega) (by omega)) ?_
    rw [pk_rem (a := aa) (d := n) (by omega) (by omega) (by omega)]
    refine lv_istore (lv' := [(5, .int (nI (aa % n))), (0, .ref x), (1, .ref o), (2, .int (nI wh)), (3, .int (nI aa)), (4, .int (nI bb))]) hx hb dL_step_17 hl (by decide) rfl (fun ls hl => ?_)
    exact J19 (aa % n) (by have := Nat.mod_lt aa (show n > 0 by omega); omega) _ _ hP hS ls (lv_sub hl [1, 2, 3, 4, 5, 0] rfl)
  · skip
    refine lv_iconst (v := (nI 0)) hx hb dL_step_7 (by decide) ?_
    refine lv_goto (tgt := 17) hx hb dL_step_8 (by decide) ?_
    refine lv_istore (lv' := [(5, .int (nI 0)), (0, .ref x), (1, .ref o), (2, .int (nI wh)), (3, .int (nI aa)), (4, .int (nI bb))]) hx hb dL_step_17 hl (by decide) rfl (fun ls hl => ?_)
    exact J19 0 (by omega) _ _ hP hS ls (lv_sub hl [1, 2, 3, 4, 5, 0] rfl)
