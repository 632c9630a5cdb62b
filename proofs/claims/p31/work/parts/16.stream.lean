set_option maxHeartbeats 4000000 in
set_option maxRecDepth 100000 in
/-- lastsBefore -/
theorem c_Stream_lastsBefore (l : Launch) (A : Nat → Prop) (D : ah_G) (F : ah_F) {st la : Nat} {lf : Nat → Int64} {S : List Nat} (hst : F st = some (.inr (3, [.ref la, .int (nI S.length)]))) (hla : F la = some (ah_al D 201 lf)) (hstr : ah_str lf S) {k : Nat} (hk : k < 2 ^ 31) : Met l yX3_lastsBefore (Cond.code yX3_lastsBefore cX3_lastsBefore 2 (some .long) :: ah_T) { frames := 0, cells := 0, slots := 0, locals := 0 } (va_Pc [.ref st, .int (nI k)] (ah_B A D F)) (ah_Ql A D (fun (r : Int64) F1 => F = F1 ∧ lN (ah_lb S k) = r)) 0 0 A := by
  refine ah_met (own := "Ahoarch$Stream") (by decide) rfl (Nat.le_of_ble_eq_true rfl) ?_
  intro p e s m below meth c ls E hr hini hl hP hS Q hQ
  have hx := E.1
  have hb := E.2.1
  have hl : lv_has ls 2 [(0, .ref st), (1, .int (nI k))] := hl
  obtain ⟨hS1, hS2, hS3⟩ := id hstr
  refine lv_iload_n hx hb dX3_lastsBefore_0 rfl (lv_at hl 1 rfl) ?_
  refine ah_if_lt (tgt := 21) hx hb (by omega) dX3_lastsBefore_1 (by decide) ?_
  refine lv_iload_n hx hb dX3_lastsBefore_4 rfl (lv_at hl 1 rfl) ?_
  refine lv_aload_n hx hb dX3_lastsBefore_5 rfl (lv_at hl 0 rfl) ?_
  refine gf_Stream_15 E hP hst rfl dX3_lastsBefore_6 ?_
  refine ah_icmp_gt (tgt := 21) hx hb (by omega) (by omega) dX3_lastsBefore_9 (by decide) (fun hc9 => ?_) (fun hc9 => ?_)
  · skip
    refine lv_lconst (v := (lN 0)) hx hb dX3_lastsBefore_21 rfl ?_
    rw [hQ]
    exact ah_lret E hr hP hS ⟨rfl, by rw [ah_lb, if_neg (by omega)]⟩ (Nat.le_of_ble_eq_true rfl) (Nat.le_of_ble_eq_true rfl) dX3_lastsBefore_22
  · skip
    refine lv_aload_n hx hb dX3_lastsBefore_12 rfl (lv_at hl 0 rfl) ?_
    refine gf_Stream_9 E hP hst rfl dX3_lastsBefore_13 ?_
    refine lv_iload_n hx hb dX3_lastsBefore_16 rfl (lv_at hl 1 rfl) ?_
    refine ah_lald E hP hla (by omega) (by omega) dX3_lastsBefore_17 ?_
    refine lv_goto (tgt := 22) hx hb dX3_lastsBefore_18 (by decide) ?_
    rw [hQ]
    exact ah_lret E hr hP hS ⟨rfl, by rw [ah_lb, if_pos (by omega), hS3 _ (by omega)]⟩ (Nat.le_of_ble_eq_true rfl) (Nat.le_of_ble_eq_true rfl) dX3_lastsBefore_22

set_option maxHeartbeats 4000000 in
set_option maxRecDepth 100000 in
/-- holdsBefore -/
theorem c_Stream_holdsBefore (l : Launch) (A : Nat → Prop) (D : ah_G) (F : ah_F) {st la : Nat} {lf : Nat → Int64} {S : List Nat} (hst : F st = some (.inr (3, [.ref la, .int (nI S.length)]))) (hla : F la = some (ah_al D 201 lf)) (hstr : ah_str lf S) {wa : Nat} {w : List Nat} (hw : ah_wd F wa w) (hok : ah_ok w) {k : Nat} (hk : k ≤ S.length) : Met l yX3_holdsBefore (Cond.code yX3_holdsBefore cX3_holdsBefore 3 (some .boolean) :: ah_T) { frames := 1, cells := 0, slots := 0, locals := 22 } (va_Pc [.ref st, .int (nI k), .ref wa] (ah_B A D F)) (ah_Qi A D (fun (r : Int32) F1 => F = F1 ∧ bI_ (ah_en S k w) = r)) 0 0 A := by
  refine ah_met (own := "Ahoarch$Stream") (by decide) rfl (Nat.le_of_ble_eq_true rfl) ?_
  intro p e s m below meth c ls E hr hini hl hP hS Q hQ
  have hx := E.1
  have hb := E.2.1
  have hl : lv_has ls 3 [(0, .ref st), (1, .int (nI k)), (2, .ref wa)] := hl
  obtain ⟨hS1, hS2, hS3⟩ := id hstr
  have hlen := hok.1
  refine lv_aload_n hx hb dX3_holdsBefore_0 rfl (lv_at hl 0 rfl) ?_
  refine lv_iload_n hx hb dX3_holdsBefore_1 rfl (lv_at hl 1 rfl) ?_
  refine ah_calll (ah_runV E hP hS (As := [.int (nI k)]) (rest := []) (b := st) (c_Stream_lastsBefore l A D _ hst hla hstr (k := k) (by omega)) lk_Stream_27 li_Stream_27 hst rfl ⟨rfl, rfl, (Nat.le_of_ble_eq_true rfl), (Nat.le_of_ble_eq_true rfl)⟩ rfl hl.1 rfl (Nat.le_of_ble_eq_true rfl) dX3_holdsBefore_2 ⟨(Nat.le_of_ble_eq_true rfl), (Nat.le_of_ble_eq_true rfl)⟩) hS (fun r F1 H locs hq hP hS => ?_)
  obtain ⟨rfl, rfl⟩ := hq
  refine lv_aload_n hx hb dX3_holdsBefore_5 rfl (lv_at hl 2 rfl) ?_
  refine gf_Stream_35 E hP hw rfl dX3_holdsBefore_6 ?_
  refine ah_calll (ah_runSN E hP hS (As := [.long (lN (ah_lb S k)), .int (nI w.length)]) (rest := []) (c_tail l A D _ (a := ah_lb S k) (k := w.length) (by have := ah_lb_lt hS2 k; omega) (by omega)) lk_Stream_23 li_Stream_23 ⟨rfl, rfl, (Nat.le_of_ble_eq_true rfl), (Nat.le_of_ble_eq_true rfl)⟩ rfl hl.1 rfl (Nat.le_of_ble_eq_true rfl) dX3_holdsBefore_9 ⟨(Nat.le_of_ble_eq_true rfl), (Nat.le_of_ble_eq_true rfl)⟩) hS (fun r F2 H locs hq hP hS => ?_)
  obtain ⟨rfl, rfl⟩ := hq
  refine lv_aload_n hx hb dX3_holdsBefore_12 rfl (lv_at hl 2 rfl) ?_
  refine gf_Stream_38 E hP hw rfl dX3_holdsBefore_13 ?_
  refine W.lcmp hx hb dX3_holdsBefore_16 ?_
  refine lv_if_ne (tgt := 24) hx hb dX3_holdsBefore_17 (by decide) (fun hc17 => ?_) (fun hc17 => ?_)
  · skip
    refine lv_iconst (v := (nI 0)) hx hb dX3_holdsBefore_24 (by decide) ?_
    rw [hQ]
    exact ah_zret E hr (by first | exact bI_nz _ | decide) hP hS ⟨rfl, ah_bn (ah_hb hS2 hok hk) (fun h => hc17 (ah_cmp0.mpr h))⟩ (Nat.le_of_ble_eq_true rfl) (Nat.le_of_ble_eq_true rfl) dX3_holdsBefore_25
  · skip
    refine lv_iconst (v := (nI 1)) hx hb dX3_holdsBefore_20 (by decide) ?_
    refine lv_goto (tgt := 25) hx hb dX3_holdsBefore_21 (by decide) ?_
    rw [hQ]
    exact ah_zret E hr (by first | exact bI_nz _ | decide) hP hS ⟨rfl, ah_bz (ah_hb hS2 hok hk) (ah_cmp0.mp hc17)⟩ (Nat.le_of_ble_eq_true rfl) (Nat.le_of_ble_eq_true rfl) dX3_holdsBefore_25

set_option maxHeartbeats 4000000 in
set_option maxRecDepth 100000 in
/-- holdsAt -/
theorem c_Stream_holdsAt (l : Launch) (A : Nat → Prop) (D : ah_G) (F : ah_F) {st la : Nat} {lf : Nat → Int64} {S : List Nat} (hst : F st = some (.inr (3, [.ref la, .int (nI S.length)]))) (hla : F la = some (ah_al D 201 lf)) (hstr : ah_str lf S) {wa : Nat} {w : List Nat} (hw : ah_wd F wa w) (hok : ah_ok w) {k : Nat} (hk : k < 2 ^ 30) (hn : w ≠ []) : Met l yX3_holdsAt (Cond.code yX3_holdsAt cX3_holdsAt 3 (some .boolean) :: ah_T) { frames := 1, cells := 0, slots := 0, locals := 22 } (va_Pc [.ref st, .int (nI k), .ref wa] (ah_B A D F)) (ah_Qi A D (fun (r : Int32) F1 => F = F1 ∧ bI_ (ah_at S k w) = r)) 0 0 A := by
  refine ah_met (own := "Ahoarch$Stream") (by decide) rfl (Nat.le_of_ble_eq_true rfl) ?_
  intro p e s m below meth c ls E hr hini hl hP hS Q hQ
  have hx := E.1
  have hb := E.2.1
  have hl : lv_has ls 3 [(0, .ref st), (1, .int (nI k)), (2, .ref wa)] := hl
  obtain ⟨hS1, hS2, hS3⟩ := id hstr
  have hlen := hok.1
  refine lv_aload_n hx hb dX3_holdsAt_0 rfl (lv_at hl 0 rfl) ?_
  refine lv_iload_n hx hb dX3_holdsAt_1 rfl (lv_at hl 1 rfl) ?_
  refine lv_aload_n hx hb dX3_holdsAt_2 rfl (lv_at hl 2 rfl) ?_
  refine gf_Stream_35 E hP hw rfl dX3_holdsAt_3 ?_
  refine ah_iadd hx hb dX3_holdsAt_6 ?_
  refine ah_calll (ah_runV E hP hS (As := [.int (nI (k + w.length))]) (rest := []) (b := st) (c_Stream_lastsBefore l A D _ hst hla hstr (k := k + w.length) (by omega)) lk_Stream_27 li_Stream_27 hst rfl ⟨rfl, rfl, (Nat.le_of_ble_eq_true rfl), (Nat.le_of_ble_eq_true rfl)⟩ rfl hl.1 rfl (Nat.le_of_ble_eq_true rfl) dX3_holdsAt_7 ⟨(Nat.le_of_ble_eq_true rfl), (Nat.le_of_ble_eq_true rfl)⟩) hS (fun r F1 H locs hq hP hS => ?_)
  obtain ⟨rfl, rfl⟩ := hq
  refine lv_aload_n hx hb dX3_holdsAt_10 rfl (lv_at hl 2 rfl) ?_
  refine gf_Stream_35 E hP hw rfl dX3_holdsAt_11 ?_
  refine ah_calll (ah_runSN E hP hS (As := [.long (lN (ah_lb S (k + w.length))), .int (nI w.length)]) (rest := []) (c_tail l A D _ (a := ah_lb S (k + w.length)) (k := w.length) (by have := ah_lb_lt hS2 (k + w.length); omega) (by omega)) lk_Stream_23 li_Stream_23 ⟨rfl, rfl, (Nat.le_of_ble_eq_true rfl), (Nat.le_of_ble_eq_true rfl)⟩ rfl hl.1 rfl (Nat.le_of_ble_eq_true rfl) dX3_holdsAt_14 ⟨(Nat.le_of_ble_eq_true rfl), (Nat.le_of_ble_eq_true rfl)⟩) hS (fun r F2 H locs hq hP hS => ?_)
  obtain ⟨rfl, rfl⟩ := hq
  refine lv_aload_n hx hb dX3_holdsAt_17 rfl (lv_at hl 2 rfl) ?_
  refine gf_Stream_38 E hP hw rfl dX3_holdsAt_18 ?_
  refine W.lcmp hx hb dX3_holdsAt_21 ?_
  refine lv_if_ne (tgt := 29) hx hb dX3_holdsAt_22 (by decide) (fun hc22 => ?_) (fun hc22 => ?_)
  · skip
    refine lv_iconst (v := (nI 0)) hx hb dX3_holdsAt_29 (by decide) ?_
    rw [hQ]
    exact ah_zret E hr (by first | exact bI_nz _ | decide) hP hS ⟨rfl, ah_bn (ah_ha hS2 hok hn) (fun h => hc22 (ah_cmp0.mpr h))⟩ (Nat.le_of_ble_eq_true rfl) (Nat.le_of_ble_eq_true rfl) dX3_holdsAt_30
  · skip
    refine lv_iconst (v := (nI 1)) hx hb dX3_holdsAt_25 (by decide) ?_
    refine lv_goto (tgt := 30) hx hb dX3_holdsAt_26 (by decide) ?_
    rw [hQ]
    exact ah_zret E hr (by first | exact bI_nz _ | decide) hP hS ⟨rfl, ah_bz (ah_ha hS2 hok hn) (ah_cmp0.mp hc22)⟩ (Nat.le_of_ble_eq_true rfl) (Nat.le_of_ble_eq_true rfl) dX3_holdsAt_30

set_option maxHeartbeats 4000000 in
set_option maxRecDepth 100000 in
/-- letterAt -/
theorem c_Stream_letterAt (l : Launch) (A : Nat → Prop) (D : ah_G) (F : ah_F) {st la : Nat} {lf : Nat → Int64} {S : List Nat} (hst : F st = some (.inr (3, [.ref la, .int (nI S.length)]))) (hla : F la = some (ah_al D 201 lf)) (hstr : ah_str lf S) {k : Nat} (hk : k < S.length) : Met l yX3_letterAt (Cond.code yX3_letterAt cX3_letterAt 2 (some .char) :: ah_T) { frames := 1, cells := 0, slots := 0, locals := 21 } (va_Pc [.ref st, .int (nI k)] (ah_B A D F)) (ah_Qi A D (fun (r : Int32) F1 => F = F1 ∧ nI (96 + S.getD k 0) = r)) 0 0 A := by
  refine ah_met (own := "Ahoarch$Stream") (by decide) rfl (Nat.le_of_ble_eq_true rfl) ?_
  intro p e s m below meth c ls E hr hini hl hP hS Q hQ
  have hx := E.1
  have hb := E.2.1
  have hl : lv_has ls 2 [(0, .ref st), (1, .int (nI k))] := hl
  obtain ⟨hS1, hS2, hS3⟩ := id hstr
  refine lv_aload_n hx hb dX3_letterAt_0 rfl (lv_at hl 0 rfl) ?_
  refine lv_iload_n hx hb dX3_letterAt_1 rfl (lv_at hl 1 rfl) ?_
  refine lv_iconst (v := (nI 1)) hx hb dX3_letterAt_2 (by decide) ?_
  refine ah_iadd hx hb dX3_letterAt_3 ?_
  refine ah_calll (ah_runV E hP hS (As := [.int (nI (k + 1))]) (rest := []) (b := st) (c_Stream_lastsBefore l A D _ hst hla hstr (k := k + 1) (by omega)) lk_Stream_27 li_Stream_27 hst rfl ⟨rfl, rfl, (Nat.le_of_ble_eq_true rfl), (Nat.le_of_ble_eq_true rfl)⟩ rfl hl.1 rfl (Nat.le_of_ble_eq_true rfl) dX3_letterAt_4 ⟨(Nat.le_of_ble_eq_true rfl), (Nat.le_of_ble_eq_true rfl)⟩) hS (fun r F1 H locs hq hP hS => ?_)
  obtain ⟨rfl, rfl⟩ := hq
  refine ah_calli (ah_runSN E hP hS (As := [.long (lN (ah_lb S (k + 1)))]) (rest := []) (c_letterOf l A D _ (a := ah_lb S (k + 1)) (by have := ah_lb_lt hS2 (k + 1); omega)) lk_Stream_31 li_Stream_31 ⟨rfl, rfl, (Nat.le_of_ble_eq_true rfl), (Nat.le_of_ble_eq_true rfl)⟩ rfl hl.1 rfl (Nat.le_of_ble_eq_true rfl) dX3_letterAt_7 ⟨(Nat.le_of_ble_eq_true rfl), (Nat.le_of_ble_eq_true rfl)⟩) hS (fun r F2 H locs hq hP hS => ?_)
  obtain ⟨rfl, rfl⟩ := hq
  rw [hQ]
  exact ah_zret E hr (pk_charN (q := 96 + ah_lb S (k + 1) % 32) (by omega)).1 hP hS ⟨rfl, by rw [ah_lb_last hS2 hk]⟩ (Nat.le_of_ble_eq_true rfl) (Nat.le_of_ble_eq_true rfl) dX3_letterAt_10

set_option maxHeartbeats 4000000 in
set_option maxRecDepth 100000 in
/-- add -/
theorem c_Stream_add (l : Launch) (A : Nat → Prop) (D : ah_G) (F : ah_F) {st la : Nat} {lf : Nat → Int64} {S : List Nat} (hst : F st = some (.inr (3, [.ref la, .int (nI S.length)]))) (hla : F la = some (ah_al D 201 lf)) (hstr : ah_str lf S) {x : Nat} (hx1 : 1 ≤ x) (hx2 : x ≤ 26) (hl : S.length < 200) : Met l yX3_add (Cond.code yX3_add cX3_add 2 none :: ah_T) { frames := 1, cells := 0, slots := 0, locals := 22 } (va_Pc [.ref st, .int (nI (x + 96))] (ah_B A D F)) (ah_Qv A D (fun F1 => F1 = ah_up (ah_up F la (ah_al D 201 (vp_updL lf (S.length + 1) (lN (ah_enc (ah_l8 (S ++ [x]))))))) st (.inr (3, [.ref la, .int (nI (S.length + 1))])))) 0 0 A := by
  refine ah_met (own := "Ahoarch$Stream") (by decide) rfl (Nat.le_of_ble_eq_true rfl) ?_
  intro p e s m below meth c ls E hr hini hl hP hS Q hQ
  have hx := E.1
  have hb := E.2.1
  have hl : lv_has ls 2 [(0, .ref st), (1, .int (nI (x + 96)))] := hl
  have hll := hl
  obtain ⟨hS1, hS2, hS3⟩ := id hstr
  have he40 := ah_enc_40 (ah_l8_ok hS2)
  refine lv_aload_n hx hb dX3_add_0 rfl (lv_at hl 0 rfl) ?_
  refine gf_Stream_15 E hP hst rfl dX3_add_1 ?_
  refine lv_sipush (v := (nI 200)) hx hb dX3_add_4 (by decide) ?_
  refine ah_icmp_ge (tgt := 52) hx hb (by omega) (by omega) dX3_add_7 (by decide) (fun hc7 => ?_) (fun hc7 => ?_)
  · skip
    exact absurd hc7 (by omega)
  · skip
    refine lv_aload_n hx hb dX3_add_10 rfl (lv_at hl 0 rfl) ?_
    refine gf_Stream_9 E hP hst rfl dX3_add_11 ?_
    refine lv_aload_n hx hb dX3_add_14 rfl (lv_at hl 0 rfl) ?_
    refine gf_Stream_15 E hP hst rfl dX3_add_15 ?_
    refine lv_iconst (v := (nI 1)) hx hb dX3_add_18 (by decide) ?_
    refine ah_iadd hx hb dX3_add_19 ?_
    refine lv_aload_n hx hb dX3_add_20 rfl (lv_at hl 0 rfl) ?_
    refine gf_Stream_9 E hP hst rfl dX3_add_21 ?_
    refine lv_aload_n hx hb dX3_add_24 rfl (lv_at hl 0 rfl) ?_
    refine gf_Stream_15 E hP hst rfl dX3_add_25 ?_
    refine ah_lald E hP hla (by omega) (by omega) dX3_add_28 ?_
    rw [(show lf S.length = lN (ah_enc (ah_l8 S)) by have := hS3 S.length (by omega); rw [List.take_length] at this; exact this)]
    refine lv_iconst (v := (nI 5)) hx hb dX3_add_29 (by decide) ?_
    refine lv_lshl (v := (lN (ah_enc (ah_l8 S) * 32))) hx hb dX3_add_30 (ah_sh5 _) ?_
    refine lv_iload_n hx hb dX3_add_31 rfl (lv_at hl 1 rfl) ?_
    refine ah_calll (ah_runSN E hP hS (As := [.int (nI (x + 96))]) (rest := [.long (lN (ah_enc (ah_l8 S) * 32)), .int (nI (S.length + 1)), .ref la]) (c_codeOf l A D _ hx1 hx2) lk_Stream_19 li_Stream_19 ⟨rfl, rfl, (Nat.le_of_ble_eq_true rfl), (Nat.le_of_ble_eq_true rfl)⟩ rfl hl.1 rfl (Nat.le_of_ble_eq_true rfl) dX3_add_32 ⟨(Nat.le_of_ble_eq_true rfl), (Nat.le_of_ble_eq_true rfl)⟩) hS (fun r F1 H locs hq hP hS => ?_)
    obtain ⟨rfl, rfl⟩ := hq
    refine lv_lor hx hb dX3_add_35 ?_
    rw [show (lN (ah_enc (ah_l8 S) * 32)) ||| (lN x) = lN (ah_enc (ah_l8 S) * 32 + x) from (ah_or5 (by omega) (by omega))]
    refine lv_bipush (v := (nI 8)) hx hb dX3_add_36 (by decide) ?_
    refine ah_calll (ah_runSN E hP hS (As := [.long (lN (ah_enc (ah_l8 S) * 32 + x)), .int (nI 8)]) (rest := [.int (nI (S.length + 1)), .ref la]) (c_tail l A D _ (a := ah_enc (ah_l8 S) * 32 + x) (k := 8) (by omega) (by omega)) lk_Stream_23 li_Stream_23 ⟨rfl, rfl, (Nat.le_of_ble_eq_true rfl), (Nat.le_of_ble_eq_true rfl)⟩ rfl hl.1 rfl (Nat.le_of_ble_eq_true rfl) dX3_add_38 ⟨(Nat.le_of_ble_eq_true rfl), (Nat.le_of_ble_eq_true rfl)⟩) hS (fun r F2 H locs hq hP hS => ?_)
    obtain ⟨rfl, rfl⟩ := hq
    rw [ah_lb_mod8 hS2 hx1 hx2]
    refine ah_last E hP hS hla (by omega) (by omega) dX3_add_41 (fun H locs hP hS => ?_)
    obtain ⟨F3, eF3⟩ : ∃ Fz : ah_F, Fz = ah_up F la (ah_al D 201 (vp_updL lf (S.length + 1) (lN (ah_enc (ah_l8 (S ++ [x])))))) := ⟨_, rfl⟩
    have hP : ah_K A D F3 H := by rw [eF3]; exact hP
    have hF4 : F3 la = some (ah_al D 201 (vp_updL lf (S.length + 1) (lN (ah_enc (ah_l8 (S ++ [x])))))) := by rw [eF3]; exact ah_up_s _ _ _
    have hF5 : F3 st = some (.inr (3, [.ref la, .int (nI S.length)])) := by rw [eF3]; exact ah_keep hla hst rfl
    refine lv_aload_n hx hb dX3_add_42 rfl (lv_at hl 0 rfl) ?_
    refine lv_dup hx hb dX3_add_43 rfl ?_
    refine gf_Stream_15 E hP hF5 rfl dX3_add_44 ?_
    refine lv_iconst (v := (nI 1)) hx hb dX3_add_47 (by decide) ?_
    refine ah_iadd hx hb dX3_add_48 ?_
    refine pf_Stream_15 E hP hS hF5 (Nat.le_of_ble_eq_true rfl) dX3_add_49 (fun H locs hP hS => ?_)
    obtain ⟨F6, eF6⟩ : ∃ Fz : ah_F, Fz = ah_up F3 st (.inr (3, [.ref la, .int (nI (S.length + 1))])) := ⟨_, rfl⟩
    have hP : ah_K A D F6 H := by rw [eF6]; exact hP
    have hF7 : F6 st = some (.inr (3, [.ref la, .int (nI (S.length + 1))])) := by rw [eF6]; exact ah_up_s _ _ _
    have hF8 : F6 la = some (ah_al D 201 (vp_updL lf (S.length + 1) (lN (ah_enc (ah_l8 (S ++ [x])))))) := by rw [eF6]; exact ah_keep hF5 hF4 rfl
    rw [hQ]
    exact ah_vret E hr hP hS (by rw [eF6, eF3]) (Nat.le_of_ble_eq_true rfl) (Nat.le_of_ble_eq_true rfl) dX3_add_52

set_option maxHeartbeats 4000000 in
set_option maxRecDepth 100000 in
/-- count -/
theorem c_Stream_count (l : Launch) (A : Nat → Prop) (D : ah_G) (F : ah_F) {st la : Nat} {lf : Nat → Int64} {S : List Nat} (hst : F st = some (.inr (3, [.ref la, .int (nI S.length)]))) (hla : F la = some (ah_al D 201 lf)) (hstr : ah_str lf S) {wa : Nat} {w : List Nat} (hw : ah_wd F wa w) (hok : ah_ok w) (hn : w ≠ []) : Met l yX3_count (Cond.code yX3_count cX3_count 4 (some .int) :: ah_T) { frames := 2, cells := 0, slots := 0, locals := 44 } (va_Pc [.ref st, .ref wa] (ah_B A D F)) (ah_Qi A D (fun (r : Int32) F1 => F = F1 ∧ nI (pu_cn (fun i => ah_at S i w) S.length) = r)) 0 0 A := by
  refine ah_met (own := "Ahoarch$Stream") (by decide) rfl (Nat.le_of_ble_eq_true rfl) ?_
  intro p e s m below meth c ls E hr hini hl hP hS Q hQ
  have hx := E.1
  have hb := E.2.1
  have hl : lv_has ls 4 [(0, .ref st), (1, .ref wa)] := hl
  obtain ⟨hS1, hS2, hS3⟩ := id hstr
  refine lv_iconst (v := (nI 0)) hx hb dX3_count_0 (by decide) ?_
  refine lv_istore_n (lv' := [(2, .int (nI 0)), (0, .ref st), (1, .ref wa)]) hx hb dX3_count_1 rfl hl (by decide) rfl (fun ls hl => ?_)
  refine lv_iconst (v := (nI 0)) hx hb dX3_count_2 (by decide) ?_
  refine lv_istore_n (lv' := [(3, .int (nI 0)), (2, .int (nI 0)), (0, .ref st), (1, .ref wa)]) hx hb dX3_count_3 rfl hl (by decide) rfl (fun ls hl => ?_)
  have L4 : ∀ (n : Nat), ∀ (k a : Nat), S.length - k < n → k ≤ S.length → a = pu_cn (fun i => ah_at S i w) k → ∀ (H : Heap) (locs : List Loc), ah_K A D F H → va_S A s.heap H locs → ∀ (ls : Array Slot), lv_has ls 4 [(0, .ref st), (1, .ref wa), (2, .int (nI a)), (3, .int (nI k))] → W p l e { frames := 2, cells := 0, slots := 0, locals := 44 } s m [.ref st, .ref wa].toArray below meth c H locs 0 0 Q (F0 m 4 ls []) := by
    intro n
    induction n with
    | zero =>
      intro k a hm
      exact absurd hm (Nat.not_lt_zero _)
    | succ n ih =>
      intro k a hm hk ha H locs hP hS ls hl
      have hb2 := pu_cn_le (fun i => ah_at S i w) k
      refine lv_iload_n hx hb dX3_count_4 rfl (lv_at hl 3 rfl) ?_
      refine lv_aload_n hx hb dX3_count_5 rfl (lv_at hl 0 rfl) ?_
      refine gf_Stream_15 E hP hst rfl dX3_count_6 ?_
      refine ah_icmp_ge (tgt := 30) hx hb (by omega) (by omega) dX3_count_9 (by decide) (fun hc9 => ?_) (fun hc9 => ?_)
      · skip
        refine lv_iload_n hx hb dX3_count_30 rfl (lv_at hl 2 rfl) ?_
        rw [hQ]
        exact ah_iret E hr hP hS ⟨rfl, by rw [ha, show k = S.length by omega]⟩ (Nat.le_of_ble_eq_true rfl) (Nat.le_of_ble_eq_true rfl) dX3_count_31
      · skip
        refine lv_aload_n hx hb dX3_count_12 rfl (lv_at hl 0 rfl) ?_
        refine lv_iload_n hx hb dX3_count_13 rfl (lv_at hl 3 rfl) ?_
        refine lv_aload_n hx hb dX3_count_14 rfl (lv_at hl 1 rfl) ?_
        refine ah_calli (ah_runV E hP hS (As := [.int (nI k), .ref wa]) (rest := []) (b := st) (c_Stream_holdsAt l A D _ hst hla hstr hw hok (k := k) (by omega) hn) lk_Stream_42 li_Stream_42 hst rfl ⟨rfl, rfl, (Nat.le_of_ble_eq_true rfl), (Nat.le_of_ble_eq_true rfl)⟩ rfl hl.1 rfl (Nat.le_of_ble_eq_true rfl) dX3_count_15 ⟨(Nat.le_of_ble_eq_true rfl), (Nat.le_of_ble_eq_true rfl)⟩) hS (fun r F1 H locs hq hP hS => ?_)
        obtain ⟨rfl, rfl⟩ := hq
        refine ah_ifb_eq (tgt := 24) hx hb dX3_count_18 (by decide) (fun hc18 => ?_) (fun hc18 => ?_)
        · skip
          refine lv_iinc (v := (nI (k + 1))) (lv' := [(3, .int (nI (k + 1))), (0, .ref st), (1, .ref wa), (2, .int (nI a))]) hx hb dX3_count_24 hl (k := 3) rfl (ah_inc _) (by decide) rfl (fun ls hl => ?_)
          refine lv_goto (tgt := 4) hx hb dX3_count_27 (by decide) ?_
          exact ih _ _ (by omega) (by omega) (by rw [ha, pu_cn_f hc18]) _ _ hP hS ls (lv_sub hl [1, 2, 3, 0] rfl)
        · skip
          refine lv_iinc (v := (nI (a + 1))) (lv' := [(2, .int (nI (a + 1))), (0, .ref st), (1, .ref wa), (3, .int (nI k))]) hx hb dX3_count_21 hl (k := 2) rfl (ah_inc _) (by decide) rfl (fun ls hl => ?_)
          refine lv_iinc (v := (nI (k + 1))) (lv' := [(3, .int (nI (k + 1))), (2, .int (nI (a + 1))), (0, .ref st), (1, .ref wa)]) hx hb dX3_count_24 hl (k := 3) rfl (ah_inc _) (by decide) rfl (fun ls hl => ?_)
          refine lv_goto (tgt := 4) hx hb dX3_count_27 (by decide) ?_
          exact ih _ _ (by omega) (by omega) (by rw [ha, pu_cn_t hc18]) _ _ hP hS ls (lv_sub hl [2, 3, 1, 0] rfl)
  exact L4 (S.length + 1) 0 0 (by omega) (Nat.zero_le _) rfl _ _ hP hS ls (lv_sub hl [2, 3, 1, 0] rfl)

set_option maxHeartbeats 4000000 in
set_option maxRecDepth 100000 in
/-- placeOf -/
theorem c_Stream_placeOf (l : Launch) (A : Nat → Prop) (D : ah_G) (F : ah_F) {st la : Nat} {lf : Nat → Int64} {S : List Nat} (hst : F st = some (.inr (3, [.ref la, .int (nI S.length)]))) (hla : F la = some (ah_al D 201 lf)) (hstr : ah_str lf S) {wa : Nat} {w : List Nat} (hw : ah_wd F wa w) (hok : ah_ok w) (hn : w ≠ []) {x : Int32} : Met l yX3_placeOf (Cond.code yX3_placeOf cX3_placeOf 5 (some .int) :: ah_T) { frames := 2, cells := 0, slots := 0, locals := 44 } (va_Pc [.ref st, .ref wa, .int x] (ah_B A D F)) (ah_Qi A D (fun (r : Int32) F1 => F = F1 ∧ (match ah_kt (fun i => ah_at S i w) S.length x with | some i => nI i | none => -1) = r)) 0 0 A := by
  refine ah_met (own := "Ahoarch$Stream") (by decide) rfl (Nat.le_of_ble_eq_true rfl) ?_
  intro p e s m below meth c ls E hr hini hl hP hS Q hQ
  have hx := E.1
  have hb := E.2.1
  have hl : lv_has ls 5 [(0, .ref st), (1, .ref wa), (2, .int x)] := hl
  obtain ⟨hS1, hS2, hS3⟩ := id hstr
  refine lv_iconst (v := (nI 0)) hx hb dX3_placeOf_0 (by decide) ?_
  refine lv_istore_n (lv' := [(3, .int (nI 0)), (0, .ref st), (1, .ref wa), (2, .int x)]) hx hb dX3_placeOf_1 rfl hl (by decide) rfl (fun ls hl => ?_)
  refine lv_iconst (v := (nI 0)) hx hb dX3_placeOf_2 (by decide) ?_
  refine lv_istore (lv' := [(4, .int (nI 0)), (3, .int (nI 0)), (0, .ref st), (1, .ref wa), (2, .int x)]) hx hb dX3_placeOf_3 hl (by decide) rfl (fun ls hl => ?_)
  have L5 : ∀ (n : Nat), ∀ (k a : Nat), S.length - k < n → k ≤ S.length → a = pu_cn (fun i => ah_at S i w) k → ah_kt (fun i => ah_at S i w) k x = none → ∀ (H : Heap) (locs : List Loc), ah_K A D F H → va_S A s.heap H locs → ∀ (ls : Array Slot), lv_has ls 5 [(0, .ref st), (1, .ref wa), (2, .int x), (3, .int (nI a)), (4, .int (nI k))] → W p l e { frames := 2, cells := 0, slots := 0, locals := 44 } s m [.ref st, .ref wa, .int x].toArray below meth c H locs 0 0 Q (F0 m 5 ls []) := by
    intro n
    induction n with
    | zero =>
      intro k a hm
      exact absurd hm (Nat.not_lt_zero _)
    | succ n ih =>
      intro k a hm hk ha hf H locs hP hS ls hl
      have hb2 := pu_cn_le (fun i => ah_at S i w) k
      refine lv_iload hx hb dX3_placeOf_5 (lv_at hl 4 rfl) ?_
      refine lv_aload_n hx hb dX3_placeOf_7 rfl (lv_at hl 0 rfl) ?_
      refine gf_Stream_15 E hP hst rfl dX3_placeOf_8 ?_
      refine ah_icmp_ge (tgt := 41) hx hb (by omega) (by omega) dX3_placeOf_11 (by decide) (fun hc11 => ?_) (fun hc11 => ?_)
      · skip
        refine lv_iconst (v := (-1)) hx hb dX3_placeOf_41 (by decide) ?_
        rw [hQ]
        exact ah_iret E hr hP hS ⟨rfl, by rw [show S.length = k by omega, hf]⟩ (Nat.le_of_ble_eq_true rfl) (Nat.le_of_ble_eq_true rfl) dX3_placeOf_42
      · skip
        refine lv_aload_n hx hb dX3_placeOf_14 rfl (lv_at hl 0 rfl) ?_
        refine lv_iload hx hb dX3_placeOf_15 (lv_at hl 4 rfl) ?_
        refine lv_aload_n hx hb dX3_placeOf_17 rfl (lv_at hl 1 rfl) ?_
        refine ah_calli (ah_runV E hP hS (As := [.int (nI k), .ref wa]) (rest := []) (b := st) (c_Stream_holdsAt l A D _ hst hla hstr hw hok (k := k) (by omega) hn) lk_Stream_42 li_Stream_42 hst rfl ⟨rfl, rfl, (Nat.le_of_ble_eq_true rfl), (Nat.le_of_ble_eq_true rfl)⟩ rfl hl.1 rfl (Nat.le_of_ble_eq_true rfl) dX3_placeOf_18 ⟨(Nat.le_of_ble_eq_true rfl), (Nat.le_of_ble_eq_true rfl)⟩) hS (fun r F1 H locs hq hP hS => ?_)
        obtain ⟨rfl, rfl⟩ := hq
        refine ah_ifb_eq (tgt := 35) hx hb dX3_placeOf_21 (by decide) (fun hc21 => ?_) (fun hc21 => ?_)
        · skip
          refine lv_iinc (v := (nI (k + 1))) (lv' := [(4, .int (nI (k + 1))), (0, .ref st), (1, .ref wa), (2, .int x), (3, .int (nI a))]) hx hb dX3_placeOf_35 hl (k := 4) rfl (ah_inc _) (by decide) rfl (fun ls hl => ?_)
          refine lv_goto (tgt := 5) hx hb dX3_placeOf_38 (by decide) ?_
          exact ih _ _ (by omega) (by omega) (by rw [ha, pu_cn_f hc21]) (ah_kt_f hf hc21) _ _ hP hS ls (lv_sub hl [1, 2, 3, 4, 0] rfl)
        · skip
          refine lv_iload_n hx hb dX3_placeOf_24 rfl (lv_at hl 3 rfl) ?_
          refine lv_iload_n hx hb dX3_placeOf_25 rfl (lv_at hl 2 rfl) ?_
          refine lv_icmp_ne (tgt := 32) hx hb dX3_placeOf_26 (by decide) (fun hc26 => ?_) (fun hc26 => ?_)
          · skip
            refine lv_iinc (v := (nI (a + 1))) (lv' := [(3, .int (nI (a + 1))), (0, .ref st), (1, .ref wa), (2, .int x), (4, .int (nI k))]) hx hb dX3_placeOf_32 hl (k := 3) rfl (ah_inc _) (by decide) rfl (fun ls hl => ?_)
            refine lv_iinc (v := (nI (k + 1))) (lv' := [(4, .int (nI (k + 1))), (3, .int (nI (a + 1))), (0, .ref st), (1, .ref wa), (2, .int x)]) hx hb dX3_placeOf_35 hl (k := 4) rfl (ah_inc _) (by decide) rfl (fun ls hl => ?_)
            refine lv_goto (tgt := 5) hx hb dX3_placeOf_38 (by decide) ?_
            exact ih _ _ (by omega) (by omega) (by rw [ha, pu_cn_t hc21]) (ah_kt_s hf (by rw [← ha]; exact hc26)) _ _ hP hS ls (lv_sub hl [2, 3, 4, 1, 0] rfl)
          · skip
            refine lv_iload hx hb dX3_placeOf_29 (lv_at hl 4 rfl) ?_
            rw [hQ]
            exact ah_iret E hr hP hS ⟨rfl, by rw [ah_kt_hit (k := k) (by omega) hc21 (by rw [← ha]; exact hc26) hf]⟩ (Nat.le_of_ble_eq_true rfl) (Nat.le_of_ble_eq_true rfl) dX3_placeOf_31
  exact L5 (S.length + 1) 0 0 (by omega) (Nat.zero_le _) rfl rfl _ _ hP hS ls (lv_sub hl [2, 3, 4, 1, 0] rfl)
