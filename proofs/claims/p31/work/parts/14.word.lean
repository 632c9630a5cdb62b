set_option maxHeartbeats 4000000 in
set_option maxRecDepth 100000 in
/-- the last letters of a number -/
theorem c_tail (l : Launch) (A : Nat → Prop) (D : ah_G) (F : ah_F) {a k : Nat} (ha : a < 2 ^ 62) (hk : k ≤ 12) : Met l yX6_tail (Cond.code yX6_tail cX6_tail 3 (some .long) :: ah_T) { frames := 0, cells := 0, slots := 0, locals := 0 } (va_Pc [.long (lN a), .int (nI k)] (ah_B A D F)) (ah_Ql A D (fun (r : Int64) F1 => F = F1 ∧ lN (a % 32 ^ k) = r)) 0 0 A := by
  refine ah_met (own := "Ahoarch") (by decide) rfl (Nat.le_of_ble_eq_true rfl) ?_
  intro p e s m below meth c ls E hr hini hl hP hS Q hQ
  have hx := E.1
  have hb := E.2.1
  have hl : lv_has ls 3 [(0, .long (lN a)), (2, .int (nI k))] := hl
  refine lv_lload_n hx hb dX6_tail_0 rfl (lv_at hl 0 rfl) ?_
  refine lv_lconst (v := (lN 1)) hx hb dX6_tail_1 rfl ?_
  refine lv_iconst (v := (nI 5)) hx hb dX6_tail_2 (by decide) ?_
  refine lv_iload_n hx hb dX6_tail_3 rfl (lv_at hl 1 rfl) ?_
  refine ah_imul hx hb dX6_tail_4 ?_
  refine lv_lshl (v := (lN (2 ^ (5 * k)))) hx hb dX6_tail_5 ((wb_shl 1 (k := 5 * k) (by omega)).trans (by rw [Nat.one_mul])) ?_
  refine lv_lconst (v := (lN 1)) hx hb dX6_tail_6 rfl ?_
  refine lv_lsub hx hb dX6_tail_7 ?_
  rw [show (lN (2 ^ (5 * k))) - (lN 1) = lN (2 ^ (5 * k) - 1) from (lN_sub (a := 2 ^ (5 * k)) (b := 1) Nat.one_le_two_pow)]
  refine lv_land hx hb dX6_tail_8 ?_
  rw [show (lN a) &&& (lN (2 ^ (5 * k) - 1)) = lN (a % 32 ^ k) from ((wb_mask (by omega) (by omega)).trans (by rw [ah_p32]))]
  rw [hQ]
  exact ah_lret E hr hP hS ⟨rfl, rfl⟩ (Nat.le_of_ble_eq_true rfl) (Nat.le_of_ble_eq_true rfl) dX6_tail_9

set_option maxHeartbeats 4000000 in
set_option maxRecDepth 100000 in
/-- codeOf -/
theorem c_codeOf (l : Launch) (A : Nat → Prop) (D : ah_G) (F : ah_F) {x : Nat} (hx1 : 1 ≤ x) (hx2 : x ≤ 26) : Met l yX6_codeOf (Cond.code yX6_codeOf cX6_codeOf 1 (some .long) :: ah_T) { frames := 0, cells := 0, slots := 0, locals := 0 } (va_Pc [.int (nI (x + 96))] (ah_B A D F)) (ah_Ql A D (fun (r : Int64) F1 => F = F1 ∧ lN x = r)) 0 0 A := by
  refine ah_met (own := "Ahoarch") (by decide) rfl (Nat.le_of_ble_eq_true rfl) ?_
  intro p e s m below meth c ls E hr hini hl hP hS Q hQ
  have hx := E.1
  have hb := E.2.1
  have hl : lv_has ls 1 [(0, .int (nI (x + 96)))] := hl
  refine lv_iload_n hx hb dX6_codeOf_0 rfl (lv_at hl 0 rfl) ?_
  refine lv_bipush (v := (nI 97)) hx hb dX6_codeOf_1 (by decide) ?_
  refine ah_isub hx hb (by omega) dX6_codeOf_3 ?_
  refine lv_iconst (v := (nI 1)) hx hb dX6_codeOf_4 (by decide) ?_
  refine ah_iadd hx hb dX6_codeOf_5 ?_
  refine lv_i2l (v := (lN x)) hx hb dX6_codeOf_6 (by rw [show x + 96 - 97 + 1 = x by omega]; exact nI_l (by omega)) ?_
  rw [hQ]
  exact ah_lret E hr hP hS ⟨rfl, rfl⟩ (Nat.le_of_ble_eq_true rfl) (Nat.le_of_ble_eq_true rfl) dX6_codeOf_7

set_option maxHeartbeats 4000000 in
set_option maxRecDepth 100000 in
/-- letterOf -/
theorem c_letterOf (l : Launch) (A : Nat → Prop) (D : ah_G) (F : ah_F) {a : Nat} (ha : a < 2 ^ 62) : Met l yX6_letterOf (Cond.code yX6_letterOf cX6_letterOf 2 (some .char) :: ah_T) { frames := 0, cells := 0, slots := 0, locals := 0 } (va_Pc [.long (lN a)] (ah_B A D F)) (ah_Qi A D (fun (r : Int32) F1 => F = F1 ∧ nI (96 + a % 32) = r)) 0 0 A := by
  refine ah_met (own := "Ahoarch") (by decide) rfl (Nat.le_of_ble_eq_true rfl) ?_
  intro p e s m below meth c ls E hr hini hl hP hS Q hQ
  have hx := E.1
  have hb := E.2.1
  have hl : lv_has ls 2 [(0, .long (lN a))] := hl
  refine lv_ldc2 (v := (lN 96)) hx hb E.2.2.2.1 (E.2.2.2.2.1 (.constantLong "Ahoarch" 239 96) (ah_in 313 (by decide +kernel) rfl)) dX6_letterOf_0 ?_
  refine lv_lload_n hx hb dX6_letterOf_3 rfl (lv_at hl 0 rfl) ?_
  refine lv_ldc2 (v := (lN 31)) hx hb E.2.2.2.1 (E.2.2.2.2.1 (.constantLong "Ahoarch" 241 31) (ah_in 314 (by decide +kernel) rfl)) dX6_letterOf_4 ?_
  refine lv_land hx hb dX6_letterOf_7 ?_
  rw [show (lN a) &&& (lN 31) = lN (a % 32) from (wb_mask (n := a) (k := 5) (by omega) (by omega))]
  refine lv_ladd hx hb dX6_letterOf_8 ?_
  rw [show (lN 96) + (lN (a % 32)) = lN (96 + a % 32) from (lN_add _ _)]
  refine lv_l2i (v := (nI (96 + a % 32))) hx hb dX6_letterOf_9 (lN_i _) ?_
  refine lv_i2c (v := (nI (96 + a % 32))) hx hb dX6_letterOf_10 (ah_i2c (by omega)) ?_
  rw [hQ]
  exact ah_zret E hr (pk_charN (q := 96 + a % 32) (by omega)).1 hP hS ⟨rfl, rfl⟩ (Nat.le_of_ble_eq_true rfl) (Nat.le_of_ble_eq_true rfl) dX6_letterOf_11

set_option maxHeartbeats 4000000 in
set_option maxRecDepth 100000 in
/-- <init> -/
theorem c_Word_init (l : Launch) (A : Nat → Prop) (D : ah_G) (F : ah_F) {q : Nat} {x : Int64} {y : Int32} {c0 : Int64} {s0 : Int32} (hq0 : F q = some (.inr (5, [.long c0, .int s0]))) : Met l yX5_init (Cond.code yX5_init cX5_init 4 none :: ah_T) { frames := 1, cells := 0, slots := 0, locals := 20 } (va_Pc [.ref q, .long x, .int y] (ah_B A D F)) (ah_Qv A D (fun F1 => F1 = ah_up F q (.inr (5, [.long x, .int y])))) 0 0 A := by
  refine ah_met (own := "Ahoarch$Word") (by decide) rfl (Nat.le_of_ble_eq_true rfl) ?_
  intro p e s m below meth c ls E hr hini hl hP hS Q hQ
  have hx := E.1
  have hb := E.2.1
  have hl : lv_has ls 4 [(0, .ref q), (1, .long x), (3, .int y)] := hl
  refine lv_aload_n hx hb dX5_init_0 rfl (lv_at hl 0 rfl) ?_
  refine oi_Word E hl.1 dX5_init_1 (Nat.le_of_ble_eq_true rfl) (Nat.le_of_ble_eq_true rfl) ?_
  refine lv_aload_n hx hb dX5_init_4 rfl (lv_at hl 0 rfl) ?_
  refine lv_lload_n hx hb dX5_init_5 rfl (lv_at hl 1 rfl) ?_
  refine pf_Word_9 E hini hP hS hq0 (Nat.le_of_ble_eq_true rfl) dX5_init_6 (fun H locs hP hS => ?_)
  obtain ⟨F1, eF1⟩ : ∃ Fz : ah_F, Fz = ah_up F q (.inr (5, [.long x, .int s0])) := ⟨_, rfl⟩
  have hP : ah_K A D F1 H := by rw [eF1]; exact hP
  have hF2 : F1 q = some (.inr (5, [.long x, .int s0])) := by rw [eF1]; exact ah_up_s _ _ _
  refine lv_aload_n hx hb dX5_init_9 rfl (lv_at hl 0 rfl) ?_
  refine lv_iload_n hx hb dX5_init_10 rfl (lv_at hl 2 rfl) ?_
  refine pf_Word_15 E hini hP hS hF2 (Nat.le_of_ble_eq_true rfl) dX5_init_11 (fun H locs hP hS => ?_)
  obtain ⟨F3, eF3⟩ : ∃ Fz : ah_F, Fz = ah_up F1 q (.inr (5, [.long x, .int y])) := ⟨_, rfl⟩
  have hP : ah_K A D F3 H := by rw [eF3]; exact hP
  have hF4 : F3 q = some (.inr (5, [.long x, .int y])) := by rw [eF3]; exact ah_up_s _ _ _
  rw [hQ]
  exact ah_vret E hr hP hS (by rw [eF3, eF1]; exact ah_up_u _ _ _ _) (Nat.le_of_ble_eq_true rfl) (Nat.le_of_ble_eq_true rfl) dX5_init_14

set_option maxHeartbeats 4000000 in
set_option maxRecDepth 100000 in
/-- head -/
theorem c_Word_head (l : Launch) (A : Nat → Prop) (D : ah_G) (F : ah_F) {a : Nat} {w : List Nat} {k : Nat} (hw : ah_wd F a w) (hok : ah_ok w) (hk : k ≤ 9) : Met l yX5_head (Cond.code yX5_head cX5_head 2 (some .long) :: ah_T) { frames := 0, cells := 0, slots := 0, locals := 0 } (va_Pc [.ref a, .int (nI k)] (ah_B A D F)) (ah_Ql A D (fun (r : Int64) F1 => F = F1 ∧ lN (ah_enc (w.take k)) = r)) 0 0 A := by
  refine ah_met (own := "Ahoarch$Word") (by decide) rfl (Nat.le_of_ble_eq_true rfl) ?_
  intro p e s m below meth c ls E hr hini hl hP hS Q hQ
  have hx := E.1
  have hb := E.2.1
  have hl : lv_has ls 2 [(0, .ref a), (1, .int (nI k))] := hl
  have hlen := hok.1
  refine lv_iload_n hx hb dX5_head_0 rfl (lv_at hl 1 rfl) ?_
  refine lv_aload_n hx hb dX5_head_1 rfl (lv_at hl 0 rfl) ?_
  refine gf_Word_15 E hP hw rfl dX5_head_2 ?_
  refine ah_icmp_ge (tgt := 24) hx hb (by omega) (by omega) dX5_head_5 (by decide) (fun hc5 => ?_) (fun hc5 => ?_)
  · skip
    refine lv_aload_n hx hb dX5_head_24 rfl (lv_at hl 0 rfl) ?_
    refine gf_Word_9 E hP hw rfl dX5_head_25 ?_
    rw [hQ]
    exact ah_lret E hr hP hS ⟨rfl, by rw [List.take_of_length_le hc5]⟩ (Nat.le_of_ble_eq_true rfl) (Nat.le_of_ble_eq_true rfl) dX5_head_28
  · skip
    refine lv_aload_n hx hb dX5_head_8 rfl (lv_at hl 0 rfl) ?_
    refine gf_Word_9 E hP hw rfl dX5_head_9 ?_
    refine lv_iconst (v := (nI 5)) hx hb dX5_head_12 (by decide) ?_
    refine lv_aload_n hx hb dX5_head_13 rfl (lv_at hl 0 rfl) ?_
    refine gf_Word_15 E hP hw rfl dX5_head_14 ?_
    refine lv_iload_n hx hb dX5_head_17 rfl (lv_at hl 1 rfl) ?_
    refine ah_isub hx hb (by omega) dX5_head_18 ?_
    refine ah_imul hx hb dX5_head_19 ?_
    refine lv_lushr (v := (lN (ah_enc (w.take k)))) hx hb dX5_head_20 ((wb_shr (k := 5 * (w.length - k)) (by have := ah_enc_40 hok; omega) (by omega)).trans (by rw [ah_p32, ah_enc_div hok.2])) ?_
    refine lv_goto (tgt := 28) hx hb dX5_head_21 (by decide) ?_
    rw [hQ]
    exact ah_lret E hr hP hS ⟨rfl, rfl⟩ (Nat.le_of_ble_eq_true rfl) (Nat.le_of_ble_eq_true rfl) dX5_head_28

set_option maxHeartbeats 4000000 in
set_option maxRecDepth 100000 in
/-- beginsWith -/
theorem c_Word_beginsWith (l : Launch) (A : Nat → Prop) (D : ah_G) (F : ah_F) {a : Nat} {w : List Nat} {u : List Nat} {k : Nat} (hk : k = u.length) (hw : ah_wd F a w) (hok : ah_ok w) (hu : ah_ok u) : Met l yX5_beginsWith (Cond.code yX5_beginsWith cX5_beginsWith 4 (some .boolean) :: ah_T) { frames := 0, cells := 0, slots := 0, locals := 0 } (va_Pc [.ref a, .long (lN (ah_enc u)), .int (nI k)] (ah_B A D F)) (ah_Qi A D (fun (r : Int32) F1 => F = F1 ∧ bI_ (ah_bw u w) = r)) 0 0 A := by
  refine ah_met (own := "Ahoarch$Word") (by decide) rfl (Nat.le_of_ble_eq_true rfl) ?_
  intro p e s m below meth c ls E hr hini hl hP hS Q hQ
  have hx := E.1
  have hb := E.2.1
  have hl : lv_has ls 4 [(0, .ref a), (1, .long (lN (ah_enc u))), (3, .int (nI k))] := hl
  have hlen := hok.1
  have hulen := hu.1
  refine lv_iload_n hx hb dX5_beginsWith_0 rfl (lv_at hl 2 rfl) ?_
  refine lv_aload_n hx hb dX5_beginsWith_1 rfl (lv_at hl 0 rfl) ?_
  refine gf_Word_15 E hP hw rfl dX5_beginsWith_2 ?_
  refine ah_icmp_gt (tgt := 30) hx hb (by omega) (by omega) dX5_beginsWith_5 (by decide) (fun hc5 => ?_) (fun hc5 => ?_)
  · skip
    refine lv_iconst (v := (nI 0)) hx hb dX5_beginsWith_30 (by decide) ?_
    rw [hQ]
    exact ah_zret E hr (by first | exact bI_nz _ | decide) hP hS (by subst hk; exact ⟨rfl, ah_bw_2 hc5⟩) (Nat.le_of_ble_eq_true rfl) (Nat.le_of_ble_eq_true rfl) dX5_beginsWith_31
  · skip
    refine lv_aload_n hx hb dX5_beginsWith_8 rfl (lv_at hl 0 rfl) ?_
    refine gf_Word_9 E hP hw rfl dX5_beginsWith_9 ?_
    refine lv_iconst (v := (nI 5)) hx hb dX5_beginsWith_12 (by decide) ?_
    refine lv_aload_n hx hb dX5_beginsWith_13 rfl (lv_at hl 0 rfl) ?_
    refine gf_Word_15 E hP hw rfl dX5_beginsWith_14 ?_
    refine lv_iload_n hx hb dX5_beginsWith_17 rfl (lv_at hl 2 rfl) ?_
    refine ah_isub hx hb (by omega) dX5_beginsWith_18 ?_
    refine ah_imul hx hb dX5_beginsWith_19 ?_
    refine lv_lushr (v := (lN (ah_enc (w.take k)))) hx hb dX5_beginsWith_20 ((wb_shr (k := 5 * (w.length - k)) (by have := ah_enc_40 hok; omega) (by omega)).trans (by rw [ah_p32, ah_enc_div hok.2])) ?_
    refine lv_lload_n hx hb dX5_beginsWith_21 rfl (lv_at hl 1 rfl) ?_
    refine W.lcmp hx hb dX5_beginsWith_22 ?_
    refine lv_if_ne (tgt := 30) hx hb dX5_beginsWith_23 (by decide) (fun hc23 => ?_) (fun hc23 => ?_)
    · skip
      refine lv_iconst (v := (nI 0)) hx hb dX5_beginsWith_30 (by decide) ?_
      rw [hQ]
      exact ah_zret E hr (by first | exact bI_nz _ | decide) hP hS (by subst hk; exact ⟨rfl, ah_bw_0 hok hu (fun h => hc23 (ah_cmp0.mpr h))⟩) (Nat.le_of_ble_eq_true rfl) (Nat.le_of_ble_eq_true rfl) dX5_beginsWith_31
    · skip
      refine lv_iconst (v := (nI 1)) hx hb dX5_beginsWith_26 (by decide) ?_
      refine lv_goto (tgt := 31) hx hb dX5_beginsWith_27 (by decide) ?_
      rw [hQ]
      exact ah_zret E hr (by first | exact bI_nz _ | decide) hP hS (by subst hk; exact ⟨rfl, ah_bw_1 hok hu hc5 (ah_cmp0.mp hc23)⟩) (Nat.le_of_ble_eq_true rfl) (Nat.le_of_ble_eq_true rfl) dX5_beginsWith_31

set_option maxHeartbeats 4000000 in
set_option maxRecDepth 100000 in
/-- letterAt -/
theorem c_Word_letterAt (l : Launch) (A : Nat → Prop) (D : ah_G) (F : ah_F) {a : Nat} {w : List Nat} {i : Nat} (hw : ah_wd F a w) (hok : ah_ok w) (hi : i < w.length) : Met l yX5_letterAt (Cond.code yX5_letterAt cX5_letterAt 2 (some .char) :: ah_T) { frames := 1, cells := 0, slots := 0, locals := 21 } (va_Pc [.ref a, .int (nI i)] (ah_B A D F)) (ah_Qi A D (fun (r : Int32) F1 => F = F1 ∧ nI (96 + w.getD i 0) = r)) 0 0 A := by
  refine ah_met (own := "Ahoarch$Word") (by decide) rfl (Nat.le_of_ble_eq_true rfl) ?_
  intro p e s m below meth c ls E hr hini hl hP hS Q hQ
  have hx := E.1
  have hb := E.2.1
  have hl : lv_has ls 2 [(0, .ref a), (1, .int (nI i))] := hl
  have hlen := hok.1
  refine lv_aload_n hx hb dX5_letterAt_0 rfl (lv_at hl 0 rfl) ?_
  refine lv_iload_n hx hb dX5_letterAt_1 rfl (lv_at hl 1 rfl) ?_
  refine lv_iconst (v := (nI 1)) hx hb dX5_letterAt_2 (by decide) ?_
  refine ah_iadd hx hb dX5_letterAt_3 ?_
  refine ah_calll (ah_runV E hP hS (As := [.int (nI (i + 1))]) (rest := []) (b := a) (c_Word_head l A D F hw hok (k := i + 1) (by omega)) lk_Word_26 li_Word_26 hw rfl ⟨rfl, rfl, (Nat.le_of_ble_eq_true rfl), (Nat.le_of_ble_eq_true rfl)⟩ rfl hl.1 rfl (Nat.le_of_ble_eq_true rfl) dX5_letterAt_4 ⟨(Nat.le_of_ble_eq_true rfl), (Nat.le_of_ble_eq_true rfl)⟩) hS (fun r F1 H locs hq hP hS => ?_)
  obtain ⟨rfl, rfl⟩ := hq
  refine ah_calli (ah_runSN E hP hS (As := [.long (lN (ah_enc (w.take (i + 1))))]) (rest := []) (c_letterOf l A D F (a := ah_enc (w.take (i + 1))) (by have := ah_enc_40 (ah_ok_take hok (i + 1)); omega)) lk_Word_30 li_Word_30 ⟨rfl, rfl, (Nat.le_of_ble_eq_true rfl), (Nat.le_of_ble_eq_true rfl)⟩ rfl hl.1 rfl (Nat.le_of_ble_eq_true rfl) dX5_letterAt_7 ⟨(Nat.le_of_ble_eq_true rfl), (Nat.le_of_ble_eq_true rfl)⟩) hS (fun r F2 H locs hq hP hS => ?_)
  obtain ⟨rfl, rfl⟩ := hq
  rw [hQ]
  exact ah_zret E hr (pk_charN (q := 96 + ah_enc (w.take (i + 1)) % 32) (by omega)).1 hP hS ⟨rfl, by rw [ah_enc_last hi hok.2]⟩ (Nat.le_of_ble_eq_true rfl) (Nat.le_of_ble_eq_true rfl) dX5_letterAt_10

set_option maxHeartbeats 4000000 in
set_option maxRecDepth 100000 in
/-- with -/
theorem c_Word_with (l : Launch) (A : Nat → Prop) (D : ah_G) (F : ah_F) {a : Nat} {w : List Nat} {x : Nat} (hw : ah_wd F a w) (hok : ah_ok w) (hx1 : 1 ≤ x) (hx2 : x ≤ 26) : Met l yX5_with (Cond.code yX5_with cX5_with 2 (some (.object "Ahoarch$Word")) :: ah_T) { frames := 2, cells := 1, slots := 2, locals := 43 } (va_Pc [.ref a, .int (nI (x + 96))] (ah_B A D F)) (ah_Qq A D (fun (r : Option Nat) F1 => ∃ q : Nat, r = some q ∧ F q = none ∧ F1 = ah_up F q (.inr (5, [.long (lN (ah_enc (w ++ [x]))), .int (nI (w ++ [x]).length)])))) 1 2 A := by
  refine ah_met (own := "Ahoarch$Word") (by decide) rfl (Nat.le_of_ble_eq_true rfl) ?_
  intro p e s m below meth c ls E hr hini hl hP hS Q hQ
  have hx := E.1
  have hb := E.2.1
  have hl : lv_has ls 2 [(0, .ref a), (1, .int (nI (x + 96)))] := hl
  have hlen := hok.1
  have he40 := ah_enc_40 hok
  refine nw_Word_10 E hP hS (Nat.le_of_ble_eq_true rfl) (Nat.le_of_ble_eq_true rfl) dX5_with_0 (fun q H hn_q hP hS => ?_)
  obtain ⟨F1, eF1⟩ : ∃ Fz : ah_F, Fz = ah_up F q (.inr (5, [.long (lN 0), .int (nI 0)])) := ⟨_, rfl⟩
  have hP : ah_K A D F1 H := by rw [eF1]; exact hP
  have hF2 : F1 q = some (.inr (5, [.long (lN 0), .int (nI 0)])) := by rw [eF1]; exact ah_up_s _ _ _
  have hF3 : F1 a = some (.inr (5, [.long (lN (ah_enc w)), .int (nI w.length)])) := by rw [eF1]; exact (ah_up_n _ _ (ah_fr hn_q hw)).trans hw
  refine lv_dup hx hb dX5_with_3 rfl ?_
  refine lv_aload_n hx hb dX5_with_4 rfl (lv_at hl 0 rfl) ?_
  refine gf_Word_9 E hP hF3 rfl dX5_with_5 ?_
  refine lv_iconst (v := (nI 5)) hx hb dX5_with_8 (by decide) ?_
  refine lv_lshl (v := (lN (ah_enc w * 32))) hx hb dX5_with_9 (ah_sh5 _) ?_
  refine lv_iload_n hx hb dX5_with_10 rfl (lv_at hl 1 rfl) ?_
  refine ah_calll (ah_runSN E hP hS (As := [.int (nI (x + 96))]) (rest := [.long (lN (ah_enc w * 32)), .ref q, .ref q]) (c_codeOf l A D _ hx1 hx2) lk_Word_19 li_Word_19 ⟨rfl, rfl, (Nat.le_of_ble_eq_true rfl), (Nat.le_of_ble_eq_true rfl)⟩ rfl hl.1 rfl (Nat.le_of_ble_eq_true rfl) dX5_with_11 ⟨(Nat.le_of_ble_eq_true rfl), (Nat.le_of_ble_eq_true rfl)⟩) hS (fun r F4 H locs hq hP hS => ?_)
  obtain ⟨rfl, rfl⟩ := hq
  refine lv_lor hx hb dX5_with_14 ?_
  rw [show (lN (ah_enc w * 32)) ||| (lN x) = lN (ah_enc (w ++ [x])) from ((ah_or5 (by omega) (by omega)).trans (by rw [ah_enc_snoc]))]
  refine lv_aload_n hx hb dX5_with_15 rfl (lv_at hl 0 rfl) ?_
  refine gf_Word_15 E hP hF3 rfl dX5_with_16 ?_
  refine lv_iconst (v := (nI 1)) hx hb dX5_with_19 (by decide) ?_
  refine ah_iadd hx hb dX5_with_20 ?_
  refine ah_callv (ah_runI E hP hS (As := [.long (lN (ah_enc (w ++ [x]))), .int (nI (w.length + 1))]) (rest := [.ref q]) (b := q) (c_Word_init l A D _ hF2) lk_Word_23 li_Word_23 ⟨rfl, rfl, (Nat.le_of_ble_eq_true rfl), (Nat.le_of_ble_eq_true rfl)⟩ rfl hl.1 rfl (Nat.le_of_ble_eq_true rfl) dX5_with_21 ⟨(Nat.le_of_ble_eq_true rfl), (Nat.le_of_ble_eq_true rfl)⟩) hS (fun F5 H locs hq21 hP hS => ?_)
  have hF9 : F5 = ah_up F q (.inr (5, [.long (lN (ah_enc (w ++ [x]))), .int (nI (w.length + 1))])) := by rw [hq21, eF1]; exact ah_up_u _ _ _ _
  rw [hQ]
  exact ah_qret (v := some q) E hr hP hS ⟨q, rfl, hn_q, by rw [hF9]; simp⟩ (Nat.le_of_ble_eq_true rfl) (Nat.le_of_ble_eq_true rfl) dX5_with_24
