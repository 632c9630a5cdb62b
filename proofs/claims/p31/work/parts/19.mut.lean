set_option maxHeartbeats 4000000 in
set_option maxRecDepth 100000 in
/-- <init> -/
theorem c_Pattern_init (l : Launch) (A : Nat → Prop) (D : ah_G) (F : ah_F) {q lw i : Nat} (hq0 : F q = some (.inr (2, [.int (nI 0), .null, .null]))) : Met l yX2_init (Cond.code yX2_init cX2_init 3 none :: ah_T) { frames := 2, cells := 1, slots := 2, locals := 43 } (va_Pc [.ref q, .int (nI i), .ref lw] (ah_B A D F)) (ah_Qv A D (fun F1 => ∃ z : Nat, F z = none ∧ F1 q = some (.inr (2, [.int (nI i), .ref lw, .ref z])) ∧ ah_wd F1 z [] ∧ ah_ch F F1 [z, q])) 1 2 A := by
  refine ah_met (own := "Ahoarch$Pattern") (by decide) rfl (Nat.le_of_ble_eq_true rfl) ?_
  intro p e s m below meth c ls E hr hini hl hP hS Q hQ
  have hx := E.1
  have hb := E.2.1
  have hl : lv_has ls 3 [(0, .ref q), (1, .int (nI i)), (2, .ref lw)] := hl
  refine lv_aload_n hx hb dX2_init_0 rfl (lv_at hl 0 rfl) ?_
  refine oi_Pattern E hl.1 dX2_init_1 (Nat.le_of_ble_eq_true rfl) (Nat.le_of_ble_eq_true rfl) ?_
  refine lv_aload_n hx hb dX2_init_4 rfl (lv_at hl 0 rfl) ?_
  refine lv_iload_n hx hb dX2_init_5 rfl (lv_at hl 1 rfl) ?_
  refine pf_Pattern_7 E hini hP hS hq0 (Nat.le_of_ble_eq_true rfl) dX2_init_6 (fun H locs hP hS => ?_)
  obtain ⟨F1, eF1⟩ : ∃ Fz : ah_F, Fz = ah_up F q (.inr (2, [.int (nI i), .null, .null])) := ⟨_, rfl⟩
  have hP : ah_K A D F1 H := by rw [eF1]; exact hP
  have hF2 : F1 q = some (.inr (2, [.int (nI i), .null, .null])) := by rw [eF1]; exact ah_up_s _ _ _
  have hC3 : ah_ch F F1 [q] := by rw [eF1]; exact ah_ch_u (ah_ch_r _ _) (by simp)
  refine lv_aload_n hx hb dX2_init_9 rfl (lv_at hl 0 rfl) ?_
  refine lv_aload_n hx hb dX2_init_10 rfl (lv_at hl 2 rfl) ?_
  refine pf_Pattern_13 E hini hP hS hF2 (Nat.le_of_ble_eq_true rfl) dX2_init_11 (fun H locs hP hS => ?_)
  obtain ⟨F4, eF4⟩ : ∃ Fz : ah_F, Fz = ah_up F1 q (.inr (2, [.int (nI i), .ref lw, .null])) := ⟨_, rfl⟩
  have hP : ah_K A D F4 H := by rw [eF4]; exact hP
  have hF5 : F4 q = some (.inr (2, [.int (nI i), .ref lw, .null])) := by rw [eF4]; exact ah_up_s _ _ _
  have hC6 : ah_ch F F4 [q] := by rw [eF4]; exact ah_ch_u hC3 (by simp)
  refine lv_aload_n hx hb dX2_init_14 rfl (lv_at hl 0 rfl) ?_
  refine nw_Pattern_17 E hP hS (Nat.le_of_ble_eq_true rfl) (Nat.le_of_ble_eq_true rfl) dX2_init_15 (fun z H hn_z hP hS => ?_)
  obtain ⟨F7, eF7⟩ : ∃ Fz : ah_F, Fz = ah_up F4 z (.inr (5, [.long (lN 0), .int (nI 0)])) := ⟨_, rfl⟩
  have hP : ah_K A D F7 H := by rw [eF7]; exact hP
  have hF8 : F7 z = some (.inr (5, [.long (lN 0), .int (nI 0)])) := by rw [eF7]; exact ah_up_s _ _ _
  have hF9 : F7 q = some (.inr (2, [.int (nI i), .ref lw, .null])) := by rw [eF7]; exact (ah_up_n _ _ (ah_fr hn_z hF5)).trans hF5
  have hz_z : F z = none := (hC6 z (ah_nin1 (Ne.symm (ah_fr hn_z hF5)))).symm.trans hn_z
  have hC10 : ah_ch F F7 [z, q] := by rw [eF7]; exact ah_ch_u (ah_ch_w hC6) (by simp)
  refine lv_dup hx hb dX2_init_18 rfl ?_
  refine lv_lconst (v := (lN 0)) hx hb dX2_init_19 rfl ?_
  refine lv_iconst (v := (nI 0)) hx hb dX2_init_20 (by decide) ?_
  refine ah_callv (ah_runI E hP hS (As := [.long (lN 0), .int (nI 0)]) (rest := [.ref z, .ref q]) (b := z) (c_Word_init l A D _ hF8) lk_Pattern_19 li_Pattern_19 ⟨rfl, rfl, (Nat.le_of_ble_eq_true rfl), (Nat.le_of_ble_eq_true rfl)⟩ rfl hl.1 rfl (Nat.le_of_ble_eq_true rfl) dX2_init_21 ⟨(Nat.le_of_ble_eq_true rfl), (Nat.le_of_ble_eq_true rfl)⟩) hS (fun F11 H locs hw0 hP hS => ?_)
  have hG12 : F11 q = some (.inr (2, [.int (nI i), .ref lw, .null])) := by rw [hw0]; exact ah_keep hF8 hF9 rfl
  have hG13 : F11 z = some (.inr (5, [.long (lN 0), .int (nI 0)])) := by rw [hw0]; exact ah_up_s _ _ _
  have hC14 : ah_ch F F11 [z, q] := by rw [hw0]; exact ah_ch_u hC10 (by simp)
  refine pf_Pattern_22 E hP hS hG12 (Nat.le_of_ble_eq_true rfl) dX2_init_24 (fun H locs hP hS => ?_)
  obtain ⟨F15, eF15⟩ : ∃ Fz : ah_F, Fz = ah_up F11 q (.inr (2, [.int (nI i), .ref lw, .ref z])) := ⟨_, rfl⟩
  have hP : ah_K A D F15 H := by rw [eF15]; exact hP
  have hF16 : F15 q = some (.inr (2, [.int (nI i), .ref lw, .ref z])) := by rw [eF15]; exact ah_up_s _ _ _
  have hF17 : F15 z = some (.inr (5, [.long (lN 0), .int (nI 0)])) := by rw [eF15]; exact ah_keep hG12 hG13 rfl
  have hC18 : ah_ch F F15 [z, q] := by rw [eF15]; exact ah_ch_u hC14 (by simp)
  rw [hQ]
  exact ah_vret E hr hP hS ⟨z, hz_z, hF16, hF17, hC18⟩ (Nat.le_of_ble_eq_true rfl) (Nat.le_of_ble_eq_true rfl) dX2_init_27

set_option maxHeartbeats 4000000 in
set_option maxRecDepth 100000 in
/-- <init> -/
theorem c_Book_init (l : Launch) (A : Nat → Prop) (D : ah_G) (F : ah_F) {b : Nat} (hb0 : F b = some (.inr (0, [.null, .int (nI 0), .int (nI 0)]))) : Met l yX0_init (Cond.code yX0_init cX0_init 1 none :: ah_T) { frames := 1, cells := 1, slots := 40, locals := 20 } (va_Pc [.ref b] (ah_B A D F)) (ah_Qv A D (fun F1 => ∃ ra : Nat, F ra = none ∧ F1 b = some (.inr (0, [.ref ra, .int (nI 0), .int (nI 0)])) ∧ F1 ra = some (ah_aq D 40 (fun _ => none)) ∧ ah_ch F F1 [b, ra])) 1 40 A := by
  refine ah_met (own := "Ahoarch$Book") (by decide) rfl (Nat.le_of_ble_eq_true rfl) ?_
  intro p e s m below meth c ls E hr hini hl hP hS Q hQ
  have hx := E.1
  have hb := E.2.1
  have hl : lv_has ls 1 [(0, .ref b)] := hl
  refine lv_aload_n hx hb dX0_init_0 rfl (lv_at hl 0 rfl) ?_
  refine oi_Book E hl.1 dX0_init_1 (Nat.le_of_ble_eq_true rfl) (Nat.le_of_ble_eq_true rfl) ?_
  refine lv_aload_n hx hb dX0_init_4 rfl (lv_at hl 0 rfl) ?_
  refine lv_bipush (v := (nI 40)) hx hb dX0_init_5 (by decide) ?_
  refine ah_newq (N := 40) E hP hS (ah_in 30 (by decide +kernel) rfl) (ah_in 31 (by decide +kernel) rfl) (by decide) (Nat.le_of_ble_eq_true rfl) (Nat.le_of_ble_eq_true rfl) (Nat.le_of_ble_eq_true rfl) dX0_init_7 (fun ra H hn_ra hP hS => ?_)
  obtain ⟨F1, eF1⟩ : ∃ Fz : ah_F, Fz = ah_up F ra (ah_aq D 40 (fun _ => none)) := ⟨_, rfl⟩
  have hP : ah_K A D F1 H := by rw [eF1]; exact hP
  have hF2 : F1 ra = some (ah_aq D 40 (fun _ => none)) := by rw [eF1]; exact ah_up_s _ _ _
  have hF3 : F1 b = some (.inr (0, [.null, .int (nI 0), .int (nI 0)])) := by rw [eF1]; exact (ah_up_n _ _ (ah_fr hn_ra hb0)).trans hb0
  have hz_ra : F ra = none := hn_ra
  have hC4 : ah_ch F F1 [ra] := by rw [eF1]; exact ah_ch_u (ah_ch_r _ _) (by simp)
  refine pf_Book_11 E hini hP hS hF3 (Nat.le_of_ble_eq_true rfl) dX0_init_10 (fun H locs hP hS => ?_)
  obtain ⟨F5, eF5⟩ : ∃ Fz : ah_F, Fz = ah_up F1 b (.inr (0, [.ref ra, .int (nI 0), .int (nI 0)])) := ⟨_, rfl⟩
  have hP : ah_K A D F5 H := by rw [eF5]; exact hP
  have hF6 : F5 b = some (.inr (0, [.ref ra, .int (nI 0), .int (nI 0)])) := by rw [eF5]; exact ah_up_s _ _ _
  have hF7 : F5 ra = some (ah_aq D 40 (fun _ => none)) := by rw [eF5]; exact ah_keep hF3 hF2 rfl
  have hC8 : ah_ch F F5 [b, ra] := by rw [eF5]; exact ah_ch_u (ah_ch_w hC4) (by simp)
  refine lv_aload_n hx hb dX0_init_13 rfl (lv_at hl 0 rfl) ?_
  refine lv_iconst (v := (nI 0)) hx hb dX0_init_14 (by decide) ?_
  refine pf_Book_17 E hP hS hF6 (Nat.le_of_ble_eq_true rfl) dX0_init_15 (fun H locs hP hS => ?_)
  obtain ⟨F9, eF9⟩ : ∃ Fz : ah_F, Fz = ah_up F5 b (.inr (0, [.ref ra, .int (nI 0), .int (nI 0)])) := ⟨_, rfl⟩
  have hP : ah_K A D F9 H := by rw [eF9]; exact hP
  have hF10 : F9 b = some (.inr (0, [.ref ra, .int (nI 0), .int (nI 0)])) := by rw [eF9]; exact ah_up_s _ _ _
  have hF11 : F9 ra = some (ah_aq D 40 (fun _ => none)) := by rw [eF9]; exact ah_keep hF6 hF7 rfl
  have hC12 : ah_ch F F9 [b, ra] := by rw [eF9]; exact ah_ch_u hC8 (by simp)
  refine lv_aload_n hx hb dX0_init_18 rfl (lv_at hl 0 rfl) ?_
  refine lv_iconst (v := (nI 0)) hx hb dX0_init_19 (by decide) ?_
  refine pf_Book_21 E hP hS hF10 (Nat.le_of_ble_eq_true rfl) dX0_init_20 (fun H locs hP hS => ?_)
  obtain ⟨F13, eF13⟩ : ∃ Fz : ah_F, Fz = ah_up F9 b (.inr (0, [.ref ra, .int (nI 0), .int (nI 0)])) := ⟨_, rfl⟩
  have hP : ah_K A D F13 H := by rw [eF13]; exact hP
  have hF14 : F13 b = some (.inr (0, [.ref ra, .int (nI 0), .int (nI 0)])) := by rw [eF13]; exact ah_up_s _ _ _
  have hF15 : F13 ra = some (ah_aq D 40 (fun _ => none)) := by rw [eF13]; exact ah_keep hF10 hF11 rfl
  have hC16 : ah_ch F F13 [b, ra] := by rw [eF13]; exact ah_ch_u hC12 (by simp)
  rw [hQ]
  exact ah_vret E hr hP hS ⟨ra, hz_ra, hF14, hF15, hC16⟩ (Nat.le_of_ble_eq_true rfl) (Nat.le_of_ble_eq_true rfl) dX0_init_23

set_option maxHeartbeats 4000000 in
set_option maxRecDepth 100000 in
/-- add -/
theorem c_Book_add (l : Launch) (A : Nat → Prop) (D : ah_G) (F : ah_F) {b ra : Nat} {rf : Nat → Option Nat} {P : ah_Pt} {n pr : Nat} (hbk : F b = some (.inr (0, [.ref ra, .int (nI n), .int (nI pr)]))) (hra : F ra = some (ah_aq D 40 rf)) (hrows : ah_rows F rf P) {wa : Nat} {w : List Nat} (hw : ah_wd F wa w) (hn : n < 40) (hpr : pr < 40) : Met l yX0_add (Cond.code yX0_add cX0_add 3 (some .int) :: ah_T) { frames := 3, cells := 2, slots := 5, locals := 65 } (va_Pc [.ref b, .ref wa] (ah_B A D F)) (ah_Qi A D (fun (r : Int32) F1 => nI n = r ∧ ∃ q z : Nat, F q = none ∧ F z = none ∧ F1 q = some (.inr (2, [.int (nI n), .ref wa, .ref z])) ∧ ah_wd F1 z [] ∧ F1 ra = some (ah_aq D 40 (va_up rf n (some q))) ∧ F1 b = some (.inr (0, [.ref ra, .int (nI (n + 1)), .int (nI (pr + 1))])) ∧ ah_ch F F1 [b, ra, z, q])) 2 5 A := by
  refine ah_met (own := "Ahoarch$Book") (by decide) rfl (Nat.le_of_ble_eq_true rfl) ?_
  intro p e s m below meth c ls E hr hini hl hP hS Q hQ
  have hx := E.1
  have hb := E.2.1
  have hl : lv_has ls 3 [(0, .ref b), (1, .ref wa)] := hl
  refine lv_aload_n hx hb dX0_add_0 rfl (lv_at hl 0 rfl) ?_
  refine gf_Book_17 E hP hbk rfl dX0_add_1 ?_
  refine lv_istore_n (lv' := [(2, .int (nI n)), (0, .ref b), (1, .ref wa)]) hx hb dX0_add_4 rfl hl (by decide) rfl (fun ls hl => ?_)
  refine lv_iload_n hx hb dX0_add_5 rfl (lv_at hl 0 rfl) ?_
  refine lv_aload_n hx hb dX0_add_6 rfl (lv_at hl 1 rfl) ?_
  refine gf_Book_11 E hP hbk rfl dX0_add_7 ?_
  refine ah_len E hP hra 4 rfl dX0_add_10 ?_
  refine ah_icmp_ge (tgt := 49) hx hb (by omega) (by omega) dX0_add_11 (by decide) (fun hc11 => ?_) (fun hc11 => ?_)
  · skip
    exact absurd hc11 (by omega)
  · skip
    refine lv_aload_n hx hb dX0_add_14 rfl (lv_at hl 1 rfl) ?_
    refine gf_Book_11 E hP hbk rfl dX0_add_15 ?_
    refine lv_iload_n hx hb dX0_add_18 rfl (lv_at hl 0 rfl) ?_
    refine nw_Book_9 E hP hS (Nat.le_of_ble_eq_true rfl) (Nat.le_of_ble_eq_true rfl) dX0_add_19 (fun q H hn_q hP hS => ?_)
    obtain ⟨F1, eF1⟩ : ∃ Fz : ah_F, Fz = ah_up F q (.inr (2, [.int (nI 0), .null, .null])) := ⟨_, rfl⟩
    have hP : ah_K A D F1 H := by rw [eF1]; exact hP
    have hF2 : F1 q = some (.inr (2, [.int (nI 0), .null, .null])) := by rw [eF1]; exact ah_up_s _ _ _
    have hF3 : F1 b = some (.inr (0, [.ref ra, .int (nI n), .int (nI pr)])) := by rw [eF1]; exact (ah_up_n _ _ (ah_fr hn_q hbk)).trans hbk
    have hF4 : F1 ra = some (ah_aq D 40 rf) := by rw [eF1]; exact (ah_up_n _ _ (ah_fr hn_q hra)).trans hra
    have hF5 : F1 wa = some (.inr (5, [.long (lN (ah_enc w)), .int (nI w.length)])) := by rw [eF1]; exact (ah_up_n _ _ (ah_fr hn_q hw)).trans hw
    have hz_q : F q = none := hn_q
    have hC6 : ah_ch F F1 [q] := by rw [eF1]; exact ah_ch_u (ah_ch_r _ _) (by simp)
    refine lv_dup hx hb dX0_add_22 rfl ?_
    refine lv_iload_n hx hb dX0_add_23 rfl (lv_at hl 0 rfl) ?_
    refine lv_aload_n hx hb dX0_add_24 rfl (lv_at hl 2 rfl) ?_
    refine ah_callv (ah_runI E hP hS (As := [.int (nI n), .ref wa]) (rest := [.ref q, .int (nI n), .ref ra]) (b := q) (c_Pattern_init l A D _ (i := n) (lw := wa) hF2) lk_Book_34 li_Book_34 ⟨rfl, rfl, (Nat.le_of_ble_eq_true rfl), (Nat.le_of_ble_eq_true rfl)⟩ rfl hl.1 rfl (Nat.le_of_ble_eq_true rfl) dX0_add_25 ⟨(Nat.le_of_ble_eq_true rfl), (Nat.le_of_ble_eq_true rfl)⟩) hS (fun F7 H locs hpi hP hS => ?_)
    obtain ⟨z, hn_z, hpq, hpz, hpc⟩ := hpi
    have hG8 : F7 b = some (.inr (0, [.ref ra, .int (nI n), .int (nI pr)])) := (hpc b (ah_nin2 (ah_fr hn_z hF3) (ah_ne hF3 hF2 rfl))).trans hF3
    have hG9 : F7 ra = some (ah_aq D 40 rf) := (hpc ra (ah_nin2 (ah_fr hn_z hF4) (ah_ne hF4 hF2 rfl))).trans hF4
    have hG10 : F7 wa = some (.inr (5, [.long (lN (ah_enc w)), .int (nI w.length)])) := (hpc wa (ah_nin2 (ah_fr hn_z hF5) (ah_ne hF5 hF2 rfl))).trans hF5
    have hz_z : F z = none := (hC6 z (ah_nin1 (Ne.symm (ah_fr hn_z hF2)))).symm.trans hn_z
    have hC11 : ah_ch F F7 [z, q] := ah_ch_t (ah_ch_w hC6) hpc (by intro a ha; simp only [List.mem_cons, List.not_mem_nil, or_false] at ha ⊢; omega)
    refine ah_qast E hP hS hG9 hpq (by omega) (by omega) dX0_add_28 (fun H locs hP hS => ?_)
    obtain ⟨F12, eF12⟩ : ∃ Fz : ah_F, Fz = ah_up F7 ra (ah_aq D 40 (va_up rf n (some q))) := ⟨_, rfl⟩
    have hP : ah_K A D F12 H := by rw [eF12]; exact hP
    have hF13 : F12 ra = some (ah_aq D 40 (va_up rf n (some q))) := by rw [eF12]; exact ah_up_s _ _ _
    have hF14 : F12 b = some (.inr (0, [.ref ra, .int (nI n), .int (nI pr)])) := by rw [eF12]; exact ah_keep hG9 hG8 rfl
    have hF15 : F12 wa = some (.inr (5, [.long (lN (ah_enc w)), .int (nI w.length)])) := by rw [eF12]; exact ah_keep hG9 hG10 rfl
    have hF16 : F12 q = some (.inr (2, [.int (nI n), .ref wa, .ref z])) := by rw [eF12]; exact ah_keep hG9 hpq rfl
    have hF17 : F12 z = some (.inr (5, [.long (lN (ah_enc [])), .int (nI 0)])) := by rw [eF12]; exact ah_keep hG9 hpz rfl
    have hC18 : ah_ch F F12 [ra, z, q] := by rw [eF12]; exact ah_ch_u (ah_ch_w hC11) (by simp)
    refine lv_aload_n hx hb dX0_add_29 rfl (lv_at hl 1 rfl) ?_
    refine lv_dup hx hb dX0_add_30 rfl ?_
    refine gf_Book_17 E hP hF14 rfl dX0_add_31 ?_
    refine lv_iconst (v := (nI 1)) hx hb dX0_add_34 (by decide) ?_
    refine ah_iadd hx hb dX0_add_35 ?_
    refine pf_Book_17 E hP hS hF14 (Nat.le_of_ble_eq_true rfl) dX0_add_36 (fun H locs hP hS => ?_)
    obtain ⟨F19, eF19⟩ : ∃ Fz : ah_F, Fz = ah_up F12 b (.inr (0, [.ref ra, .int (nI (n + 1)), .int (nI pr)])) := ⟨_, rfl⟩
    have hP : ah_K A D F19 H := by rw [eF19]; exact hP
    have hF20 : F19 b = some (.inr (0, [.ref ra, .int (nI (n + 1)), .int (nI pr)])) := by rw [eF19]; exact ah_up_s _ _ _
    have hF21 : F19 wa = some (.inr (5, [.long (lN (ah_enc w)), .int (nI w.length)])) := by rw [eF19]; exact ah_keep hF14 hF15 rfl
    have hF22 : F19 q = some (.inr (2, [.int (nI n), .ref wa, .ref z])) := by rw [eF19]; exact ah_keep hF14 hF16 rfl
    have hF23 : F19 z = some (.inr (5, [.long (lN (ah_enc [])), .int (nI 0)])) := by rw [eF19]; exact ah_keep hF14 hF17 rfl
    have hF24 : F19 ra = some (ah_aq D 40 (va_up rf n (some q))) := by rw [eF19]; exact ah_keep hF14 hF13 rfl
    have hC25 : ah_ch F F19 [b, ra, z, q] := by rw [eF19]; exact ah_ch_u (ah_ch_w hC18) (by simp)
    refine lv_aload_n hx hb dX0_add_39 rfl (lv_at hl 1 rfl) ?_
    refine lv_dup hx hb dX0_add_40 rfl ?_
    refine gf_Book_21 E hP hF20 rfl dX0_add_41 ?_
    refine lv_iconst (v := (nI 1)) hx hb dX0_add_44 (by decide) ?_
    refine ah_iadd hx hb dX0_add_45 ?_
    refine pf_Book_21 E hP hS hF20 (Nat.le_of_ble_eq_true rfl) dX0_add_46 (fun H locs hP hS => ?_)
    obtain ⟨F26, eF26⟩ : ∃ Fz : ah_F, Fz = ah_up F19 b (.inr (0, [.ref ra, .int (nI (n + 1)), .int (nI (pr + 1))])) := ⟨_, rfl⟩
    have hP : ah_K A D F26 H := by rw [eF26]; exact hP
    have hF27 : F26 b = some (.inr (0, [.ref ra, .int (nI (n + 1)), .int (nI (pr + 1))])) := by rw [eF26]; exact ah_up_s _ _ _
    have hF28 : F26 wa = some (.inr (5, [.long (lN (ah_enc w)), .int (nI w.length)])) := by rw [eF26]; exact ah_keep hF20 hF21 rfl
    have hF29 : F26 q = some (.inr (2, [.int (nI n), .ref wa, .ref z])) := by rw [eF26]; exact ah_keep hF20 hF22 rfl
    have hF30 : F26 z = some (.inr (5, [.long (lN (ah_enc [])), .int (nI 0)])) := by rw [eF26]; exact ah_keep hF20 hF23 rfl
    have hF31 : F26 ra = some (ah_aq D 40 (va_up rf n (some q))) := by rw [eF26]; exact ah_keep hF20 hF24 rfl
    have hC32 : ah_ch F F26 [b, ra, z, q] := by rw [eF26]; exact ah_ch_u hC25 (by simp)
    refine lv_iload_n hx hb dX0_add_49 rfl (lv_at hl 0 rfl) ?_
    rw [hQ]
    exact ah_iret E hr hP hS ⟨rfl, q, z, hz_q, hz_z, hF29, hF30, hF31, hF27, hC32⟩ (Nat.le_of_ble_eq_true rfl) (Nat.le_of_ble_eq_true rfl) dX0_add_50

set_option maxHeartbeats 4000000 in
set_option maxRecDepth 100000 in
/-- remove -/
theorem c_Book_remove (l : Launch) (A : Nat → Prop) (D : ah_G) (F : ah_F) {b ra : Nat} {rf : Nat → Option Nat} {P : ah_Pt} {n pr : Nat} (hbk : F b = some (.inr (0, [.ref ra, .int (nI n), .int (nI pr)]))) (hra : F ra = some (ah_aq D 40 rf)) (hrows : ah_rows F rf P) {q i lw lr : Nat} (hqo : F q = some (.inr (2, [.int (nI i), .ref lw, .ref lr]))) (hi : i < 40) (hri : rf i = some q) (hpr : 0 < pr) (hpr2 : pr ≤ 40) : Met l yX0_remove (Cond.code yX0_remove cX0_remove 2 none :: ah_T) { frames := 1, cells := 0, slots := 0, locals := 21 } (va_Pc [.ref b, .ref q] (ah_B A D F)) (ah_Qv A D (fun F1 => F1 ra = some (ah_aq D 40 (va_up rf i none)) ∧ F1 b = some (.inr (0, [.ref ra, .int (nI n), .int (nI (pr - 1))])) ∧ ah_ch F F1 [b, ra])) 0 0 A := by
  refine ah_met (own := "Ahoarch$Book") (by decide) rfl (Nat.le_of_ble_eq_true rfl) ?_
  intro p e s m below meth c ls E hr hini hl hP hS Q hQ
  have hx := E.1
  have hb := E.2.1
  have hl : lv_has ls 2 [(0, .ref b), (1, .ref q)] := hl
  refine lv_aload_n hx hb dX0_remove_0 rfl (lv_at hl 0 rfl) ?_
  refine lv_aload_n hx hb dX0_remove_1 rfl (lv_at hl 1 rfl) ?_
  refine gf_Book_37 E hP hqo rfl dX0_remove_2 ?_
  refine ah_callq (ah_runV E hP hS (As := [.int (nI i)]) (rest := []) (b := b) (c_Book_find l A D _ hbk hra hrows (x := nI i)) lk_Book_40 li_Book_40 hbk rfl ⟨rfl, rfl, (Nat.le_of_ble_eq_true rfl), (Nat.le_of_ble_eq_true rfl)⟩ rfl hl.1 rfl (Nat.le_of_ble_eq_true rfl) dX0_remove_5 ⟨(Nat.le_of_ble_eq_true rfl), (Nat.le_of_ble_eq_true rfl)⟩) hS (fun r F1 H locs hq hP hS => ?_)
  obtain ⟨rfl, rfl⟩ := hq
  cases hq2 : (ah_ix (nI i)).bind rf with
  | none =>
    exact absurd hq2 (by rw [ah_ix_in hi]; show rf i ≠ none; rw [hri]; simp)
  | some q2 =>
    refine lv_ifnull hx hb dX0_remove_8 ?_
    refine lv_aload_n hx hb dX0_remove_11 rfl (lv_at hl 0 rfl) ?_
    refine gf_Book_11 E hP hbk rfl dX0_remove_12 ?_
    refine lv_aload_n hx hb dX0_remove_15 rfl (lv_at hl 1 rfl) ?_
    refine gf_Book_37 E hP hqo rfl dX0_remove_16 ?_
    refine lv_null hx hb dX0_remove_19 ?_
    refine ah_qastN E hP hS hra (by omega) (by omega) dX0_remove_20 (fun H locs hP hS => ?_)
    obtain ⟨F2, eF2⟩ : ∃ Fz : ah_F, Fz = ah_up F ra (ah_aq D 40 (va_up rf i none)) := ⟨_, rfl⟩
    have hP : ah_K A D F2 H := by rw [eF2]; exact hP
    have hF3 : F2 ra = some (ah_aq D 40 (va_up rf i none)) := by rw [eF2]; exact ah_up_s _ _ _
    have hF4 : F2 b = some (.inr (0, [.ref ra, .int (nI n), .int (nI pr)])) := by rw [eF2]; exact ah_keep hra hbk rfl
    have hF5 : F2 q = some (.inr (2, [.int (nI i), .ref lw, .ref lr])) := by rw [eF2]; exact ah_keep hra hqo rfl
    have hC6 : ah_ch F F2 [ra] := by rw [eF2]; exact ah_ch_u (ah_ch_r _ _) (by simp)
    refine lv_aload_n hx hb dX0_remove_21 rfl (lv_at hl 0 rfl) ?_
    refine lv_dup hx hb dX0_remove_22 rfl ?_
    refine gf_Book_21 E hP hF4 rfl dX0_remove_23 ?_
    refine lv_iconst (v := (nI 1)) hx hb dX0_remove_26 (by decide) ?_
    refine ah_isub hx hb (by omega) dX0_remove_27 ?_
    refine pf_Book_21 E hP hS hF4 (Nat.le_of_ble_eq_true rfl) dX0_remove_28 (fun H locs hP hS => ?_)
    obtain ⟨F7, eF7⟩ : ∃ Fz : ah_F, Fz = ah_up F2 b (.inr (0, [.ref ra, .int (nI n), .int (nI (pr - 1))])) := ⟨_, rfl⟩
    have hP : ah_K A D F7 H := by rw [eF7]; exact hP
    have hF8 : F7 b = some (.inr (0, [.ref ra, .int (nI n), .int (nI (pr - 1))])) := by rw [eF7]; exact ah_up_s _ _ _
    have hF9 : F7 q = some (.inr (2, [.int (nI i), .ref lw, .ref lr])) := by rw [eF7]; exact ah_keep hF4 hF5 rfl
    have hF10 : F7 ra = some (ah_aq D 40 (va_up rf i none)) := by rw [eF7]; exact ah_keep hF4 hF3 rfl
    have hC11 : ah_ch F F7 [b, ra] := by rw [eF7]; exact ah_ch_u (ah_ch_w hC6) (by simp)
    rw [hQ]
    exact ah_vret E hr hP hS ⟨hF10, hF8, hC11⟩ (Nat.le_of_ble_eq_true rfl) (Nat.le_of_ble_eq_true rfl) dX0_remove_31

set_option maxHeartbeats 4000000 in
set_option maxRecDepth 100000 in
/-- <init> -/
theorem c_Choice_init (l : Launch) (A : Nat → Prop) (D : ah_G) (F : ah_F) {ch : Nat} (hc0 : F ch = some (.inr (1, [.null, .null, .int (nI 0)]))) : Met l yX1_init (Cond.code yX1_init cX1_init 1 none :: ah_T) { frames := 1, cells := 2, slots := 400, locals := 20 } (va_Pc [.ref ch] (ah_B A D F)) (ah_Qv A D (fun F1 => ∃ cp cl : Nat, F cp = none ∧ F cl = none ∧ F1 ch = some (.inr (1, [.ref cp, .ref cl, .int (nI 0)])) ∧ F1 cp = some (ah_aq D 200 (fun _ => none)) ∧ F1 cl = some (ah_ai D 200 (fun _ => 0)) ∧ ah_ch F F1 [cl, ch, cp])) 2 400 A := by
  refine ah_met (own := "Ahoarch$Choice") (by decide) rfl (Nat.le_of_ble_eq_true rfl) ?_
  intro p e s m below meth c ls E hr hini hl hP hS Q hQ
  have hx := E.1
  have hb := E.2.1
  have hl : lv_has ls 1 [(0, .ref ch)] := hl
  refine lv_aload_n hx hb dX1_init_0 rfl (lv_at hl 0 rfl) ?_
  refine oi_Choice E hl.1 dX1_init_1 (Nat.le_of_ble_eq_true rfl) (Nat.le_of_ble_eq_true rfl) ?_
  refine lv_aload_n hx hb dX1_init_4 rfl (lv_at hl 0 rfl) ?_
  refine lv_sipush (v := (nI 200)) hx hb dX1_init_5 (by decide) ?_
  refine ah_newq (N := 200) E hP hS (ah_in 66 (by decide +kernel) rfl) (ah_in 31 (by decide +kernel) rfl) (by decide) (Nat.le_of_ble_eq_true rfl) (Nat.le_of_ble_eq_true rfl) (Nat.le_of_ble_eq_true rfl) dX1_init_8 (fun cp H hn_cp hP hS => ?_)
  obtain ⟨F1, eF1⟩ : ∃ Fz : ah_F, Fz = ah_up F cp (ah_aq D 200 (fun _ => none)) := ⟨_, rfl⟩
  have hP : ah_K A D F1 H := by rw [eF1]; exact hP
  have hF2 : F1 cp = some (ah_aq D 200 (fun _ => none)) := by rw [eF1]; exact ah_up_s _ _ _
  have hF3 : F1 ch = some (.inr (1, [.null, .null, .int (nI 0)])) := by rw [eF1]; exact (ah_up_n _ _ (ah_fr hn_cp hc0)).trans hc0
  have hz_cp : F cp = none := hn_cp
  have hC4 : ah_ch F F1 [cp] := by rw [eF1]; exact ah_ch_u (ah_ch_r _ _) (by simp)
  refine pf_Choice_11 E hini hP hS hF3 (Nat.le_of_ble_eq_true rfl) dX1_init_11 (fun H locs hP hS => ?_)
  obtain ⟨F5, eF5⟩ : ∃ Fz : ah_F, Fz = ah_up F1 ch (.inr (1, [.ref cp, .null, .int (nI 0)])) := ⟨_, rfl⟩
  have hP : ah_K A D F5 H := by rw [eF5]; exact hP
  have hF6 : F5 ch = some (.inr (1, [.ref cp, .null, .int (nI 0)])) := by rw [eF5]; exact ah_up_s _ _ _
  have hF7 : F5 cp = some (ah_aq D 200 (fun _ => none)) := by rw [eF5]; exact ah_keep hF3 hF2 rfl
  have hC8 : ah_ch F F5 [ch, cp] := by rw [eF5]; exact ah_ch_u (ah_ch_w hC4) (by simp)
  refine lv_aload_n hx hb dX1_init_14 rfl (lv_at hl 0 rfl) ?_
  refine lv_sipush (v := (nI 200)) hx hb dX1_init_15 (by decide) ?_
  refine ah_newa (atype := .int) (ty := .int) (t0 := 0) (a0 := (200, .inl (fun _ => 0))) (N := 200) E hP hS rfl (fun _ h => nomatch h) rfl (ah_in 78 (by decide +kernel) rfl) (fun _ => rfl) (by decide) (Nat.le_of_ble_eq_true rfl) (Nat.le_of_ble_eq_true rfl) (Nat.le_of_ble_eq_true rfl) dX1_init_18 (fun cl H hn_cl hP hS => ?_)
  obtain ⟨F9, eF9⟩ : ∃ Fz : ah_F, Fz = ah_up F5 cl (ah_ai D 200 (fun _ => 0)) := ⟨_, rfl⟩
  have hP : ah_K A D F9 H := by rw [eF9]; exact hP
  have hF10 : F9 cl = some (ah_ai D 200 (fun _ => 0)) := by rw [eF9]; exact ah_up_s _ _ _
  have hF11 : F9 cp = some (ah_aq D 200 (fun _ => none)) := by rw [eF9]; exact (ah_up_n _ _ (ah_fr hn_cl hF7)).trans hF7
  have hF12 : F9 ch = some (.inr (1, [.ref cp, .null, .int (nI 0)])) := by rw [eF9]; exact (ah_up_n _ _ (ah_fr hn_cl hF6)).trans hF6
  have hz_cl : F cl = none := (hC8 cl (ah_nin2 (Ne.symm (ah_fr hn_cl hF6)) (Ne.symm (ah_fr hn_cl hF7)))).symm.trans hn_cl
  have hC13 : ah_ch F F9 [cl, ch, cp] := by rw [eF9]; exact ah_ch_u (ah_ch_w hC8) (by simp)
  refine pf_Choice_17 E hini hP hS hF12 (Nat.le_of_ble_eq_true rfl) dX1_init_20 (fun H locs hP hS => ?_)
  obtain ⟨F14, eF14⟩ : ∃ Fz : ah_F, Fz = ah_up F9 ch (.inr (1, [.ref cp, .ref cl, .int (nI 0)])) := ⟨_, rfl⟩
  have hP : ah_K A D F14 H := by rw [eF14]; exact hP
  have hF15 : F14 ch = some (.inr (1, [.ref cp, .ref cl, .int (nI 0)])) := by rw [eF14]; exact ah_up_s _ _ _
  have hF16 : F14 cp = some (ah_aq D 200 (fun _ => none)) := by rw [eF14]; exact ah_keep hF12 hF11 rfl
  have hF17 : F14 cl = some (ah_ai D 200 (fun _ => 0)) := by rw [eF14]; exact ah_keep hF12 hF10 rfl
  have hC18 : ah_ch F F14 [cl, ch, cp] := by rw [eF14]; exact ah_ch_u hC13 (by simp)
  refine lv_aload_n hx hb dX1_init_23 rfl (lv_at hl 0 rfl) ?_
  refine lv_iconst (v := (nI 0)) hx hb dX1_init_24 (by decide) ?_
  refine pf_Choice_21 E hP hS hF15 (Nat.le_of_ble_eq_true rfl) dX1_init_25 (fun H locs hP hS => ?_)
  obtain ⟨F19, eF19⟩ : ∃ Fz : ah_F, Fz = ah_up F14 ch (.inr (1, [.ref cp, .ref cl, .int (nI 0)])) := ⟨_, rfl⟩
  have hP : ah_K A D F19 H := by rw [eF19]; exact hP
  have hF20 : F19 ch = some (.inr (1, [.ref cp, .ref cl, .int (nI 0)])) := by rw [eF19]; exact ah_up_s _ _ _
  have hF21 : F19 cp = some (ah_aq D 200 (fun _ => none)) := by rw [eF19]; exact ah_keep hF15 hF16 rfl
  have hF22 : F19 cl = some (ah_ai D 200 (fun _ => 0)) := by rw [eF19]; exact ah_keep hF15 hF17 rfl
  have hC23 : ah_ch F F19 [cl, ch, cp] := by rw [eF19]; exact ah_ch_u hC18 (by simp)
  rw [hQ]
  exact ah_vret E hr hP hS ⟨cp, cl, hz_cp, hz_cl, hF20, hF21, hF22, hC23⟩ (Nat.le_of_ble_eq_true rfl) (Nat.le_of_ble_eq_true rfl) dX1_init_28

set_option maxHeartbeats 4000000 in
set_option maxRecDepth 100000 in
/-- keep -/
theorem c_Choice_keep (l : Launch) (A : Nat → Prop) (D : ah_G) (F : ah_F) {ch cp cl : Nat} {pf : Nat → Option Nat} {plf : Nat → Int32} {cc : Nat} (hch : F ch = some (.inr (1, [.ref cp, .ref cl, .int (nI cc)]))) (hcp : F cp = some (ah_aq D 200 pf)) (hcl : F cl = some (ah_ai D 200 plf)) {q i : Nat} {fs : List Value} (hqo : F q = some (.inr (2, fs))) (hcc : cc < 200) : Met l yX1_keep (Cond.code yX1_keep cX1_keep 3 none :: ah_T) { frames := 0, cells := 0, slots := 0, locals := 0 } (va_Pc [.ref ch, .ref q, .int (nI i)] (ah_B A D F)) (ah_Qv A D (fun F1 => F1 ch = some (.inr (1, [.ref cp, .ref cl, .int (nI (cc + 1))])) ∧ F1 cp = some (ah_aq D 200 (va_up pf cc (some q))) ∧ F1 cl = some (ah_ai D 200 (upd plf cc (nI i))) ∧ ah_ch F F1 [ch, cl, cp])) 0 0 A := by
  refine ah_met (own := "Ahoarch$Choice") (by decide) rfl (Nat.le_of_ble_eq_true rfl) ?_
  intro p e s m below meth c ls E hr hini hl hP hS Q hQ
  have hx := E.1
  have hb := E.2.1
  have hl : lv_has ls 3 [(0, .ref ch), (1, .ref q), (2, .int (nI i))] := hl
  refine lv_aload_n hx hb dX1_keep_0 rfl (lv_at hl 0 rfl) ?_
  refine gf_Choice_21 E hP hch rfl dX1_keep_1 ?_
  refine lv_sipush (v := (nI 200)) hx hb dX1_keep_4 (by decide) ?_
  refine ah_icmp_ge (tgt := 40) hx hb (by omega) (by omega) dX1_keep_7 (by decide) (fun hc7 => ?_) (fun hc7 => ?_)
  · skip
    exact absurd hc7 (by omega)
  · skip
    refine lv_aload_n hx hb dX1_keep_10 rfl (lv_at hl 0 rfl) ?_
    refine gf_Choice_11 E hP hch rfl dX1_keep_11 ?_
    refine lv_aload_n hx hb dX1_keep_14 rfl (lv_at hl 0 rfl) ?_
    refine gf_Choice_21 E hP hch rfl dX1_keep_15 ?_
    refine lv_aload_n hx hb dX1_keep_18 rfl (lv_at hl 1 rfl) ?_
    refine ah_qast E hP hS hcp hqo (by omega) (by omega) dX1_keep_19 (fun H locs hP hS => ?_)
    obtain ⟨F1, eF1⟩ : ∃ Fz : ah_F, Fz = ah_up F cp (ah_aq D 200 (va_up pf cc (some q))) := ⟨_, rfl⟩
    have hP : ah_K A D F1 H := by rw [eF1]; exact hP
    have hF2 : F1 cp = some (ah_aq D 200 (va_up pf cc (some q))) := by rw [eF1]; exact ah_up_s _ _ _
    have hF3 : F1 ch = some (.inr (1, [.ref cp, .ref cl, .int (nI cc)])) := by rw [eF1]; exact ah_keep hcp hch rfl
    have hF4 : F1 cl = some (ah_ai D 200 plf) := by rw [eF1]; exact ah_keep hcp hcl rfl
    have hC5 : ah_ch F F1 [cp] := by rw [eF1]; exact ah_ch_u (ah_ch_r _ _) (by simp)
    refine lv_aload_n hx hb dX1_keep_20 rfl (lv_at hl 0 rfl) ?_
    refine gf_Choice_17 E hP hF3 rfl dX1_keep_21 ?_
    refine lv_aload_n hx hb dX1_keep_24 rfl (lv_at hl 0 rfl) ?_
    refine gf_Choice_21 E hP hF3 rfl dX1_keep_25 ?_
    refine lv_iload_n hx hb dX1_keep_28 rfl (lv_at hl 2 rfl) ?_
    refine ah_iast E hP hS hF4 (by omega) (by omega) dX1_keep_29 (fun H locs hP hS => ?_)
    obtain ⟨F6, eF6⟩ : ∃ Fz : ah_F, Fz = ah_up F1 cl (ah_ai D 200 (upd plf cc (nI i))) := ⟨_, rfl⟩
    have hP : ah_K A D F6 H := by rw [eF6]; exact hP
    have hF7 : F6 cl = some (ah_ai D 200 (upd plf cc (nI i))) := by rw [eF6]; exact ah_up_s _ _ _
    have hF8 : F6 ch = some (.inr (1, [.ref cp, .ref cl, .int (nI cc)])) := by rw [eF6]; exact ah_keep hF4 hF3 rfl
    have hF9 : F6 cp = some (ah_aq D 200 (va_up pf cc (some q))) := by rw [eF6]; exact ah_keep hF4 hF2 rfl
    have hC10 : ah_ch F F6 [cl, cp] := by rw [eF6]; exact ah_ch_u (ah_ch_w hC5) (by simp)
    refine lv_aload_n hx hb dX1_keep_30 rfl (lv_at hl 0 rfl) ?_
    refine lv_dup hx hb dX1_keep_31 rfl ?_
    refine gf_Choice_21 E hP hF8 rfl dX1_keep_32 ?_
    refine lv_iconst (v := (nI 1)) hx hb dX1_keep_35 (by decide) ?_
    refine ah_iadd hx hb dX1_keep_36 ?_
    refine pf_Choice_21 E hP hS hF8 (Nat.le_of_ble_eq_true rfl) dX1_keep_37 (fun H locs hP hS => ?_)
    obtain ⟨F11, eF11⟩ : ∃ Fz : ah_F, Fz = ah_up F6 ch (.inr (1, [.ref cp, .ref cl, .int (nI (cc + 1))])) := ⟨_, rfl⟩
    have hP : ah_K A D F11 H := by rw [eF11]; exact hP
    have hF12 : F11 ch = some (.inr (1, [.ref cp, .ref cl, .int (nI (cc + 1))])) := by rw [eF11]; exact ah_up_s _ _ _
    have hF13 : F11 cp = some (ah_aq D 200 (va_up pf cc (some q))) := by rw [eF11]; exact ah_keep hF8 hF9 rfl
    have hF14 : F11 cl = some (ah_ai D 200 (upd plf cc (nI i))) := by rw [eF11]; exact ah_keep hF8 hF7 rfl
    have hC15 : ah_ch F F11 [ch, cl, cp] := by rw [eF11]; exact ah_ch_u (ah_ch_w hC10) (by simp)
    rw [hQ]
    exact ah_vret E hr hP hS ⟨hF12, hF13, hF14, hC15⟩ (Nat.le_of_ble_eq_true rfl) (Nat.le_of_ble_eq_true rfl) dX1_keep_40

set_option maxHeartbeats 4000000 in
set_option maxRecDepth 100000 in
/-- patternAt -/
theorem c_Choice_patternAt (l : Launch) (A : Nat → Prop) (D : ah_G) (F : ah_F) {ch cp cl : Nat} {pf : Nat → Option Nat} {plf : Nat → Int32} {cc : Nat} (hch : F ch = some (.inr (1, [.ref cp, .ref cl, .int (nI cc)]))) (hcp : F cp = some (ah_aq D 200 pf)) (hcl : F cl = some (ah_ai D 200 plf)) (hcc : cc ≤ 200) {x : Int32} : Met l yX1_patternAt (Cond.code yX1_patternAt cX1_patternAt 2 (some (.object "Ahoarch$Pattern")) :: ah_T) { frames := 0, cells := 0, slots := 0, locals := 0 } (va_Pc [.ref ch, .int x] (ah_B A D F)) (ah_Qq A D (fun (r : Option Nat) F1 => F = F1 ∧ (ah_ixn cc x).bind pf = r)) 0 0 A := by
  refine ah_met (own := "Ahoarch$Choice") (by decide) rfl (Nat.le_of_ble_eq_true rfl) ?_
  intro p e s m below meth c ls E hr hini hl hP hS Q hQ
  have hx := E.1
  have hb := E.2.1
  have hl : lv_has ls 2 [(0, .ref ch), (1, .int x)] := hl
  refine lv_iload_n hx hb dX1_patternAt_0 rfl (lv_at hl 1 rfl) ?_
  refine lv_if_lt (tgt := 21) hx hb dX1_patternAt_1 (by decide) (fun hc1 => ?_) (fun hc1 => ?_)
  · skip
    refine lv_null hx hb dX1_patternAt_21 ?_
    rw [hQ]
    exact ah_qret (v := none) E hr hP hS ⟨rfl, by rw [ah_ixn_neg hc1]; rfl⟩ (Nat.le_of_ble_eq_true rfl) (Nat.le_of_ble_eq_true rfl) dX1_patternAt_22
  · skip
    refine lv_iload_n hx hb dX1_patternAt_4 rfl (lv_at hl 1 rfl) ?_
    refine lv_aload_n hx hb dX1_patternAt_5 rfl (lv_at hl 0 rfl) ?_
    refine gf_Choice_21 E hP hch rfl dX1_patternAt_6 ?_
    refine lv_icmp_ge (tgt := 21) hx hb dX1_patternAt_9 (by decide) (fun hc9 => ?_) (fun hc9 => ?_)
    · skip
      refine lv_null hx hb dX1_patternAt_21 ?_
      rw [hQ]
      exact ah_qret (v := none) E hr hP hS ⟨rfl, by rw [ah_ixn_ge (by omega) hc9]; rfl⟩ (Nat.le_of_ble_eq_true rfl) (Nat.le_of_ble_eq_true rfl) dX1_patternAt_22
    · skip
      obtain ⟨i, hi, rfl⟩ : ∃ i : Nat, i < cc ∧ x = nI i := by
        rcases pk_ix x (n := cc) (by omega) with h | h | h
        · exact absurd h hc1
        · exact absurd h hc9
        · exact h
      refine lv_aload_n hx hb dX1_patternAt_12 rfl (lv_at hl 0 rfl) ?_
      refine gf_Choice_11 E hP hch rfl dX1_patternAt_13 ?_
      refine lv_iload_n hx hb dX1_patternAt_16 rfl (lv_at hl 1 rfl) ?_
      refine ah_qald E hP hcp (by omega) (by omega) dX1_patternAt_17 ?_
      cases hq : pf i with
      | none =>
        refine lv_goto (tgt := 22) hx hb dX1_patternAt_18 (by decide) ?_
        rw [hQ]
        exact ah_qret (v := none) E hr hP hS ⟨rfl, by rw [ah_ixn_in hi (by omega)]; exact hq⟩ (Nat.le_of_ble_eq_true rfl) (Nat.le_of_ble_eq_true rfl) dX1_patternAt_22
      | some q =>
        refine lv_goto (tgt := 22) hx hb dX1_patternAt_18 (by decide) ?_
        rw [hQ]
        exact ah_qret (v := some q) E hr hP hS ⟨rfl, by rw [ah_ixn_in hi (by omega)]; exact hq⟩ (Nat.le_of_ble_eq_true rfl) (Nat.le_of_ble_eq_true rfl) dX1_patternAt_22

set_option maxHeartbeats 4000000 in
set_option maxRecDepth 100000 in
/-- placeAt -/
theorem c_Choice_placeAt (l : Launch) (A : Nat → Prop) (D : ah_G) (F : ah_F) {ch cp cl : Nat} {pf : Nat → Option Nat} {plf : Nat → Int32} {cc : Nat} (hch : F ch = some (.inr (1, [.ref cp, .ref cl, .int (nI cc)]))) (hcp : F cp = some (ah_aq D 200 pf)) (hcl : F cl = some (ah_ai D 200 plf)) (hcc : cc ≤ 200) {i : Nat} (hi : i < cc) : Met l yX1_placeAt (Cond.code yX1_placeAt cX1_placeAt 2 (some .int) :: ah_T) { frames := 0, cells := 0, slots := 0, locals := 0 } (va_Pc [.ref ch, .int (nI i)] (ah_B A D F)) (ah_Qi A D (fun (r : Int32) F1 => F = F1 ∧ plf i = r)) 0 0 A := by
  refine ah_met (own := "Ahoarch$Choice") (by decide) rfl (Nat.le_of_ble_eq_true rfl) ?_
  intro p e s m below meth c ls E hr hini hl hP hS Q hQ
  have hx := E.1
  have hb := E.2.1
  have hl : lv_has ls 2 [(0, .ref ch), (1, .int (nI i))] := hl
  refine lv_iload_n hx hb dX1_placeAt_0 rfl (lv_at hl 1 rfl) ?_
  refine ah_if_lt (tgt := 21) hx hb (by omega) dX1_placeAt_1 (by decide) ?_
  refine lv_iload_n hx hb dX1_placeAt_4 rfl (lv_at hl 1 rfl) ?_
  refine lv_aload_n hx hb dX1_placeAt_5 rfl (lv_at hl 0 rfl) ?_
  refine gf_Choice_21 E hP hch rfl dX1_placeAt_6 ?_
  refine ah_icmp_ge (tgt := 21) hx hb (by omega) (by omega) dX1_placeAt_9 (by decide) (fun hc9 => ?_) (fun hc9 => ?_)
  · skip
    exact absurd hc9 (by omega)
  · skip
    refine lv_aload_n hx hb dX1_placeAt_12 rfl (lv_at hl 0 rfl) ?_
    refine gf_Choice_17 E hP hch rfl dX1_placeAt_13 ?_
    refine lv_iload_n hx hb dX1_placeAt_16 rfl (lv_at hl 1 rfl) ?_
    refine ah_iald E hP hcl (by omega) (by omega) dX1_placeAt_17 ?_
    refine lv_goto (tgt := 22) hx hb dX1_placeAt_18 (by decide) ?_
    rw [hQ]
    exact ah_iret E hr hP hS ⟨rfl, rfl⟩ (Nat.le_of_ble_eq_true rfl) (Nat.le_of_ble_eq_true rfl) dX1_placeAt_22

set_option maxHeartbeats 4000000 in
set_option maxRecDepth 100000 in
/-- <init> -/
theorem c_Text_init (l : Launch) (A : Nat → Prop) (D : ah_G) (F : ah_F) {tx : Nat} (hc0 : F tx = some (.inr (4, [.null, .int (nI 0)]))) : Met l yX4_init (Cond.code yX4_init cX4_init 1 none :: ah_T) { frames := 1, cells := 1, slots := 1600, locals := 20 } (va_Pc [.ref tx] (ah_B A D F)) (ah_Qv A D (fun F1 => ∃ ta : Nat, F ta = none ∧ F1 tx = some (.inr (4, [.ref ta, .int (nI 0)])) ∧ F1 ta = some (ah_ac D 1600 (fun _ => 0)) ∧ ah_ch F F1 [tx, ta])) 1 1600 A := by
  refine ah_met (own := "Ahoarch$Text") (by decide) rfl (Nat.le_of_ble_eq_true rfl) ?_
  intro p e s m below meth c ls E hr hini hl hP hS Q hQ
  have hx := E.1
  have hb := E.2.1
  have hl : lv_has ls 1 [(0, .ref tx)] := hl
  refine lv_aload_n hx hb dX4_init_0 rfl (lv_at hl 0 rfl) ?_
  refine oi_Text E hl.1 dX4_init_1 (Nat.le_of_ble_eq_true rfl) (Nat.le_of_ble_eq_true rfl) ?_
  refine lv_aload_n hx hb dX4_init_4 rfl (lv_at hl 0 rfl) ?_
  refine lv_sipush (v := (nI 1600)) hx hb dX4_init_5 (by decide) ?_
  refine ah_newa (atype := .char) (ty := .char) (t0 := 3) (a0 := (1600, .inl (fun _ => 0))) (N := 1600) E hP hS rfl (fun _ h => nomatch h) rfl (ah_in 93 (by decide +kernel) rfl) (fun _ => rfl) (by decide) (Nat.le_of_ble_eq_true rfl) (Nat.le_of_ble_eq_true rfl) (Nat.le_of_ble_eq_true rfl) dX4_init_8 (fun ta H hn_ta hP hS => ?_)
  obtain ⟨F1, eF1⟩ : ∃ Fz : ah_F, Fz = ah_up F ta (ah_ac D 1600 (fun _ => 0)) := ⟨_, rfl⟩
  have hP : ah_K A D F1 H := by rw [eF1]; exact hP
  have hF2 : F1 ta = some (ah_ac D 1600 (fun _ => 0)) := by rw [eF1]; exact ah_up_s _ _ _
  have hF3 : F1 tx = some (.inr (4, [.null, .int (nI 0)])) := by rw [eF1]; exact (ah_up_n _ _ (ah_fr hn_ta hc0)).trans hc0
  have hz_ta : F ta = none := hn_ta
  have hC4 : ah_ch F F1 [ta] := by rw [eF1]; exact ah_ch_u (ah_ch_r _ _) (by simp)
  refine pf_Text_9 E hini hP hS hF3 (Nat.le_of_ble_eq_true rfl) dX4_init_10 (fun H locs hP hS => ?_)
  obtain ⟨F5, eF5⟩ : ∃ Fz : ah_F, Fz = ah_up F1 tx (.inr (4, [.ref ta, .int (nI 0)])) := ⟨_, rfl⟩
  have hP : ah_K A D F5 H := by rw [eF5]; exact hP
  have hF6 : F5 tx = some (.inr (4, [.ref ta, .int (nI 0)])) := by rw [eF5]; exact ah_up_s _ _ _
  have hF7 : F5 ta = some (ah_ac D 1600 (fun _ => 0)) := by rw [eF5]; exact ah_keep hF3 hF2 rfl
  have hC8 : ah_ch F F5 [tx, ta] := by rw [eF5]; exact ah_ch_u (ah_ch_w hC4) (by simp)
  refine lv_aload_n hx hb dX4_init_13 rfl (lv_at hl 0 rfl) ?_
  refine lv_iconst (v := (nI 0)) hx hb dX4_init_14 (by decide) ?_
  refine pf_Text_15 E hP hS hF6 (Nat.le_of_ble_eq_true rfl) dX4_init_15 (fun H locs hP hS => ?_)
  obtain ⟨F9, eF9⟩ : ∃ Fz : ah_F, Fz = ah_up F5 tx (.inr (4, [.ref ta, .int (nI 0)])) := ⟨_, rfl⟩
  have hP : ah_K A D F9 H := by rw [eF9]; exact hP
  have hF10 : F9 tx = some (.inr (4, [.ref ta, .int (nI 0)])) := by rw [eF9]; exact ah_up_s _ _ _
  have hF11 : F9 ta = some (ah_ac D 1600 (fun _ => 0)) := by rw [eF9]; exact ah_keep hF6 hF7 rfl
  have hC12 : ah_ch F F9 [tx, ta] := by rw [eF9]; exact ah_ch_u hC8 (by simp)
  rw [hQ]
  exact ah_vret E hr hP hS ⟨ta, hz_ta, hF10, hF11, hC12⟩ (Nat.le_of_ble_eq_true rfl) (Nat.le_of_ble_eq_true rfl) dX4_init_18

set_option maxHeartbeats 4000000 in
set_option maxRecDepth 100000 in
/-- add -/
theorem c_Text_add (l : Launch) (A : Nat → Prop) (D : ah_G) (F : ah_F) {tx ta : Nat} {tf : Nat → Int32} {T : List Nat} (htx : F tx = some (.inr (4, [.ref ta, .int (nI T.length)]))) (hta : F ta = some (ah_ac D 1600 tf)) (htt : ah_txt tf T) {x : Nat} (hx : x ≤ 31) (hl0 : T.length < 1600) : Met l yX4_add (Cond.code yX4_add cX4_add 2 none :: ah_T) { frames := 0, cells := 0, slots := 0, locals := 0 } (va_Pc [.ref tx, .int (nI (96 + x))] (ah_B A D F)) (ah_Qv A D (fun F1 => ∃ tf1 : Nat → Int32, F1 tx = some (.inr (4, [.ref ta, .int (nI (T ++ [x]).length)])) ∧ F1 ta = some (ah_ac D 1600 tf1) ∧ ah_txt tf1 (T ++ [x]) ∧ ah_ch F F1 [tx, ta])) 0 0 A := by
  refine ah_met (own := "Ahoarch$Text") (by decide) rfl (Nat.le_of_ble_eq_true rfl) ?_
  intro p e s m below meth c ls E hr hini hl hP hS Q hQ
  have hx := E.1
  have hb := E.2.1
  have hl : lv_has ls 2 [(0, .ref tx), (1, .int (nI (96 + x)))] := hl
  refine lv_aload_n hx hb dX4_add_0 rfl (lv_at hl 0 rfl) ?_
  refine gf_Text_15 E hP htx rfl dX4_add_1 ?_
  refine lv_aload_n hx hb dX4_add_4 rfl (lv_at hl 0 rfl) ?_
  refine gf_Text_9 E hP htx rfl dX4_add_5 ?_
  refine ah_len E hP hta 3 rfl dX4_add_8 ?_
  refine ah_icmp_ge (tgt := 32) hx hb (by omega) (by omega) dX4_add_9 (by decide) (fun hc9 => ?_) (fun hc9 => ?_)
  · skip
    exact absurd hc9 (by omega)
  · skip
    refine lv_aload_n hx hb dX4_add_12 rfl (lv_at hl 0 rfl) ?_
    refine gf_Text_9 E hP htx rfl dX4_add_13 ?_
    refine lv_aload_n hx hb dX4_add_16 rfl (lv_at hl 0 rfl) ?_
    refine gf_Text_15 E hP htx rfl dX4_add_17 ?_
    refine lv_iload_n hx hb dX4_add_20 rfl (lv_at hl 1 rfl) ?_
    refine ah_cast E hP hS hta (by omega) (by omega) (ah_nar_c (by omega)) dX4_add_21 (fun H locs hP hS => ?_)
    obtain ⟨F1, eF1⟩ : ∃ Fz : ah_F, Fz = ah_up F ta (ah_ac D 1600 (upd tf T.length (nI (96 + x)))) := ⟨_, rfl⟩
    have hP : ah_K A D F1 H := by rw [eF1]; exact hP
    have hF2 : F1 ta = some (ah_ac D 1600 (upd tf T.length (nI (96 + x)))) := by rw [eF1]; exact ah_up_s _ _ _
    have hF3 : F1 tx = some (.inr (4, [.ref ta, .int (nI T.length)])) := by rw [eF1]; exact ah_keep hta htx rfl
    have hC4 : ah_ch F F1 [ta] := by rw [eF1]; exact ah_ch_u (ah_ch_r _ _) (by simp)
    refine lv_aload_n hx hb dX4_add_22 rfl (lv_at hl 0 rfl) ?_
    refine lv_dup hx hb dX4_add_23 rfl ?_
    refine gf_Text_15 E hP hF3 rfl dX4_add_24 ?_
    refine lv_iconst (v := (nI 1)) hx hb dX4_add_27 (by decide) ?_
    refine ah_iadd hx hb dX4_add_28 ?_
    refine pf_Text_15 E hP hS hF3 (Nat.le_of_ble_eq_true rfl) dX4_add_29 (fun H locs hP hS => ?_)
    obtain ⟨F5, eF5⟩ : ∃ Fz : ah_F, Fz = ah_up F1 tx (.inr (4, [.ref ta, .int (nI (T.length + 1))])) := ⟨_, rfl⟩
    have hP : ah_K A D F5 H := by rw [eF5]; exact hP
    have hF6 : F5 tx = some (.inr (4, [.ref ta, .int (nI (T.length + 1))])) := by rw [eF5]; exact ah_up_s _ _ _
    have hF7 : F5 ta = some (ah_ac D 1600 (upd tf T.length (nI (96 + x)))) := by rw [eF5]; exact ah_keep hF3 hF2 rfl
    have hC8 : ah_ch F F5 [tx, ta] := by rw [eF5]; exact ah_ch_u (ah_ch_w hC4) (by simp)
    rw [hQ]
    exact ah_vret E hr hP hS ⟨_, by rw [List.length_append]; exact hF6, hF7, ah_txt_s htt hl0, hC8⟩ (Nat.le_of_ble_eq_true rfl) (Nat.le_of_ble_eq_true rfl) dX4_add_32

set_option maxHeartbeats 4000000 in
set_option maxRecDepth 100000 in
/-- letterAt -/
theorem c_Text_letterAt (l : Launch) (A : Nat → Prop) (D : ah_G) (F : ah_F) {tx ta : Nat} {tf : Nat → Int32} {T : List Nat} (htx : F tx = some (.inr (4, [.ref ta, .int (nI T.length)]))) (hta : F ta = some (ah_ac D 1600 tf)) (htt : ah_txt tf T) {k : Nat} (hk : k < T.length) (hletter : ∀ i, i < T.length → T.getD i 0 ≤ 31) : Met l yX4_letterAt (Cond.code yX4_letterAt cX4_letterAt 2 (some .char) :: ah_T) { frames := 0, cells := 0, slots := 0, locals := 0 } (va_Pc [.ref tx, .int (nI k)] (ah_B A D F)) (ah_Qi A D (fun (r : Int32) F1 => F = F1 ∧ nI (96 + T.getD k 0) = r)) 0 0 A := by
  refine ah_met (own := "Ahoarch$Text") (by decide) rfl (Nat.le_of_ble_eq_true rfl) ?_
  intro p e s m below meth c ls E hr hini hl hP hS Q hQ
  have hx := E.1
  have hb := E.2.1
  have hl : lv_has ls 2 [(0, .ref tx), (1, .int (nI k))] := hl
  obtain ⟨ht1, ht2⟩ := id htt
  refine lv_iload_n hx hb dX4_letterAt_0 rfl (lv_at hl 1 rfl) ?_
  refine ah_if_lt (tgt := 21) hx hb (by omega) dX4_letterAt_1 (by decide) ?_
  refine lv_iload_n hx hb dX4_letterAt_4 rfl (lv_at hl 1 rfl) ?_
  refine lv_aload_n hx hb dX4_letterAt_5 rfl (lv_at hl 0 rfl) ?_
  refine gf_Text_15 E hP htx rfl dX4_letterAt_6 ?_
  refine ah_icmp_ge (tgt := 21) hx hb (by omega) (by omega) dX4_letterAt_9 (by decide) (fun hc9 => ?_) (fun hc9 => ?_)
  · skip
    exact absurd hc9 (by omega)
  · skip
    refine lv_aload_n hx hb dX4_letterAt_12 rfl (lv_at hl 0 rfl) ?_
    refine gf_Text_9 E hP htx rfl dX4_letterAt_13 ?_
    refine lv_iload_n hx hb dX4_letterAt_16 rfl (lv_at hl 1 rfl) ?_
    refine ah_cald E hP hta (by omega) (by omega) dX4_letterAt_17 ?_
    refine lv_goto (tgt := 23) hx hb dX4_letterAt_18 (by decide) ?_
    rw [hQ]
    exact ah_zret E hr (by rw [ht2 k hk]; exact (pk_charN (by have := hletter k hk; omega)).1) hP hS ⟨rfl, (ht2 k hk).symm⟩ (Nat.le_of_ble_eq_true rfl) (Nat.le_of_ble_eq_true rfl) dX4_letterAt_23

set_option maxHeartbeats 4000000 in
set_option maxRecDepth 100000 in
/-- addWord -/
theorem c_Text_addWord (l : Launch) (A : Nat → Prop) (D : ah_G) (F : ah_F) {tx ta : Nat} {tf : Nat → Int32} {T : List Nat} (htx : F tx = some (.inr (4, [.ref ta, .int (nI T.length)]))) (hta : F ta = some (ah_ac D 1600 tf)) (htt : ah_txt tf T) {wa : Nat} {w : List Nat} (hw : ah_wd F wa w) (hok : ah_ok w) (hsum : T.length + w.length ≤ 1600) : Met l yX4_addWord (Cond.code yX4_addWord cX4_addWord 3 none :: ah_T) { frames := 2, cells := 0, slots := 0, locals := 42 } (va_Pc [.ref tx, .ref wa] (ah_B A D F)) (ah_Qv A D (fun F1 => ∃ tf1 : Nat → Int32, F1 tx = some (.inr (4, [.ref ta, .int (nI (T ++ w).length)])) ∧ F1 ta = some (ah_ac D 1600 tf1) ∧ ah_txt tf1 (T ++ w) ∧ ah_ch F F1 [tx, ta])) 0 0 A := by
  refine ah_met (own := "Ahoarch$Text") (by decide) rfl (Nat.le_of_ble_eq_true rfl) ?_
  intro p e s m below meth c ls E hr hini hl hP hS Q hQ
  have hx := E.1
  have hb := E.2.1
  have hl : lv_has ls 3 [(0, .ref tx), (1, .ref wa)] := hl
  have hwl := hok.1
  have hlet0 : ∀ i, i < w.length → w.getD i 0 ≤ 31 := fun i hi => by rw [List.getD_eq_getElem?_getD, List.getElem?_eq_getElem hi]; have := hok.2 _ (List.getElem_mem hi); show w[i] ≤ 31; omega
  refine lv_iconst (v := (nI 0)) hx hb dX4_addWord_0 (by decide) ?_
  refine lv_istore_n (lv' := [(2, .int (nI 0)), (0, .ref tx), (1, .ref wa)]) hx hb dX4_addWord_1 rfl hl (by decide) rfl (fun ls hl => ?_)
  have L2 : ∀ (n : Nat), ∀ (Fv : ah_F) (k : Nat) (tf1 : Nat → Int32), w.length - k < n → k ≤ w.length → ah_txt tf1 (T ++ (w.take k)) → ah_ch F Fv [tx, ta] → Fv tx = some (.inr (4, [.ref ta, .int (nI ((T ++ (w.take k)).length))])) → Fv ta = some (ah_ac D 1600 tf1) → Fv wa = some (.inr (5, [.long (lN (ah_enc w)), .int (nI w.length)])) → ∀ (H : Heap) (locs : List Loc), ah_K A D Fv H → va_S A s.heap H locs → ∀ (ls : Array Slot), lv_has ls 3 [(0, .ref tx), (1, .ref wa), (2, .int (nI k))] → W p l e { frames := 2, cells := 0, slots := 0, locals := 42 } s m [.ref tx, .ref wa].toArray below meth c H locs 0 0 Q (F0 m 2 ls []) := by
    intro n
    induction n with
    | zero =>
      intro Fv k tf1 hm
      exact absurd hm (Nat.not_lt_zero _)
    | succ n ih =>
      intro Fv k tf1 hm hk htt1 hcv hk1 hk2 hk3 H locs hP hS ls hl
      have hlx : (T ++ (w.take k)).length = T.length + ((w.take k)).length := List.length_append
      have hly : (w.take k).length = k := by rw [List.length_take]; omega
      refine lv_iload_n hx hb dX4_addWord_2 rfl (lv_at hl 2 rfl) ?_
      refine lv_aload_n hx hb dX4_addWord_3 rfl (lv_at hl 1 rfl) ?_
      refine gf_Text_19 E hP hk3 rfl dX4_addWord_4 ?_
      refine ah_icmp_ge (tgt := 25) hx hb (by omega) (by omega) dX4_addWord_7 (by decide) (fun hc7 => ?_) (fun hc7 => ?_)
      · skip
        have hfin : (w.take k) = w := by rw [List.take_of_length_le (by omega)]
        rw [hfin] at htt1
        rw [hQ]
        exact ah_vret E hr hP hS ⟨tf1, by rw [← hfin]; exact hk1, hk2, htt1, hcv⟩ (Nat.le_of_ble_eq_true rfl) (Nat.le_of_ble_eq_true rfl) dX4_addWord_25
      · skip
        refine lv_aload_n hx hb dX4_addWord_10 rfl (lv_at hl 0 rfl) ?_
        refine lv_aload_n hx hb dX4_addWord_11 rfl (lv_at hl 1 rfl) ?_
        refine lv_iload_n hx hb dX4_addWord_12 rfl (lv_at hl 2 rfl) ?_
        refine ah_calli (ah_runV E hP hS (As := [.int (nI k)]) (rest := [.ref tx]) (b := wa) (c_Word_letterAt l A D _ hk3 hok (i := k) (by omega)) lk_Text_22 li_Text_22 hk3 rfl ⟨rfl, rfl, (Nat.le_of_ble_eq_true rfl), (Nat.le_of_ble_eq_true rfl)⟩ rfl hl.1 rfl (Nat.le_of_ble_eq_true rfl) dX4_addWord_13 ⟨(Nat.le_of_ble_eq_true rfl), (Nat.le_of_ble_eq_true rfl)⟩) hS (fun r F4 H locs hq hP hS => ?_)
        obtain ⟨rfl, rfl⟩ := hq
        have hlet := hlet0 k (by omega)
        have hstep := (ah_take_s (w := w) (i := k) (by omega)).symm
        refine ah_callv (ah_runV E hP hS (As := [.int (nI (96 + w.getD k 0))]) (rest := []) (b := tx) (c_Text_add l A D _ hk1 hk2 htt1 (x := w.getD k 0) hlet (by omega)) lk_Text_26 li_Text_26 hk1 rfl ⟨rfl, rfl, (Nat.le_of_ble_eq_true rfl), (Nat.le_of_ble_eq_true rfl)⟩ rfl hl.1 rfl (Nat.le_of_ble_eq_true rfl) dX4_addWord_16 ⟨(Nat.le_of_ble_eq_true rfl), (Nat.le_of_ble_eq_true rfl)⟩) hS (fun F5 H locs hta1 hP hS => ?_)
        obtain ⟨tf2, hx1, hx2, hx3, hx4⟩ := hta1
        have hnx : T ++ (w.take k) ++ [w.getD k 0] = T ++ (w.take (k + 1)) := by rw [List.append_assoc, hstep]
        rw [hnx] at hx1 hx3
        have hG6 : F5 wa = some (.inr (5, [.long (lN (ah_enc w)), .int (nI w.length)])) := (hx4 wa (ah_nin2 (ah_ne hk3 hk1 rfl) (ah_ne hk3 hk2 rfl))).trans hk3
        have hC7 : ah_ch F F5 [tx, ta] := ah_ch_t hcv hx4 (by intro a ha; simp only [List.mem_cons, List.not_mem_nil, or_false] at ha ⊢; omega)
        refine lv_iinc (v := (nI (k + 1))) (lv' := [(2, .int (nI (k + 1))), (0, .ref tx), (1, .ref wa)]) hx hb dX4_addWord_19 hl (k := 2) rfl (ah_inc _) (by decide) rfl (fun ls hl => ?_)
        refine lv_goto (tgt := 2) hx hb dX4_addWord_22 (by decide) ?_
        exact ih _ _ _ (by omega) (by omega) hx3 (ah_ch_t hcv hx4 (fun _ h => h)) hx1 hx2 hG6 _ _ hP hS ls (lv_sub hl [1, 2, 0] rfl)
  exact L2 (w.length + 1) F 0 tf (by omega) (by omega) (by simpa using htt) (ah_ch_r _ _) (by rw [show (w.take 0) = [] from rfl, List.append_nil]; exact htx) hta hw _ _ hP hS ls (lv_sub hl [1, 2, 0] rfl)

set_option maxHeartbeats 4000000 in
set_option maxRecDepth 100000 in
/-- addStream -/
theorem c_Text_addStream (l : Launch) (A : Nat → Prop) (D : ah_G) (F : ah_F) {tx ta : Nat} {tf : Nat → Int32} {T : List Nat} (htx : F tx = some (.inr (4, [.ref ta, .int (nI T.length)]))) (hta : F ta = some (ah_ac D 1600 tf)) (htt : ah_txt tf T) {st la : Nat} {lf : Nat → Int64} {S : List Nat} (hst : F st = some (.inr (3, [.ref la, .int (nI S.length)]))) (hla : F la = some (ah_al D 201 lf)) (hstr : ah_str lf S) {i0 e0 : Nat} (hie : i0 ≤ e0) (he0 : e0 ≤ S.length) (hsum : T.length + (e0 - i0) ≤ 1600) : Met l yX4_addStream (Cond.code yX4_addStream cX4_addStream 5 none :: ah_T) { frames := 2, cells := 0, slots := 0, locals := 42 } (va_Pc [.ref tx, .ref st, .int (nI i0), .int (nI e0)] (ah_B A D F)) (ah_Qv A D (fun F1 => ∃ tf1 : Nat → Int32, F1 tx = some (.inr (4, [.ref ta, .int (nI (T ++ ((S.take e0).drop i0)).length)])) ∧ F1 ta = some (ah_ac D 1600 tf1) ∧ ah_txt tf1 (T ++ ((S.take e0).drop i0)) ∧ ah_ch F F1 [tx, ta])) 0 0 A := by
  refine ah_met (own := "Ahoarch$Text") (by decide) rfl (Nat.le_of_ble_eq_true rfl) ?_
  intro p e s m below meth c ls E hr hini hl hP hS Q hQ
  have hx := E.1
  have hb := E.2.1
  have hl : lv_has ls 5 [(0, .ref tx), (1, .ref st), (2, .int (nI i0)), (3, .int (nI e0))] := hl
  obtain ⟨hS1, hS2, hS3⟩ := id hstr
  have hlet0 : ∀ i, i < S.length → S.getD i 0 ≤ 31 := fun i hi => by rw [List.getD_eq_getElem?_getD, List.getElem?_eq_getElem hi]; have := hS2 _ (List.getElem_mem hi); show S[i] ≤ 31; omega
  refine lv_iload_n hx hb dX4_addStream_0 rfl (lv_at hl 2 rfl) ?_
  refine lv_istore (lv' := [(4, .int (nI i0)), (0, .ref tx), (1, .ref st), (2, .int (nI i0)), (3, .int (nI e0))]) hx hb dX4_addStream_1 hl (by decide) rfl (fun ls hl => ?_)
  have L3 : ∀ (n : Nat), ∀ (Fv : ah_F) (k : Nat) (tf1 : Nat → Int32), e0 - k < n → (i0 ≤ k ∧ k ≤ e0) → ah_txt tf1 (T ++ ((S.take k).drop i0)) → ah_ch F Fv [tx, ta] → Fv tx = some (.inr (4, [.ref ta, .int (nI ((T ++ ((S.take k).drop i0)).length))])) → Fv ta = some (ah_ac D 1600 tf1) → Fv st = some (.inr (3, [.ref la, .int (nI S.length)])) → Fv la = some (ah_al D 201 lf) → ∀ (H : Heap) (locs : List Loc), ah_K A D Fv H → va_S A s.heap H locs → ∀ (ls : Array Slot), lv_has ls 5 [(0, .ref tx), (1, .ref st), (2, .int (nI i0)), (3, .int (nI e0)), (4, .int (nI k))] → W p l e { frames := 2, cells := 0, slots := 0, locals := 42 } s m [.ref tx, .ref st, .int (nI i0), .int (nI e0)].toArray below meth c H locs 0 0 Q (F0 m 3 ls []) := by
    intro n
    induction n with
    | zero =>
      intro Fv k tf1 hm
      exact absurd hm (Nat.not_lt_zero _)
    | succ n ih =>
      intro Fv k tf1 hm hk htt1 hcv hk1 hk2 hk3 hk4 H locs hP hS ls hl
      have hlx : (T ++ ((S.take k).drop i0)).length = T.length + (((S.take k).drop i0)).length := List.length_append
      have hly : ((S.take k).drop i0).length = k - i0 := by rw [List.length_drop, List.length_take]; omega
      refine lv_iload hx hb dX4_addStream_3 (lv_at hl 4 rfl) ?_
      refine lv_iload_n hx hb dX4_addStream_5 rfl (lv_at hl 3 rfl) ?_
      refine ah_icmp_ge (tgt := 25) hx hb (by omega) (by omega) dX4_addStream_6 (by decide) (fun hc6 => ?_) (fun hc6 => ?_)
      · skip
        have hfin : ((S.take k).drop i0) = ((S.take e0).drop i0) := by rw [show k = e0 by omega]
        rw [hfin] at htt1
        rw [hQ]
        exact ah_vret E hr hP hS ⟨tf1, by rw [← hfin]; exact hk1, hk2, htt1, hcv⟩ (Nat.le_of_ble_eq_true rfl) (Nat.le_of_ble_eq_true rfl) dX4_addStream_25
      · skip
        refine lv_aload_n hx hb dX4_addStream_9 rfl (lv_at hl 0 rfl) ?_
        refine lv_aload_n hx hb dX4_addStream_10 rfl (lv_at hl 1 rfl) ?_
        refine lv_iload hx hb dX4_addStream_11 (lv_at hl 4 rfl) ?_
        refine ah_calli (ah_runV E hP hS (As := [.int (nI k)]) (rest := [.ref tx]) (b := st) (c_Stream_letterAt l A D _ hk3 hk4 hstr (k := k) (by omega)) lk_Text_30 li_Text_30 hk3 rfl ⟨rfl, rfl, (Nat.le_of_ble_eq_true rfl), (Nat.le_of_ble_eq_true rfl)⟩ rfl hl.1 rfl (Nat.le_of_ble_eq_true rfl) dX4_addStream_13 ⟨(Nat.le_of_ble_eq_true rfl), (Nat.le_of_ble_eq_true rfl)⟩) hS (fun r F5 H locs hq hP hS => ?_)
        obtain ⟨rfl, rfl⟩ := hq
        have hlet := hlet0 k (by omega)
        have hstep := (ah_dt_s (S := S) (i := k) (a := i0) (by omega) (by omega)).symm
        refine ah_callv (ah_runV E hP hS (As := [.int (nI (96 + S.getD k 0))]) (rest := []) (b := tx) (c_Text_add l A D _ hk1 hk2 htt1 (x := S.getD k 0) hlet (by omega)) lk_Text_26 li_Text_26 hk1 rfl ⟨rfl, rfl, (Nat.le_of_ble_eq_true rfl), (Nat.le_of_ble_eq_true rfl)⟩ rfl hl.1 rfl (Nat.le_of_ble_eq_true rfl) dX4_addStream_16 ⟨(Nat.le_of_ble_eq_true rfl), (Nat.le_of_ble_eq_true rfl)⟩) hS (fun F6 H locs hta1 hP hS => ?_)
        obtain ⟨tf2, hx1, hx2, hx3, hx4⟩ := hta1
        have hnx : T ++ ((S.take k).drop i0) ++ [S.getD k 0] = T ++ ((S.take (k + 1)).drop i0) := by rw [List.append_assoc, hstep]
        rw [hnx] at hx1 hx3
        have hG7 : F6 st = some (.inr (3, [.ref la, .int (nI S.length)])) := (hx4 st (ah_nin2 (ah_ne hk3 hk1 rfl) (ah_ne hk3 hk2 rfl))).trans hk3
        have hG8 : F6 la = some (ah_al D 201 lf) := (hx4 la (ah_nin2 (ah_ne hk4 hk1 rfl) (ah_ne hk4 hk2 rfl))).trans hk4
        have hC9 : ah_ch F F6 [tx, ta] := ah_ch_t hcv hx4 (by intro a ha; simp only [List.mem_cons, List.not_mem_nil, or_false] at ha ⊢; omega)
        refine lv_iinc (v := (nI (k + 1))) (lv' := [(4, .int (nI (k + 1))), (0, .ref tx), (1, .ref st), (2, .int (nI i0)), (3, .int (nI e0))]) hx hb dX4_addStream_19 hl (k := 4) rfl (ah_inc _) (by decide) rfl (fun ls hl => ?_)
        refine lv_goto (tgt := 3) hx hb dX4_addStream_22 (by decide) ?_
        exact ih _ _ _ (by omega) (by omega) hx3 (ah_ch_t hcv hx4 (fun _ h => h)) hx1 hx2 hG7 hG8 _ _ hP hS ls (lv_sub hl [1, 2, 3, 4, 0] rfl)
  exact L3 (e0 - i0 + 1) F i0 tf (by omega) (by omega) (by rw [List.drop_of_length_le (by rw [List.length_take]; omega)]; simpa using htt) (ah_ch_r _ _) (by rw [show ((S.take i0).drop i0) = [] from List.drop_of_length_le (by rw [List.length_take]; omega), List.append_nil]; exact htx) hta hst hla _ _ hP hS ls (lv_sub hl [1, 2, 3, 4, 0] rfl)
