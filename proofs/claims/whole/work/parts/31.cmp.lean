/-! letter by letter -/
def md_eq (f g : Nat → Nat) : Nat → Bool
  | 0 => true
  | k + 1 => md_eq f g k && decide (f k = g k)
theorem md_eq_t {f g : Nat → Nat} {k : Nat} {b : Bool} (h : b = md_eq f g k) (hb : b = true) (e : f k = g k) : true = md_eq f g (k + 1) := by rw [md_eq, ← h, hb]; simp [e]
theorem md_eq_f {f g : Nat → Nat} {k : Nat} (e : ¬ f k = g k) : false = md_eq f g (k + 1) := by rw [md_eq]; simp [e]
theorem md_eq_iff {f g : Nat → Nat} {n : Nat} : md_eq f g n = true ↔ ∀ k, k < n → f k = g k := by
  induction n with
  | zero => simp [md_eq]
  | succ n ih =>
    rw [md_eq, Bool.and_eq_true, ih, decide_eq_true_eq]
    constructor
    · intro h k hk
      by_cases e : k = n
      · rw [e]; exact h.2
      · exact h.1 k (by omega)
    · intro h
      exact ⟨fun k hk => h k (by omega), h n (by omega)⟩
theorem md_eq_no {f g : Nat → Nat} {k n : Nat} (hk : k ≤ n) (h : md_eq f g k = false) : md_eq f g n = false := by
  cases e : md_eq f g n with
  | false => rfl
  | true =>
    have := md_eq_iff.mpr (fun j hj => md_eq_iff.mp e j (by omega) : ∀ j, j < k → f j = g j)
    rw [h] at this; cases this
theorem md_eqt {f : Nat → Nat} {u v : List Nat} {n : Nat} (hn : n ≤ u.length) (hv : v.length = n) (hf : ∀ k, k < n → f k = v.getD k 0) : md_eq f (fun k => u.getD k 0) n = decide (u.take n = v) := by
  have hi : (md_eq f (fun k => u.getD k 0) n = true) ↔ u.take n = v := by
    rw [md_eq_iff]
    constructor
    · intro h
      apply List.ext_getElem (by rw [List.length_take]; omega)
      intro k h1 h2
      have h3 := h k (by omega)
      rw [hf k (by omega)] at h3
      rw [List.getElem_take]
      simpa [List.getD_eq_getElem?_getD, List.getElem?_eq_getElem h2, List.getElem?_eq_getElem (show k < u.length by omega)] using h3.symm
    · intro h k hk
      rw [hf k hk, ← h]
      simp [List.getD_eq_getElem?_getD, List.getElem?_take, hk]
  cases e : md_eq f (fun k => u.getD k 0) n with
  | true => exact (decide_eq_true (hi.mp e)).symm
  | false => exact (decide_eq_false (fun q => by rw [hi.mpr q] at e; cases e)).symm
theorem ah_getD_le {w : List Nat} (h : ah_lt w) (k : Nat) : w.getD k 0 ≤ 26 := by
  rw [List.getD_eq_getElem?_getD]
  cases e : w[k]? with
  | none => exact Nat.zero_le _
  | some y => exact (h y (List.mem_of_getElem? e)).2
theorem md_getD_d {S : List Nat} {a k : Nat} : S.getD (a + k) 0 = (S.drop a).getD k 0 := by simp [List.getD_eq_getElem?_getD, List.getElem?_drop]
theorem md_getD_dt {S : List Nat} {a n k : Nat} (h : a + n ≤ S.length) (hk : k < n) : S.getD (a + k) 0 = ((S.drop a).take n).getD k 0 := by simp [List.getD_eq_getElem?_getD, List.getElem?_drop, List.getElem?_take, hk]
theorem ah_bw_no {u w : List Nat} (h : w.length < u.length) : ah_bw u w = false := decide_eq_false (fun e => by have := congrArg List.length e; rw [List.length_take] at this; omega)
theorem ah_at_no {S w : List Nat} {i : Nat} (hw : w ≠ []) (h : S.length < i + w.length) : ah_at S i w = false := by
  cases e : ah_at S i w with
  | false => rfl
  | true => have := ah_at_in e hw; omega
theorem md_sat_n {P : ah_Pt} {f : List Nat → Bool} {i : Nat} (h : (P i).isSome = false) : ah_sat P f i = false := by
  cases e : P i with
  | none => simp [ah_sat, e]
  | some q => rw [e] at h; cases h
theorem md_sat_s {P : ah_Pt} {f : List Nat → Bool} {i : Nat} {w r : List Nat} (h : P i = some (w, r)) : ah_sat P f i = f w := by simp [ah_sat, h]
set_option maxHeartbeats 4000000 in
set_option maxRecDepth 100000 in
/-- isDraft -/
theorem m_isDraft (l : Launch) (A : Nat → Prop) (D : ah_G) (F : ah_F) {mo dA tA lA eA nlA neA sA n : Nat} {P : ah_Pt} {dr S : List Nat} {td th ip il : Int32} {ln : Nat → Nat} {df tf lf ef nlf nef sf : Nat → Int32} (hmo : F mo = some (.inr (7, [.int th, .ref dA, .int (nI dr.length), .int (nI n), .ref tA, .ref lA, .ref eA, .ref nlA, .ref neA, .ref sA, .int (nI S.length), .int td, .int ip, .int il]))) (hdA : F dA = some (ah_ai D 8 df)) (htA : F tA = some (ah_az D 40 tf)) (hlA : F lA = some (ah_ai D 40 lf)) (heA : F eA = some (ah_ai D 320 ef)) (hnlA : F nlA = some (ah_ai D 40 nlf)) (hneA : F neA = some (ah_ai D 320 nef)) (hsA : F sA = some (ah_ai D 200 sf)) (hL : md_L P n dr S ln df tf lf ef nlf nef sf) {i : Nat} (hi : i < n) : Met l yX7_isDraft (Cond.code yX7_isDraft cX7_isDraft 4 (some .boolean) :: ah_T) { frames := 0, cells := 0, slots := 0, locals := 0 } (va_Pc [.ref mo, .int (nI i)] (ah_B A D F)) (ah_Qi A D (fun (r : Int32) F1 => F = F1 ∧ bI_ (ah_sat P (fun u => decide (u = dr)) i) = r)) 0 0 A := by
  refine ah_met (own := "AhoarchModel") (by decide) rfl (Nat.le_of_ble_eq_true rfl) ?_
  intro p e s m below meth c ls E hr hini hl hP hS Q hQ
  have hx := E.1
  have hb := E.2.1
  have hl : lv_has ls 4 [(0, .ref mo), (1, .int (nI i))] := hl
  obtain ⟨hn40, hPn, hdok, hSl, hS200, hPok, hdis, hp20, hln, hlP, hdd, hss⟩ := id hL
  have hdl := hdok.1
  obtain ⟨hl8, hlf, htf⟩ := hln i hi
  refine lv_aload_n hx hb dX7_isDraft_0 rfl (lv_at hl 0 rfl) ?_
  refine gf_Mod_13 E hP hmo rfl dX7_isDraft_1 ?_
  refine lv_iload_n hx hb dX7_isDraft_4 rfl (lv_at hl 1 rfl) ?_
  refine ah_zald E hP htA (by omega) (by omega) dX7_isDraft_5 ?_
  rw [htf]
  refine ah_ifb_eq (tgt := 26) hx hb dX7_isDraft_6 (by decide) (fun hc6 => ?_) (fun hc6 => ?_)
  · skip
    have hval : ah_sat P (fun u => decide (u = dr)) i = false := md_sat_n hc6
    refine lv_iconst (v := (bI_ false)) hx hb dX7_isDraft_26 (by decide) ?_
    refine lv_istore_n (lv' := [(2, .int (bI_ false)), (0, .ref mo), (1, .int (nI i))]) hx hb dX7_isDraft_27 rfl hl (by decide) rfl (fun ls hl => ?_)
    refine lv_iconst (v := (nI 0)) hx hb dX7_isDraft_28 (by decide) ?_
    refine lv_istore_n (lv' := [(3, .int (nI 0)), (2, .int (bI_ false)), (0, .ref mo), (1, .int (nI i))]) hx hb dX7_isDraft_29 rfl hl (by decide) rfl (fun ls hl => ?_)
    refine lv_iload_n hx hb dX7_isDraft_30 rfl (lv_at hl 0 rfl) ?_
    refine lv_aload_n hx hb dX7_isDraft_31 rfl (lv_at hl 2 rfl) ?_
    refine gf_Mod_43 E hP hmo rfl dX7_isDraft_32 ?_
    refine ah_icmp_ge (tgt := 74) hx hb (by omega) (by omega) dX7_isDraft_35 (by decide) (fun hc35 => ?_) (fun hc35 => ?_)
    · skip
      refine lv_iload_n hx hb dX7_isDraft_74 rfl (lv_at hl 1 rfl) ?_
      rw [hQ]
      exact ah_zret E hr (by first | exact bI_nz _ | decide) hP hS ⟨rfl, by rw [hval]⟩ (Nat.le_of_ble_eq_true rfl) (Nat.le_of_ble_eq_true rfl) dX7_isDraft_75
    · skip
      refine lv_iload_n hx hb dX7_isDraft_38 rfl (lv_at hl 1 rfl) ?_
      refine ah_ifb_eq (tgt := 74) hx hb dX7_isDraft_39 (by decide) (fun hc39 => ?_) (fun hc39 => ?_)
      · skip
        refine lv_iload_n hx hb dX7_isDraft_74 rfl (lv_at hl 1 rfl) ?_
        rw [hQ]
        exact ah_zret E hr (by first | exact bI_nz _ | decide) hP hS ⟨rfl, by rw [hval]⟩ (Nat.le_of_ble_eq_true rfl) (Nat.le_of_ble_eq_true rfl) dX7_isDraft_75
      · skip
        exact absurd hc39 (by decide)
  · skip
    have hcT := hc6
    obtain ⟨⟨w, r⟩, hPi⟩ := Option.isSome_iff_exists.mp hcT
    obtain ⟨hlw, hew, hnl, hne⟩ := hlP i w r hPi
    obtain ⟨hok, hokr, hnw⟩ := hPok i w r hPi
    have hwl := hok.1
    have hwb := ah_getD_le hok.2
    have hval0 : ah_sat P (fun u => decide (u = dr)) i = (fun u => decide (u = dr)) w := md_sat_s hPi
    refine lv_aload_n hx hb dX7_isDraft_9 rfl (lv_at hl 0 rfl) ?_
    refine gf_Mod_17 E hP hmo rfl dX7_isDraft_10 ?_
    refine lv_iload_n hx hb dX7_isDraft_13 rfl (lv_at hl 1 rfl) ?_
    refine ah_iald E hP hlA (by omega) (by omega) dX7_isDraft_14 ?_
    rw [hlf]
    refine lv_aload_n hx hb dX7_isDraft_15 rfl (lv_at hl 0 rfl) ?_
    refine gf_Mod_43 E hP hmo rfl dX7_isDraft_16 ?_
    refine ah_icmp_ne (tgt := 26) hx hb (by omega) (by omega) dX7_isDraft_19 (by decide) (fun hc19 => ?_) (fun hc19 => ?_)
    · skip
      have hval : ah_sat P (fun u => decide (u = dr)) i = false := by rw [hval0]; exact decide_eq_false (fun e => by rw [e] at hlw; omega)
      refine lv_iconst (v := (bI_ false)) hx hb dX7_isDraft_26 (by decide) ?_
      refine lv_istore_n (lv' := [(2, .int (bI_ false)), (0, .ref mo), (1, .int (nI i))]) hx hb dX7_isDraft_27 rfl hl (by decide) rfl (fun ls hl => ?_)
      refine lv_iconst (v := (nI 0)) hx hb dX7_isDraft_28 (by decide) ?_
      refine lv_istore_n (lv' := [(3, .int (nI 0)), (2, .int (bI_ false)), (0, .ref mo), (1, .int (nI i))]) hx hb dX7_isDraft_29 rfl hl (by decide) rfl (fun ls hl => ?_)
      refine lv_iload_n hx hb dX7_isDraft_30 rfl (lv_at hl 0 rfl) ?_
      refine lv_aload_n hx hb dX7_isDraft_31 rfl (lv_at hl 2 rfl) ?_
      refine gf_Mod_43 E hP hmo rfl dX7_isDraft_32 ?_
      refine ah_icmp_ge (tgt := 74) hx hb (by omega) (by omega) dX7_isDraft_35 (by decide) (fun hc35 => ?_) (fun hc35 => ?_)
      · skip
        refine lv_iload_n hx hb dX7_isDraft_74 rfl (lv_at hl 1 rfl) ?_
        rw [hQ]
        exact ah_zret E hr (by first | exact bI_nz _ | decide) hP hS ⟨rfl, by rw [hval]⟩ (Nat.le_of_ble_eq_true rfl) (Nat.le_of_ble_eq_true rfl) dX7_isDraft_75
      · skip
        refine lv_iload_n hx hb dX7_isDraft_38 rfl (lv_at hl 1 rfl) ?_
        refine ah_ifb_eq (tgt := 74) hx hb dX7_isDraft_39 (by decide) (fun hc39 => ?_) (fun hc39 => ?_)
        · skip
          refine lv_iload_n hx hb dX7_isDraft_74 rfl (lv_at hl 1 rfl) ?_
          rw [hQ]
          exact ah_zret E hr (by first | exact bI_nz _ | decide) hP hS ⟨rfl, by rw [hval]⟩ (Nat.le_of_ble_eq_true rfl) (Nat.le_of_ble_eq_true rfl) dX7_isDraft_75
        · skip
          exact absurd hc39 (by decide)
    · skip
      have hwd : w.length = dr.length := by omega
      have hdb := ah_getD_le hdok.2
      have hlem : md_eq (fun k => w.getD k 0) (fun k => dr.getD k 0) dr.length = decide (w = dr) := (md_eqt (Nat.le_refl _) hwd (fun k hk => rfl)).trans (by rw [List.take_length]; exact decide_eq_decide.mpr eq_comm)
      have hval : ah_sat P (fun u => decide (u = dr)) i = decide (w = dr) := hval0
      refine lv_iconst (v := (bI_ true)) hx hb dX7_isDraft_22 (by decide) ?_
      refine lv_goto (tgt := 27) hx hb dX7_isDraft_23 (by decide) ?_
      refine lv_istore_n (lv' := [(2, .int (bI_ true)), (0, .ref mo), (1, .int (nI i))]) hx hb dX7_isDraft_27 rfl hl (by decide) rfl (fun ls hl => ?_)
      refine lv_iconst (v := (nI 0)) hx hb dX7_isDraft_28 (by decide) ?_
      refine lv_istore_n (lv' := [(3, .int (nI 0)), (2, .int (bI_ true)), (0, .ref mo), (1, .int (nI i))]) hx hb dX7_isDraft_29 rfl hl (by decide) rfl (fun ls hl => ?_)
      have L30 : ∀ (fuel : Nat), ∀ (k : Nat) (b : Bool), dr.length - k < fuel → k ≤ dr.length → b = md_eq (fun k => w.getD k 0) (fun k => dr.getD k 0) k → ∀ (H : Heap) (locs : List Loc), ah_K A D F H → va_S A s.heap H locs → ∀ (ls : Array Slot), lv_has ls 4 [(0, .ref mo), (1, .int (nI i)), (2, .int (bI_ b)), (3, .int (nI k))] → W p l e { frames := 0, cells := 0, slots := 0, locals := 0 } s m [.ref mo, .int (nI i)].toArray below meth c H locs 0 0 Q (F0 m 30 ls []) := by
        intro fuel
        induction fuel with
        | zero =>
          intro k b hm
          exact absurd hm (Nat.not_lt_zero _)
        | succ fuel ih =>
          intro k b hm hk hbe H locs hP hS ls hl
          refine lv_iload_n hx hb dX7_isDraft_30 rfl (lv_at hl 3 rfl) ?_
          refine lv_aload_n hx hb dX7_isDraft_31 rfl (lv_at hl 0 rfl) ?_
          refine gf_Mod_43 E hP hmo rfl dX7_isDraft_32 ?_
          refine ah_icmp_ge (tgt := 74) hx hb (by omega) (by omega) dX7_isDraft_35 (by decide) (fun hc35 => ?_) (fun hc35 => ?_)
          · skip
            refine lv_iload_n hx hb dX7_isDraft_74 rfl (lv_at hl 2 rfl) ?_
            rw [hQ]
            exact ah_zret E hr (by first | exact bI_nz _ | decide) hP hS ⟨rfl, by rw [hval, ← hlem, hbe, show k = dr.length by omega]⟩ (Nat.le_of_ble_eq_true rfl) (Nat.le_of_ble_eq_true rfl) dX7_isDraft_75
          · skip
            refine lv_iload_n hx hb dX7_isDraft_38 rfl (lv_at hl 2 rfl) ?_
            refine ah_ifb_eq (tgt := 74) hx hb dX7_isDraft_39 (by decide) (fun hc39 => ?_) (fun hc39 => ?_)
            · skip
              refine lv_iload_n hx hb dX7_isDraft_74 rfl (lv_at hl 2 rfl) ?_
              rw [hQ]
              exact ah_zret E hr (by first | exact bI_nz _ | decide) hP hS ⟨rfl, by rw [hval, ← hlem, hc39, md_eq_no hk (hbe.symm.trans hc39)]⟩ (Nat.le_of_ble_eq_true rfl) (Nat.le_of_ble_eq_true rfl) dX7_isDraft_75
            · skip
              refine lv_aload_n hx hb dX7_isDraft_42 rfl (lv_at hl 0 rfl) ?_
              refine gf_Mod_20 E hP hmo rfl dX7_isDraft_43 ?_
              refine lv_bipush (v := (nI 8)) hx hb dX7_isDraft_46 (by decide) ?_
              refine lv_iload_n hx hb dX7_isDraft_48 rfl (lv_at hl 1 rfl) ?_
              refine ah_imul hx hb dX7_isDraft_49 ?_
              refine lv_iload_n hx hb dX7_isDraft_50 rfl (lv_at hl 3 rfl) ?_
              refine ah_iadd hx hb dX7_isDraft_51 ?_
              refine ah_iald E hP heA (by omega) (by omega) dX7_isDraft_52 ?_
              rw [hew k (by omega)]
              refine lv_aload_n hx hb dX7_isDraft_53 rfl (lv_at hl 0 rfl) ?_
              refine gf_Mod_7 E hP hmo rfl dX7_isDraft_54 ?_
              refine lv_iload_n hx hb dX7_isDraft_57 rfl (lv_at hl 3 rfl) ?_
              refine ah_iald E hP hdA (by omega) (by omega) dX7_isDraft_58 ?_
              rw [hdd k (by omega)]
              refine ah_icmp_ne (tgt := 66) hx hb (by have := hwb k; omega) (by have := hdb k; omega) dX7_isDraft_59 (by decide) (fun hc59 => ?_) (fun hc59 => ?_)
              · skip
                refine lv_iconst (v := (bI_ false)) hx hb dX7_isDraft_66 (by decide) ?_
                refine lv_istore_n (lv' := [(2, .int (bI_ false)), (0, .ref mo), (1, .int (nI i)), (3, .int (nI k))]) hx hb dX7_isDraft_67 rfl hl (by decide) rfl (fun ls hl => ?_)
                refine lv_iinc (v := (nI (k + 1))) (lv' := [(3, .int (nI (k + 1))), (2, .int (bI_ false)), (0, .ref mo), (1, .int (nI i))]) hx hb dX7_isDraft_68 hl (k := 3) rfl (ah_inc _) (by decide) rfl (fun ls hl => ?_)
                refine lv_goto (tgt := 30) hx hb dX7_isDraft_71 (by decide) ?_
                exact ih (k + 1) false (by omega) (by omega) (md_eq_f (by omega)) _ _ hP hS ls (lv_sub hl [2, 3, 1, 0] rfl)
              · skip
                refine lv_iconst (v := (bI_ true)) hx hb dX7_isDraft_62 (by decide) ?_
                refine lv_goto (tgt := 67) hx hb dX7_isDraft_63 (by decide) ?_
                refine lv_istore_n (lv' := [(2, .int (bI_ true)), (0, .ref mo), (1, .int (nI i)), (3, .int (nI k))]) hx hb dX7_isDraft_67 rfl hl (by decide) rfl (fun ls hl => ?_)
                refine lv_iinc (v := (nI (k + 1))) (lv' := [(3, .int (nI (k + 1))), (2, .int (bI_ true)), (0, .ref mo), (1, .int (nI i))]) hx hb dX7_isDraft_68 hl (k := 3) rfl (ah_inc _) (by decide) rfl (fun ls hl => ?_)
                refine lv_goto (tgt := 30) hx hb dX7_isDraft_71 (by decide) ?_
                exact ih (k + 1) true (by omega) (by omega) (md_eq_t hbe hc39 (by omega)) _ _ hP hS ls (lv_sub hl [2, 3, 1, 0] rfl)
      exact L30 (dr.length + 1) 0 true (by omega) (Nat.zero_le _) rfl _ _ hP hS ls (lv_sub hl [2, 3, 1, 0] rfl)

set_option maxHeartbeats 4000000 in
set_option maxRecDepth 100000 in
/-- begins -/
theorem m_begins (l : Launch) (A : Nat → Prop) (D : ah_G) (F : ah_F) {mo dA tA lA eA nlA neA sA n : Nat} {P : ah_Pt} {dr S : List Nat} {td th ip il : Int32} {ln : Nat → Nat} {df tf lf ef nlf nef sf : Nat → Int32} (hmo : F mo = some (.inr (7, [.int th, .ref dA, .int (nI dr.length), .int (nI n), .ref tA, .ref lA, .ref eA, .ref nlA, .ref neA, .ref sA, .int (nI S.length), .int td, .int ip, .int il]))) (hdA : F dA = some (ah_ai D 8 df)) (htA : F tA = some (ah_az D 40 tf)) (hlA : F lA = some (ah_ai D 40 lf)) (heA : F eA = some (ah_ai D 320 ef)) (hnlA : F nlA = some (ah_ai D 40 nlf)) (hneA : F neA = some (ah_ai D 320 nef)) (hsA : F sA = some (ah_ai D 200 sf)) (hL : md_L P n dr S ln df tf lf ef nlf nef sf) {i0 fr mn i : Nat} {w0 r0 : List Nat} (hP0 : P i0 = some (w0, r0)) (hi0 : i0 < n) (hfm : fr + mn ≤ w0.length) (hi : i < n) : Met l yX7_begins (Cond.code yX7_begins cX7_begins 7 (some .boolean) :: ah_T) { frames := 0, cells := 0, slots := 0, locals := 0 } (va_Pc [.ref mo, .int (nI i0), .int (nI fr), .int (nI mn), .int (nI i)] (ah_B A D F)) (ah_Qi A D (fun (r : Int32) F1 => F = F1 ∧ bI_ (ah_sat P (fun u => ah_bw ((w0.drop fr).take mn) u) i) = r)) 0 0 A := by
  refine ah_met (own := "AhoarchModel") (by decide) rfl (Nat.le_of_ble_eq_true rfl) ?_
  intro p e s m below meth c ls E hr hini hl hP hS Q hQ
  have hx := E.1
  have hb := E.2.1
  have hl : lv_has ls 7 [(0, .ref mo), (1, .int (nI i0)), (2, .int (nI fr)), (3, .int (nI mn)), (4, .int (nI i))] := hl
  obtain ⟨hn40, hPn, hdok, hSl, hS200, hPok, hdis, hp20, hln, hlP, hdd, hss⟩ := id hL
  have hdl := hdok.1
  obtain ⟨hl8, hlf, htf⟩ := hln i hi
  obtain ⟨hlw0, hew0, -, -⟩ := hlP i0 w0 r0 hP0
  obtain ⟨hok0, -, -⟩ := hPok i0 w0 r0 hP0
  have hwl0 := hok0.1
  have hwb0 := ah_getD_le hok0.2
  have hvl : ((w0.drop fr).take mn).length = mn := by rw [List.length_take, List.length_drop]; omega
  refine lv_aload_n hx hb dX7_begins_0 rfl (lv_at hl 0 rfl) ?_
  refine gf_Mod_13 E hP hmo rfl dX7_begins_1 ?_
  refine lv_iload hx hb dX7_begins_4 (lv_at hl 4 rfl) ?_
  refine ah_zald E hP htA (by omega) (by omega) dX7_begins_6 ?_
  rw [htf]
  refine ah_ifb_eq (tgt := 25) hx hb dX7_begins_7 (by decide) (fun hc7 => ?_) (fun hc7 => ?_)
  · skip
    have hval : ah_sat P (fun u => ah_bw ((w0.drop fr).take mn) u) i = false := md_sat_n hc7
    refine lv_iconst (v := (bI_ false)) hx hb dX7_begins_25 (by decide) ?_
    refine lv_istore (lv' := [(5, .int (bI_ false)), (0, .ref mo), (1, .int (nI i0)), (2, .int (nI fr)), (3, .int (nI mn)), (4, .int (nI i))]) hx hb dX7_begins_26 hl (by decide) rfl (fun ls hl => ?_)
    refine lv_iconst (v := (nI 0)) hx hb dX7_begins_28 (by decide) ?_
    refine lv_istore (lv' := [(6, .int (nI 0)), (5, .int (bI_ false)), (0, .ref mo), (1, .int (nI i0)), (2, .int (nI fr)), (3, .int (nI mn)), (4, .int (nI i))]) hx hb dX7_begins_29 hl (by decide) rfl (fun ls hl => ?_)
    refine lv_iload hx hb dX7_begins_31 (lv_at hl 0 rfl) ?_
    refine lv_iload_n hx hb dX7_begins_33 rfl (lv_at hl 5 rfl) ?_
    refine ah_icmp_ge (tgt := 85) hx hb (by omega) (by omega) dX7_begins_34 (by decide) (fun hc34 => ?_) (fun hc34 => ?_)
    · skip
      refine lv_iload hx hb dX7_begins_85 (lv_at hl 1 rfl) ?_
      rw [hQ]
      exact ah_zret E hr (by first | exact bI_nz _ | decide) hP hS ⟨rfl, by rw [hval]⟩ (Nat.le_of_ble_eq_true rfl) (Nat.le_of_ble_eq_true rfl) dX7_begins_87
    · skip
      refine lv_iload hx hb dX7_begins_37 (lv_at hl 1 rfl) ?_
      refine ah_ifb_eq (tgt := 85) hx hb dX7_begins_39 (by decide) (fun hc39 => ?_) (fun hc39 => ?_)
      · skip
        refine lv_iload hx hb dX7_begins_85 (lv_at hl 1 rfl) ?_
        rw [hQ]
        exact ah_zret E hr (by first | exact bI_nz _ | decide) hP hS ⟨rfl, by rw [hval]⟩ (Nat.le_of_ble_eq_true rfl) (Nat.le_of_ble_eq_true rfl) dX7_begins_87
      · skip
        exact absurd hc39 (by decide)
  · skip
    have hcT := hc7
    obtain ⟨⟨w, r⟩, hPi⟩ := Option.isSome_iff_exists.mp hcT
    obtain ⟨hlw, hew, hnl, hne⟩ := hlP i w r hPi
    obtain ⟨hok, hokr, hnw⟩ := hPok i w r hPi
    have hwl := hok.1
    have hwb := ah_getD_le hok.2
    have hval0 : ah_sat P (fun u => ah_bw ((w0.drop fr).take mn) u) i = (fun u => ah_bw ((w0.drop fr).take mn) u) w := md_sat_s hPi
    refine lv_iload_n hx hb dX7_begins_10 rfl (lv_at hl 3 rfl) ?_
    refine lv_aload_n hx hb dX7_begins_11 rfl (lv_at hl 0 rfl) ?_
    refine gf_Mod_17 E hP hmo rfl dX7_begins_12 ?_
    refine lv_iload hx hb dX7_begins_15 (lv_at hl 4 rfl) ?_
    refine ah_iald E hP hlA (by omega) (by omega) dX7_begins_17 ?_
    rw [hlf]
    refine ah_icmp_gt (tgt := 25) hx hb (by omega) (by omega) dX7_begins_18 (by decide) (fun hc18 => ?_) (fun hc18 => ?_)
    · skip
      have hval : ah_sat P (fun u => ah_bw ((w0.drop fr).take mn) u) i = false := by rw [hval0]; exact ah_bw_no (by rw [hvl]; omega)
      refine lv_iconst (v := (bI_ false)) hx hb dX7_begins_25 (by decide) ?_
      refine lv_istore (lv' := [(5, .int (bI_ false)), (0, .ref mo), (1, .int (nI i0)), (2, .int (nI fr)), (3, .int (nI mn)), (4, .int (nI i))]) hx hb dX7_begins_26 hl (by decide) rfl (fun ls hl => ?_)
      refine lv_iconst (v := (nI 0)) hx hb dX7_begins_28 (by decide) ?_
      refine lv_istore (lv' := [(6, .int (nI 0)), (5, .int (bI_ false)), (0, .ref mo), (1, .int (nI i0)), (2, .int (nI fr)), (3, .int (nI mn)), (4, .int (nI i))]) hx hb dX7_begins_29 hl (by decide) rfl (fun ls hl => ?_)
      refine lv_iload hx hb dX7_begins_31 (lv_at hl 0 rfl) ?_
      refine lv_iload_n hx hb dX7_begins_33 rfl (lv_at hl 5 rfl) ?_
      refine ah_icmp_ge (tgt := 85) hx hb (by omega) (by omega) dX7_begins_34 (by decide) (fun hc34 => ?_) (fun hc34 => ?_)
      · skip
        refine lv_iload hx hb dX7_begins_85 (lv_at hl 1 rfl) ?_
        rw [hQ]
        exact ah_zret E hr (by first | exact bI_nz _ | decide) hP hS ⟨rfl, by rw [hval]⟩ (Nat.le_of_ble_eq_true rfl) (Nat.le_of_ble_eq_true rfl) dX7_begins_87
      · skip
        refine lv_iload hx hb dX7_begins_37 (lv_at hl 1 rfl) ?_
        refine ah_ifb_eq (tgt := 85) hx hb dX7_begins_39 (by decide) (fun hc39 => ?_) (fun hc39 => ?_)
        · skip
          refine lv_iload hx hb dX7_begins_85 (lv_at hl 1 rfl) ?_
          rw [hQ]
          exact ah_zret E hr (by first | exact bI_nz _ | decide) hP hS ⟨rfl, by rw [hval]⟩ (Nat.le_of_ble_eq_true rfl) (Nat.le_of_ble_eq_true rfl) dX7_begins_87
        · skip
          exact absurd hc39 (by decide)
    · skip
      have hmn : mn ≤ w.length := by omega
      have hlem : md_eq (fun k => w0.getD (fr + k) 0) (fun k => w.getD k 0) mn = ah_bw ((w0.drop fr).take mn) w := (md_eqt hmn hvl (fun k hk => md_getD_dt (by omega) hk)).trans (by rw [ah_bw, hvl])
      have hval : ah_sat P (fun u => ah_bw ((w0.drop fr).take mn) u) i = ah_bw ((w0.drop fr).take mn) w := hval0
      refine lv_iconst (v := (bI_ true)) hx hb dX7_begins_21 (by decide) ?_
      refine lv_goto (tgt := 26) hx hb dX7_begins_22 (by decide) ?_
      refine lv_istore (lv' := [(5, .int (bI_ true)), (0, .ref mo), (1, .int (nI i0)), (2, .int (nI fr)), (3, .int (nI mn)), (4, .int (nI i))]) hx hb dX7_begins_26 hl (by decide) rfl (fun ls hl => ?_)
      refine lv_iconst (v := (nI 0)) hx hb dX7_begins_28 (by decide) ?_
      refine lv_istore (lv' := [(6, .int (nI 0)), (5, .int (bI_ true)), (0, .ref mo), (1, .int (nI i0)), (2, .int (nI fr)), (3, .int (nI mn)), (4, .int (nI i))]) hx hb dX7_begins_29 hl (by decide) rfl (fun ls hl => ?_)
      have L31 : ∀ (fuel : Nat), ∀ (k : Nat) (b : Bool), mn - k < fuel → k ≤ mn → b = md_eq (fun k => w0.getD (fr + k) 0) (fun k => w.getD k 0) k → ∀ (H : Heap) (locs : List Loc), ah_K A D F H → va_S A s.heap H locs → ∀ (ls : Array Slot), lv_has ls 7 [(0, .ref mo), (1, .int (nI i0)), (2, .int (nI fr)), (3, .int (nI mn)), (4, .int (nI i)), (5, .int (bI_ b)), (6, .int (nI k))] → W p l e { frames := 0, cells := 0, slots := 0, locals := 0 } s m [.ref mo, .int (nI i0), .int (nI fr), .int (nI mn), .int (nI i)].toArray below meth c H locs 0 0 Q (F0 m 31 ls []) := by
        intro fuel
        induction fuel with
        | zero =>
          intro k b hm
          exact absurd hm (Nat.not_lt_zero _)
        | succ fuel ih =>
          intro k b hm hk hbe H locs hP hS ls hl
          refine lv_iload hx hb dX7_begins_31 (lv_at hl 6 rfl) ?_
          refine lv_iload_n hx hb dX7_begins_33 rfl (lv_at hl 3 rfl) ?_
          refine ah_icmp_ge (tgt := 85) hx hb (by omega) (by omega) dX7_begins_34 (by decide) (fun hc34 => ?_) (fun hc34 => ?_)
          · skip
            refine lv_iload hx hb dX7_begins_85 (lv_at hl 5 rfl) ?_
            rw [hQ]
            exact ah_zret E hr (by first | exact bI_nz _ | decide) hP hS ⟨rfl, by rw [hval, ← hlem, hbe, show k = mn by omega]⟩ (Nat.le_of_ble_eq_true rfl) (Nat.le_of_ble_eq_true rfl) dX7_begins_87
          · skip
            refine lv_iload hx hb dX7_begins_37 (lv_at hl 5 rfl) ?_
            refine ah_ifb_eq (tgt := 85) hx hb dX7_begins_39 (by decide) (fun hc39 => ?_) (fun hc39 => ?_)
            · skip
              refine lv_iload hx hb dX7_begins_85 (lv_at hl 5 rfl) ?_
              rw [hQ]
              exact ah_zret E hr (by first | exact bI_nz _ | decide) hP hS ⟨rfl, by rw [hval, ← hlem, hc39, md_eq_no hk (hbe.symm.trans hc39)]⟩ (Nat.le_of_ble_eq_true rfl) (Nat.le_of_ble_eq_true rfl) dX7_begins_87
            · skip
              refine lv_aload_n hx hb dX7_begins_42 rfl (lv_at hl 0 rfl) ?_
              refine gf_Mod_20 E hP hmo rfl dX7_begins_43 ?_
              refine lv_bipush (v := (nI 8)) hx hb dX7_begins_46 (by decide) ?_
              refine lv_iload_n hx hb dX7_begins_48 rfl (lv_at hl 1 rfl) ?_
              refine ah_imul hx hb dX7_begins_49 ?_
              refine lv_iload_n hx hb dX7_begins_50 rfl (lv_at hl 2 rfl) ?_
              refine ah_iadd hx hb dX7_begins_51 ?_
              refine lv_iload hx hb dX7_begins_52 (lv_at hl 6 rfl) ?_
              refine ah_iadd hx hb dX7_begins_54 ?_
              refine ah_iald E hP heA (by omega) (by omega) dX7_begins_55 ?_
              rw [show 8 * i0 + fr + k = 8 * i0 + (fr + k) by omega, hew0 (fr + k) (by omega)]
              refine lv_aload_n hx hb dX7_begins_56 rfl (lv_at hl 0 rfl) ?_
              refine gf_Mod_20 E hP hmo rfl dX7_begins_57 ?_
              refine lv_bipush (v := (nI 8)) hx hb dX7_begins_60 (by decide) ?_
              refine lv_iload hx hb dX7_begins_62 (lv_at hl 4 rfl) ?_
              refine ah_imul hx hb dX7_begins_64 ?_
              refine lv_iload hx hb dX7_begins_65 (lv_at hl 6 rfl) ?_
              refine ah_iadd hx hb dX7_begins_67 ?_
              refine ah_iald E hP heA (by omega) (by omega) dX7_begins_68 ?_
              rw [hew k (by omega)]
              refine ah_icmp_ne (tgt := 76) hx hb (by have := hwb0 (fr + k); omega) (by have := hwb k; omega) dX7_begins_69 (by decide) (fun hc69 => ?_) (fun hc69 => ?_)
              · skip
                refine lv_iconst (v := (bI_ false)) hx hb dX7_begins_76 (by decide) ?_
                refine lv_istore (lv' := [(5, .int (bI_ false)), (0, .ref mo), (1, .int (nI i0)), (2, .int (nI fr)), (3, .int (nI mn)), (4, .int (nI i)), (6, .int (nI k))]) hx hb dX7_begins_77 hl (by decide) rfl (fun ls hl => ?_)
                refine lv_iinc (v := (nI (k + 1))) (lv' := [(6, .int (nI (k + 1))), (5, .int (bI_ false)), (0, .ref mo), (1, .int (nI i0)), (2, .int (nI fr)), (3, .int (nI mn)), (4, .int (nI i))]) hx hb dX7_begins_79 hl (k := 6) rfl (ah_inc _) (by decide) rfl (fun ls hl => ?_)
                refine lv_goto (tgt := 31) hx hb dX7_begins_82 (by decide) ?_
                exact ih (k + 1) false (by omega) (by omega) (md_eq_f (by omega)) _ _ hP hS ls (lv_sub hl [2, 3, 4, 5, 6, 1, 0] rfl)
              · skip
                refine lv_iconst (v := (bI_ true)) hx hb dX7_begins_72 (by decide) ?_
                refine lv_goto (tgt := 77) hx hb dX7_begins_73 (by decide) ?_
                refine lv_istore (lv' := [(5, .int (bI_ true)), (0, .ref mo), (1, .int (nI i0)), (2, .int (nI fr)), (3, .int (nI mn)), (4, .int (nI i)), (6, .int (nI k))]) hx hb dX7_begins_77 hl (by decide) rfl (fun ls hl => ?_)
                refine lv_iinc (v := (nI (k + 1))) (lv' := [(6, .int (nI (k + 1))), (5, .int (bI_ true)), (0, .ref mo), (1, .int (nI i0)), (2, .int (nI fr)), (3, .int (nI mn)), (4, .int (nI i))]) hx hb dX7_begins_79 hl (k := 6) rfl (ah_inc _) (by decide) rfl (fun ls hl => ?_)
                refine lv_goto (tgt := 31) hx hb dX7_begins_82 (by decide) ?_
                exact ih (k + 1) true (by omega) (by omega) (md_eq_t hbe hc39 (by omega)) _ _ hP hS ls (lv_sub hl [2, 3, 4, 5, 6, 1, 0] rfl)
      exact L31 (mn + 1) 0 true (by omega) (Nat.zero_le _) rfl _ _ hP hS ls (lv_sub hl [2, 3, 4, 5, 6, 1, 0] rfl)

set_option maxHeartbeats 4000000 in
set_option maxRecDepth 100000 in
/-- isBeginning -/
theorem m_isBeginning (l : Launch) (A : Nat → Prop) (D : ah_G) (F : ah_F) {mo dA tA lA eA nlA neA sA n : Nat} {P : ah_Pt} {dr S : List Nat} {td th ip il : Int32} {ln : Nat → Nat} {df tf lf ef nlf nef sf : Nat → Int32} (hmo : F mo = some (.inr (7, [.int th, .ref dA, .int (nI dr.length), .int (nI n), .ref tA, .ref lA, .ref eA, .ref nlA, .ref neA, .ref sA, .int (nI S.length), .int td, .int ip, .int il]))) (hdA : F dA = some (ah_ai D 8 df)) (htA : F tA = some (ah_az D 40 tf)) (hlA : F lA = some (ah_ai D 40 lf)) (heA : F eA = some (ah_ai D 320 ef)) (hnlA : F nlA = some (ah_ai D 40 nlf)) (hneA : F neA = some (ah_ai D 320 nef)) (hsA : F sA = some (ah_ai D 200 sf)) (hL : md_L P n dr S ln df tf lf ef nlf nef sf) {pl i : Nat} (hpl : pl ≤ S.length) (hi : i < n) : Met l yX7_isBeginning (Cond.code yX7_isBeginning cX7_isBeginning 5 (some .boolean) :: ah_T) { frames := 0, cells := 0, slots := 0, locals := 0 } (va_Pc [.ref mo, .int (nI pl), .int (nI i)] (ah_B A D F)) (ah_Qi A D (fun (r : Int32) F1 => F = F1 ∧ bI_ (ah_sat P (fun u => ah_bw (S.drop pl) u) i) = r)) 0 0 A := by
  refine ah_met (own := "AhoarchModel") (by decide) rfl (Nat.le_of_ble_eq_true rfl) ?_
  intro p e s m below meth c ls E hr hini hl hP hS Q hQ
  have hx := E.1
  have hb := E.2.1
  have hl : lv_has ls 5 [(0, .ref mo), (1, .int (nI pl)), (2, .int (nI i))] := hl
  obtain ⟨hn40, hPn, hdok, hSl, hS200, hPok, hdis, hp20, hln, hlP, hdd, hss⟩ := id hL
  have hdl := hdok.1
  obtain ⟨hl8, hlf, htf⟩ := hln i hi
  have hSb := ah_getD_le hSl
  have hvl : (S.drop pl).length = S.length - pl := List.length_drop
  refine lv_aload_n hx hb dX7_isBeginning_0 rfl (lv_at hl 0 rfl) ?_
  refine gf_Mod_13 E hP hmo rfl dX7_isBeginning_1 ?_
  refine lv_iload_n hx hb dX7_isBeginning_4 rfl (lv_at hl 2 rfl) ?_
  refine ah_zald E hP htA (by omega) (by omega) dX7_isBeginning_5 ?_
  rw [htf]
  refine ah_ifb_eq (tgt := 28) hx hb dX7_isBeginning_6 (by decide) (fun hc6 => ?_) (fun hc6 => ?_)
  · skip
    have hval : ah_sat P (fun u => ah_bw (S.drop pl) u) i = false := md_sat_n hc6
    refine lv_iconst (v := (bI_ false)) hx hb dX7_isBeginning_28 (by decide) ?_
    refine lv_istore_n (lv' := [(3, .int (bI_ false)), (0, .ref mo), (1, .int (nI pl)), (2, .int (nI i))]) hx hb dX7_isBeginning_29 rfl hl (by decide) rfl (fun ls hl => ?_)
    refine lv_iconst (v := (nI 0)) hx hb dX7_isBeginning_30 (by decide) ?_
    refine lv_istore (lv' := [(4, .int (nI 0)), (3, .int (bI_ false)), (0, .ref mo), (1, .int (nI pl)), (2, .int (nI i))]) hx hb dX7_isBeginning_31 hl (by decide) rfl (fun ls hl => ?_)
    refine lv_iload hx hb dX7_isBeginning_33 (lv_at hl 0 rfl) ?_
    refine lv_aload_n hx hb dX7_isBeginning_35 rfl (lv_at hl 2 rfl) ?_
    refine gf_Mod_67 E hP hmo rfl dX7_isBeginning_36 ?_
    refine lv_iload_n hx hb dX7_isBeginning_39 rfl (lv_at hl 3 rfl) ?_
    refine ah_isub hx hb (by omega) dX7_isBeginning_40 ?_
    refine ah_icmp_ge (tgt := 84) hx hb (by omega) (by omega) dX7_isBeginning_41 (by decide) (fun hc41 => ?_) (fun hc41 => ?_)
    · skip
      refine lv_iload_n hx hb dX7_isBeginning_84 rfl (lv_at hl 1 rfl) ?_
      rw [hQ]
      exact ah_zret E hr (by first | exact bI_nz _ | decide) hP hS ⟨rfl, by rw [hval]⟩ (Nat.le_of_ble_eq_true rfl) (Nat.le_of_ble_eq_true rfl) dX7_isBeginning_85
    · skip
      refine lv_iload_n hx hb dX7_isBeginning_44 rfl (lv_at hl 1 rfl) ?_
      refine ah_ifb_eq (tgt := 84) hx hb dX7_isBeginning_45 (by decide) (fun hc45 => ?_) (fun hc45 => ?_)
      · skip
        refine lv_iload_n hx hb dX7_isBeginning_84 rfl (lv_at hl 1 rfl) ?_
        rw [hQ]
        exact ah_zret E hr (by first | exact bI_nz _ | decide) hP hS ⟨rfl, by rw [hval]⟩ (Nat.le_of_ble_eq_true rfl) (Nat.le_of_ble_eq_true rfl) dX7_isBeginning_85
      · skip
        exact absurd hc45 (by decide)
  · skip
    have hcT := hc6
    obtain ⟨⟨w, r⟩, hPi⟩ := Option.isSome_iff_exists.mp hcT
    obtain ⟨hlw, hew, hnl, hne⟩ := hlP i w r hPi
    obtain ⟨hok, hokr, hnw⟩ := hPok i w r hPi
    have hwl := hok.1
    have hwb := ah_getD_le hok.2
    have hval0 : ah_sat P (fun u => ah_bw (S.drop pl) u) i = (fun u => ah_bw (S.drop pl) u) w := md_sat_s hPi
    refine lv_aload_n hx hb dX7_isBeginning_9 rfl (lv_at hl 0 rfl) ?_
    refine gf_Mod_67 E hP hmo rfl dX7_isBeginning_10 ?_
    refine lv_iload_n hx hb dX7_isBeginning_13 rfl (lv_at hl 1 rfl) ?_
    refine ah_isub hx hb (by omega) dX7_isBeginning_14 ?_
    refine lv_aload_n hx hb dX7_isBeginning_15 rfl (lv_at hl 0 rfl) ?_
    refine gf_Mod_17 E hP hmo rfl dX7_isBeginning_16 ?_
    refine lv_iload_n hx hb dX7_isBeginning_19 rfl (lv_at hl 2 rfl) ?_
    refine ah_iald E hP hlA (by omega) (by omega) dX7_isBeginning_20 ?_
    rw [hlf]
    refine ah_icmp_gt (tgt := 28) hx hb (by omega) (by omega) dX7_isBeginning_21 (by decide) (fun hc21 => ?_) (fun hc21 => ?_)
    · skip
      have hval : ah_sat P (fun u => ah_bw (S.drop pl) u) i = false := by rw [hval0]; exact ah_bw_no (by rw [hvl]; omega)
      refine lv_iconst (v := (bI_ false)) hx hb dX7_isBeginning_28 (by decide) ?_
      refine lv_istore_n (lv' := [(3, .int (bI_ false)), (0, .ref mo), (1, .int (nI pl)), (2, .int (nI i))]) hx hb dX7_isBeginning_29 rfl hl (by decide) rfl (fun ls hl => ?_)
      refine lv_iconst (v := (nI 0)) hx hb dX7_isBeginning_30 (by decide) ?_
      refine lv_istore (lv' := [(4, .int (nI 0)), (3, .int (bI_ false)), (0, .ref mo), (1, .int (nI pl)), (2, .int (nI i))]) hx hb dX7_isBeginning_31 hl (by decide) rfl (fun ls hl => ?_)
      refine lv_iload hx hb dX7_isBeginning_33 (lv_at hl 0 rfl) ?_
      refine lv_aload_n hx hb dX7_isBeginning_35 rfl (lv_at hl 2 rfl) ?_
      refine gf_Mod_67 E hP hmo rfl dX7_isBeginning_36 ?_
      refine lv_iload_n hx hb dX7_isBeginning_39 rfl (lv_at hl 3 rfl) ?_
      refine ah_isub hx hb (by omega) dX7_isBeginning_40 ?_
      refine ah_icmp_ge (tgt := 84) hx hb (by omega) (by omega) dX7_isBeginning_41 (by decide) (fun hc41 => ?_) (fun hc41 => ?_)
      · skip
        refine lv_iload_n hx hb dX7_isBeginning_84 rfl (lv_at hl 1 rfl) ?_
        rw [hQ]
        exact ah_zret E hr (by first | exact bI_nz _ | decide) hP hS ⟨rfl, by rw [hval]⟩ (Nat.le_of_ble_eq_true rfl) (Nat.le_of_ble_eq_true rfl) dX7_isBeginning_85
      · skip
        refine lv_iload_n hx hb dX7_isBeginning_44 rfl (lv_at hl 1 rfl) ?_
        refine ah_ifb_eq (tgt := 84) hx hb dX7_isBeginning_45 (by decide) (fun hc45 => ?_) (fun hc45 => ?_)
        · skip
          refine lv_iload_n hx hb dX7_isBeginning_84 rfl (lv_at hl 1 rfl) ?_
          rw [hQ]
          exact ah_zret E hr (by first | exact bI_nz _ | decide) hP hS ⟨rfl, by rw [hval]⟩ (Nat.le_of_ble_eq_true rfl) (Nat.le_of_ble_eq_true rfl) dX7_isBeginning_85
        · skip
          exact absurd hc45 (by decide)
    · skip
      have hmn : S.length - pl ≤ w.length := by omega
      have hlem : md_eq (fun k => S.getD (pl + k) 0) (fun k => w.getD k 0) (S.length - pl) = ah_bw (S.drop pl) w := (md_eqt hmn hvl (fun k hk => md_getD_d)).trans (by rw [ah_bw, hvl])
      have hval : ah_sat P (fun u => ah_bw (S.drop pl) u) i = ah_bw (S.drop pl) w := hval0
      refine lv_iconst (v := (bI_ true)) hx hb dX7_isBeginning_24 (by decide) ?_
      refine lv_goto (tgt := 29) hx hb dX7_isBeginning_25 (by decide) ?_
      refine lv_istore_n (lv' := [(3, .int (bI_ true)), (0, .ref mo), (1, .int (nI pl)), (2, .int (nI i))]) hx hb dX7_isBeginning_29 rfl hl (by decide) rfl (fun ls hl => ?_)
      refine lv_iconst (v := (nI 0)) hx hb dX7_isBeginning_30 (by decide) ?_
      refine lv_istore (lv' := [(4, .int (nI 0)), (3, .int (bI_ true)), (0, .ref mo), (1, .int (nI pl)), (2, .int (nI i))]) hx hb dX7_isBeginning_31 hl (by decide) rfl (fun ls hl => ?_)
      have L33 : ∀ (fuel : Nat), ∀ (k : Nat) (b : Bool), (S.length - pl) - k < fuel → k ≤ (S.length - pl) → b = md_eq (fun k => S.getD (pl + k) 0) (fun k => w.getD k 0) k → ∀ (H : Heap) (locs : List Loc), ah_K A D F H → va_S A s.heap H locs → ∀ (ls : Array Slot), lv_has ls 5 [(0, .ref mo), (1, .int (nI pl)), (2, .int (nI i)), (3, .int (bI_ b)), (4, .int (nI k))] → W p l e { frames := 0, cells := 0, slots := 0, locals := 0 } s m [.ref mo, .int (nI pl), .int (nI i)].toArray below meth c H locs 0 0 Q (F0 m 33 ls []) := by
        intro fuel
        induction fuel with
        | zero =>
          intro k b hm
          exact absurd hm (Nat.not_lt_zero _)
        | succ fuel ih =>
          intro k b hm hk hbe H locs hP hS ls hl
          refine lv_iload hx hb dX7_isBeginning_33 (lv_at hl 4 rfl) ?_
          refine lv_aload_n hx hb dX7_isBeginning_35 rfl (lv_at hl 0 rfl) ?_
          refine gf_Mod_67 E hP hmo rfl dX7_isBeginning_36 ?_
          refine lv_iload_n hx hb dX7_isBeginning_39 rfl (lv_at hl 1 rfl) ?_
          refine ah_isub hx hb (by omega) dX7_isBeginning_40 ?_
          refine ah_icmp_ge (tgt := 84) hx hb (by omega) (by omega) dX7_isBeginning_41 (by decide) (fun hc41 => ?_) (fun hc41 => ?_)
          · skip
            refine lv_iload_n hx hb dX7_isBeginning_84 rfl (lv_at hl 3 rfl) ?_
            rw [hQ]
            exact ah_zret E hr (by first | exact bI_nz _ | decide) hP hS ⟨rfl, by rw [hval, ← hlem, hbe, show k = (S.length - pl) by omega]⟩ (Nat.le_of_ble_eq_true rfl) (Nat.le_of_ble_eq_true rfl) dX7_isBeginning_85
          · skip
            refine lv_iload_n hx hb dX7_isBeginning_44 rfl (lv_at hl 3 rfl) ?_
            refine ah_ifb_eq (tgt := 84) hx hb dX7_isBeginning_45 (by decide) (fun hc45 => ?_) (fun hc45 => ?_)
            · skip
              refine lv_iload_n hx hb dX7_isBeginning_84 rfl (lv_at hl 3 rfl) ?_
              rw [hQ]
              exact ah_zret E hr (by first | exact bI_nz _ | decide) hP hS ⟨rfl, by rw [hval, ← hlem, hc45, md_eq_no hk (hbe.symm.trans hc45)]⟩ (Nat.le_of_ble_eq_true rfl) (Nat.le_of_ble_eq_true rfl) dX7_isBeginning_85
            · skip
              refine lv_aload_n hx hb dX7_isBeginning_48 rfl (lv_at hl 0 rfl) ?_
              refine gf_Mod_29 E hP hmo rfl dX7_isBeginning_49 ?_
              refine lv_iload_n hx hb dX7_isBeginning_52 rfl (lv_at hl 1 rfl) ?_
              refine lv_iload hx hb dX7_isBeginning_53 (lv_at hl 4 rfl) ?_
              refine ah_iadd hx hb dX7_isBeginning_55 ?_
              refine ah_iald E hP hsA (by omega) (by omega) dX7_isBeginning_56 ?_
              rw [hss (pl + k) (by omega)]
              refine lv_aload_n hx hb dX7_isBeginning_57 rfl (lv_at hl 0 rfl) ?_
              refine gf_Mod_20 E hP hmo rfl dX7_isBeginning_58 ?_
              refine lv_bipush (v := (nI 8)) hx hb dX7_isBeginning_61 (by decide) ?_
              refine lv_iload_n hx hb dX7_isBeginning_63 rfl (lv_at hl 2 rfl) ?_
              refine ah_imul hx hb dX7_isBeginning_64 ?_
              refine lv_iload hx hb dX7_isBeginning_65 (lv_at hl 4 rfl) ?_
              refine ah_iadd hx hb dX7_isBeginning_67 ?_
              refine ah_iald E hP heA (by omega) (by omega) dX7_isBeginning_68 ?_
              rw [hew k (by omega)]
              refine ah_icmp_ne (tgt := 76) hx hb (by have := hSb (pl + k); omega) (by have := hwb k; omega) dX7_isBeginning_69 (by decide) (fun hc69 => ?_) (fun hc69 => ?_)
              · skip
                refine lv_iconst (v := (bI_ false)) hx hb dX7_isBeginning_76 (by decide) ?_
                refine lv_istore_n (lv' := [(3, .int (bI_ false)), (0, .ref mo), (1, .int (nI pl)), (2, .int (nI i)), (4, .int (nI k))]) hx hb dX7_isBeginning_77 rfl hl (by decide) rfl (fun ls hl => ?_)
                refine lv_iinc (v := (nI (k + 1))) (lv' := [(4, .int (nI (k + 1))), (3, .int (bI_ false)), (0, .ref mo), (1, .int (nI pl)), (2, .int (nI i))]) hx hb dX7_isBeginning_78 hl (k := 4) rfl (ah_inc _) (by decide) rfl (fun ls hl => ?_)
                refine lv_goto (tgt := 33) hx hb dX7_isBeginning_81 (by decide) ?_
                exact ih (k + 1) false (by omega) (by omega) (md_eq_f (by omega)) _ _ hP hS ls (lv_sub hl [2, 3, 4, 1, 0] rfl)
              · skip
                refine lv_iconst (v := (bI_ true)) hx hb dX7_isBeginning_72 (by decide) ?_
                refine lv_goto (tgt := 77) hx hb dX7_isBeginning_73 (by decide) ?_
                refine lv_istore_n (lv' := [(3, .int (bI_ true)), (0, .ref mo), (1, .int (nI pl)), (2, .int (nI i)), (4, .int (nI k))]) hx hb dX7_isBeginning_77 rfl hl (by decide) rfl (fun ls hl => ?_)
                refine lv_iinc (v := (nI (k + 1))) (lv' := [(4, .int (nI (k + 1))), (3, .int (bI_ true)), (0, .ref mo), (1, .int (nI pl)), (2, .int (nI i))]) hx hb dX7_isBeginning_78 hl (k := 4) rfl (ah_inc _) (by decide) rfl (fun ls hl => ?_)
                refine lv_goto (tgt := 33) hx hb dX7_isBeginning_81 (by decide) ?_
                exact ih (k + 1) true (by omega) (by omega) (md_eq_t hbe hc45 (by omega)) _ _ hP hS ls (lv_sub hl [2, 3, 4, 1, 0] rfl)
      exact L33 ((S.length - pl) + 1) 0 true (by omega) (Nat.zero_le _) rfl _ _ hP hS ls (lv_sub hl [2, 3, 4, 1, 0] rfl)

set_option maxHeartbeats 4000000 in
set_option maxRecDepth 100000 in
/-- stands -/
theorem m_stands (l : Launch) (A : Nat → Prop) (D : ah_G) (F : ah_F) {mo dA tA lA eA nlA neA sA n : Nat} {P : ah_Pt} {dr S : List Nat} {td th ip il : Int32} {ln : Nat → Nat} {df tf lf ef nlf nef sf : Nat → Int32} (hmo : F mo = some (.inr (7, [.int th, .ref dA, .int (nI dr.length), .int (nI n), .ref tA, .ref lA, .ref eA, .ref nlA, .ref neA, .ref sA, .int (nI S.length), .int td, .int ip, .int il]))) (hdA : F dA = some (ah_ai D 8 df)) (htA : F tA = some (ah_az D 40 tf)) (hlA : F lA = some (ah_ai D 40 lf)) (heA : F eA = some (ah_ai D 320 ef)) (hnlA : F nlA = some (ah_ai D 40 nlf)) (hneA : F neA = some (ah_ai D 320 nef)) (hsA : F sA = some (ah_ai D 200 sf)) (hL : md_L P n dr S ln df tf lf ef nlf nef sf) {i pl : Nat} (hi : i < n) (hpl : pl ≤ 1000) : Met l yX7_stands (Cond.code yX7_stands cX7_stands 5 (some .boolean) :: ah_T) { frames := 0, cells := 0, slots := 0, locals := 0 } (va_Pc [.ref mo, .int (nI i), .int (nI pl)] (ah_B A D F)) (ah_Qi A D (fun (r : Int32) F1 => F = F1 ∧ bI_ (ah_sat P (fun u => ah_at S pl u) i) = r)) 0 0 A := by
  refine ah_met (own := "AhoarchModel") (by decide) rfl (Nat.le_of_ble_eq_true rfl) ?_
  intro p e s m below meth c ls E hr hini hl hP hS Q hQ
  have hx := E.1
  have hb := E.2.1
  have hl : lv_has ls 5 [(0, .ref mo), (1, .int (nI i)), (2, .int (nI pl))] := hl
  obtain ⟨hn40, hPn, hdok, hSl, hS200, hPok, hdis, hp20, hln, hlP, hdd, hss⟩ := id hL
  have hdl := hdok.1
  obtain ⟨hl8, hlf, htf⟩ := hln i hi
  have hSb := ah_getD_le hSl
  refine lv_aload_n hx hb dX7_stands_0 rfl (lv_at hl 0 rfl) ?_
  refine gf_Mod_13 E hP hmo rfl dX7_stands_1 ?_
  refine lv_iload_n hx hb dX7_stands_4 rfl (lv_at hl 1 rfl) ?_
  refine ah_zald E hP htA (by omega) (by omega) dX7_stands_5 ?_
  rw [htf]
  refine ah_ifb_eq (tgt := 32) hx hb dX7_stands_6 (by decide) (fun hc6 => ?_) (fun hc6 => ?_)
  · skip
    have hval : ah_sat P (fun u => ah_at S pl u) i = false := md_sat_n hc6
    refine lv_iconst (v := (bI_ false)) hx hb dX7_stands_32 (by decide) ?_
    refine lv_istore_n (lv' := [(3, .int (bI_ false)), (0, .ref mo), (1, .int (nI i)), (2, .int (nI pl))]) hx hb dX7_stands_33 rfl hl (by decide) rfl (fun ls hl => ?_)
    refine lv_iconst (v := (nI 0)) hx hb dX7_stands_34 (by decide) ?_
    refine lv_istore (lv' := [(4, .int (nI 0)), (3, .int (bI_ false)), (0, .ref mo), (1, .int (nI i)), (2, .int (nI pl))]) hx hb dX7_stands_35 hl (by decide) rfl (fun ls hl => ?_)
    refine lv_iload hx hb dX7_stands_37 (lv_at hl 0 rfl) ?_
    refine lv_aload_n hx hb dX7_stands_39 rfl (lv_at hl 2 rfl) ?_
    refine gf_Mod_17 E hP hmo rfl dX7_stands_40 ?_
    refine lv_iload_n hx hb dX7_stands_43 rfl (lv_at hl 3 rfl) ?_
    refine ah_iald E hP hlA (by omega) (by omega) dX7_stands_44 ?_
    rw [hlf]
    refine ah_icmp_ge (tgt := 88) hx hb (by omega) (by omega) dX7_stands_45 (by decide) (fun hc45 => ?_) (fun hc45 => ?_)
    · skip
      refine lv_iload_n hx hb dX7_stands_88 rfl (lv_at hl 1 rfl) ?_
      rw [hQ]
      exact ah_zret E hr (by first | exact bI_nz _ | decide) hP hS ⟨rfl, by rw [hval]⟩ (Nat.le_of_ble_eq_true rfl) (Nat.le_of_ble_eq_true rfl) dX7_stands_89
    · skip
      refine lv_iload_n hx hb dX7_stands_48 rfl (lv_at hl 1 rfl) ?_
      refine ah_ifb_eq (tgt := 88) hx hb dX7_stands_49 (by decide) (fun hc49 => ?_) (fun hc49 => ?_)
      · skip
        refine lv_iload_n hx hb dX7_stands_88 rfl (lv_at hl 1 rfl) ?_
        rw [hQ]
        exact ah_zret E hr (by first | exact bI_nz _ | decide) hP hS ⟨rfl, by rw [hval]⟩ (Nat.le_of_ble_eq_true rfl) (Nat.le_of_ble_eq_true rfl) dX7_stands_89
      · skip
        exact absurd hc49 (by decide)
  · skip
    have hcT := hc6
    obtain ⟨⟨w, r⟩, hPi⟩ := Option.isSome_iff_exists.mp hcT
    obtain ⟨hlw, hew, hnl, hne⟩ := hlP i w r hPi
    obtain ⟨hok, hokr, hnw⟩ := hPok i w r hPi
    have hwl := hok.1
    have hwb := ah_getD_le hok.2
    have hval0 : ah_sat P (fun u => ah_at S pl u) i = (fun u => ah_at S pl u) w := md_sat_s hPi
    refine lv_iload_n hx hb dX7_stands_9 rfl (lv_at hl 2 rfl) ?_
    refine ah_if_lt (tgt := 32) hx hb (by omega) dX7_stands_10 (by decide) ?_
    refine lv_iload_n hx hb dX7_stands_13 rfl (lv_at hl 2 rfl) ?_
    refine lv_aload_n hx hb dX7_stands_14 rfl (lv_at hl 0 rfl) ?_
    refine gf_Mod_17 E hP hmo rfl dX7_stands_15 ?_
    refine lv_iload_n hx hb dX7_stands_18 rfl (lv_at hl 1 rfl) ?_
    refine ah_iald E hP hlA (by omega) (by omega) dX7_stands_19 ?_
    rw [hlf]
    refine ah_iadd hx hb dX7_stands_20 ?_
    refine lv_aload_n hx hb dX7_stands_21 rfl (lv_at hl 0 rfl) ?_
    refine gf_Mod_67 E hP hmo rfl dX7_stands_22 ?_
    refine ah_icmp_gt (tgt := 32) hx hb (by omega) (by omega) dX7_stands_25 (by decide) (fun hc25 => ?_) (fun hc25 => ?_)
    · skip
      have hval : ah_sat P (fun u => ah_at S pl u) i = false := by rw [hval0]; exact ah_at_no hnw (by omega)
      refine lv_iconst (v := (bI_ false)) hx hb dX7_stands_32 (by decide) ?_
      refine lv_istore_n (lv' := [(3, .int (bI_ false)), (0, .ref mo), (1, .int (nI i)), (2, .int (nI pl))]) hx hb dX7_stands_33 rfl hl (by decide) rfl (fun ls hl => ?_)
      refine lv_iconst (v := (nI 0)) hx hb dX7_stands_34 (by decide) ?_
      refine lv_istore (lv' := [(4, .int (nI 0)), (3, .int (bI_ false)), (0, .ref mo), (1, .int (nI i)), (2, .int (nI pl))]) hx hb dX7_stands_35 hl (by decide) rfl (fun ls hl => ?_)
      refine lv_iload hx hb dX7_stands_37 (lv_at hl 0 rfl) ?_
      refine lv_aload_n hx hb dX7_stands_39 rfl (lv_at hl 2 rfl) ?_
      refine gf_Mod_17 E hP hmo rfl dX7_stands_40 ?_
      refine lv_iload_n hx hb dX7_stands_43 rfl (lv_at hl 3 rfl) ?_
      refine ah_iald E hP hlA (by omega) (by omega) dX7_stands_44 ?_
      rw [hlf]
      refine ah_icmp_ge (tgt := 88) hx hb (by omega) (by omega) dX7_stands_45 (by decide) (fun hc45 => ?_) (fun hc45 => ?_)
      · skip
        refine lv_iload_n hx hb dX7_stands_88 rfl (lv_at hl 1 rfl) ?_
        rw [hQ]
        exact ah_zret E hr (by first | exact bI_nz _ | decide) hP hS ⟨rfl, by rw [hval]⟩ (Nat.le_of_ble_eq_true rfl) (Nat.le_of_ble_eq_true rfl) dX7_stands_89
      · skip
        refine lv_iload_n hx hb dX7_stands_48 rfl (lv_at hl 1 rfl) ?_
        refine ah_ifb_eq (tgt := 88) hx hb dX7_stands_49 (by decide) (fun hc49 => ?_) (fun hc49 => ?_)
        · skip
          refine lv_iload_n hx hb dX7_stands_88 rfl (lv_at hl 1 rfl) ?_
          rw [hQ]
          exact ah_zret E hr (by first | exact bI_nz _ | decide) hP hS ⟨rfl, by rw [hval]⟩ (Nat.le_of_ble_eq_true rfl) (Nat.le_of_ble_eq_true rfl) dX7_stands_89
        · skip
          exact absurd hc49 (by decide)
    · skip
      have hmn : pl + w.length ≤ S.length := by omega
      have hvl : ((S.drop pl).take w.length).length = w.length := by rw [List.length_take, List.length_drop]; omega
      have hlem : md_eq (fun k => S.getD (pl + k) 0) (fun k => w.getD k 0) w.length = ah_at S pl w := (md_eqt (Nat.le_refl _) hvl (fun k hk => md_getD_dt (by omega) hk)).trans (by rw [List.take_length, ah_at]; exact decide_eq_decide.mpr eq_comm)
      have hval : ah_sat P (fun u => ah_at S pl u) i = ah_at S pl w := hval0
      refine lv_iconst (v := (bI_ true)) hx hb dX7_stands_28 (by decide) ?_
      refine lv_goto (tgt := 33) hx hb dX7_stands_29 (by decide) ?_
      refine lv_istore_n (lv' := [(3, .int (bI_ true)), (0, .ref mo), (1, .int (nI i)), (2, .int (nI pl))]) hx hb dX7_stands_33 rfl hl (by decide) rfl (fun ls hl => ?_)
      refine lv_iconst (v := (nI 0)) hx hb dX7_stands_34 (by decide) ?_
      refine lv_istore (lv' := [(4, .int (nI 0)), (3, .int (bI_ true)), (0, .ref mo), (1, .int (nI i)), (2, .int (nI pl))]) hx hb dX7_stands_35 hl (by decide) rfl (fun ls hl => ?_)
      have L37 : ∀ (fuel : Nat), ∀ (k : Nat) (b : Bool), w.length - k < fuel → k ≤ w.length → b = md_eq (fun k => S.getD (pl + k) 0) (fun k => w.getD k 0) k → ∀ (H : Heap) (locs : List Loc), ah_K A D F H → va_S A s.heap H locs → ∀ (ls : Array Slot), lv_has ls 5 [(0, .ref mo), (1, .int (nI i)), (2, .int (nI pl)), (3, .int (bI_ b)), (4, .int (nI k))] → W p l e { frames := 0, cells := 0, slots := 0, locals := 0 } s m [.ref mo, .int (nI i), .int (nI pl)].toArray below meth c H locs 0 0 Q (F0 m 37 ls []) := by
        intro fuel
        induction fuel with
        | zero =>
          intro k b hm
          exact absurd hm (Nat.not_lt_zero _)
        | succ fuel ih =>
          intro k b hm hk hbe H locs hP hS ls hl
          refine lv_iload hx hb dX7_stands_37 (lv_at hl 4 rfl) ?_
          refine lv_aload_n hx hb dX7_stands_39 rfl (lv_at hl 0 rfl) ?_
          refine gf_Mod_17 E hP hmo rfl dX7_stands_40 ?_
          refine lv_iload_n hx hb dX7_stands_43 rfl (lv_at hl 1 rfl) ?_
          refine ah_iald E hP hlA (by omega) (by omega) dX7_stands_44 ?_
          rw [hlf]
          refine ah_icmp_ge (tgt := 88) hx hb (by omega) (by omega) dX7_stands_45 (by decide) (fun hc45 => ?_) (fun hc45 => ?_)
          · skip
            refine lv_iload_n hx hb dX7_stands_88 rfl (lv_at hl 3 rfl) ?_
            rw [hQ]
            exact ah_zret E hr (by first | exact bI_nz _ | decide) hP hS ⟨rfl, by rw [hval, ← hlem, hbe, show k = w.length by omega]⟩ (Nat.le_of_ble_eq_true rfl) (Nat.le_of_ble_eq_true rfl) dX7_stands_89
          · skip
            refine lv_iload_n hx hb dX7_stands_48 rfl (lv_at hl 3 rfl) ?_
            refine ah_ifb_eq (tgt := 88) hx hb dX7_stands_49 (by decide) (fun hc49 => ?_) (fun hc49 => ?_)
            · skip
              refine lv_iload_n hx hb dX7_stands_88 rfl (lv_at hl 3 rfl) ?_
              rw [hQ]
              exact ah_zret E hr (by first | exact bI_nz _ | decide) hP hS ⟨rfl, by rw [hval, ← hlem, hc49, md_eq_no hk (hbe.symm.trans hc49)]⟩ (Nat.le_of_ble_eq_true rfl) (Nat.le_of_ble_eq_true rfl) dX7_stands_89
            · skip
              refine lv_aload_n hx hb dX7_stands_52 rfl (lv_at hl 0 rfl) ?_
              refine gf_Mod_29 E hP hmo rfl dX7_stands_53 ?_
              refine lv_iload_n hx hb dX7_stands_56 rfl (lv_at hl 2 rfl) ?_
              refine lv_iload hx hb dX7_stands_57 (lv_at hl 4 rfl) ?_
              refine ah_iadd hx hb dX7_stands_59 ?_
              refine ah_iald E hP hsA (by omega) (by omega) dX7_stands_60 ?_
              rw [hss (pl + k) (by omega)]
              refine lv_aload_n hx hb dX7_stands_61 rfl (lv_at hl 0 rfl) ?_
              refine gf_Mod_20 E hP hmo rfl dX7_stands_62 ?_
              refine lv_bipush (v := (nI 8)) hx hb dX7_stands_65 (by decide) ?_
              refine lv_iload_n hx hb dX7_stands_67 rfl (lv_at hl 1 rfl) ?_
              refine ah_imul hx hb dX7_stands_68 ?_
              refine lv_iload hx hb dX7_stands_69 (lv_at hl 4 rfl) ?_
              refine ah_iadd hx hb dX7_stands_71 ?_
              refine ah_iald E hP heA (by omega) (by omega) dX7_stands_72 ?_
              rw [hew k (by omega)]
              refine ah_icmp_ne (tgt := 80) hx hb (by have := hSb (pl + k); omega) (by have := hwb k; omega) dX7_stands_73 (by decide) (fun hc73 => ?_) (fun hc73 => ?_)
              · skip
                refine lv_iconst (v := (bI_ false)) hx hb dX7_stands_80 (by decide) ?_
                refine lv_istore_n (lv' := [(3, .int (bI_ false)), (0, .ref mo), (1, .int (nI i)), (2, .int (nI pl)), (4, .int (nI k))]) hx hb dX7_stands_81 rfl hl (by decide) rfl (fun ls hl => ?_)
                refine lv_iinc (v := (nI (k + 1))) (lv' := [(4, .int (nI (k + 1))), (3, .int (bI_ false)), (0, .ref mo), (1, .int (nI i)), (2, .int (nI pl))]) hx hb dX7_stands_82 hl (k := 4) rfl (ah_inc _) (by decide) rfl (fun ls hl => ?_)
                refine lv_goto (tgt := 37) hx hb dX7_stands_85 (by decide) ?_
                exact ih (k + 1) false (by omega) (by omega) (md_eq_f (by omega)) _ _ hP hS ls (lv_sub hl [2, 3, 4, 1, 0] rfl)
              · skip
                refine lv_iconst (v := (bI_ true)) hx hb dX7_stands_76 (by decide) ?_
                refine lv_goto (tgt := 81) hx hb dX7_stands_77 (by decide) ?_
                refine lv_istore_n (lv' := [(3, .int (bI_ true)), (0, .ref mo), (1, .int (nI i)), (2, .int (nI pl)), (4, .int (nI k))]) hx hb dX7_stands_81 rfl hl (by decide) rfl (fun ls hl => ?_)
                refine lv_iinc (v := (nI (k + 1))) (lv' := [(4, .int (nI (k + 1))), (3, .int (bI_ true)), (0, .ref mo), (1, .int (nI i)), (2, .int (nI pl))]) hx hb dX7_stands_82 hl (k := 4) rfl (ah_inc _) (by decide) rfl (fun ls hl => ?_)
                refine lv_goto (tgt := 37) hx hb dX7_stands_85 (by decide) ?_
                exact ih (k + 1) true (by omega) (by omega) (md_eq_t hbe hc49 (by omega)) _ _ hP hS ls (lv_sub hl [2, 3, 4, 1, 0] rfl)
      exact L37 (w.length + 1) 0 true (by omega) (Nat.zero_le _) rfl _ _ hP hS ls (lv_sub hl [2, 3, 4, 1, 0] rfl)
