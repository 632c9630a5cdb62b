/-! letter by letter -/
def md_eq (f g : Nat → Nat) : Nat → Bool
  | 0 => true
  | k + 1 => md_eq f g k && decide (f k = g k)
theorem md_eq_t {f g : Nat → Nat} {k : Nat} {b : Bool} (h : b = md_eq f g k) (hb : b = true) (e : f k = g k) : true = md_eq f g (k + 1) := by rw [md_eq, ← h, hb]; simp [e]
theorem md_eq_f {f g : Nat → Nat} {k : Nat} (e : ¬ f k = g k) : false = md_eq f g (k + 1) := by rw [md_eq]; simp [e]
theorem md_eq_iff {f g : Nat → Nat} {n : Nat} : md_eq f g n = true ↔ ∀ k, k < n → f k = g k := by
  induction n with
  | zero => simp [md_eq]
  | succ n ih =>
    rw [md_eq, Bool.and_eq_true, ih, decide_eq_true_eq]
    constructor
    · intro h k hk
      by_cases e : k = n
      · rw [e]; exact h.2
      · exact h.1 k (by omega)
    · intro h
      exact ⟨fun k hk => h k (by omega), h n (by omega)⟩
theorem md_eq_no {f g : Nat → Nat} {k n : Nat} (hk : k ≤ n) (h : md_eq f g k = false) : md_eq f g n = false := by
  cases e : md_eq f g n with
  | false => rfl
  | true =>
    have := md_eq_iff.mpr (fun j hj => md_eq_iff.mp e j (by omega) : ∀ j, j < k → f j = g j)
    rw [h] at this; cases this
theorem md_eqt {f : Nat → Nat} {u v : List Nat} {n : Nat} (hn : n ≤ u.length) (hv : v.length = n) (hf : ∀ k, k < n → f k = v.getD k 0) : md_eq f (fun k => u.getD k 0) n = decide (u.take n = v) := by
  have hi : (md_eq f (fun k => u.getD k 0) n = true) ↔ u.take n = v := by
    rw [md_eq_iff]
    constructor
    · intro h
      apply List.ext_getElem (by rw [List.length_take]; omega)
      intro k h1 h2
      have h3 := h k (by omega)
      rw [hf k (by omega)] at h3
      rw [List.getElem_take]
      simpa [List.getD_eq_getElem?_getD, List.getElem?_eq_getElem h2, List.getElem?_eq_getElem (show k < u.length by omega)] using h3.symm
    · intro h k hk
      rw [hf k hk, ← h]
      simp [List.getD_eq_getElem?_getD, List.getElem?_take, hk]
  cases e : md_eq f (fun k => u.getD k 0) n with
  | true => exact (decide_eq_true (hi.mp e)).symm
  | false => exact (decide_eq_false (fun q => by rw [hi.mpr q] at e; cases e)).symm
theorem ah_getD_le {w : List Nat} (h : ah_lt w) (k : Nat) : w.getD k 0 ≤ 26 := by
  rw [List.getD_eq_getElem?_getD]
  cases e : w[k]? with
  | none => exact Nat.zero_le _
  | some y => exact (h y (List.mem_of_getElem? e)).2
theorem md_sat_n {P : ah_Pt} {f : List Nat → Bool} {i : Nat} (h : (P i).isSome = false) : ah_sat P f i = false := by
  cases e : P i with
  | none => simp [ah_sat, e]
  | some q => rw [e] at h; cases h
theorem md_sat_s {P : ah_Pt} {f : List Nat → Bool} {i : Nat} {w r : List Nat} (h : P i = some (w, r)) : ah_sat P f i = f w := by simp [ah_sat, h]
set_option maxHeartbeats 4000000 in
set_option maxRecDepth 100000 in
/-- isDraft -/
theorem m_isDraft (l : Launch) (A : Nat → Prop) (D : ah_G) (F : ah_F) {mo dA tA lA eA nlA neA sA n : Nat} {P : ah_Pt} {dr S : List Nat} {td th ip il : Int32} {ln : Nat → Nat} {df tf lf ef nlf nef sf : Nat → Int32} (hmo : F mo = some (.inr (7, [.int th, .ref dA, .int (nI dr.length), .int (nI n), .ref tA, .ref lA, .ref eA, .ref nlA, .ref neA, .ref sA, .int (nI S.length), .int td, .int ip, .int il]))) (hdA : F dA = some (ah_ai D 8 df)) (htA : F tA = some (ah_az D 40 tf)) (hlA : F lA = some (ah_ai D 40 lf)) (heA : F eA = some (ah_ai D 320 ef)) (hnlA : F nlA = some (ah_ai D 40 nlf)) (hneA : F neA = some (ah_ai D 320 nef)) (hsA : F sA = some (ah_ai D 200 sf)) (hL : md_L P n dr S ln df tf lf ef nlf nef sf) {i : Nat} (hi : i < n) : Met l yX7_isDraft (Cond.code yX7_isDraft cX7_isDraft 4 (some .boolean) :: ah_T) { frames := 0, cells := 0, slots := 0, locals := 0 } (va_Pc [.ref mo, .int (nI i)] (ah_B A D F)) (ah_Qi A D (fun (r : Int32) F1 => F = F1 ∧ bI_ (ah_sat P (fun u => decide (u = dr)) i) = r)) 0 0 A := by
  refine ah_met (own := "AhoarchModel") (by decide) rfl (Nat.le_of_ble_eq_true rfl) ?_
  intro p e s m below meth c ls E hr hini hl hP hS Q hQ
  have hx := E.1
  have hb := E.2.1
  have hl : lv_has ls 4 [(0, .ref mo), (1, .int (nI i))] := hl
  obtain ⟨hn40, hPn, hdok, hSl, hS200, hPok, hdis, hp20, hln, hlP, hdd, hss⟩ := id hL
  have hdl := hdok.1
  obtain ⟨hl8, hlf, htf⟩ := hln i hi
  refine lv_aload_n hx hb dX7_isDraft_0 rfl (lv_at hl 0 rfl) ?_
  refine gf_Mod_13 E hP hmo rfl dX7_isDraft_1 ?_
  refine lv_iload_n hx hb dX7_isDraft_4 rfl (lv_at hl 1 rfl) ?_
  refine ah_zald E hP htA (by omega) (by omega) dX7_isDraft_5 ?_
  rw [htf]
  refine ah_ifb_eq (tgt := 26) hx hb dX7_isDraft_6 (by decide) (fun hc6 => ?_) (fun hc6 => ?_)
  · skip
    have hval : ah_sat P (fun u => decide (u = dr)) i = false := md_sat_n hc6
    refine lv_iconst (v := (bI_ false)) hx hb dX7_isDraft_26 (by decide) ?_
    refine lv_istore_n (lv' := [(2, .int (bI_ false)), (0, .ref mo), (1, .int (nI i))]) hx hb dX7_isDraft_27 rfl hl (by decide) rfl (fun ls hl => ?_)
    refine lv_iconst (v := (nI 0)) hx hb dX7_isDraft_28 (by decide) ?_
    refine lv_istore_n (lv' := [(3, .int (nI 0)), (2, .int (bI_ false)), (0, .ref mo), (1, .int (nI i))]) hx hb dX7_isDraft_29 rfl hl (by decide) rfl (fun ls hl => ?_)
    refine lv_iload_n hx hb dX7_isDraft_30 rfl (lv_at hl 0 rfl) ?_
    refine lv_aload_n hx hb dX7_isDraft_31 rfl (lv_at hl 2 rfl) ?_
    refine gf_Mod_43 E hP hmo rfl dX7_isDraft_32 ?_
    refine ah_icmp_ge (tgt := 74) hx hb (by omega) (by omega) dX7_isDraft_35 (by decide) (fun hc35 => ?_) (fun hc35 => ?_)
    · skip
      refine lv_iload_n hx hb dX7_isDraft_74 rfl (lv_at hl 1 rfl) ?_
      rw [hQ]
      exact ah_zret E hr (by first | exact bI_nz _ | decide) hP hS ⟨rfl, by rw [hval]⟩ (Nat.le_of_ble_eq_true rfl) (Nat.le_of_ble_eq_true rfl) dX7_isDraft_75
    · skip
      refine lv_iload_n hx hb dX7_isDraft_38 rfl (lv_at hl 1 rfl) ?_
      refine ah_ifb_eq (tgt := 74) hx hb dX7_isDraft_39 (by decide) (fun hc39 => ?_) (fun hc39 => ?_)
      · skip
        refine lv_iload_n hx hb dX7_isDraft_74 rfl (lv_at hl 1 rfl) ?_
        rw [hQ]
        exact ah_zret E hr (by first | exact bI_nz _ | decide) hP hS ⟨rfl, by rw [hval]⟩ (Nat.le_of_ble_eq_true rfl) (Nat.le_of_ble_eq_true rfl) dX7_isDraft_75
      · skip
        exact absurd hc39 (by decide)
  · skip
    have hcT := hc6
    obtain ⟨⟨w, r⟩, hPi⟩ := Option.isSome_iff_exists.mp hcT
    obtain ⟨hlw, hew, hnl, hne⟩ := hlP i w r hPi
    obtain ⟨hok, hokr, hnw⟩ := hPok i w r hPi
    have hwl := hok.1
    have hwb := ah_getD_le hok.2
    have hval0 : ah_sat P (fun u => decide (u = dr)) i = (fun u => decide (u = dr)) w := md_sat_s hPi
    refine lv_aload_n hx hb dX7_isDraft_9 rfl (lv_at hl 0 rfl) ?_
    refine gf_Mod_17 E hP hmo rfl dX7_isDraft_10 ?_
    refine lv_iload_n hx hb dX7_isDraft_13 rfl (lv_at hl 1 rfl) ?_
    refine ah_iald E hP hlA (by omega) (by omega) dX7_isDraft_14 ?_
    rw [hlf]
    refine lv_aload_n hx hb dX7_isDraft_15 rfl (lv_at hl 0 rfl) ?_
    refine gf_Mod_43 E hP hmo rfl dX7_isDraft_16 ?_
    refine ah_icmp_ne (tgt := 26) hx hb (by omega) (by omega) dX7_isDraft_19 (by decide) (fun hc19 => ?_) (fun hc19 => ?_)
    · skip
      have hval : ah_sat P (fun u => decide (u = dr)) i = false := by rw [hval0]; exact decide_eq_false (fun e => by rw [e] at hlw; omega)
      refine lv_iconst (v := (bI_ false)) hx hb dX7_isDraft_26 (by decide) ?_
      refine lv_istore_n (lv' := [(2, .int (bI_ false)), (0, .ref mo), (1, .int (nI i))]) hx hb dX7_isDraft_27 rfl hl (by decide) rfl (fun ls hl => ?_)
      refine lv_iconst (v := (nI 0)) hx hb dX7_isDraft_28 (by decide) ?_
      refine lv_istore_n (lv' := [(3, .int (nI 0)), (2, .int (bI_ false)), (0, .ref mo), (1, .int (nI i))]) hx hb dX7_isDraft_29 rfl hl (by decide) rfl (fun ls hl => ?_)
      refine lv_iload_n hx hb dX7_isDraft_30 rfl (lv_at hl 0 rfl) ?_
      refine lv_aload_n hx hb dX7_isDraft_31 rfl (lv_at hl 2 rfl) ?_
      refine gf_Mod_43 E hP hmo rfl dX7_isDraft_32 ?_
      refine ah_icmp_ge (tgt := 74) hx hb (by omega) (by omega) dX7_isDraft_35 (by decide) (fun hc35 => ?_) (fun hc35 => ?_)
      · skip
        refine lv_iload_n hx hb dX7_isDraft_74 rfl (lv_at hl 1 rfl) ?_
        rw [hQ]
        exact ah_zret E hr (by first | exact bI_nz _ | decide) hP hS ⟨rfl, by rw [hval]⟩ (Nat.le_of_ble_eq_true rfl) (Nat.le_of_ble_eq_true rfl) dX7_isDraft_75
      · skip
        refine lv_iload_n hx hb dX7_isDraft_38 rfl (lv_at hl 1 rfl) ?_
        refine ah_ifb_eq (tgt := 74) hx hb dX7_isDraft_39 (by decide) (fun hc39 => ?_) (fun hc39 => ?_)
        · skip
          refine lv_iload_n hx hb dX7_isDraft_74 rfl (lv_at hl 1 rfl) ?_
          rw [hQ]
          exact ah_zret E hr (by first | exact bI_nz _ | decide) hP hS ⟨rfl, by rw [hval]⟩ (Nat.le_of_ble_eq_true rfl) (Nat.le_of_ble_eq_true rfl) dX7_isDraft_75
        · skip
          exact absurd hc39 (by decide)
    · skip
      have hwd : w.length = dr.length := by omega
      have hdb := ah_getD_le hdok.2
      have hlem : md_eq (fun k => w.getD k 0) (fun k => dr.getD k 0) dr.length = decide (w = dr) := (md_eqt (Nat.le_refl _) hwd (fun k hk => rfl)).trans (by rw [List.take_length]; exact decide_eq_decide.mpr eq_comm)
      have hval : ah_sat P (fun u => decide (u = dr)) i = decide (w = dr) := hval0
      refine lv_iconst (v := (bI_ true)) hx hb dX7_isDraft_22 (by decide) ?_
      refine lv_goto (tgt := 27) hx hb dX7_isDraft_23 (by decide) ?_
      refine lv_istore_n (lv' := [(2, .int (bI_ true)), (0, .ref mo), (1, .int (nI i))]) hx hb dX7_isDraft_27 rfl hl (by decide) rfl (fun ls hl => ?_)
      refine lv_iconst (v := (nI 0)) hx hb dX7_isDraft_28 (by decide) ?_
      refine lv_istore_n (lv' := [(3, .int (nI 0)), (2, .int (bI_ true)), (0, .ref mo), (1, .int (nI i))]) hx hb dX7_isDraft_29 rfl hl (by decide) rfl (fun ls hl => ?_)
      have L30 : ∀ (fuel : Nat), ∀ (k : Nat) (b : Bool), dr.length - k < fuel → k ≤ dr.length → b = md_eq (fun k => w.getD k 0) (fun k => dr.getD k 0) k → ∀ (H : Heap) (locs : List Loc), ah_K A D F H → va_S A s.heap H locs → ∀ (ls : Array Slot), lv_has ls 4 [(0, .ref mo), (1, .int (nI i)), (2, .int (bI_ b)), (3, .int (nI k))] → W p l e { frames := 0, cells := 0, slots := 0, locals := 0 } s m [.ref mo, .int (nI i)].toArray below meth c H locs 0 0 Q (F0 m 30 ls []) := by
        intro fuel
        induction fuel with
        | zero =>
          intro k b hm
          exact absurd hm (Nat.not_lt_zero _)
        | succ fuel ih =>
          intro k b hm hk hb H locs hP hS ls hl
          refine lv_iload_n hx hb dX7_isDraft_30 rfl (lv_at hl 3 rfl) ?_
          refine lv_aload_n hx hb dX7_isDraft_31 rfl (lv_at hl 0 rfl) ?_
          refine gf_Mod_43 E hP hmo rfl dX7_isDraft_32 ?_
          refine ah_icmp_ge (tgt := 74) hx hb (by omega) (by omega) dX7_isDraft_35 (by decide) (fun hc35 => ?_) (fun hc35 => ?_)
          · skip
            refine lv_iload_n hx hb dX7_isDraft_74 rfl (lv_at hl 2 rfl) ?_
            rw [hQ]
            exact ah_zret E hr (by first | exact bI_nz _ | decide) hP hS ⟨rfl, by rw [hval, ← hlem, hb, show k = dr.length by omega]⟩ (Nat.le_of_ble_eq_true rfl) (Nat.le_of_ble_eq_true rfl) dX7_isDraft_75
          · skip
            refine lv_iload_n hx hb dX7_isDraft_38 rfl (lv_at hl 2 rfl) ?_
            refine ah_ifb_eq (tgt := 74) hx hb dX7_isDraft_39 (by decide) (fun hc39 => ?_) (fun hc39 => ?_)
            · skip
              refine lv_iload_n hx hb dX7_isDraft_74 rfl (lv_at hl 2 rfl) ?_
              rw [hQ]
              exact ah_zret E hr (by first | exact bI_nz _ | decide) hP hS ⟨rfl, by rw [hval, ← hlem, hc39, md_eq_no hk (hb.symm.trans hc39)]⟩ (Nat.le_of_ble_eq_true rfl) (Nat.le_of_ble_eq_true rfl) dX7_isDraft_75
            · skip
              refine lv_aload_n hx hb dX7_isDraft_42 rfl (lv_at hl 0 rfl) ?_
              refine gf_Mod_20 E hP hmo rfl dX7_isDraft_43 ?_
              refine lv_bipush (v := (nI 8)) hx hb dX7_isDraft_46 (by decide) ?_
              refine lv_iload_n hx hb dX7_isDraft_48 rfl (lv_at hl 1 rfl) ?_
              refine ah_imul hx hb dX7_isDraft_49 ?_
              refine lv_iload_n hx hb dX7_isDraft_50 rfl (lv_at hl 3 rfl) ?_
              refine ah_iadd hx hb dX7_isDraft_51 ?_
              refine ah_iald E hP heA (by omega) (by omega) dX7_isDraft_52 ?_
              rw [hew k (by omega)]
              refine lv_aload_n hx hb dX7_isDraft_53 rfl (lv_at hl 0 rfl) ?_
              refine gf_Mod_7 E hP hmo rfl dX7_isDraft_54 ?_
              refine lv_iload_n hx hb dX7_isDraft_57 rfl (lv_at hl 3 rfl) ?_
              refine ah_iald E hP hdA (by omega) (by omega) dX7_isDraft_58 ?_
              rw [hdd k (by omega)]
              refine ah_icmp_ne (tgt := 66) hx hb (by have := hwb k; omega) (by have := hdb k; omega) dX7_isDraft_59 (by decide) (fun hc59 => ?_) (fun hc59 => ?_)
              · skip
                refine lv_iconst (v := (bI_ false)) hx hb dX7_isDraft_66 (by decide) ?_
                refine lv_istore_n (lv' := [(2, .int (bI_ false)), (0, .ref mo), (1, .int (nI i)), (3, .int (nI k))]) hx hb dX7_isDraft_67 rfl hl (by decide) rfl (fun ls hl => ?_)
                refine lv_iinc (v := (nI (k + 1))) (lv' := [(3, .int (nI (k + 1))), (2, .int (bI_ false)), (0, .ref mo), (1, .int (nI i))]) hx hb dX7_isDraft_68 hl (k := 3) rfl (ah_inc _) (by decide) rfl (fun ls hl => ?_)
                refine lv_goto (tgt := 30) hx hb dX7_isDraft_71 (by decide) ?_
                exact ih (k + 1) false (by omega) (by omega) (md_eq_f (by simp only; omega)) _ _ hP hS ls (lv_sub hl [2, 3, 1, 0] rfl)
              · skip
                refine lv_iconst (v := (bI_ true)) hx hb dX7_isDraft_62 (by decide) ?_
                refine lv_goto (tgt := 67) hx hb dX7_isDraft_63 (by decide) ?_
                refine lv_istore_n (lv' := [(2, .int (bI_ true)), (0, .ref mo), (1, .int (nI i)), (3, .int (nI k))]) hx hb dX7_isDraft_67 rfl hl (by decide) rfl (fun ls hl => ?_)
                refine lv_iinc (v := (nI (k + 1))) (lv' := [(3, .int (nI (k + 1))), (2, .int (bI_ true)), (0, .ref mo), (1, .int (nI i))]) hx hb dX7_isDraft_68 hl (k := 3) rfl (ah_inc _) (by decide) rfl (fun ls hl => ?_)
                refine lv_goto (tgt := 30) hx hb dX7_isDraft_71 (by decide) ?_
                exact ih (k + 1) true (by omega) (by omega) (md_eq_t hb hc39 (by simp only; omega)) _ _ hP hS ls (lv_sub hl [2, 3, 1, 0] rfl)
      exact L30 (dr.length + 1) 0 true (by omega) (Nat.zero_le _) rfl _ _ hP hS ls (lv_sub hl [2, 3, 1, 0] rfl)
