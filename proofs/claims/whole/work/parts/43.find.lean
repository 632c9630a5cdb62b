/-- what the reference holds while it looks for the longest that ends at an end -/
def md_bz (P : ah_Pt) (f : List Nat → Bool) (e o z : Nat) (ip il : Int32) : Prop := match ah_best P f o with
  | none => z = 0
  | some j => z = (ah_w P j).length ∧ ip = nI j ∧ il = nI (e - z)
theorem md_bz_0 {P : ah_Pt} {f : List Nat → Bool} {e : Nat} {ip il : Int32} : md_bz P f e 0 0 ip il := rfl
theorem md_bz_f {P : ah_Pt} {f : List Nat → Bool} {e o z : Nat} {ip il : Int32} (h : md_bz P f e o z ip il) (hs : ah_sat P f o = false) : md_bz P f e (o + 1) z ip il := by
  rw [md_bz, ah_best_f hs]; exact h
theorem md_bz_k {P : ah_Pt} {f : List Nat → Bool} {e o z : Nat} {ip il : Int32} (hP : ah_Pok P) (h : md_bz P f e o z ip il) (hs : ah_sat P f o = true) (hz : (ah_w P o).length ≤ z) : md_bz P f e (o + 1) z ip il := by
  rw [md_bz] at h ⊢
  obtain ⟨w, r, h1, -⟩ := ah_sat_t hs
  have hw := List.length_pos_iff.mpr (hP _ _ _ h1).2.2
  rw [← ah_w_s h1] at hw
  cases e1 : ah_best P f o with
  | none => rw [e1] at h; have h : z = 0 := h; omega
  | some j =>
    rw [e1] at h
    have h : z = (ah_w P j).length ∧ ip = nI j ∧ il = nI (e - z) := h
    rw [ah_best_k hs e1 (by omega)]
    exact h
theorem md_bz_g {P : ah_Pt} {f : List Nat → Bool} {e o z : Nat} {ip il : Int32} (h : md_bz P f e o z ip il) (hs : ah_sat P f o = true) (hz : z < (ah_w P o).length) {c : Nat} (hc : (ah_w P o).length = c) : md_bz P f e (o + 1) c (nI o) (nI (e - c)) := by
  subst hc
  rw [md_bz] at h ⊢
  cases e1 : ah_best P f o with
  | none => rw [ah_best_0 hs e1]; exact ⟨rfl, rfl, rfl⟩
  | some j =>
    rw [e1] at h
    have h : z = (ah_w P j).length ∧ ip = nI j ∧ il = nI (e - z) := h
    rw [ah_best_g hs e1 (by omega)]
    exact ⟨rfl, rfl, rfl⟩
set_option maxHeartbeats 4000000 in
set_option maxRecDepth 100000 in
/-- itsEnd -/
theorem m_itsEnd (l : Launch) (A : Nat → Prop) (D : ah_G) (F : ah_F) {mo dA tA lA eA nlA neA sA n : Nat} {P : ah_Pt} {dr S : List Nat} {td th : Int32} {j p0 : Nat} {ln : Nat → Nat} {df tf lf ef nlf nef sf : Nat → Int32} (hmo : F mo = some (.inr (7, [.int th, .ref dA, .int (nI dr.length), .int (nI n), .ref tA, .ref lA, .ref eA, .ref nlA, .ref neA, .ref sA, .int (nI S.length), .int td, .int (nI j), .int (nI p0)]))) (hdA : F dA = some (ah_ai D 8 df)) (htA : F tA = some (ah_az D 40 tf)) (hlA : F lA = some (ah_ai D 40 lf)) (heA : F eA = some (ah_ai D 320 ef)) (hnlA : F nlA = some (ah_ai D 40 nlf)) (hneA : F neA = some (ah_ai D 320 nef)) (hsA : F sA = some (ah_ai D 200 sf)) (hL : md_L P n dr S ln df tf lf ef nlf nef sf) {w r0 : List Nat} (hPj : P j = some (w, r0)) (hp0 : p0 ≤ 1000) : Met l yX7_itsEnd (Cond.code yX7_itsEnd cX7_itsEnd 1 (some .int) :: ah_T) { frames := 0, cells := 0, slots := 0, locals := 0 } (va_Pc [.ref mo] (ah_B A D F)) (ah_Qi A D (fun (r : Int32) F1 => F = F1 ∧ nI (p0 + w.length) = r)) 0 0 A := by
  refine ah_met (own := "AhoarchModel") (by decide) rfl (Nat.le_of_ble_eq_true rfl) ?_
  intro p e s m below meth c ls E hr hini hl hP hS Q hQ
  have hx := E.1
  have hb := E.2.1
  have hl : lv_has ls 1 [(0, .ref mo)] := hl
  obtain ⟨hn40, hPn, hdok, hSl, hS200, hPok, hdis, hp20, hln, hlP, hdd, hss⟩ := id hL
  have hdl := hdok.1
  have hjn := md_lt (i := j) hPn (by rw [hPj]; rfl)
  obtain ⟨hl8, hlf, htf⟩ := hln j hjn
  have hlw := (hlP j w r0 hPj).1
  refine lv_aload_n hx hb dX7_itsEnd_0 rfl (lv_at hl 0 rfl) ?_
  refine gf_Mod_93 E hP hmo rfl dX7_itsEnd_1 ?_
  refine lv_aload_n hx hb dX7_itsEnd_4 rfl (lv_at hl 0 rfl) ?_
  refine gf_Mod_17 E hP hmo rfl dX7_itsEnd_5 ?_
  refine lv_aload_n hx hb dX7_itsEnd_8 rfl (lv_at hl 0 rfl) ?_
  refine gf_Mod_90 E hP hmo rfl dX7_itsEnd_9 ?_
  refine ah_iald E hP hlA (by omega) (by omega) dX7_itsEnd_12 ?_
  rw [hlf, hlw]
  refine ah_iadd hx hb dX7_itsEnd_13 ?_
  rw [hQ]
  exact ah_iret E hr hP hS ⟨rfl, rfl⟩ (Nat.le_of_ble_eq_true rfl) (Nat.le_of_ble_eq_true rfl) dX7_itsEnd_14
