theorem md_l8d {S : List Nat} {c : Nat} (h : c ≤ 8) (h2 : c ≤ S.length) : (ah_l8 S).drop ((ah_l8 S).length - c) = S.drop (S.length - c) := by
  rw [ah_l8, List.drop_drop, List.length_drop, show S.length - 8 + (S.length - (S.length - 8) - c) = S.length - c by omega]
theorem md_le_d {P : ah_Pt} {S : List Nat} {c n : Nat} (hn : n ≤ 40) (hP : ∀ i, n ≤ i → P i = none) (h1 : 1 ≤ c) (h8 : c ≤ 8) (h2 : c ≤ S.length) : ah_le P (ah_l8 S) c = if ah_any (ah_sat P (fun u => ah_bw (S.drop (S.length - c)) u)) n then c else ah_le P (ah_l8 S) (c - 1) := by
  have e : ah_sat P (fun u => ah_bw (S.drop (S.length - c)) u) = ah_sat P (fun u => decide (c ≤ u.length) && ah_bw ((ah_l8 S).drop ((ah_l8 S).length - c)) u) := funext fun i => md_sat_congr fun u => by rw [md_l8d h8 h2, md_bw_len (by rw [List.length_drop]; omega)]
  rw [e, ← md_any_off hn hP]
  cases q : ah_any (ah_sat P (fun u => decide (c ≤ u.length) && ah_bw ((ah_l8 S).drop ((ah_l8 S).length - c)) u)) 40 with
  | true => rw [if_pos rfl, ah_le_t h1 q]
  | false => rw [if_neg (by decide), ah_le_f h1 q]
theorem md_ov_s {w u : List Nat} {c : Nat} (h1 : 1 ≤ c) (h2 : c ≤ w.length) {v : Bool} (h : ah_bw ((w.drop (w.length - c)).take c) u = v) : ah_ov w u c = if v then c else ah_ov w u (c - 1) := by
  rw [md_dt h2] at h
  subst h
  cases q : ah_bw (w.drop (w.length - c)) u with
  | true => rw [if_pos rfl, ah_ov_t h1 q]
  | false => rw [if_neg (by decide), ah_ov_f h1 q]
theorem md_gr_f1 {P : ah_Pt} {S : List Nat} {o c pl : Nat} (h : ∀ w r, P o = some (w, r) → c = w.length) (hc : c ≤ S.length - pl) : ah_sat P (fun w => decide (S.length - pl + 1 ≤ w.length) && ah_bw (S.drop pl) w) o = false := by
  cases hp : P o with
  | none => exact md_sat_n (by rw [hp]; rfl)
  | some q =>
    obtain ⟨w, r⟩ := q
    have := h w r hp
    rw [md_sat_s hp, decide_eq_false (by omega), Bool.false_and]
theorem md_gr_2 {P : ah_Pt} {S : List Nat} {o c pl : Nat} (h : ∀ w r, P o = some (w, r) → c = w.length) (hc : S.length - pl < c) {v : Bool} (h2 : ah_sat P (fun u => ah_bw (S.drop pl) u) o = v) : ah_sat P (fun w => decide (S.length - pl + 1 ≤ w.length) && ah_bw (S.drop pl) w) o = v := by
  cases hp : P o with
  | none => rw [md_sat_n (by rw [hp]; rfl)] at h2; subst h2; exact md_sat_n (by rw [hp]; rfl)
  | some q =>
    obtain ⟨w, r⟩ := q
    have := h w r hp
    rw [md_sat_s hp] at h2
    rw [md_sat_s hp, decide_eq_true (by omega), Bool.true_and, h2]
set_option maxHeartbeats 4000000 in
set_option maxRecDepth 100000 in
/-- depth -/
theorem m_depth (l : Launch) (A : Nat → Prop) (D : ah_G) (F : ah_F) {mo n : Nat} {P : ah_Pt} {dr S : List Nat} {td th : Int32} (hC : md_C D F mo P n dr S td th)  : Met l yX7_depth (Cond.code yX7_depth cX7_depth 4 (some .int) :: ah_T) { frames := 1, cells := 0, slots := 0, locals := 24 } (va_Pc [.ref mo] (ah_B A D F)) (ah_Qi A D (fun (r : Int32) F1 => md_An D F1 mo (0, nI (ah_le P (ah_l8 S) (min S.length 8)), (P, n, dr, S, td)) r)) 0 0 A := by
  refine ah_met (own := "AhoarchModel") (by decide) rfl (Nat.le_of_ble_eq_true rfl) ?_
  intro p e s m below meth c ls E hr hini hl hP hS Q hQ
  have hx := E.1
  have hb := E.2.1
  have hl : lv_has ls 4 [(0, .ref mo)] := hl
  obtain ⟨dA, tA, lA, eA, nlA, neA, sA, ip, il, ln, df, tf, lf, ef, nlf, nef, sf, hmo, hdA, htA, hlA, heA, hnlA, hneA, hsA, hne1, hne2, hne3, hne4, hL⟩ := id hC
  obtain ⟨hn40, hPn, hdok, hSl, hS200, hPok, hdis, hp20, hln, hlP, hdd, hss⟩ := id hL
  have hdl := hdok.1
  refine lv_aload_n hx hb dX7_depth_0 rfl (lv_at hl 0 rfl) ?_
  refine lv_iconst (v := (nI 0)) hx hb dX7_depth_1 (by decide) ?_
  refine pf_Mod_32 E hP hS hmo (Nat.le_of_ble_eq_true rfl) dX7_depth_2 (fun H locs hP hS => ?_)
  obtain ⟨F1, eF1⟩ : ∃ Fz : ah_F, Fz = ah_up F mo (.inr (7, [.int (nI 0), .ref dA, .int (nI dr.length), .int (nI n), .ref tA, .ref lA, .ref eA, .ref nlA, .ref neA, .ref sA, .int (nI S.length), .int td, .int ip, .int il])) := ⟨_, rfl⟩
  have hP : ah_K A D F1 H := by rw [eF1]; exact hP
  have hF2 : F1 mo = some (.inr (7, [.int (nI 0), .ref dA, .int (nI dr.length), .int (nI n), .ref tA, .ref lA, .ref eA, .ref nlA, .ref neA, .ref sA, .int (nI S.length), .int td, .int ip, .int il])) := by rw [eF1]; exact ah_up_s _ _ _
  have hF3 : F1 dA = some (ah_ai D 8 df) := by rw [eF1]; exact ah_keep hmo hdA rfl
  have hF4 : F1 tA = some (ah_az D 40 tf) := by rw [eF1]; exact ah_keep hmo htA rfl
  have hF5 : F1 lA = some (ah_ai D 40 lf) := by rw [eF1]; exact ah_keep hmo hlA rfl
  have hF6 : F1 eA = some (ah_ai D 320 ef) := by rw [eF1]; exact ah_keep hmo heA rfl
  have hF7 : F1 nlA = some (ah_ai D 40 nlf) := by rw [eF1]; exact ah_keep hmo hnlA rfl
  have hF8 : F1 neA = some (ah_ai D 320 nef) := by rw [eF1]; exact ah_keep hmo hneA rfl
  have hF9 : F1 sA = some (ah_ai D 200 sf) := by rw [eF1]; exact ah_keep hmo hsA rfl
  refine lv_iconst (v := (nI 0)) hx hb dX7_depth_5 (by decide) ?_
  refine lv_istore_n (lv' := [(1, .int (nI 0)), (0, .ref mo)]) hx hb dX7_depth_6 rfl hl (by decide) rfl (fun ls hl => ?_)
  refine lv_iconst (v := (nI 1)) hx hb dX7_depth_7 (by decide) ?_
  refine lv_istore_n (lv' := [(2, .int (nI 1)), (1, .int (nI 0)), (0, .ref mo)]) hx hb dX7_depth_8 rfl hl (by decide) rfl (fun ls hl => ?_)
  have L9 : ∀ (fuel : Nat), ∀ (c0 lo : Nat), 9 - c0 < fuel → 1 ≤ c0 → c0 ≤ min S.length 8 + 1 → lo = ah_le P (ah_l8 S) (c0 - 1) → lo ≤ 8 → ∀ (H : Heap) (locs : List Loc), ah_K A D F1 H → va_S A s.heap H locs → ∀ (ls : Array Slot), lv_has ls 4 [(0, .ref mo), (1, .int (nI lo)), (2, .int (nI c0))] → W p l e { frames := 1, cells := 0, slots := 0, locals := 24 } s m [.ref mo].toArray below meth c H locs 0 0 Q (F0 m 9 ls []) := by
    intro fuel
    induction fuel with
    | zero =>
      intro c0 lo hm
      exact absurd hm (Nat.not_lt_zero _)
    | succ fuel ih9 =>
      intro c0 lo hm hc1 hc2 hlo hlo8 H locs hP hS ls hl
      refine lv_iload_n hx hb dX7_depth_9 rfl (lv_at hl 2 rfl) ?_
      refine lv_bipush (v := (nI 8)) hx hb dX7_depth_10 (by decide) ?_
      refine ah_icmp_gt (tgt := 65) hx hb (by omega) (by omega) dX7_depth_12 (by decide) (fun hc12 => ?_) (fun hc12 => ?_)
      · skip
        refine lv_iload_n hx hb dX7_depth_65 rfl (lv_at hl 1 rfl) ?_
        rw [hQ]
        exact ah_iret E hr hP hS (md_An_i (k := 0) (v := _) (rfl) ⟨dA, tA, lA, eA, nlA, neA, sA, _, _, ln, _, _, _, _, _, _, _, hF2, hF3, hF4, hF5, hF6, hF7, hF8, hF9, hne1, hne2, hne3, hne4, hL⟩ (fun _ => by rw [hlo, show c0 - 1 = min S.length 8 by omega])) (Nat.le_of_ble_eq_true rfl) (Nat.le_of_ble_eq_true rfl) dX7_depth_66
      · skip
        refine lv_iload_n hx hb dX7_depth_15 rfl (lv_at hl 2 rfl) ?_
        refine lv_aload_n hx hb dX7_depth_16 rfl (lv_at hl 0 rfl) ?_
        refine gf_Mod_67 E hP hF2 rfl dX7_depth_17 ?_
        refine ah_icmp_gt (tgt := 65) hx hb (by omega) (by omega) dX7_depth_20 (by decide) (fun hc20 => ?_) (fun hc20 => ?_)
        · skip
          refine lv_iload_n hx hb dX7_depth_65 rfl (lv_at hl 1 rfl) ?_
          rw [hQ]
          exact ah_iret E hr hP hS (md_An_i (k := 0) (v := _) (rfl) ⟨dA, tA, lA, eA, nlA, neA, sA, _, _, ln, _, _, _, _, _, _, _, hF2, hF3, hF4, hF5, hF6, hF7, hF8, hF9, hne1, hne2, hne3, hne4, hL⟩ (fun _ => by rw [hlo, show c0 - 1 = min S.length 8 by omega])) (Nat.le_of_ble_eq_true rfl) (Nat.le_of_ble_eq_true rfl) dX7_depth_66
        · skip
          refine lv_iconst (v := (nI 0)) hx hb dX7_depth_23 (by decide) ?_
          refine lv_istore_n (lv' := [(3, .int (nI 0)), (0, .ref mo), (1, .int (nI lo)), (2, .int (nI c0))]) hx hb dX7_depth_24 rfl hl (by decide) rfl (fun ls hl => ?_)
          have L25 : ∀ (fuel : Nat), ∀ (o x : Nat), n - o < fuel → o ≤ n → x = (if ah_any (ah_sat P (fun u => ah_bw (S.drop (S.length - c0)) u)) o then c0 else ah_le P (ah_l8 S) (c0 - 1)) → x ≤ 8 → ∀ (H : Heap) (locs : List Loc), ah_K A D F1 H → va_S A s.heap H locs → ∀ (ls : Array Slot), lv_has ls 4 [(0, .ref mo), (1, .int (nI x)), (2, .int (nI c0)), (3, .int (nI o))] → W p l e { frames := 1, cells := 0, slots := 0, locals := 24 } s m [.ref mo].toArray below meth c H locs 0 0 Q (F0 m 25 ls []) := by
            intro fuel
            induction fuel with
            | zero =>
              intro o x hm
              exact absurd hm (Nat.not_lt_zero _)
            | succ fuel ih25 =>
              intro o x hm ho hxe hx8 H locs hP hS ls hl
              refine lv_iload_n hx hb dX7_depth_25 rfl (lv_at hl 3 rfl) ?_
              refine lv_aload_n hx hb dX7_depth_26 rfl (lv_at hl 0 rfl) ?_
              refine gf_Mod_36 E hP hF2 rfl dX7_depth_27 ?_
              refine ah_icmp_ge (tgt := 59) hx hb (by omega) (by omega) dX7_depth_30 (by decide) (fun hc30 => ?_) (fun hc30 => ?_)
              · skip
                refine lv_iinc (v := (nI (c0 + 1))) (lv' := [(2, .int (nI (c0 + 1))), (0, .ref mo), (1, .int (nI x)), (3, .int (nI o))]) hx hb dX7_depth_59 hl (k := 2) rfl (ah_inc _) (by decide) rfl (fun ls hl => ?_)
                refine lv_goto (tgt := 9) hx hb dX7_depth_62 (by decide) ?_
                exact ih9 (c0 + 1) _ (by omega) (by omega) (by omega) (by rw [hxe, show o = n by omega]; exact (md_le_d hn40 hPn hc1 (by omega) (by omega)).symm) (by omega) _ _ hP hS ls (lv_sub hl [1, 2, 0] rfl)
              · skip
                refine lv_aload_n hx hb dX7_depth_33 rfl (lv_at hl 0 rfl) ?_
                refine lv_aload_n hx hb dX7_depth_34 rfl (lv_at hl 0 rfl) ?_
                refine gf_Mod_67 E hP hF2 rfl dX7_depth_35 ?_
                refine lv_iload_n hx hb dX7_depth_38 rfl (lv_at hl 2 rfl) ?_
                refine ah_isub hx hb (by omega) dX7_depth_39 ?_
                refine lv_iload_n hx hb dX7_depth_40 rfl (lv_at hl 3 rfl) ?_
                refine ah_calli (ah_runV E hP hS (As := [.int (nI (S.length - c0)), .int (nI o)]) (rest := []) (b := mo) (m_isBeginning l A D _ hF2 hF3 hF4 hF5 hF6 hF7 hF8 hF9 hL (pl := S.length - c0) (i := o) (by omega) (by omega)) lk_Mod_84 li_Mod_84 hF2 rfl ⟨rfl, rfl, (Nat.le_of_ble_eq_true rfl), (Nat.le_of_ble_eq_true rfl)⟩ rfl hl.1 rfl (Nat.le_of_ble_eq_true rfl) dX7_depth_41 ⟨(Nat.le_of_ble_eq_true rfl), (Nat.le_of_ble_eq_true rfl)⟩) hS (fun r F10 H locs hq hP hS => ?_)
                obtain ⟨rfl, rfl⟩ := hq
                refine ah_ifb_eq (tgt := 51) hx hb dX7_depth_44 (by decide) (fun hc44 => ?_) (fun hc44 => ?_)
                · skip
                  refine lv_iload_n hx hb dX7_depth_51 rfl (lv_at hl 1 rfl) ?_
                  refine lv_istore_n (lv' := [(1, .int (nI x)), (0, .ref mo), (2, .int (nI c0)), (3, .int (nI o))]) hx hb dX7_depth_52 rfl hl (by decide) rfl (fun ls hl => ?_)
                  refine lv_iinc (v := (nI (o + 1))) (lv' := [(3, .int (nI (o + 1))), (1, .int (nI x)), (0, .ref mo), (2, .int (nI c0))]) hx hb dX7_depth_53 hl (k := 3) rfl (ah_inc _) (by decide) rfl (fun ls hl => ?_)
                  refine lv_goto (tgt := 25) hx hb dX7_depth_56 (by decide) ?_
                  exact ih25 (o + 1) _ (by omega) (by omega) (md_if_f hxe hc44) hx8 _ _ hP hS ls (lv_sub hl [2, 1, 3, 0] rfl)
                · skip
                  refine lv_iload_n hx hb dX7_depth_47 rfl (lv_at hl 2 rfl) ?_
                  refine lv_goto (tgt := 52) hx hb dX7_depth_48 (by decide) ?_
                  refine lv_istore_n (lv' := [(1, .int (nI c0)), (0, .ref mo), (2, .int (nI c0)), (3, .int (nI o))]) hx hb dX7_depth_52 rfl hl (by decide) rfl (fun ls hl => ?_)
                  refine lv_iinc (v := (nI (o + 1))) (lv' := [(3, .int (nI (o + 1))), (1, .int (nI c0)), (0, .ref mo), (2, .int (nI c0))]) hx hb dX7_depth_53 hl (k := 3) rfl (ah_inc _) (by decide) rfl (fun ls hl => ?_)
                  refine lv_goto (tgt := 25) hx hb dX7_depth_56 (by decide) ?_
                  exact ih25 (o + 1) _ (by omega) (by omega) (md_if_t hc44) (by omega) _ _ hP hS ls (lv_sub hl [2, 1, 3, 0] rfl)
          exact L25 (n + 1) 0 lo (by omega) (Nat.zero_le _) (by rw [ah_any]; exact hlo) hlo8 _ _ hP hS ls (lv_sub hl [1, 2, 3, 0] rfl)
  exact L9 (9) 1 0 (by omega) (by omega) (by omega) rfl (by omega) _ _ hP hS ls (lv_sub hl [2, 1, 0] rfl)

set_option maxHeartbeats 4000000 in
set_option maxRecDepth 100000 in
/-- isOpen -/
theorem m_isOpen (l : Launch) (A : Nat → Prop) (D : ah_G) (F : ah_F) {mo dA tA lA eA nlA neA sA n : Nat} {P : ah_Pt} {dr S : List Nat} {td th ip il : Int32} {ln : Nat → Nat} {df tf lf ef nlf nef sf : Nat → Int32} (hmo : F mo = some (.inr (7, [.int th, .ref dA, .int (nI dr.length), .int (nI n), .ref tA, .ref lA, .ref eA, .ref nlA, .ref neA, .ref sA, .int (nI S.length), .int td, .int ip, .int il]))) (hdA : F dA = some (ah_ai D 8 df)) (htA : F tA = some (ah_az D 40 tf)) (hlA : F lA = some (ah_ai D 40 lf)) (heA : F eA = some (ah_ai D 320 ef)) (hnlA : F nlA = some (ah_ai D 40 nlf)) (hneA : F neA = some (ah_ai D 320 nef)) (hsA : F sA = some (ah_ai D 200 sf)) (hL : md_L P n dr S ln df tf lf ef nlf nef sf) {pl : Nat} (hpl : pl ≤ S.length) : Met l yX7_isOpen (Cond.code yX7_isOpen cX7_isOpen 4 (some .boolean) :: ah_T) { frames := 1, cells := 0, slots := 0, locals := 24 } (va_Pc [.ref mo, .int (nI pl)] (ah_B A D F)) (ah_Qi A D (fun (r : Int32) F1 => F = F1 ∧ bI_ (ah_gr P S pl) = r)) 0 0 A := by
  refine ah_met (own := "AhoarchModel") (by decide) rfl (Nat.le_of_ble_eq_true rfl) ?_
  intro p e s m below meth c ls E hr hini hl hP hS Q hQ
  have hx := E.1
  have hb := E.2.1
  have hl : lv_has ls 4 [(0, .ref mo), (1, .int (nI pl))] := hl
  obtain ⟨hn40, hPn, hdok, hSl, hS200, hPok, hdis, hp20, hln, hlP, hdd, hss⟩ := id hL
  have hdl := hdok.1
  refine lv_iconst (v := (bI_ false)) hx hb dX7_isOpen_0 (by decide) ?_
  refine lv_istore_n (lv' := [(2, .int (bI_ false)), (0, .ref mo), (1, .int (nI pl))]) hx hb dX7_isOpen_1 rfl hl (by decide) rfl (fun ls hl => ?_)
  refine lv_iconst (v := (nI 0)) hx hb dX7_isOpen_2 (by decide) ?_
  refine lv_istore_n (lv' := [(3, .int (nI 0)), (2, .int (bI_ false)), (0, .ref mo), (1, .int (nI pl))]) hx hb dX7_isOpen_3 rfl hl (by decide) rfl (fun ls hl => ?_)
  have L4 : ∀ (fuel : Nat), ∀ (o : Nat) (b : Bool), n - o < fuel → o ≤ n → b = ah_any (ah_sat P (fun w => decide (S.length - pl + 1 ≤ w.length) && ah_bw (S.drop pl) w)) o → ∀ (H : Heap) (locs : List Loc), ah_K A D F H → va_S A s.heap H locs → ∀ (ls : Array Slot), lv_has ls 4 [(0, .ref mo), (1, .int (nI pl)), (2, .int (bI_ b)), (3, .int (nI o))] → W p l e { frames := 1, cells := 0, slots := 0, locals := 24 } s m [.ref mo, .int (nI pl)].toArray below meth c H locs 0 0 Q (F0 m 4 ls []) := by
    intro fuel
    induction fuel with
    | zero =>
      intro o b hm
      exact absurd hm (Nat.not_lt_zero _)
    | succ fuel ih4 =>
      intro o b hm ho hbe H locs hP hS ls hl
      refine lv_iload_n hx hb dX7_isOpen_4 rfl (lv_at hl 3 rfl) ?_
      refine lv_aload_n hx hb dX7_isOpen_5 rfl (lv_at hl 0 rfl) ?_
      refine gf_Mod_36 E hP hmo rfl dX7_isOpen_6 ?_
      refine ah_icmp_ge (tgt := 52) hx hb (by omega) (by omega) dX7_isOpen_9 (by decide) (fun hc9 => ?_) (fun hc9 => ?_)
      · skip
        refine lv_iload_n hx hb dX7_isOpen_52 rfl (lv_at hl 2 rfl) ?_
        rw [hQ]
        exact ah_zret E hr (by first | exact bI_nz _ | decide) hP hS ⟨rfl, by rw [hbe, show o = n by omega, ah_gr, md_any_off hn40 hPn]⟩ (Nat.le_of_ble_eq_true rfl) (Nat.le_of_ble_eq_true rfl) dX7_isOpen_53
      · skip
        obtain ⟨hl8, hlf, htf⟩ := hln o (by omega)
        have hlk := fun w r h => (hlP o w r h).1
        refine lv_iload_n hx hb dX7_isOpen_12 rfl (lv_at hl 2 rfl) ?_
        refine ah_ifb_ne (tgt := 40) hx hb dX7_isOpen_13 (by decide) (fun hc13 => ?_) (fun hc13 => ?_)
        · skip
          refine lv_iconst (v := (bI_ true)) hx hb dX7_isOpen_40 (by decide) ?_
          refine lv_goto (tgt := 45) hx hb dX7_isOpen_41 (by decide) ?_
          refine lv_istore_n (lv' := [(2, .int (bI_ true)), (0, .ref mo), (1, .int (nI pl)), (3, .int (nI o))]) hx hb dX7_isOpen_45 rfl hl (by decide) rfl (fun ls hl => ?_)
          refine lv_iinc (v := (nI (o + 1))) (lv' := [(3, .int (nI (o + 1))), (2, .int (bI_ true)), (0, .ref mo), (1, .int (nI pl))]) hx hb dX7_isOpen_46 hl (k := 3) rfl (ah_inc _) (by decide) rfl (fun ls hl => ?_)
          refine lv_goto (tgt := 4) hx hb dX7_isOpen_49 (by decide) ?_
          exact ih4 (o + 1) true (by omega) (by omega) (by rw [ah_any, ← hbe, hc13]; rfl) _ _ hP hS ls (lv_sub hl [2, 3, 1, 0] rfl)
        · skip
          refine lv_aload_n hx hb dX7_isOpen_16 rfl (lv_at hl 0 rfl) ?_
          refine gf_Mod_67 E hP hmo rfl dX7_isOpen_17 ?_
          refine lv_iload_n hx hb dX7_isOpen_20 rfl (lv_at hl 1 rfl) ?_
          refine ah_isub hx hb (by omega) dX7_isOpen_21 ?_
          refine lv_aload_n hx hb dX7_isOpen_22 rfl (lv_at hl 0 rfl) ?_
          refine gf_Mod_17 E hP hmo rfl dX7_isOpen_23 ?_
          refine lv_iload_n hx hb dX7_isOpen_26 rfl (lv_at hl 3 rfl) ?_
          refine ah_iald E hP hlA (by omega) (by omega) dX7_isOpen_27 ?_
          rw [hlf]
          refine ah_icmp_ge (tgt := 44) hx hb (by omega) (by omega) dX7_isOpen_28 (by decide) (fun hc28 => ?_) (fun hc28 => ?_)
          · skip
            refine lv_iconst (v := (bI_ false)) hx hb dX7_isOpen_44 (by decide) ?_
            refine lv_istore_n (lv' := [(2, .int (bI_ false)), (0, .ref mo), (1, .int (nI pl)), (3, .int (nI o))]) hx hb dX7_isOpen_45 rfl hl (by decide) rfl (fun ls hl => ?_)
            refine lv_iinc (v := (nI (o + 1))) (lv' := [(3, .int (nI (o + 1))), (2, .int (bI_ false)), (0, .ref mo), (1, .int (nI pl))]) hx hb dX7_isOpen_46 hl (k := 3) rfl (ah_inc _) (by decide) rfl (fun ls hl => ?_)
            refine lv_goto (tgt := 4) hx hb dX7_isOpen_49 (by decide) ?_
            exact ih4 (o + 1) false (by omega) (by omega) (by rw [ah_any, ← hbe, hc13, md_gr_f1 hlk (by omega)]; rfl) _ _ hP hS ls (lv_sub hl [2, 3, 1, 0] rfl)
          · skip
            refine lv_aload_n hx hb dX7_isOpen_31 rfl (lv_at hl 0 rfl) ?_
            refine lv_iload_n hx hb dX7_isOpen_32 rfl (lv_at hl 1 rfl) ?_
            refine lv_iload_n hx hb dX7_isOpen_33 rfl (lv_at hl 3 rfl) ?_
            refine ah_calli (ah_runV E hP hS (As := [.int (nI pl), .int (nI o)]) (rest := []) (b := mo) (m_isBeginning l A D _ hmo hdA htA hlA heA hnlA hneA hsA hL hpl (i := o) (by omega)) lk_Mod_84 li_Mod_84 hmo rfl ⟨rfl, rfl, (Nat.le_of_ble_eq_true rfl), (Nat.le_of_ble_eq_true rfl)⟩ rfl hl.1 rfl (Nat.le_of_ble_eq_true rfl) dX7_isOpen_34 ⟨(Nat.le_of_ble_eq_true rfl), (Nat.le_of_ble_eq_true rfl)⟩) hS (fun r F1 H locs hq hP hS => ?_)
            obtain ⟨rfl, rfl⟩ := hq
            refine ah_ifb_eq (tgt := 44) hx hb dX7_isOpen_37 (by decide) (fun hc37 => ?_) (fun hc37 => ?_)
            · skip
              refine lv_iconst (v := (bI_ false)) hx hb dX7_isOpen_44 (by decide) ?_
              refine lv_istore_n (lv' := [(2, .int (bI_ false)), (0, .ref mo), (1, .int (nI pl)), (3, .int (nI o))]) hx hb dX7_isOpen_45 rfl hl (by decide) rfl (fun ls hl => ?_)
              refine lv_iinc (v := (nI (o + 1))) (lv' := [(3, .int (nI (o + 1))), (2, .int (bI_ false)), (0, .ref mo), (1, .int (nI pl))]) hx hb dX7_isOpen_46 hl (k := 3) rfl (ah_inc _) (by decide) rfl (fun ls hl => ?_)
              refine lv_goto (tgt := 4) hx hb dX7_isOpen_49 (by decide) ?_
              exact ih4 (o + 1) false (by omega) (by omega) (by rw [ah_any, ← hbe, hc13, md_gr_2 hlk (by omega) hc37]; rfl) _ _ hP hS ls (lv_sub hl [2, 3, 1, 0] rfl)
            · skip
              refine lv_iconst (v := (bI_ true)) hx hb dX7_isOpen_40 (by decide) ?_
              refine lv_goto (tgt := 45) hx hb dX7_isOpen_41 (by decide) ?_
              refine lv_istore_n (lv' := [(2, .int (bI_ true)), (0, .ref mo), (1, .int (nI pl)), (3, .int (nI o))]) hx hb dX7_isOpen_45 rfl hl (by decide) rfl (fun ls hl => ?_)
              refine lv_iinc (v := (nI (o + 1))) (lv' := [(3, .int (nI (o + 1))), (2, .int (bI_ true)), (0, .ref mo), (1, .int (nI pl))]) hx hb dX7_isOpen_46 hl (k := 3) rfl (ah_inc _) (by decide) rfl (fun ls hl => ?_)
              refine lv_goto (tgt := 4) hx hb dX7_isOpen_49 (by decide) ?_
              exact ih4 (o + 1) true (by omega) (by omega) (by rw [ah_any, ← hbe, hc13, md_gr_2 hlk (by omega) hc37]; rfl) _ _ hP hS ls (lv_sub hl [2, 3, 1, 0] rfl)
  exact L4 (n + 1) 0 false (by omega) (Nat.zero_le _) rfl _ _ hP hS ls (lv_sub hl [2, 3, 1, 0] rfl)

set_option maxHeartbeats 4000000 in
set_option maxRecDepth 100000 in
/-- overlap -/
theorem m_overlap (l : Launch) (A : Nat → Prop) (D : ah_G) (F : ah_F) {mo n : Nat} {P : ah_Pt} {dr S : List Nat} {td th : Int32} (hC : md_C D F mo P n dr S td th) {v0 v1 : Int32} : Met l yX7_overlap (Cond.code yX7_overlap cX7_overlap 5 (some .int) :: ah_T) { frames := 1, cells := 0, slots := 0, locals := 26 } (va_Pc [.ref mo, .int v0, .int v1] (ah_B A D F)) (ah_Qi A D (fun (r : Int32) F1 => md_An D F1 mo (sp_overlap P n dr S td v0 v1) r)) 0 0 A := by
  refine ah_met (own := "AhoarchModel") (by decide) rfl (Nat.le_of_ble_eq_true rfl) ?_
  intro p e s m below meth c ls E hr hini hl hP hS Q hQ
  have hx := E.1
  have hb := E.2.1
  have hl : lv_has ls 5 [(0, .ref mo), (1, .int v0), (2, .int v1)] := hl
  obtain ⟨dA, tA, lA, eA, nlA, neA, sA, ip, il, ln, df, tf, lf, ef, nlf, nef, sf, hmo, hdA, htA, hlA, heA, hnlA, hneA, hsA, hne1, hne2, hne3, hne4, hL⟩ := id hC
  obtain ⟨hn40, hPn, hdok, hSl, hS200, hPok, hdis, hp20, hln, hlP, hdd, hss⟩ := id hL
  have hdl := hdok.1
  refine lv_aload_n hx hb dX7_overlap_0 rfl (lv_at hl 0 rfl) ?_
  refine lv_aload_n hx hb dX7_overlap_1 rfl (lv_at hl 0 rfl) ?_
  refine lv_iload_n hx hb dX7_overlap_2 rfl (lv_at hl 1 rfl) ?_
  refine ah_calli (ah_runV E hP hS (As := [.int v0]) (rest := [.ref mo]) (b := mo) (m_isPattern l A D _ hmo hdA htA hlA heA hnlA hneA hsA hL (v0 := v0)) lk_Mod_57 li_Mod_57 hmo rfl ⟨rfl, rfl, (Nat.le_of_ble_eq_true rfl), (Nat.le_of_ble_eq_true rfl)⟩ rfl hl.1 rfl (Nat.le_of_ble_eq_true rfl) dX7_overlap_3 ⟨(Nat.le_of_ble_eq_true rfl), (Nat.le_of_ble_eq_true rfl)⟩) hS (fun r F1 H locs hq hP hS => ?_)
  obtain ⟨rfl, rfl⟩ := hq
  refine ah_ifb_eq (tgt := 21) hx hb dX7_overlap_6 (by decide) (fun hc6 => ?_) (fun hc6 => ?_)
  · skip
    have hno : sp_overlap P n dr S td v0 v1 = (1, 0, (P, n, dr, S, td)) := by simp only [sp_overlap, md_none hc6]
    refine lv_iconst (v := (nI 1)) hx hb dX7_overlap_21 (by decide) ?_
    refine ah_calli (ah_runV E hP hS (As := [.int (nI 1)]) (rest := []) (b := mo) (m_holds l A D _ hmo hdA htA hlA heA hnlA hneA hsA hL (k := 1) (by omega)) lk_Mod_46 li_Mod_46 hmo rfl ⟨rfl, rfl, (Nat.le_of_ble_eq_true rfl), (Nat.le_of_ble_eq_true rfl)⟩ rfl hl.1 rfl (Nat.le_of_ble_eq_true rfl) dX7_overlap_22 ⟨(Nat.le_of_ble_eq_true rfl), (Nat.le_of_ble_eq_true rfl)⟩) hS (fun r F2 H locs hho22 hP hS => ?_)
    obtain ⟨eho22, hro⟩ := hho22
    have hG3 : F2 dA = some (ah_ai D 8 df) := by rw [eho22]; exact ah_keep hmo hdA rfl
    have hG4 : F2 tA = some (ah_az D 40 tf) := by rw [eho22]; exact ah_keep hmo htA rfl
    have hG5 : F2 lA = some (ah_ai D 40 lf) := by rw [eho22]; exact ah_keep hmo hlA rfl
    have hG6 : F2 eA = some (ah_ai D 320 ef) := by rw [eho22]; exact ah_keep hmo heA rfl
    have hG7 : F2 nlA = some (ah_ai D 40 nlf) := by rw [eho22]; exact ah_keep hmo hnlA rfl
    have hG8 : F2 neA = some (ah_ai D 320 nef) := by rw [eho22]; exact ah_keep hmo hneA rfl
    have hG9 : F2 sA = some (ah_ai D 200 sf) := by rw [eho22]; exact ah_keep hmo hsA rfl
    have hG10 : F2 mo = some (.inr (7, [.int (nI 1), .ref dA, .int (nI dr.length), .int (nI n), .ref tA, .ref lA, .ref eA, .ref nlA, .ref neA, .ref sA, .int (nI S.length), .int td, .int ip, .int il])) := by rw [eho22]; exact ah_up_s _ _ _
    subst hro
    refine ah_ifb_ne (tgt := 30) hx hb dX7_overlap_25 (by decide) (fun hc25 => ?_) (fun hc25 => ?_)
    · skip
      exact absurd hc25 (by decide)
    · skip
      refine lv_iconst (v := (nI 0)) hx hb dX7_overlap_28 (by decide) ?_
      rw [hQ]
      exact ah_iret E hr hP hS (md_An_i (k := 1) (v := 0) (hno) ⟨dA, tA, lA, eA, nlA, neA, sA, _, _, ln, _, _, _, _, _, _, _, hG10, hG3, hG4, hG5, hG6, hG7, hG8, hG9, hne1, hne2, hne3, hne4, hL⟩ (fun h => absurd h (by decide))) (Nat.le_of_ble_eq_true rfl) (Nat.le_of_ble_eq_true rfl) dX7_overlap_29
  · skip
    refine lv_aload_n hx hb dX7_overlap_9 rfl (lv_at hl 0 rfl) ?_
    refine lv_iload_n hx hb dX7_overlap_10 rfl (lv_at hl 2 rfl) ?_
    refine ah_calli (ah_runV E hP hS (As := [.int v1]) (rest := [.ref mo]) (b := mo) (m_isPattern l A D _ hmo hdA htA hlA heA hnlA hneA hsA hL (v0 := v1)) lk_Mod_57 li_Mod_57 hmo rfl ⟨rfl, rfl, (Nat.le_of_ble_eq_true rfl), (Nat.le_of_ble_eq_true rfl)⟩ rfl hl.1 rfl (Nat.le_of_ble_eq_true rfl) dX7_overlap_11 ⟨(Nat.le_of_ble_eq_true rfl), (Nat.le_of_ble_eq_true rfl)⟩) hS (fun r F11 H locs hq hP hS => ?_)
    obtain ⟨rfl, rfl⟩ := hq
    refine ah_ifb_eq (tgt := 21) hx hb dX7_overlap_14 (by decide) (fun hc14 => ?_) (fun hc14 => ?_)
    · skip
      have hno : sp_overlap P n dr S td v0 v1 = (1, 0, (P, n, dr, S, td)) := by simp only [sp_overlap, md_none hc14]; cases ah_pi P v0 <;> rfl
      refine lv_iconst (v := (nI 1)) hx hb dX7_overlap_21 (by decide) ?_
      refine ah_calli (ah_runV E hP hS (As := [.int (nI 1)]) (rest := []) (b := mo) (m_holds l A D _ hmo hdA htA hlA heA hnlA hneA hsA hL (k := 1) (by omega)) lk_Mod_46 li_Mod_46 hmo rfl ⟨rfl, rfl, (Nat.le_of_ble_eq_true rfl), (Nat.le_of_ble_eq_true rfl)⟩ rfl hl.1 rfl (Nat.le_of_ble_eq_true rfl) dX7_overlap_22 ⟨(Nat.le_of_ble_eq_true rfl), (Nat.le_of_ble_eq_true rfl)⟩) hS (fun r F12 H locs hho22 hP hS => ?_)
      obtain ⟨eho22, hro⟩ := hho22
      have hG13 : F12 dA = some (ah_ai D 8 df) := by rw [eho22]; exact ah_keep hmo hdA rfl
      have hG14 : F12 tA = some (ah_az D 40 tf) := by rw [eho22]; exact ah_keep hmo htA rfl
      have hG15 : F12 lA = some (ah_ai D 40 lf) := by rw [eho22]; exact ah_keep hmo hlA rfl
      have hG16 : F12 eA = some (ah_ai D 320 ef) := by rw [eho22]; exact ah_keep hmo heA rfl
      have hG17 : F12 nlA = some (ah_ai D 40 nlf) := by rw [eho22]; exact ah_keep hmo hnlA rfl
      have hG18 : F12 neA = some (ah_ai D 320 nef) := by rw [eho22]; exact ah_keep hmo hneA rfl
      have hG19 : F12 sA = some (ah_ai D 200 sf) := by rw [eho22]; exact ah_keep hmo hsA rfl
      have hG20 : F12 mo = some (.inr (7, [.int (nI 1), .ref dA, .int (nI dr.length), .int (nI n), .ref tA, .ref lA, .ref eA, .ref nlA, .ref neA, .ref sA, .int (nI S.length), .int td, .int ip, .int il])) := by rw [eho22]; exact ah_up_s _ _ _
      subst hro
      refine ah_ifb_ne (tgt := 30) hx hb dX7_overlap_25 (by decide) (fun hc25 => ?_) (fun hc25 => ?_)
      · skip
        exact absurd hc25 (by decide)
      · skip
        refine lv_iconst (v := (nI 0)) hx hb dX7_overlap_28 (by decide) ?_
        rw [hQ]
        exact ah_iret E hr hP hS (md_An_i (k := 1) (v := 0) (hno) ⟨dA, tA, lA, eA, nlA, neA, sA, _, _, ln, _, _, _, _, _, _, _, hG20, hG13, hG14, hG15, hG16, hG17, hG18, hG19, hne1, hne2, hne3, hne4, hL⟩ (fun h => absurd h (by decide))) (Nat.le_of_ble_eq_true rfl) (Nat.le_of_ble_eq_true rfl) dX7_overlap_29
    · skip
      obtain ⟨i, hpii⟩ := Option.isSome_iff_exists.mp hc6
      obtain ⟨hi40i, hvii, hPsi⟩ := ah_pi_lt hpii
      obtain ⟨⟨w, r0⟩, hPii⟩ := Option.isSome_iff_exists.mp hPsi
      have hini := md_lt hPn hPsi
      obtain ⟨hl8i, hlfi, htfi⟩ := hln i hini
      obtain ⟨hlwi, -, -, -⟩ := hlP i w r0 hPii
      obtain ⟨hoki, hokri, hnwi⟩ := hPok i w r0 hPii
      have hwli := hoki.1
      have hwpi := List.length_pos_iff.mpr hnwi
      obtain ⟨j, hpij⟩ := Option.isSome_iff_exists.mp hc14
      obtain ⟨hi40j, hvij, hPsj⟩ := ah_pi_lt hpij
      obtain ⟨⟨w2, r2⟩, hPij⟩ := Option.isSome_iff_exists.mp hPsj
      have hinj := md_lt hPn hPsj
      obtain ⟨hl8j, hlfj, htfj⟩ := hln j hinj
      obtain ⟨hlwj, -, -, -⟩ := hlP j w2 r2 hPij
      obtain ⟨hokj, hokrj, hnwj⟩ := hPok j w2 r2 hPij
      have hwlj := hokj.1
      have hwpj := List.length_pos_iff.mpr hnwj
      rw [hvii, hvij] at hl
      refine lv_iconst (v := (nI 0)) hx hb dX7_overlap_17 (by decide) ?_
      refine lv_goto (tgt := 22) hx hb dX7_overlap_18 (by decide) ?_
      refine ah_calli (ah_runV E hP hS (As := [.int (nI 0)]) (rest := []) (b := mo) (m_holds l A D _ hmo hdA htA hlA heA hnlA hneA hsA hL (k := 0) (by omega)) lk_Mod_46 li_Mod_46 hmo rfl ⟨rfl, rfl, (Nat.le_of_ble_eq_true rfl), (Nat.le_of_ble_eq_true rfl)⟩ rfl hl.1 rfl (Nat.le_of_ble_eq_true rfl) dX7_overlap_22 ⟨(Nat.le_of_ble_eq_true rfl), (Nat.le_of_ble_eq_true rfl)⟩) hS (fun r F21 H locs hho22 hP hS => ?_)
      obtain ⟨eho22, hro⟩ := hho22
      have hG22 : F21 dA = some (ah_ai D 8 df) := by rw [eho22]; exact ah_keep hmo hdA rfl
      have hG23 : F21 tA = some (ah_az D 40 tf) := by rw [eho22]; exact ah_keep hmo htA rfl
      have hG24 : F21 lA = some (ah_ai D 40 lf) := by rw [eho22]; exact ah_keep hmo hlA rfl
      have hG25 : F21 eA = some (ah_ai D 320 ef) := by rw [eho22]; exact ah_keep hmo heA rfl
      have hG26 : F21 nlA = some (ah_ai D 40 nlf) := by rw [eho22]; exact ah_keep hmo hnlA rfl
      have hG27 : F21 neA = some (ah_ai D 320 nef) := by rw [eho22]; exact ah_keep hmo hneA rfl
      have hG28 : F21 sA = some (ah_ai D 200 sf) := by rw [eho22]; exact ah_keep hmo hsA rfl
      have hG29 : F21 mo = some (.inr (7, [.int (nI 0), .ref dA, .int (nI dr.length), .int (nI n), .ref tA, .ref lA, .ref eA, .ref nlA, .ref neA, .ref sA, .int (nI S.length), .int td, .int ip, .int il])) := by rw [eho22]; exact ah_up_s _ _ _
      subst hro
      refine ah_ifb_ne (tgt := 30) hx hb dX7_overlap_25 (by decide) (fun hc25 => ?_) (fun hc25 => ?_)
      · skip
        refine lv_iconst (v := (nI 0)) hx hb dX7_overlap_30 (by decide) ?_
        refine lv_istore_n (lv' := [(3, .int (nI 0)), (0, .ref mo), (1, .int (nI i)), (2, .int (nI j))]) hx hb dX7_overlap_31 rfl hl (by decide) rfl (fun ls hl => ?_)
        refine lv_iconst (v := (nI 1)) hx hb dX7_overlap_32 (by decide) ?_
        refine lv_istore (lv' := [(4, .int (nI 1)), (3, .int (nI 0)), (0, .ref mo), (1, .int (nI i)), (2, .int (nI j))]) hx hb dX7_overlap_33 hl (by decide) rfl (fun ls hl => ?_)
        have L35 : ∀ (fuel : Nat), ∀ (c0 lo : Nat), w.length - c0 < fuel → 1 ≤ c0 → c0 ≤ w.length → c0 ≤ w2.length → lo = ah_ov w w2 (c0 - 1) → ∀ (H : Heap) (locs : List Loc), ah_K A D F21 H → va_S A s.heap H locs → ∀ (ls : Array Slot), lv_has ls 5 [(0, .ref mo), (1, .int (nI i)), (2, .int (nI j)), (3, .int (nI lo)), (4, .int (nI c0))] → W p l e { frames := 1, cells := 0, slots := 0, locals := 26 } s m [.ref mo, .int v0, .int v1].toArray below meth c H locs (((0 + 0) + 0) + 0) (((0 + 0) + 0) + 0) Q (F0 m 35 ls []) := by
          intro fuel
          induction fuel with
          | zero =>
            intro c0 lo hm
            exact absurd hm (Nat.not_lt_zero _)
          | succ fuel ih35 =>
            intro c0 lo hm hc1 hc2 hc3 hlo H locs hP hS ls hl
            refine lv_iload hx hb dX7_overlap_35 (lv_at hl 4 rfl) ?_
            refine lv_aload_n hx hb dX7_overlap_37 rfl (lv_at hl 0 rfl) ?_
            refine gf_Mod_17 E hP hG29 rfl dX7_overlap_38 ?_
            refine lv_iload_n hx hb dX7_overlap_41 rfl (lv_at hl 1 rfl) ?_
            refine ah_iald E hP hG24 (by omega) (by omega) dX7_overlap_42 ?_
            rw [hlfi, hlwi]
            refine ah_icmp_ge (tgt := 90) hx hb (by omega) (by omega) dX7_overlap_43 (by decide) (fun hc43 => ?_) (fun hc43 => ?_)
            · skip
              refine lv_iload_n hx hb dX7_overlap_90 rfl (lv_at hl 3 rfl) ?_
              rw [hQ]
              exact ah_iret E hr hP hS (md_An_i (k := 0) (v := nI (ah_ov w w2 (min w.length w2.length - 1))) (by simp only [sp_overlap, hpii, hpij, ah_w_s hPii, ah_w_s hPij]) ⟨dA, tA, lA, eA, nlA, neA, sA, _, _, ln, _, _, _, _, _, _, _, hG29, hG22, hG23, hG24, hG25, hG26, hG27, hG28, hne1, hne2, hne3, hne4, hL⟩ (fun _ => by rw [hlo, show c0 - 1 = min w.length w2.length - 1 by omega])) (Nat.le_of_ble_eq_true rfl) (Nat.le_of_ble_eq_true rfl) dX7_overlap_91
            · skip
              refine lv_iload hx hb dX7_overlap_46 (lv_at hl 4 rfl) ?_
              refine lv_aload_n hx hb dX7_overlap_48 rfl (lv_at hl 0 rfl) ?_
              refine gf_Mod_17 E hP hG29 rfl dX7_overlap_49 ?_
              refine lv_iload_n hx hb dX7_overlap_52 rfl (lv_at hl 2 rfl) ?_
              refine ah_iald E hP hG24 (by omega) (by omega) dX7_overlap_53 ?_
              rw [hlfj, hlwj]
              refine ah_icmp_ge (tgt := 90) hx hb (by omega) (by omega) dX7_overlap_54 (by decide) (fun hc54 => ?_) (fun hc54 => ?_)
              · skip
                refine lv_iload_n hx hb dX7_overlap_90 rfl (lv_at hl 3 rfl) ?_
                rw [hQ]
                exact ah_iret E hr hP hS (md_An_i (k := 0) (v := nI (ah_ov w w2 (min w.length w2.length - 1))) (by simp only [sp_overlap, hpii, hpij, ah_w_s hPii, ah_w_s hPij]) ⟨dA, tA, lA, eA, nlA, neA, sA, _, _, ln, _, _, _, _, _, _, _, hG29, hG22, hG23, hG24, hG25, hG26, hG27, hG28, hne1, hne2, hne3, hne4, hL⟩ (fun _ => by rw [hlo, show c0 - 1 = min w.length w2.length - 1 by omega])) (Nat.le_of_ble_eq_true rfl) (Nat.le_of_ble_eq_true rfl) dX7_overlap_91
              · skip
                refine lv_aload_n hx hb dX7_overlap_57 rfl (lv_at hl 0 rfl) ?_
                refine lv_iload_n hx hb dX7_overlap_58 rfl (lv_at hl 1 rfl) ?_
                refine lv_aload_n hx hb dX7_overlap_59 rfl (lv_at hl 0 rfl) ?_
                refine gf_Mod_17 E hP hG29 rfl dX7_overlap_60 ?_
                refine lv_iload_n hx hb dX7_overlap_63 rfl (lv_at hl 1 rfl) ?_
                refine ah_iald E hP hG24 (by omega) (by omega) dX7_overlap_64 ?_
                rw [hlfi, hlwi]
                refine lv_iload hx hb dX7_overlap_65 (lv_at hl 4 rfl) ?_
                refine ah_isub hx hb (by omega) dX7_overlap_67 ?_
                refine lv_iload hx hb dX7_overlap_68 (lv_at hl 4 rfl) ?_
                refine lv_iload_n hx hb dX7_overlap_70 rfl (lv_at hl 2 rfl) ?_
                refine ah_calli (ah_runV E hP hS (As := [.int (nI i), .int (nI (w.length - c0)), .int (nI c0), .int (nI j)]) (rest := []) (b := mo) (m_begins l A D _ hG29 hG22 hG23 hG24 hG25 hG26 hG27 hG28 hL hPii hini (by omega) (i := j) hinj) lk_Mod_63 li_Mod_63 hG29 rfl ⟨rfl, rfl, (Nat.le_of_ble_eq_true rfl), (Nat.le_of_ble_eq_true rfl)⟩ rfl hl.1 rfl (Nat.le_of_ble_eq_true rfl) dX7_overlap_71 ⟨(Nat.le_of_ble_eq_true rfl), (Nat.le_of_ble_eq_true rfl)⟩) hS (fun r F30 H locs hq hP hS => ?_)
                obtain ⟨rfl, rfl⟩ := hq
                refine ah_ifb_eq (tgt := 82) hx hb dX7_overlap_74 (by decide) (fun hc74 => ?_) (fun hc74 => ?_)
                · skip
                  refine lv_iload_n hx hb dX7_overlap_82 rfl (lv_at hl 3 rfl) ?_
                  refine lv_istore_n (lv' := [(3, .int (nI lo)), (0, .ref mo), (1, .int (nI i)), (2, .int (nI j)), (4, .int (nI c0))]) hx hb dX7_overlap_83 rfl hl (by decide) rfl (fun ls hl => ?_)
                  refine lv_iinc (v := (nI (c0 + 1))) (lv' := [(4, .int (nI (c0 + 1))), (3, .int (nI lo)), (0, .ref mo), (1, .int (nI i)), (2, .int (nI j))]) hx hb dX7_overlap_84 hl (k := 4) rfl (ah_inc _) (by decide) rfl (fun ls hl => ?_)
                  refine lv_goto (tgt := 35) hx hb dX7_overlap_87 (by decide) ?_
                  exact ih35 (c0 + 1) _ (by omega) (by omega) (by omega) (by omega) (hlo.trans (md_ov_s hc1 hc2 ((md_sat_s hPij).symm.trans hc74)).symm) _ _ hP hS ls (lv_sub hl [2, 3, 4, 1, 0] rfl)
                · skip
                  refine lv_iload hx hb dX7_overlap_77 (lv_at hl 4 rfl) ?_
                  refine lv_goto (tgt := 83) hx hb dX7_overlap_79 (by decide) ?_
                  refine lv_istore_n (lv' := [(3, .int (nI c0)), (0, .ref mo), (1, .int (nI i)), (2, .int (nI j)), (4, .int (nI c0))]) hx hb dX7_overlap_83 rfl hl (by decide) rfl (fun ls hl => ?_)
                  refine lv_iinc (v := (nI (c0 + 1))) (lv' := [(4, .int (nI (c0 + 1))), (3, .int (nI c0)), (0, .ref mo), (1, .int (nI i)), (2, .int (nI j))]) hx hb dX7_overlap_84 hl (k := 4) rfl (ah_inc _) (by decide) rfl (fun ls hl => ?_)
                  refine lv_goto (tgt := 35) hx hb dX7_overlap_87 (by decide) ?_
                  exact ih35 (c0 + 1) _ (by omega) (by omega) (by omega) (by omega) (md_ov_s hc1 hc2 ((md_sat_s hPij).symm.trans hc74)).symm _ _ hP hS ls (lv_sub hl [2, 3, 4, 1, 0] rfl)
        exact L35 (w.length + 1) 1 0 (by omega) (by omega) (by omega) (by omega) rfl _ _ hP hS ls (lv_sub hl [2, 3, 4, 1, 0] rfl)
      · skip
        exact absurd hc25 (by decide)
