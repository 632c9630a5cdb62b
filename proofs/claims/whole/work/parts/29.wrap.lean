/-- the state and the answers, as plain values: the number of the exception (0 for none), the value, the state behind -/
abbrev ah_Sta : Type := ah_Pt × Nat × List Nat × List Nat × Int32
abbrev ah_Ans : Type := Nat × Int32 × ah_Sta
def ah_Cs (D : ah_G) (F : ah_F) (x : Nat) (z : ah_Sta) : Prop := ah_C D F x z.1 z.2.1 z.2.2.1 z.2.2.2.1 z.2.2.2.2
def ah_rul (v : Int32) : Option Nat := if v = nI 0 then some 0 else if v = nI 1 then some 1 else if v = nI 2 then some 2 else none
theorem ah_rul_s {v : Int32} {ru : Nat} (h : ru ≤ 2) (e : v = nI ru) : ah_rul v = some ru := by
  subst e
  rcases (show ru = 0 ∨ ru = 1 ∨ ru = 2 by omega) with rfl | rfl | rfl <;> decide
theorem ah_rul_n {v : Int32} (h : ∀ ru : Nat, ru ≤ 2 → v ≠ nI ru) : ah_rul v = none := by
  rw [ah_rul, if_neg (h 0 (by decide)), if_neg (h 1 (by decide)), if_neg (h 2 (by decide))]
def sp_draft (P : ah_Pt) (n : Nat) (dr S : List Nat) (td : Int32) (cv : Nat) : ah_Ans := if cv < 97 ∨ 122 < cv then (1, 0, (P, n, dr, S, td)) else if 8 ≤ dr.length then (2, 0, (P, n, dr, S, td)) else (0, nI (dr.length + 1), (P, n, dr ++ [cv - 96], S, td))
def sp_enter (P : ah_Pt) (n : Nat) (dr S : List Nat) (td : Int32)  : ah_Ans := if ah_can P n dr = true then (0, nI n, (ah_ins P n dr, n + 1, [], S, td)) else (1, 0, (P, n, dr, S, td))
def sp_setReplacement (P : ah_Pt) (n : Nat) (dr S : List Nat) (td : Int32) (v0 : Int32) : ah_Ans := (match ah_pi P v0 with | none => (1, 0, (P, n, dr, S, td)) | some i => (0, nI (ah_r P i).length, (ah_rep P i (ah_w P i) dr, n, [], S, td)))
def sp_takeOut (P : ah_Pt) (n : Nat) (dr S : List Nat) (td : Int32) (v0 : Int32) : ah_Ans := (match ah_pi P v0 with | none => (1, 0, (P, n, dr, S, td)) | some i => (0, nI (pu_cn (fun j => (ah_del P i j).isSome) 40), (ah_del P i, n, dr, S, td)))
def sp_length (P : ah_Pt) (n : Nat) (dr S : List Nat) (td : Int32) (v0 : Int32) : ah_Ans := (match ah_pi P v0 with | none => (1, 0, (P, n, dr, S, td)) | some i => (0, nI (ah_w P i).length, (P, n, dr, S, td)))
def sp_link (P : ah_Pt) (n : Nat) (dr S : List Nat) (td : Int32) (v0 : Int32) : ah_Ans := (match ah_pi P v0 with | none => (1, 0, (P, n, dr, S, td)) | some i => (0, nI (ah_le P (ah_w P i) ((ah_w P i).length - 1)), (P, n, dr, S, td)))
def sp_overlap (P : ah_Pt) (n : Nat) (dr S : List Nat) (td : Int32) (v0 v1 : Int32) : ah_Ans := (match ah_pi P v0 with | none => (1, 0, (P, n, dr, S, td)) | some i => (match ah_pi P v1 with | none => (1, 0, (P, n, dr, S, td)) | some j => (0, nI (ah_ov (ah_w P i) (ah_w P j) (min (ah_w P i).length (ah_w P j).length - 1)), (P, n, dr, S, td))))
def sp_feed (P : ah_Pt) (n : Nat) (dr S : List Nat) (td : Int32) (cv : Nat) : ah_Ans := if cv < 97 ∨ 122 < cv then (1, 0, (P, n, dr, S, td)) else if 200 ≤ S.length then (2, 0, (P, n, dr, S, td)) else (0, nI (ah_e1 P (S ++ [cv - 96])), (P, n, dr, S ++ [cv - 96], td + nI (ah_e1 P (S ++ [cv - 96]))))
def sp_feedPattern (P : ah_Pt) (n : Nat) (dr S : List Nat) (td : Int32) (v0 : Int32) : ah_Ans := (match ah_pi P v0 with | none => (1, 0, (P, n, dr, S, td)) | some i => if 200 < S.length + (ah_w P i).length then (2, 0, (P, n, dr, S, td)) else (0, nI (ah_fs P S (ah_w P i) (ah_w P i).length), (P, n, dr, S ++ ah_w P i, td + nI (ah_fs P S (ah_w P i) (ah_w P i).length))))
def sp_endingPattern (P : ah_Pt) (n : Nat) (dr S : List Nat) (td : Int32) (v0 : Int32) : ah_Ans := (match ah_ep P S v0 with | none => (1, 0, (P, n, dr, S, td)) | some i => (0, nI i, (P, n, dr, S, td)))
def sp_occurrencesOf (P : ah_Pt) (n : Nat) (dr S : List Nat) (td : Int32) (v0 : Int32) : ah_Ans := (match ah_pi P v0 with | none => (1, 0, (P, n, dr, S, td)) | some i => (0, nI (pu_cn (fun k => ah_at S k (ah_w P i)) S.length), (P, n, dr, S, td)))
def sp_occurrence (P : ah_Pt) (n : Nat) (dr S : List Nat) (td : Int32) (v0 v1 : Int32) : ah_Ans := (match ah_pi P v0 with | none => (1, 0, (P, n, dr, S, td)) | some i => (match ah_kt (fun k => ah_at S k (ah_w P i)) S.length v1 with | none => (2, 0, (P, n, dr, S, td)) | some k => (0, nI k, (P, n, dr, S, td))))
def sp_chosen (P : ah_Pt) (n : Nat) (dr S : List Nat) (td : Int32) (v0 : Int32) : ah_Ans := (match ah_rul v0 with | none => (1, 0, (P, n, dr, S, td)) | some ru => (0, nI (ah_chs P S ru).length, (P, n, dr, S, td)))
def sp_chosenPattern (P : ah_Pt) (n : Nat) (dr S : List Nat) (td : Int32) (v0 v1 : Int32) : ah_Ans := (match ah_rul v0 with | none => (1, 0, (P, n, dr, S, td)) | some ru => (match ah_ixn (ah_chs P S ru).length v1 with | none => (2, 0, (P, n, dr, S, td)) | some t => (0, nI (((ah_chs P S ru)[t]?).getD (0, 0)).1, (P, n, dr, S, td))))
def sp_chosenPlace (P : ah_Pt) (n : Nat) (dr S : List Nat) (td : Int32) (v0 v1 : Int32) : ah_Ans := (match ah_rul v0 with | none => (1, 0, (P, n, dr, S, td)) | some ru => (match ah_ixn (ah_chs P S ru).length v1 with | none => (2, 0, (P, n, dr, S, td)) | some t => (0, nI (((ah_chs P S ru)[t]?).getD (0, 0)).2, (P, n, dr, S, td))))
def sp_replacedLength (P : ah_Pt) (n : Nat) (dr S : List Nat) (td : Int32) (v0 : Int32) : ah_Ans := (match ah_rul v0 with | none => (1, 0, (P, n, dr, S, td)) | some ru => (0, nI (ah_tx P S (ah_chs P S ru)).length, (P, n, dr, S, td)))
def sp_replaced (P : ah_Pt) (n : Nat) (dr S : List Nat) (td : Int32) (v0 v1 : Int32) : ah_Ans := (match ah_rul v0 with | none => (1, 0, (P, n, dr, S, td)) | some ru => (match ah_ixn (ah_tx P S (ah_chs P S ru)).length v1 with | none => (2, 0, (P, n, dr, S, td)) | some k => (0, nI (96 + (ah_tx P S (ah_chs P S ru)).getD k 0), (P, n, dr, S, td))))
theorem ah_ep_none {P : ah_Pt} {n : Nat} {dr S : List Nat} {td v0 : Int32} (h : ah_ep P S v0 = none) : sp_endingPattern P n dr S td v0 = (1, 0, (P, n, dr, S, td)) := by
  unfold sp_endingPattern
  generalize ah_ep P S v0 = z at h
  subst h
  rfl
theorem ah_ep_some {P : ah_Pt} {n i : Nat} {dr S : List Nat} {td v0 r : Int32} (h : ah_ep P S v0 = some i) (h2 : nI i = r) : sp_endingPattern P n dr S td v0 = (0, r, (P, n, dr, S, td)) := by
  subst h2
  unfold sp_endingPattern
  generalize ah_ep P S v0 = z at h
  subst h
  rfl
def ah_An (D : ah_G) (F1 : ah_F) (x o : Nat) (a : ah_Ans) (r : Int32) : Prop := r = nI a.1 ∧ ah_Cs D F1 x a.2.2 ∧ ∃ f : Nat → Int64, F1 o = some (ah_al D 1 f) ∧ (a.1 = 0 → f 0 = Int32.toInt64 a.2.1)
theorem ah_An_i {D : ah_G} {F1 : ah_F} {x o k : Nat} {a : ah_Ans} {v : Int32} {P : ah_Pt} {n : Nat} {dr S : List Nat} {td : Int32} (e : a = (k, v, (P, n, dr, S, td))) (hC : ah_C D F1 x P n dr S td) {f : Nat → Int64} (ho : F1 o = some (ah_al D 1 f)) (hv : k = 0 → f 0 = Int32.toInt64 v) : ah_An D F1 x o a (nI k) := by
  subst e
  exact ⟨rfl, hC, f, ho, hv⟩
theorem ah_C_o {D : ah_G} {F : ah_F} {x o n : Nat} {P : ah_Pt} {dr S : List Nat} {td : Int32} {f : Nat → Int64} {e : va_E} (h : ah_C D F x P n dr S td) (ho : F o = some (ah_al D 1 f)) : ah_C D (ah_up F o e) x P n dr S td := by
  obtain ⟨b, ra, st, la, ch, cp, cl, tx, ta, dw, rf, lf, pf, plf, tf, cc, tc, pr, hxx, hbk, hra, hrows, hst, hla, hstr, hch, hcp, hcl, htx, hta, hdw, h9⟩ := h
  exact ⟨b, ra, st, la, ch, cp, cl, tx, ta, dw, rf, lf, pf, plf, tf, cc, tc, pr, ah_keep ho hxx rfl, ah_keep ho hbk rfl, ah_keep ho hra rfl,
    hrows.keep (fun a ci fs hci hF => by rcases hci with rfl | rfl <;> exact ah_keep ho hF rfl), ah_keep ho hst rfl, ah_keep ho hla rfl, hstr, ah_keep ho hch rfl, ah_keep ho hcp rfl, ah_keep ho hcl rfl, ah_keep ho htx rfl, ah_keep ho hta rfl, ah_keep ho hdw rfl, h9⟩
section AHW
variable {p : Program} {l : Launch} {e : Env} {R : Room} {s : State} {m : MethodId} {args : Array Value} {below : List Frame} {meth : Method} {c : Code} {H : Heap} {locs : List Loc} {cells slots : Nat} {Q : State → Prop}
variable {cc bytes : ByteArray} {pc nL index maxL n mc ms : Nat} {ls : Array Slot} {rest As st0 : List Value} {D : ah_G} {A : Nat → Prop} {b : Nat} {F : ah_F} {own host : String} {y : MethodName} {ret : Option FieldType} {rm : Room} {Qc : Array Value → State → Outcome → State → Prop} {XC : String → State → State → Prop}
theorem ah_wmet {hh : List (Nat × Nat × Nat × Nat)} {av : List Value} (hy : plainName y.cls = true) (hown : y.cls = own) (hlen : (lg_sl av).length ≤ maxL)
    (body : ∀ (p : Program) (e : Env) (s : State) (m : MethodId) (below : List Frame) (meth : Method) (c : Code) (ls : Array Slot), ah_E A D p s m av.toArray meth c own bytes maxL → meth.sig.returnType = ret → c.exceptionTable.toList = tableOf hh → lv_has ls maxL (lv_args 0 av) → ah_K A D F s.heap → va_S A s.heap s.heap [] → ∀ Q : State → Prop, Q = vx_MQ below Qc XC av.toArray s mc ms A → W p l e rm s m av.toArray below meth c s.heap [] 0 0 Q (F0 m 0 ls [])) :
    vx_Met l y (Cond.codeWith y bytes maxL ret hh :: ah_T) rm (va_Pc av (ah_B A D F)) Qc XC mc ms A := by
  refine vx_ofWH (cc := bytes) (maxL := maxL) (ret := ret) (hh := hh) hy rfl ?_
  intro p e s m args below meth c s₁ B hml hv
  obtain ⟨rfl, hV, hK, hA⟩ := hv
  have hts := atoms_spec (ws := Cond.codeWith y bytes maxL ret hh :: ah_T) B.pre
  have htab := vx_table (x := y) B (hts _ List.mem_cons_self)
  have hl := lv_entry av (n := maxL) hlen
  rw [lg_entry_eq]
  generalize (lg_sl av ++ List.replicate (maxL - (lg_sl av).length) Slot.unset).toArray = ls at hl ⊢
  exact body p e s m below meth c ls ⟨B.exec, B.bytes, hml, by rw [← hown]; exact findClass_of_methodNamed B.named, fun w hw => hts w (List.mem_cons_of_mem _ hw), B.notSynchronized, hV, hA⟩ B.returns htab hl hK va_S.rf _ rfl
theorem ah_catch {px : String → ah_F → Prop} {E0 : String} {q : Addr} {F1 : ah_F} (E : ah_E A D p s m args meth c own cc nL) (hT : ah_Th A D px s E0 q F1 H locs) (pre : List ExceptionTableEntry) (x : ExceptionTableEntry) (suf : List ExceptionTableEntry) (hsplit : c.exceptionTable.toList = pre ++ x :: suf)
    (hpass : ∀ z ∈ pre, z.catchType ≠ 0 ∧ ∃ nm : String, Cond.classLink own z.catchType nm ∈ ah_T ∧ (E0, nm) ∈ ah_Ncs) (hx : covers x pc = true) (h0 : x.catchType ≠ 0) (hlink : Cond.classLink own x.catchType E0 ∈ ah_T) (hcast : Cond.castable E0 E0 ∈ ah_T)
    (kk : W p l e R s m args below meth c H locs cells slots Q (F0 m x.handlerPc ls [.ref q])) : vx_W p l e R s m args below meth c H locs cells slots Q (F0 m pc ls rest) q := by
  obtain ⟨h1, hP, hS, ce, h2, h3, h4⟩ := hT
  exact vx_catch E.2.2.2.1 pre x suf hsplit (fun z hz => Or.inr ⟨(hpass z hz).1, by obtain ⟨-, nm, h5, h6⟩ := hpass z hz; exact ⟨nm, E.2.2.2.2.1 _ h5, E.2.2.2.2.2.2.1.2.2.2.2 _ h6⟩⟩) hx h0 (E.2.2.2.2.1 _ hlink) (E.2.2.2.2.1 _ hcast) h2 h3 h4 kk
end AHW
set_option maxHeartbeats 4000000 in
set_option maxRecDepth 100000 in
/-- draft -/
theorem w_draft (l : Launch) (hl1 : l.stackTraces = false) (A : Nat → Prop) (D : ah_G) (F : ah_F) {x n : Nat} {P : ah_Pt} {dr S : List Nat} {td : Int32} (hC : ah_C D F x P n dr S td) {o : Nat} {fo : Nat → Int64} (ho : F o = some (ah_al D 1 fo)) {cv : Nat} (hcv : cv < 65536) : vx_Met l yL_draft (Cond.codeWith yL_draft cL_draft 4 (some .int) [((0 : Nat), (9 : Nat), (12 : Nat), (13 : Nat)), ((0 : Nat), (9 : Nat), (15 : Nat), (15 : Nat))] :: ah_T) { frames := 8, cells := 2, slots := 12, locals := 123 } (va_Pc [.ref x, .int (nI cv), .ref o] (ah_B A D F)) (ah_Qi A D (fun (r : Int32) F1 => ah_An D F1 x o (sp_draft P n dr S td cv) r)) (ah_X A D (fun _ _ => False)) 2 12 A := by
  refine ah_wmet (own := "AhoarchLaw") (hh := [((0 : Nat), (9 : Nat), (12 : Nat), (13 : Nat)), ((0 : Nat), (9 : Nat), (15 : Nat), (15 : Nat))]) (by decide) rfl (Nat.le_of_ble_eq_true rfl) ?_
  intro p e s m below meth c ls E hr htab hl hP hS Q hQ
  have hx := E.1
  have hb := E.2.1
  have hl : lv_has ls 4 [(0, .ref x), (1, .int (nI cv)), (2, .ref o)] := hl
  obtain ⟨b, ra, st, la, ch, cp, cl, tx, ta, dw, rf, lf, pf, plf, tf, cc, tc, pr, hxx, hbk, hra, hrows, hst, hla, hstr, hch, hcp, hcl, htx, hta, hdw, hdok, hn40, hPn, hpr, hpr20⟩ := id hC
  refine lv_aload_n hx hb dL_draft_0 rfl (lv_at hl 2 rfl) ?_
  refine lv_iconst (v := (nI 0)) hx hb dL_draft_1 (by decide) ?_
  refine lv_aload_n hx hb dL_draft_2 rfl (lv_at hl 0 rfl) ?_
  refine lv_iload_n hx hb dL_draft_3 rfl (lv_at hl 1 rfl) ?_
  refine ah_xcalli (ah_xrunV E hP hS (As := [.int (nI cv)]) (rest := [.int (nI 0), .ref o]) (b := x) (c_draft l hl1 A D _ hC hcv) lk_Law_7 li_Law_7 hxx rfl ⟨rfl, rfl, (Nat.le_of_ble_eq_true rfl), (Nat.le_of_ble_eq_true rfl)⟩ rfl hl.1 rfl (Nat.le_of_ble_eq_true rfl) dL_draft_4 ⟨(Nat.le_of_ble_eq_true rfl), (Nat.le_of_ble_eq_true rfl)⟩) hS (fun E0 q9 Fx H locs hT => ?_) (fun r F1 H locs hq hP hS => ?_)
  · skip
    obtain ⟨rfl, ⟨hE, hc1⟩ | ⟨hE, hc1⟩⟩ := id hT.1
    · skip
      subst hE
      refine ah_catch E hT [] ⟨0, 9, 12, 13⟩ [⟨0, 9, 15, 15⟩] htab (fun z hz => by cases hz) rfl (show 13 ≠ 0 by decide) (ah_in 273 (by decide +kernel) rfl) (ah_in 284 (by decide +kernel) rfl) ?_
      obtain ⟨-, hP, hS, -⟩ := hT
      have hC1 := hC
      have ho9 := ho
      refine lv_astore_n (lv' := [(3, .ref q9), (0, .ref x), (1, .int (nI cv)), (2, .ref o)]) hx hb dL_draft_12 rfl hl (by decide) rfl (fun ls hl => ?_)
      refine lv_iconst (v := (nI 1)) hx hb dL_draft_13 (by decide) ?_
      rw [hQ]
      exact vx_ret (ah_iret E hr hP hS (ah_An_i (v := 0) (k := 1) (by rw [sp_draft, if_pos hc1]) hC1 ho9 (fun h => absurd h (by decide))) (Nat.le_of_ble_eq_true rfl) (Nat.le_of_ble_eq_true rfl) dL_draft_14)
    · skip
      subst hE
      refine ah_catch E hT [⟨0, 9, 12, 13⟩] ⟨0, 9, 15, 15⟩ [] htab (fun z hz => by simp only [List.mem_cons, List.not_mem_nil, or_false] at hz; subst hz; exact ⟨(show 13 ≠ 0 by decide), "java/lang/IllegalArgumentException", (ah_in 273 (by decide +kernel) rfl), by simp [ah_Ncs]⟩) rfl (show 15 ≠ 0 by decide) (ah_in 274 (by decide +kernel) rfl) (ah_in 353 (by decide +kernel) rfl) ?_
      obtain ⟨-, hP, hS, -⟩ := hT
      have hC1 := hC
      have ho9 := ho
      refine lv_astore_n (lv' := [(3, .ref q9), (0, .ref x), (1, .int (nI cv)), (2, .ref o)]) hx hb dL_draft_15 rfl hl (by decide) rfl (fun ls hl => ?_)
      refine lv_iconst (v := (nI 2)) hx hb dL_draft_16 (by decide) ?_
      rw [hQ]
      exact vx_ret (ah_iret E hr hP hS (ah_An_i (v := 0) (k := 2) (by rw [sp_draft, if_neg (by omega), if_pos hc1.2.2]) hC1 ho9 (fun h => absurd h (by decide))) (Nat.le_of_ble_eq_true rfl) (Nat.le_of_ble_eq_true rfl) dL_draft_17)
  · skip
    obtain ⟨y, hy, h1, h2, h3, h4, hC1, ho1⟩ := hq
    have ho9 := (ho1 o fo ho).trans ho
    refine lv_i2l (v := (Int32.toInt64 r)) hx hb dL_draft_7 rfl ?_
    refine ah_last E hP hS ho9 (by omega) (by omega) dL_draft_8 (fun H locs hP hS => ?_)
    obtain ⟨F2, eF2⟩ : ∃ Fz : ah_F, Fz = ah_up F1 o (ah_al D 1 (vp_updL fo 0 (Int32.toInt64 r))) := ⟨_, rfl⟩
    have hP : ah_K A D F2 H := by rw [eF2]; exact hP
    have hF3 : F2 o = some (ah_al D 1 (vp_updL fo 0 (Int32.toInt64 r))) := by rw [eF2]; exact ah_up_s _ _ _
    refine lv_goto (tgt := 18) hx hb dL_draft_9 (by decide) ?_
    refine lv_iconst (v := (nI 0)) hx hb dL_draft_18 (by decide) ?_
    have hC9 := ah_C_o (e := ah_al D 1 (vp_updL fo 0 (Int32.toInt64 r))) hC1 ho9
    rw [← eF2] at hC9
    rw [hQ]
    exact vx_ret (ah_iret E hr hP hS (ah_An_i (v := r) (k := 0) (by rw [sp_draft, if_neg (by omega), if_neg (by omega), h4, show cv - 96 = y by omega]) hC9 hF3 (fun _ => by simp [vp_updL])) (Nat.le_of_ble_eq_true rfl) (Nat.le_of_ble_eq_true rfl) dL_draft_19)

set_option maxHeartbeats 4000000 in
set_option maxRecDepth 100000 in
/-- enter -/
theorem w_enter (l : Launch) (hl1 : l.stackTraces = false) (A : Nat → Prop) (D : ah_G) (F : ah_F) {x n : Nat} {P : ah_Pt} {dr S : List Nat} {td : Int32} (hC : ah_C D F x P n dr S td) {o : Nat} {fo : Nat → Int64} (ho : F o = some (ah_al D 1 fo))  : vx_Met l yL_enter (Cond.codeWith yL_enter cL_enter 3 (some .int) [((0 : Nat), (8 : Nat), (11 : Nat), (15 : Nat))] :: ah_T) { frames := 7, cells := 3, slots := 7, locals := 108 } (va_Pc [.ref x, .ref o] (ah_B A D F)) (ah_Qi A D (fun (r : Int32) F1 => ah_An D F1 x o (sp_enter P n dr S td) r)) (ah_X A D (fun _ _ => False)) 3 7 A := by
  refine ah_wmet (own := "AhoarchLaw") (hh := [((0 : Nat), (8 : Nat), (11 : Nat), (15 : Nat))]) (by decide) rfl (Nat.le_of_ble_eq_true rfl) ?_
  intro p e s m below meth c ls E hr htab hl hP hS Q hQ
  have hx := E.1
  have hb := E.2.1
  have hl : lv_has ls 3 [(0, .ref x), (1, .ref o)] := hl
  obtain ⟨b, ra, st, la, ch, cp, cl, tx, ta, dw, rf, lf, pf, plf, tf, cc, tc, pr, hxx, hbk, hra, hrows, hst, hla, hstr, hch, hcp, hcl, htx, hta, hdw, hdok, hn40, hPn, hpr, hpr20⟩ := id hC
  refine lv_aload_n hx hb dL_enter_0 rfl (lv_at hl 1 rfl) ?_
  refine lv_iconst (v := (nI 0)) hx hb dL_enter_1 (by decide) ?_
  refine lv_aload_n hx hb dL_enter_2 rfl (lv_at hl 0 rfl) ?_
  refine ah_xcalli (ah_xrunV E hP hS (As := []) (rest := [.int (nI 0), .ref o]) (b := x) (c_enter l hl1 A D _ hC) lk_Law_17 li_Law_17 hxx rfl ⟨rfl, rfl, (Nat.le_of_ble_eq_true rfl), (Nat.le_of_ble_eq_true rfl)⟩ rfl hl.1 rfl (Nat.le_of_ble_eq_true rfl) dL_enter_3 ⟨(Nat.le_of_ble_eq_true rfl), (Nat.le_of_ble_eq_true rfl)⟩) hS (fun E0 q9 Fx H locs hT => ?_) (fun r F1 H locs hq hP hS => ?_)
  · skip
    obtain ⟨rfl, hE, hc1⟩ := id hT.1
    · skip
      subst hE
      refine ah_catch E hT [] ⟨0, 8, 11, 15⟩ [] htab (fun z hz => by cases hz) rfl (show 15 ≠ 0 by decide) (ah_in 274 (by decide +kernel) rfl) (ah_in 353 (by decide +kernel) rfl) ?_
      obtain ⟨-, hP, hS, -⟩ := hT
      have hC1 := hC
      have ho9 := ho
      refine lv_astore_n (lv' := [(2, .ref q9), (0, .ref x), (1, .ref o)]) hx hb dL_enter_11 rfl hl (by decide) rfl (fun ls hl => ?_)
      refine lv_iconst (v := (nI 1)) hx hb dL_enter_12 (by decide) ?_
      rw [hQ]
      exact vx_ret (ah_iret E hr hP hS (ah_An_i (v := 0) (k := 1) (by rw [sp_enter, if_neg (by rw [hc1]; decide)]) hC1 ho9 (fun h => absurd h (by decide))) (Nat.le_of_ble_eq_true rfl) (Nat.le_of_ble_eq_true rfl) dL_enter_13)
  · skip
    obtain ⟨h1, h2, hC1, ho1⟩ := hq
    have ho9 := (ho1 o fo ho).trans ho
    refine lv_i2l (v := (Int32.toInt64 r)) hx hb dL_enter_6 rfl ?_
    refine ah_last E hP hS ho9 (by omega) (by omega) dL_enter_7 (fun H locs hP hS => ?_)
    obtain ⟨F2, eF2⟩ : ∃ Fz : ah_F, Fz = ah_up F1 o (ah_al D 1 (vp_updL fo 0 (Int32.toInt64 r))) := ⟨_, rfl⟩
    have hP : ah_K A D F2 H := by rw [eF2]; exact hP
    have hF3 : F2 o = some (ah_al D 1 (vp_updL fo 0 (Int32.toInt64 r))) := by rw [eF2]; exact ah_up_s _ _ _
    refine lv_goto (tgt := 14) hx hb dL_enter_8 (by decide) ?_
    refine lv_iconst (v := (nI 0)) hx hb dL_enter_14 (by decide) ?_
    have hC9 := ah_C_o (e := ah_al D 1 (vp_updL fo 0 (Int32.toInt64 r))) hC1 ho9
    rw [← eF2] at hC9
    rw [hQ]
    exact vx_ret (ah_iret E hr hP hS (ah_An_i (v := r) (k := 0) (by rw [sp_enter, if_pos h1, h2]) hC9 hF3 (fun _ => by simp [vp_updL])) (Nat.le_of_ble_eq_true rfl) (Nat.le_of_ble_eq_true rfl) dL_enter_15)

set_option maxHeartbeats 4000000 in
set_option maxRecDepth 100000 in
/-- setReplacement -/
theorem w_setReplacement (l : Launch) (hl1 : l.stackTraces = false) (A : Nat → Prop) (D : ah_G) (F : ah_F) {x n : Nat} {P : ah_Pt} {dr S : List Nat} {td : Int32} (hC : ah_C D F x P n dr S td) {o : Nat} {fo : Nat → Int64} (ho : F o = some (ah_al D 1 fo)) {v0 : Int32} : vx_Met l yL_setReplacement (Cond.codeWith yL_setReplacement cL_setReplacement 4 (some .int) [((0 : Nat), (9 : Nat), (12 : Nat), (25 : Nat))] :: ah_T) { frames := 8, cells := 2, slots := 8, locals := 127 } (va_Pc [.ref x, .int v0, .ref o] (ah_B A D F)) (ah_Qi A D (fun (r : Int32) F1 => ah_An D F1 x o (sp_setReplacement P n dr S td v0) r)) (ah_X A D (fun _ _ => False)) 2 8 A := by
  refine ah_wmet (own := "AhoarchLaw") (hh := [((0 : Nat), (9 : Nat), (12 : Nat), (25 : Nat))]) (by decide) rfl (Nat.le_of_ble_eq_true rfl) ?_
  intro p e s m below meth c ls E hr htab hl hP hS Q hQ
  have hx := E.1
  have hb := E.2.1
  have hl : lv_has ls 4 [(0, .ref x), (1, .int v0), (2, .ref o)] := hl
  obtain ⟨b, ra, st, la, ch, cp, cl, tx, ta, dw, rf, lf, pf, plf, tf, cc, tc, pr, hxx, hbk, hra, hrows, hst, hla, hstr, hch, hcp, hcl, htx, hta, hdw, hdok, hn40, hPn, hpr, hpr20⟩ := id hC
  refine lv_aload_n hx hb dL_setReplacement_0 rfl (lv_at hl 2 rfl) ?_
  refine lv_iconst (v := (nI 0)) hx hb dL_setReplacement_1 (by decide) ?_
  refine lv_aload_n hx hb dL_setReplacement_2 rfl (lv_at hl 0 rfl) ?_
  refine lv_iload_n hx hb dL_setReplacement_3 rfl (lv_at hl 1 rfl) ?_
  refine ah_xcalli (ah_xrunV E hP hS (As := [.int v0]) (rest := [.int (nI 0), .ref o]) (b := x) (c_setReplacement l hl1 A D _ hC) lk_Law_21 li_Law_21 hxx rfl ⟨rfl, rfl, (Nat.le_of_ble_eq_true rfl), (Nat.le_of_ble_eq_true rfl)⟩ rfl hl.1 rfl (Nat.le_of_ble_eq_true rfl) dL_setReplacement_4 ⟨(Nat.le_of_ble_eq_true rfl), (Nat.le_of_ble_eq_true rfl)⟩) hS (fun E0 q9 Fx H locs hT => ?_) (fun r F1 H locs hq hP hS => ?_)
  · skip
    obtain ⟨rfl, hE, hc1⟩ := id hT.1
    · skip
      subst hE
      refine ah_catch E hT [] ⟨0, 9, 12, 25⟩ [] htab (fun z hz => by cases hz) rfl (show 25 ≠ 0 by decide) (ah_in 424 (by decide +kernel) rfl) (ah_in 439 (by decide +kernel) rfl) ?_
      obtain ⟨-, hP, hS, -⟩ := hT
      have hC1 := hC
      have ho9 := ho
      refine lv_astore_n (lv' := [(3, .ref q9), (0, .ref x), (1, .int v0), (2, .ref o)]) hx hb dL_setReplacement_12 rfl hl (by decide) rfl (fun ls hl => ?_)
      refine lv_iconst (v := (nI 1)) hx hb dL_setReplacement_13 (by decide) ?_
      rw [hQ]
      exact vx_ret (ah_iret E hr hP hS (ah_An_i (v := 0) (k := 1) (by simp only [sp_setReplacement, hc1]) hC1 ho9 (fun h => absurd h (by decide))) (Nat.le_of_ble_eq_true rfl) (Nat.le_of_ble_eq_true rfl) dL_setReplacement_14)
  · skip
    obtain ⟨i, w, r0, h1, h2, h3, hC1, ho1⟩ := hq
    have ho9 := (ho1 o fo ho).trans ho
    refine lv_i2l (v := (Int32.toInt64 r)) hx hb dL_setReplacement_7 rfl ?_
    refine ah_last E hP hS ho9 (by omega) (by omega) dL_setReplacement_8 (fun H locs hP hS => ?_)
    obtain ⟨F2, eF2⟩ : ∃ Fz : ah_F, Fz = ah_up F1 o (ah_al D 1 (vp_updL fo 0 (Int32.toInt64 r))) := ⟨_, rfl⟩
    have hP : ah_K A D F2 H := by rw [eF2]; exact hP
    have hF3 : F2 o = some (ah_al D 1 (vp_updL fo 0 (Int32.toInt64 r))) := by rw [eF2]; exact ah_up_s _ _ _
    refine lv_goto (tgt := 15) hx hb dL_setReplacement_9 (by decide) ?_
    refine lv_iconst (v := (nI 0)) hx hb dL_setReplacement_15 (by decide) ?_
    have hC9 := ah_C_o (e := ah_al D 1 (vp_updL fo 0 (Int32.toInt64 r))) hC1 ho9
    rw [← eF2] at hC9
    rw [hQ]
    exact vx_ret (ah_iret E hr hP hS (ah_An_i (v := r) (k := 0) (by simp only [sp_setReplacement, h1, ah_r_s h2, ah_w_s h2, h3]) hC9 hF3 (fun _ => by simp [vp_updL])) (Nat.le_of_ble_eq_true rfl) (Nat.le_of_ble_eq_true rfl) dL_setReplacement_16)

set_option maxHeartbeats 4000000 in
set_option maxRecDepth 100000 in
/-- takeOut -/
theorem w_takeOut (l : Launch) (hl1 : l.stackTraces = false) (A : Nat → Prop) (D : ah_G) (F : ah_F) {x n : Nat} {P : ah_Pt} {dr S : List Nat} {td : Int32} (hC : ah_C D F x P n dr S td) {o : Nat} {fo : Nat → Int64} (ho : F o = some (ah_al D 1 fo)) {v0 : Int32} : vx_Met l yL_takeOut (Cond.codeWith yL_takeOut cL_takeOut 4 (some .int) [((0 : Nat), (9 : Nat), (12 : Nat), (25 : Nat))] :: ah_T) { frames := 8, cells := 1, slots := 6, locals := 125 } (va_Pc [.ref x, .int v0, .ref o] (ah_B A D F)) (ah_Qi A D (fun (r : Int32) F1 => ah_An D F1 x o (sp_takeOut P n dr S td v0) r)) (ah_X A D (fun _ _ => False)) 1 6 A := by
  refine ah_wmet (own := "AhoarchLaw") (hh := [((0 : Nat), (9 : Nat), (12 : Nat), (25 : Nat))]) (by decide) rfl (Nat.le_of_ble_eq_true rfl) ?_
  intro p e s m below meth c ls E hr htab hl hP hS Q hQ
  have hx := E.1
  have hb := E.2.1
  have hl : lv_has ls 4 [(0, .ref x), (1, .int v0), (2, .ref o)] := hl
  obtain ⟨b, ra, st, la, ch, cp, cl, tx, ta, dw, rf, lf, pf, plf, tf, cc, tc, pr, hxx, hbk, hra, hrows, hst, hla, hstr, hch, hcp, hcl, htx, hta, hdw, hdok, hn40, hPn, hpr, hpr20⟩ := id hC
  refine lv_aload_n hx hb dL_takeOut_0 rfl (lv_at hl 2 rfl) ?_
  refine lv_iconst (v := (nI 0)) hx hb dL_takeOut_1 (by decide) ?_
  refine lv_aload_n hx hb dL_takeOut_2 rfl (lv_at hl 0 rfl) ?_
  refine lv_iload_n hx hb dL_takeOut_3 rfl (lv_at hl 1 rfl) ?_
  refine ah_xcalli (ah_xrunV E hP hS (As := [.int v0]) (rest := [.int (nI 0), .ref o]) (b := x) (c_takeOut l hl1 A D _ hC) lk_Law_27 li_Law_27 hxx rfl ⟨rfl, rfl, (Nat.le_of_ble_eq_true rfl), (Nat.le_of_ble_eq_true rfl)⟩ rfl hl.1 rfl (Nat.le_of_ble_eq_true rfl) dL_takeOut_4 ⟨(Nat.le_of_ble_eq_true rfl), (Nat.le_of_ble_eq_true rfl)⟩) hS (fun E0 q9 Fx H locs hT => ?_) (fun r F1 H locs hq hP hS => ?_)
  · skip
    obtain ⟨rfl, hE, hc1⟩ := id hT.1
    · skip
      subst hE
      refine ah_catch E hT [] ⟨0, 9, 12, 25⟩ [] htab (fun z hz => by cases hz) rfl (show 25 ≠ 0 by decide) (ah_in 424 (by decide +kernel) rfl) (ah_in 439 (by decide +kernel) rfl) ?_
      obtain ⟨-, hP, hS, -⟩ := hT
      have hC1 := hC
      have ho9 := ho
      refine lv_astore_n (lv' := [(3, .ref q9), (0, .ref x), (1, .int v0), (2, .ref o)]) hx hb dL_takeOut_12 rfl hl (by decide) rfl (fun ls hl => ?_)
      refine lv_iconst (v := (nI 1)) hx hb dL_takeOut_13 (by decide) ?_
      rw [hQ]
      exact vx_ret (ah_iret E hr hP hS (ah_An_i (v := 0) (k := 1) (by simp only [sp_takeOut, hc1]) hC1 ho9 (fun h => absurd h (by decide))) (Nat.le_of_ble_eq_true rfl) (Nat.le_of_ble_eq_true rfl) dL_takeOut_14)
  · skip
    obtain ⟨i, h1, h2, hC1, ho1⟩ := hq
    have ho9 := (ho1 o fo ho).trans ho
    refine lv_i2l (v := (Int32.toInt64 r)) hx hb dL_takeOut_7 rfl ?_
    refine ah_last E hP hS ho9 (by omega) (by omega) dL_takeOut_8 (fun H locs hP hS => ?_)
    obtain ⟨F2, eF2⟩ : ∃ Fz : ah_F, Fz = ah_up F1 o (ah_al D 1 (vp_updL fo 0 (Int32.toInt64 r))) := ⟨_, rfl⟩
    have hP : ah_K A D F2 H := by rw [eF2]; exact hP
    have hF3 : F2 o = some (ah_al D 1 (vp_updL fo 0 (Int32.toInt64 r))) := by rw [eF2]; exact ah_up_s _ _ _
    refine lv_goto (tgt := 15) hx hb dL_takeOut_9 (by decide) ?_
    refine lv_iconst (v := (nI 0)) hx hb dL_takeOut_15 (by decide) ?_
    have hC9 := ah_C_o (e := ah_al D 1 (vp_updL fo 0 (Int32.toInt64 r))) hC1 ho9
    rw [← eF2] at hC9
    rw [hQ]
    exact vx_ret (ah_iret E hr hP hS (ah_An_i (v := r) (k := 0) (by simp only [sp_takeOut, h1, h2]) hC9 hF3 (fun _ => by simp [vp_updL])) (Nat.le_of_ble_eq_true rfl) (Nat.le_of_ble_eq_true rfl) dL_takeOut_16)

set_option maxHeartbeats 4000000 in
set_option maxRecDepth 100000 in
/-- length -/
theorem w_length (l : Launch) (hl1 : l.stackTraces = false) (A : Nat → Prop) (D : ah_G) (F : ah_F) {x n : Nat} {P : ah_Pt} {dr S : List Nat} {td : Int32} (hC : ah_C D F x P n dr S td) {o : Nat} {fo : Nat → Int64} (ho : F o = some (ah_al D 1 fo)) {v0 : Int32} : vx_Met l yL_length (Cond.codeWith yL_length cL_length 4 (some .int) [((0 : Nat), (9 : Nat), (12 : Nat), (25 : Nat))] :: ah_T) { frames := 8, cells := 1, slots := 6, locals := 125 } (va_Pc [.ref x, .int v0, .ref o] (ah_B A D F)) (ah_Qi A D (fun (r : Int32) F1 => ah_An D F1 x o (sp_length P n dr S td v0) r)) (ah_X A D (fun _ _ => False)) 1 6 A := by
  refine ah_wmet (own := "AhoarchLaw") (hh := [((0 : Nat), (9 : Nat), (12 : Nat), (25 : Nat))]) (by decide) rfl (Nat.le_of_ble_eq_true rfl) ?_
  intro p e s m below meth c ls E hr htab hl hP hS Q hQ
  have hx := E.1
  have hb := E.2.1
  have hl : lv_has ls 4 [(0, .ref x), (1, .int v0), (2, .ref o)] := hl
  obtain ⟨b, ra, st, la, ch, cp, cl, tx, ta, dw, rf, lf, pf, plf, tf, cc, tc, pr, hxx, hbk, hra, hrows, hst, hla, hstr, hch, hcp, hcl, htx, hta, hdw, hdok, hn40, hPn, hpr, hpr20⟩ := id hC
  refine lv_aload_n hx hb dL_length_0 rfl (lv_at hl 2 rfl) ?_
  refine lv_iconst (v := (nI 0)) hx hb dL_length_1 (by decide) ?_
  refine lv_aload_n hx hb dL_length_2 rfl (lv_at hl 0 rfl) ?_
  refine lv_iload_n hx hb dL_length_3 rfl (lv_at hl 1 rfl) ?_
  refine ah_xcalli (ah_xrunV E hP hS (As := [.int v0]) (rest := [.int (nI 0), .ref o]) (b := x) (c_length l hl1 A D _ hC) lk_Law_30 li_Law_30 hxx rfl ⟨rfl, rfl, (Nat.le_of_ble_eq_true rfl), (Nat.le_of_ble_eq_true rfl)⟩ rfl hl.1 rfl (Nat.le_of_ble_eq_true rfl) dL_length_4 ⟨(Nat.le_of_ble_eq_true rfl), (Nat.le_of_ble_eq_true rfl)⟩) hS (fun E0 q9 Fx H locs hT => ?_) (fun r F1 H locs hq hP hS => ?_)
  · skip
    obtain ⟨rfl, hE, hc1⟩ := id hT.1
    · skip
      subst hE
      refine ah_catch E hT [] ⟨0, 9, 12, 25⟩ [] htab (fun z hz => by cases hz) rfl (show 25 ≠ 0 by decide) (ah_in 424 (by decide +kernel) rfl) (ah_in 439 (by decide +kernel) rfl) ?_
      obtain ⟨-, hP, hS, -⟩ := hT
      have hC1 := hC
      have ho9 := ho
      refine lv_astore_n (lv' := [(3, .ref q9), (0, .ref x), (1, .int v0), (2, .ref o)]) hx hb dL_length_12 rfl hl (by decide) rfl (fun ls hl => ?_)
      refine lv_iconst (v := (nI 1)) hx hb dL_length_13 (by decide) ?_
      rw [hQ]
      exact vx_ret (ah_iret E hr hP hS (ah_An_i (v := 0) (k := 1) (by simp only [sp_length, hc1]) hC1 ho9 (fun h => absurd h (by decide))) (Nat.le_of_ble_eq_true rfl) (Nat.le_of_ble_eq_true rfl) dL_length_14)
  · skip
    obtain ⟨rfl, i, w, r0, h1, h2, h3⟩ := hq
    have hC1 := hC
    have ho9 := ho
    refine lv_i2l (v := (Int32.toInt64 r)) hx hb dL_length_7 rfl ?_
    refine ah_last E hP hS ho9 (by omega) (by omega) dL_length_8 (fun H locs hP hS => ?_)
    obtain ⟨F2, eF2⟩ : ∃ Fz : ah_F, Fz = ah_up F o (ah_al D 1 (vp_updL fo 0 (Int32.toInt64 r))) := ⟨_, rfl⟩
    have hP : ah_K A D F2 H := by rw [eF2]; exact hP
    have hF3 : F2 o = some (ah_al D 1 (vp_updL fo 0 (Int32.toInt64 r))) := by rw [eF2]; exact ah_up_s _ _ _
    refine lv_goto (tgt := 15) hx hb dL_length_9 (by decide) ?_
    refine lv_iconst (v := (nI 0)) hx hb dL_length_15 (by decide) ?_
    have hC9 := ah_C_o (e := ah_al D 1 (vp_updL fo 0 (Int32.toInt64 r))) hC1 ho9
    rw [← eF2] at hC9
    rw [hQ]
    exact vx_ret (ah_iret E hr hP hS (ah_An_i (v := r) (k := 0) (by simp only [sp_length, h1, ah_w_s h2, h3]) hC9 hF3 (fun _ => by simp [vp_updL])) (Nat.le_of_ble_eq_true rfl) (Nat.le_of_ble_eq_true rfl) dL_length_16)

set_option maxHeartbeats 4000000 in
set_option maxRecDepth 100000 in
/-- link -/
theorem w_link (l : Launch) (hl1 : l.stackTraces = false) (A : Nat → Prop) (D : ah_G) (F : ah_F) {x n : Nat} {P : ah_Pt} {dr S : List Nat} {td : Int32} (hC : ah_C D F x P n dr S td) {o : Nat} {fo : Nat → Int64} (ho : F o = some (ah_al D 1 fo)) {v0 : Int32} : vx_Met l yL_link (Cond.codeWith yL_link cL_link 4 (some .int) [((0 : Nat), (9 : Nat), (12 : Nat), (25 : Nat))] :: ah_T) { frames := 8, cells := 1, slots := 6, locals := 126 } (va_Pc [.ref x, .int v0, .ref o] (ah_B A D F)) (ah_Qi A D (fun (r : Int32) F1 => ah_An D F1 x o (sp_link P n dr S td v0) r)) (ah_X A D (fun _ _ => False)) 1 6 A := by
  refine ah_wmet (own := "AhoarchLaw") (hh := [((0 : Nat), (9 : Nat), (12 : Nat), (25 : Nat))]) (by decide) rfl (Nat.le_of_ble_eq_true rfl) ?_
  intro p e s m below meth c ls E hr htab hl hP hS Q hQ
  have hx := E.1
  have hb := E.2.1
  have hl : lv_has ls 4 [(0, .ref x), (1, .int v0), (2, .ref o)] := hl
  obtain ⟨b, ra, st, la, ch, cp, cl, tx, ta, dw, rf, lf, pf, plf, tf, cc, tc, pr, hxx, hbk, hra, hrows, hst, hla, hstr, hch, hcp, hcl, htx, hta, hdw, hdok, hn40, hPn, hpr, hpr20⟩ := id hC
  refine lv_aload_n hx hb dL_link_0 rfl (lv_at hl 2 rfl) ?_
  refine lv_iconst (v := (nI 0)) hx hb dL_link_1 (by decide) ?_
  refine lv_aload_n hx hb dL_link_2 rfl (lv_at hl 0 rfl) ?_
  refine lv_iload_n hx hb dL_link_3 rfl (lv_at hl 1 rfl) ?_
  refine ah_xcalli (ah_xrunV E hP hS (As := [.int v0]) (rest := [.int (nI 0), .ref o]) (b := x) (c_link l hl1 A D _ hC) lk_Law_33 li_Law_33 hxx rfl ⟨rfl, rfl, (Nat.le_of_ble_eq_true rfl), (Nat.le_of_ble_eq_true rfl)⟩ rfl hl.1 rfl (Nat.le_of_ble_eq_true rfl) dL_link_4 ⟨(Nat.le_of_ble_eq_true rfl), (Nat.le_of_ble_eq_true rfl)⟩) hS (fun E0 q9 Fx H locs hT => ?_) (fun r F1 H locs hq hP hS => ?_)
  · skip
    obtain ⟨rfl, hE, hc1⟩ := id hT.1
    · skip
      subst hE
      refine ah_catch E hT [] ⟨0, 9, 12, 25⟩ [] htab (fun z hz => by cases hz) rfl (show 25 ≠ 0 by decide) (ah_in 424 (by decide +kernel) rfl) (ah_in 439 (by decide +kernel) rfl) ?_
      obtain ⟨-, hP, hS, -⟩ := hT
      have hC1 := hC
      have ho9 := ho
      refine lv_astore_n (lv' := [(3, .ref q9), (0, .ref x), (1, .int v0), (2, .ref o)]) hx hb dL_link_12 rfl hl (by decide) rfl (fun ls hl => ?_)
      refine lv_iconst (v := (nI 1)) hx hb dL_link_13 (by decide) ?_
      rw [hQ]
      exact vx_ret (ah_iret E hr hP hS (ah_An_i (v := 0) (k := 1) (by simp only [sp_link, hc1]) hC1 ho9 (fun h => absurd h (by decide))) (Nat.le_of_ble_eq_true rfl) (Nat.le_of_ble_eq_true rfl) dL_link_14)
  · skip
    obtain ⟨rfl, i, w, r0, h1, h2, h3⟩ := hq
    have hC1 := hC
    have ho9 := ho
    refine lv_i2l (v := (Int32.toInt64 r)) hx hb dL_link_7 rfl ?_
    refine ah_last E hP hS ho9 (by omega) (by omega) dL_link_8 (fun H locs hP hS => ?_)
    obtain ⟨F2, eF2⟩ : ∃ Fz : ah_F, Fz = ah_up F o (ah_al D 1 (vp_updL fo 0 (Int32.toInt64 r))) := ⟨_, rfl⟩
    have hP : ah_K A D F2 H := by rw [eF2]; exact hP
    have hF3 : F2 o = some (ah_al D 1 (vp_updL fo 0 (Int32.toInt64 r))) := by rw [eF2]; exact ah_up_s _ _ _
    refine lv_goto (tgt := 15) hx hb dL_link_9 (by decide) ?_
    refine lv_iconst (v := (nI 0)) hx hb dL_link_15 (by decide) ?_
    have hC9 := ah_C_o (e := ah_al D 1 (vp_updL fo 0 (Int32.toInt64 r))) hC1 ho9
    rw [← eF2] at hC9
    rw [hQ]
    exact vx_ret (ah_iret E hr hP hS (ah_An_i (v := r) (k := 0) (by simp only [sp_link, h1, ah_w_s h2, h3]) hC9 hF3 (fun _ => by simp [vp_updL])) (Nat.le_of_ble_eq_true rfl) (Nat.le_of_ble_eq_true rfl) dL_link_16)

set_option maxHeartbeats 4000000 in
set_option maxRecDepth 100000 in
/-- occurrencesOf -/
theorem w_occurrencesOf (l : Launch) (hl1 : l.stackTraces = false) (A : Nat → Prop) (D : ah_G) (F : ah_F) {x n : Nat} {P : ah_Pt} {dr S : List Nat} {td : Int32} (hC : ah_C D F x P n dr S td) {o : Nat} {fo : Nat → Int64} (ho : F o = some (ah_al D 1 fo)) {v0 : Int32} : vx_Met l yL_occurrencesOf (Cond.codeWith yL_occurrencesOf cL_occurrencesOf 4 (some .int) [((0 : Nat), (9 : Nat), (12 : Nat), (25 : Nat))] :: ah_T) { frames := 8, cells := 1, slots := 6, locals := 125 } (va_Pc [.ref x, .int v0, .ref o] (ah_B A D F)) (ah_Qi A D (fun (r : Int32) F1 => ah_An D F1 x o (sp_occurrencesOf P n dr S td v0) r)) (ah_X A D (fun _ _ => False)) 1 6 A := by
  refine ah_wmet (own := "AhoarchLaw") (hh := [((0 : Nat), (9 : Nat), (12 : Nat), (25 : Nat))]) (by decide) rfl (Nat.le_of_ble_eq_true rfl) ?_
  intro p e s m below meth c ls E hr htab hl hP hS Q hQ
  have hx := E.1
  have hb := E.2.1
  have hl : lv_has ls 4 [(0, .ref x), (1, .int v0), (2, .ref o)] := hl
  obtain ⟨b, ra, st, la, ch, cp, cl, tx, ta, dw, rf, lf, pf, plf, tf, cc, tc, pr, hxx, hbk, hra, hrows, hst, hla, hstr, hch, hcp, hcl, htx, hta, hdw, hdok, hn40, hPn, hpr, hpr20⟩ := id hC
  refine lv_aload_n hx hb dL_occurrencesOf_0 rfl (lv_at hl 2 rfl) ?_
  refine lv_iconst (v := (nI 0)) hx hb dL_occurrencesOf_1 (by decide) ?_
  refine lv_aload_n hx hb dL_occurrencesOf_2 rfl (lv_at hl 0 rfl) ?_
  refine lv_iload_n hx hb dL_occurrencesOf_3 rfl (lv_at hl 1 rfl) ?_
  refine ah_xcalli (ah_xrunV E hP hS (As := [.int v0]) (rest := [.int (nI 0), .ref o]) (b := x) (c_occurrencesOf l hl1 A D _ hC) lk_Law_51 li_Law_51 hxx rfl ⟨rfl, rfl, (Nat.le_of_ble_eq_true rfl), (Nat.le_of_ble_eq_true rfl)⟩ rfl hl.1 rfl (Nat.le_of_ble_eq_true rfl) dL_occurrencesOf_4 ⟨(Nat.le_of_ble_eq_true rfl), (Nat.le_of_ble_eq_true rfl)⟩) hS (fun E0 q9 Fx H locs hT => ?_) (fun r F1 H locs hq hP hS => ?_)
  · skip
    obtain ⟨rfl, hE, hc1⟩ := id hT.1
    · skip
      subst hE
      refine ah_catch E hT [] ⟨0, 9, 12, 25⟩ [] htab (fun z hz => by cases hz) rfl (show 25 ≠ 0 by decide) (ah_in 424 (by decide +kernel) rfl) (ah_in 439 (by decide +kernel) rfl) ?_
      obtain ⟨-, hP, hS, -⟩ := hT
      have hC1 := hC
      have ho9 := ho
      refine lv_astore_n (lv' := [(3, .ref q9), (0, .ref x), (1, .int v0), (2, .ref o)]) hx hb dL_occurrencesOf_12 rfl hl (by decide) rfl (fun ls hl => ?_)
      refine lv_iconst (v := (nI 1)) hx hb dL_occurrencesOf_13 (by decide) ?_
      rw [hQ]
      exact vx_ret (ah_iret E hr hP hS (ah_An_i (v := 0) (k := 1) (by simp only [sp_occurrencesOf, hc1]) hC1 ho9 (fun h => absurd h (by decide))) (Nat.le_of_ble_eq_true rfl) (Nat.le_of_ble_eq_true rfl) dL_occurrencesOf_14)
  · skip
    obtain ⟨rfl, i, w, r0, h1, h2, h3⟩ := hq
    have hC1 := hC
    have ho9 := ho
    refine lv_i2l (v := (Int32.toInt64 r)) hx hb dL_occurrencesOf_7 rfl ?_
    refine ah_last E hP hS ho9 (by omega) (by omega) dL_occurrencesOf_8 (fun H locs hP hS => ?_)
    obtain ⟨F2, eF2⟩ : ∃ Fz : ah_F, Fz = ah_up F o (ah_al D 1 (vp_updL fo 0 (Int32.toInt64 r))) := ⟨_, rfl⟩
    have hP : ah_K A D F2 H := by rw [eF2]; exact hP
    have hF3 : F2 o = some (ah_al D 1 (vp_updL fo 0 (Int32.toInt64 r))) := by rw [eF2]; exact ah_up_s _ _ _
    refine lv_goto (tgt := 15) hx hb dL_occurrencesOf_9 (by decide) ?_
    refine lv_iconst (v := (nI 0)) hx hb dL_occurrencesOf_15 (by decide) ?_
    have hC9 := ah_C_o (e := ah_al D 1 (vp_updL fo 0 (Int32.toInt64 r))) hC1 ho9
    rw [← eF2] at hC9
    rw [hQ]
    exact vx_ret (ah_iret E hr hP hS (ah_An_i (v := r) (k := 0) (by simp only [sp_occurrencesOf, h1, ah_w_s h2, h3]) hC9 hF3 (fun _ => by simp [vp_updL])) (Nat.le_of_ble_eq_true rfl) (Nat.le_of_ble_eq_true rfl) dL_occurrencesOf_16)

set_option maxHeartbeats 4000000 in
set_option maxRecDepth 100000 in
/-- overlap -/
theorem w_overlap (l : Launch) (hl1 : l.stackTraces = false) (A : Nat → Prop) (D : ah_G) (F : ah_F) {x n : Nat} {P : ah_Pt} {dr S : List Nat} {td : Int32} (hC : ah_C D F x P n dr S td) {o : Nat} {fo : Nat → Int64} (ho : F o = some (ah_al D 1 fo)) {v0 v1 : Int32} : vx_Met l yL_overlap (Cond.codeWith yL_overlap cL_overlap 5 (some .int) [((0 : Nat), (10 : Nat), (13 : Nat), (25 : Nat))] :: ah_T) { frames := 8, cells := 2, slots := 12, locals := 129 } (va_Pc [.ref x, .int v0, .int v1, .ref o] (ah_B A D F)) (ah_Qi A D (fun (r : Int32) F1 => ah_An D F1 x o (sp_overlap P n dr S td v0 v1) r)) (ah_X A D (fun _ _ => False)) 2 12 A := by
  refine ah_wmet (own := "AhoarchLaw") (hh := [((0 : Nat), (10 : Nat), (13 : Nat), (25 : Nat))]) (by decide) rfl (Nat.le_of_ble_eq_true rfl) ?_
  intro p e s m below meth c ls E hr htab hl hP hS Q hQ
  have hx := E.1
  have hb := E.2.1
  have hl : lv_has ls 5 [(0, .ref x), (1, .int v0), (2, .int v1), (3, .ref o)] := hl
  obtain ⟨b, ra, st, la, ch, cp, cl, tx, ta, dw, rf, lf, pf, plf, tf, cc, tc, pr, hxx, hbk, hra, hrows, hst, hla, hstr, hch, hcp, hcl, htx, hta, hdw, hdok, hn40, hPn, hpr, hpr20⟩ := id hC
  refine lv_aload_n hx hb dL_overlap_0 rfl (lv_at hl 3 rfl) ?_
  refine lv_iconst (v := (nI 0)) hx hb dL_overlap_1 (by decide) ?_
  refine lv_aload_n hx hb dL_overlap_2 rfl (lv_at hl 0 rfl) ?_
  refine lv_iload_n hx hb dL_overlap_3 rfl (lv_at hl 1 rfl) ?_
  refine lv_iload_n hx hb dL_overlap_4 rfl (lv_at hl 2 rfl) ?_
  refine ah_xcalli (ah_xrunV E hP hS (As := [.int v0, .int v1]) (rest := [.int (nI 0), .ref o]) (b := x) (c_overlap l hl1 A D _ hC) lk_Law_36 li_Law_36 hxx rfl ⟨rfl, rfl, (Nat.le_of_ble_eq_true rfl), (Nat.le_of_ble_eq_true rfl)⟩ rfl hl.1 rfl (Nat.le_of_ble_eq_true rfl) dL_overlap_5 ⟨(Nat.le_of_ble_eq_true rfl), (Nat.le_of_ble_eq_true rfl)⟩) hS (fun E0 q9 Fx H locs hT => ?_) (fun r F1 H locs hq hP hS => ?_)
  · skip
    obtain ⟨rfl, hE, hc1⟩ := id hT.1
    · skip
      subst hE
      refine ah_catch E hT [] ⟨0, 10, 13, 25⟩ [] htab (fun z hz => by cases hz) rfl (show 25 ≠ 0 by decide) (ah_in 424 (by decide +kernel) rfl) (ah_in 439 (by decide +kernel) rfl) ?_
      obtain ⟨-, hP, hS, -⟩ := hT
      have hC1 := hC
      have ho9 := ho
      refine lv_astore (lv' := [(4, .ref q9), (0, .ref x), (1, .int v0), (2, .int v1), (3, .ref o)]) hx hb dL_overlap_13 hl (by decide) rfl (fun ls hl => ?_)
      refine lv_iconst (v := (nI 1)) hx hb dL_overlap_15 (by decide) ?_
      rw [hQ]
      exact vx_ret (ah_iret E hr hP hS (ah_An_i (v := 0) (k := 1) (Or.elim hc1 (fun h => by simp only [sp_overlap, h]) (fun h => by simp only [sp_overlap, h]; cases ah_pi P v0 <;> rfl)) hC1 ho9 (fun h => absurd h (by decide))) (Nat.le_of_ble_eq_true rfl) (Nat.le_of_ble_eq_true rfl) dL_overlap_16)
  · skip
    obtain ⟨rfl, i, w, r0, j, w2, r02, h1, h2, h3, h4, h5⟩ := hq
    have hC1 := hC
    have ho9 := ho
    refine lv_i2l (v := (Int32.toInt64 r)) hx hb dL_overlap_8 rfl ?_
    refine ah_last E hP hS ho9 (by omega) (by omega) dL_overlap_9 (fun H locs hP hS => ?_)
    obtain ⟨F2, eF2⟩ : ∃ Fz : ah_F, Fz = ah_up F o (ah_al D 1 (vp_updL fo 0 (Int32.toInt64 r))) := ⟨_, rfl⟩
    have hP : ah_K A D F2 H := by rw [eF2]; exact hP
    have hF3 : F2 o = some (ah_al D 1 (vp_updL fo 0 (Int32.toInt64 r))) := by rw [eF2]; exact ah_up_s _ _ _
    refine lv_goto (tgt := 17) hx hb dL_overlap_10 (by decide) ?_
    refine lv_iconst (v := (nI 0)) hx hb dL_overlap_17 (by decide) ?_
    have hC9 := ah_C_o (e := ah_al D 1 (vp_updL fo 0 (Int32.toInt64 r))) hC1 ho9
    rw [← eF2] at hC9
    rw [hQ]
    exact vx_ret (ah_iret E hr hP hS (ah_An_i (v := r) (k := 0) (by simp only [sp_overlap, h1, ah_w_s h2, h3, ah_w_s h4, h5]) hC9 hF3 (fun _ => by simp [vp_updL])) (Nat.le_of_ble_eq_true rfl) (Nat.le_of_ble_eq_true rfl) dL_overlap_18)

set_option maxHeartbeats 4000000 in
set_option maxRecDepth 100000 in
/-- feed -/
theorem w_feed (l : Launch) (hl1 : l.stackTraces = false) (A : Nat → Prop) (D : ah_G) (F : ah_F) {x n : Nat} {P : ah_Pt} {dr S : List Nat} {td : Int32} (hC : ah_C D F x P n dr S td) {o : Nat} {fo : Nat → Int64} (ho : F o = some (ah_al D 1 fo)) {cv : Nat} (hcv : cv < 65536) : vx_Met l yL_feed (Cond.codeWith yL_feed cL_feed 4 (some .int) [((0 : Nat), (9 : Nat), (12 : Nat), (13 : Nat)), ((0 : Nat), (9 : Nat), (15 : Nat), (15 : Nat))] :: ah_T) { frames := 8, cells := 2, slots := 12, locals := 124 } (va_Pc [.ref x, .int (nI cv), .ref o] (ah_B A D F)) (ah_Qi A D (fun (r : Int32) F1 => ah_An D F1 x o (sp_feed P n dr S td cv) r)) (ah_X A D (fun _ _ => False)) 2 12 A := by
  refine ah_wmet (own := "AhoarchLaw") (hh := [((0 : Nat), (9 : Nat), (12 : Nat), (13 : Nat)), ((0 : Nat), (9 : Nat), (15 : Nat), (15 : Nat))]) (by decide) rfl (Nat.le_of_ble_eq_true rfl) ?_
  intro p e s m below meth c ls E hr htab hl hP hS Q hQ
  have hx := E.1
  have hb := E.2.1
  have hl : lv_has ls 4 [(0, .ref x), (1, .int (nI cv)), (2, .ref o)] := hl
  obtain ⟨b, ra, st, la, ch, cp, cl, tx, ta, dw, rf, lf, pf, plf, tf, cc, tc, pr, hxx, hbk, hra, hrows, hst, hla, hstr, hch, hcp, hcl, htx, hta, hdw, hdok, hn40, hPn, hpr, hpr20⟩ := id hC
  refine lv_aload_n hx hb dL_feed_0 rfl (lv_at hl 2 rfl) ?_
  refine lv_iconst (v := (nI 0)) hx hb dL_feed_1 (by decide) ?_
  refine lv_aload_n hx hb dL_feed_2 rfl (lv_at hl 0 rfl) ?_
  refine lv_iload_n hx hb dL_feed_3 rfl (lv_at hl 1 rfl) ?_
  refine ah_xcalli (ah_xrunV E hP hS (As := [.int (nI cv)]) (rest := [.int (nI 0), .ref o]) (b := x) (c_feed l hl1 A D _ hC hcv) lk_Law_40 li_Law_40 hxx rfl ⟨rfl, rfl, (Nat.le_of_ble_eq_true rfl), (Nat.le_of_ble_eq_true rfl)⟩ rfl hl.1 rfl (Nat.le_of_ble_eq_true rfl) dL_feed_4 ⟨(Nat.le_of_ble_eq_true rfl), (Nat.le_of_ble_eq_true rfl)⟩) hS (fun E0 q9 Fx H locs hT => ?_) (fun r F1 H locs hq hP hS => ?_)
  · skip
    obtain ⟨rfl, ⟨hE, hc1⟩ | ⟨hE, hc1⟩⟩ := id hT.1
    · skip
      subst hE
      refine ah_catch E hT [] ⟨0, 9, 12, 13⟩ [⟨0, 9, 15, 15⟩] htab (fun z hz => by cases hz) rfl (show 13 ≠ 0 by decide) (ah_in 273 (by decide +kernel) rfl) (ah_in 284 (by decide +kernel) rfl) ?_
      obtain ⟨-, hP, hS, -⟩ := hT
      have hC1 := hC
      have ho9 := ho
      refine lv_astore_n (lv' := [(3, .ref q9), (0, .ref x), (1, .int (nI cv)), (2, .ref o)]) hx hb dL_feed_12 rfl hl (by decide) rfl (fun ls hl => ?_)
      refine lv_iconst (v := (nI 1)) hx hb dL_feed_13 (by decide) ?_
      rw [hQ]
      exact vx_ret (ah_iret E hr hP hS (ah_An_i (v := 0) (k := 1) (by rw [sp_feed, if_pos hc1]) hC1 ho9 (fun h => absurd h (by decide))) (Nat.le_of_ble_eq_true rfl) (Nat.le_of_ble_eq_true rfl) dL_feed_14)
    · skip
      subst hE
      refine ah_catch E hT [⟨0, 9, 12, 13⟩] ⟨0, 9, 15, 15⟩ [] htab (fun z hz => by simp only [List.mem_cons, List.not_mem_nil, or_false] at hz; subst hz; exact ⟨(show 13 ≠ 0 by decide), "java/lang/IllegalArgumentException", (ah_in 273 (by decide +kernel) rfl), by simp [ah_Ncs]⟩) rfl (show 15 ≠ 0 by decide) (ah_in 274 (by decide +kernel) rfl) (ah_in 353 (by decide +kernel) rfl) ?_
      obtain ⟨-, hP, hS, -⟩ := hT
      have hC1 := hC
      have ho9 := ho
      refine lv_astore_n (lv' := [(3, .ref q9), (0, .ref x), (1, .int (nI cv)), (2, .ref o)]) hx hb dL_feed_15 rfl hl (by decide) rfl (fun ls hl => ?_)
      refine lv_iconst (v := (nI 2)) hx hb dL_feed_16 (by decide) ?_
      rw [hQ]
      exact vx_ret (ah_iret E hr hP hS (ah_An_i (v := 0) (k := 2) (by rw [sp_feed, if_neg (by omega), if_pos hc1.2.2]) hC1 ho9 (fun h => absurd h (by decide))) (Nat.le_of_ble_eq_true rfl) (Nat.le_of_ble_eq_true rfl) dL_feed_17)
  · skip
    obtain ⟨y, hy, h1, h2, h3, h4, hC1, ho1⟩ := hq
    have ho9 := (ho1 o fo ho).trans ho
    refine lv_i2l (v := (Int32.toInt64 r)) hx hb dL_feed_7 rfl ?_
    refine ah_last E hP hS ho9 (by omega) (by omega) dL_feed_8 (fun H locs hP hS => ?_)
    obtain ⟨F2, eF2⟩ : ∃ Fz : ah_F, Fz = ah_up F1 o (ah_al D 1 (vp_updL fo 0 (Int32.toInt64 r))) := ⟨_, rfl⟩
    have hP : ah_K A D F2 H := by rw [eF2]; exact hP
    have hF3 : F2 o = some (ah_al D 1 (vp_updL fo 0 (Int32.toInt64 r))) := by rw [eF2]; exact ah_up_s _ _ _
    refine lv_goto (tgt := 18) hx hb dL_feed_9 (by decide) ?_
    refine lv_iconst (v := (nI 0)) hx hb dL_feed_18 (by decide) ?_
    have hC9 := ah_C_o (e := ah_al D 1 (vp_updL fo 0 (Int32.toInt64 r))) hC1 ho9
    rw [← eF2] at hC9
    rw [hQ]
    exact vx_ret (ah_iret E hr hP hS (ah_An_i (v := r) (k := 0) (by rw [sp_feed, if_neg (by omega), if_neg (by omega), show cv - 96 = y by omega, h4]) hC9 hF3 (fun _ => by simp [vp_updL])) (Nat.le_of_ble_eq_true rfl) (Nat.le_of_ble_eq_true rfl) dL_feed_19)

set_option maxHeartbeats 4000000 in
set_option maxRecDepth 100000 in
/-- feedPattern -/
theorem w_feedPattern (l : Launch) (hl1 : l.stackTraces = false) (A : Nat → Prop) (D : ah_G) (F : ah_F) {x n : Nat} {P : ah_Pt} {dr S : List Nat} {td : Int32} (hC : ah_C D F x P n dr S td) {o : Nat} {fo : Nat → Int64} (ho : F o = some (ah_al D 1 fo)) {v0 : Int32} : vx_Met l yL_feedPattern (Cond.codeWith yL_feedPattern cL_feedPattern 4 (some .int) [((0 : Nat), (9 : Nat), (12 : Nat), (25 : Nat)), ((0 : Nat), (9 : Nat), (15 : Nat), (15 : Nat))] :: ah_T) { frames := 8, cells := 2, slots := 12, locals := 128 } (va_Pc [.ref x, .int v0, .ref o] (ah_B A D F)) (ah_Qi A D (fun (r : Int32) F1 => ah_An D F1 x o (sp_feedPattern P n dr S td v0) r)) (ah_X A D (fun _ _ => False)) 2 12 A := by
  refine ah_wmet (own := "AhoarchLaw") (hh := [((0 : Nat), (9 : Nat), (12 : Nat), (25 : Nat)), ((0 : Nat), (9 : Nat), (15 : Nat), (15 : Nat))]) (by decide) rfl (Nat.le_of_ble_eq_true rfl) ?_
  intro p e s m below meth c ls E hr htab hl hP hS Q hQ
  have hx := E.1
  have hb := E.2.1
  have hl : lv_has ls 4 [(0, .ref x), (1, .int v0), (2, .ref o)] := hl
  obtain ⟨b, ra, st, la, ch, cp, cl, tx, ta, dw, rf, lf, pf, plf, tf, cc, tc, pr, hxx, hbk, hra, hrows, hst, hla, hstr, hch, hcp, hcl, htx, hta, hdw, hdok, hn40, hPn, hpr, hpr20⟩ := id hC
  refine lv_aload_n hx hb dL_feedPattern_0 rfl (lv_at hl 2 rfl) ?_
  refine lv_iconst (v := (nI 0)) hx hb dL_feedPattern_1 (by decide) ?_
  refine lv_aload_n hx hb dL_feedPattern_2 rfl (lv_at hl 0 rfl) ?_
  refine lv_iload_n hx hb dL_feedPattern_3 rfl (lv_at hl 1 rfl) ?_
  refine ah_xcalli (ah_xrunV E hP hS (As := [.int v0]) (rest := [.int (nI 0), .ref o]) (b := x) (c_feedPattern l hl1 A D _ hC) lk_Law_43 li_Law_43 hxx rfl ⟨rfl, rfl, (Nat.le_of_ble_eq_true rfl), (Nat.le_of_ble_eq_true rfl)⟩ rfl hl.1 rfl (Nat.le_of_ble_eq_true rfl) dL_feedPattern_4 ⟨(Nat.le_of_ble_eq_true rfl), (Nat.le_of_ble_eq_true rfl)⟩) hS (fun E0 q9 Fx H locs hT => ?_) (fun r F1 H locs hq hP hS => ?_)
  · skip
    obtain ⟨rfl, ⟨hE, hc1⟩ | ⟨hE, hc1⟩⟩ := id hT.1
    · skip
      subst hE
      refine ah_catch E hT [] ⟨0, 9, 12, 25⟩ [⟨0, 9, 15, 15⟩] htab (fun z hz => by cases hz) rfl (show 25 ≠ 0 by decide) (ah_in 424 (by decide +kernel) rfl) (ah_in 439 (by decide +kernel) rfl) ?_
      obtain ⟨-, hP, hS, -⟩ := hT
      have hC1 := hC
      have ho9 := ho
      refine lv_astore_n (lv' := [(3, .ref q9), (0, .ref x), (1, .int v0), (2, .ref o)]) hx hb dL_feedPattern_12 rfl hl (by decide) rfl (fun ls hl => ?_)
      refine lv_iconst (v := (nI 1)) hx hb dL_feedPattern_13 (by decide) ?_
      rw [hQ]
      exact vx_ret (ah_iret E hr hP hS (ah_An_i (v := 0) (k := 1) (by simp only [sp_feedPattern, hc1]) hC1 ho9 (fun h => absurd h (by decide))) (Nat.le_of_ble_eq_true rfl) (Nat.le_of_ble_eq_true rfl) dL_feedPattern_14)
    · skip
      subst hE
      refine ah_catch E hT [⟨0, 9, 12, 25⟩] ⟨0, 9, 15, 15⟩ [] htab (fun z hz => by simp only [List.mem_cons, List.not_mem_nil, or_false] at hz; subst hz; exact ⟨(show 25 ≠ 0 by decide), "java/util/NoSuchElementException", (ah_in 424 (by decide +kernel) rfl), by simp [ah_Ncs]⟩) rfl (show 15 ≠ 0 by decide) (ah_in 274 (by decide +kernel) rfl) (ah_in 353 (by decide +kernel) rfl) ?_
      obtain ⟨-, hP, hS, -⟩ := hT
      have hC1 := hC
      have ho9 := ho
      refine lv_astore_n (lv' := [(3, .ref q9), (0, .ref x), (1, .int v0), (2, .ref o)]) hx hb dL_feedPattern_15 rfl hl (by decide) rfl (fun ls hl => ?_)
      refine lv_iconst (v := (nI 2)) hx hb dL_feedPattern_16 (by decide) ?_
      rw [hQ]
      exact vx_ret (ah_iret E hr hP hS (ah_An_i (v := 0) (k := 2) (by obtain ⟨i, w, r0, g1, g2, g3⟩ := hc1; simp only [sp_feedPattern, g1, ah_w_s g2]; rw [if_pos g3]) hC1 ho9 (fun h => absurd h (by decide))) (Nat.le_of_ble_eq_true rfl) (Nat.le_of_ble_eq_true rfl) dL_feedPattern_17)
  · skip
    obtain ⟨i, w, r0, h1, h2, h3, h4, hC1, ho1⟩ := hq
    have ho9 := (ho1 o fo ho).trans ho
    refine lv_i2l (v := (Int32.toInt64 r)) hx hb dL_feedPattern_7 rfl ?_
    refine ah_last E hP hS ho9 (by omega) (by omega) dL_feedPattern_8 (fun H locs hP hS => ?_)
    obtain ⟨F2, eF2⟩ : ∃ Fz : ah_F, Fz = ah_up F1 o (ah_al D 1 (vp_updL fo 0 (Int32.toInt64 r))) := ⟨_, rfl⟩
    have hP : ah_K A D F2 H := by rw [eF2]; exact hP
    have hF3 : F2 o = some (ah_al D 1 (vp_updL fo 0 (Int32.toInt64 r))) := by rw [eF2]; exact ah_up_s _ _ _
    refine lv_goto (tgt := 18) hx hb dL_feedPattern_9 (by decide) ?_
    refine lv_iconst (v := (nI 0)) hx hb dL_feedPattern_18 (by decide) ?_
    have hC9 := ah_C_o (e := ah_al D 1 (vp_updL fo 0 (Int32.toInt64 r))) hC1 ho9
    rw [← eF2] at hC9
    rw [hQ]
    exact vx_ret (ah_iret E hr hP hS (ah_An_i (v := r) (k := 0) (by simp only [sp_feedPattern, h1, ah_w_s h2]; rw [if_neg (by omega), h4]) hC9 hF3 (fun _ => by simp [vp_updL])) (Nat.le_of_ble_eq_true rfl) (Nat.le_of_ble_eq_true rfl) dL_feedPattern_19)

set_option maxHeartbeats 4000000 in
set_option maxRecDepth 100000 in
/-- endingPattern -/
theorem w_endingPattern (l : Launch) (hl1 : l.stackTraces = false) (A : Nat → Prop) (D : ah_G) (F : ah_F) {x n : Nat} {P : ah_Pt} {dr S : List Nat} {td : Int32} (hC : ah_C D F x P n dr S td) {o : Nat} {fo : Nat → Int64} (ho : F o = some (ah_al D 1 fo)) {v0 : Int32} : vx_Met l yL_endingPattern (Cond.codeWith yL_endingPattern cL_endingPattern 4 (some .int) [((0 : Nat), (9 : Nat), (12 : Nat), (49 : Nat))] :: ah_T) { frames := 7, cells := 1, slots := 6, locals := 117 } (va_Pc [.ref x, .int v0, .ref o] (ah_B A D F)) (ah_Qi A D (fun (r : Int32) F1 => ah_An D F1 x o (sp_endingPattern P n dr S td v0) r)) (ah_X A D (fun _ _ => False)) 1 6 A := by
  refine ah_wmet (own := "AhoarchLaw") (hh := [((0 : Nat), (9 : Nat), (12 : Nat), (49 : Nat))]) (by decide) rfl (Nat.le_of_ble_eq_true rfl) ?_
  intro p e s m below meth c ls E hr htab hl hP hS Q hQ
  have hx := E.1
  have hb := E.2.1
  have hl : lv_has ls 4 [(0, .ref x), (1, .int v0), (2, .ref o)] := hl
  obtain ⟨b, ra, st, la, ch, cp, cl, tx, ta, dw, rf, lf, pf, plf, tf, cc, tc, pr, hxx, hbk, hra, hrows, hst, hla, hstr, hch, hcp, hcl, htx, hta, hdw, hdok, hn40, hPn, hpr, hpr20⟩ := id hC
  refine lv_aload_n hx hb dL_endingPattern_0 rfl (lv_at hl 2 rfl) ?_
  refine lv_iconst (v := (nI 0)) hx hb dL_endingPattern_1 (by decide) ?_
  refine lv_aload_n hx hb dL_endingPattern_2 rfl (lv_at hl 0 rfl) ?_
  refine lv_iload_n hx hb dL_endingPattern_3 rfl (lv_at hl 1 rfl) ?_
  refine ah_xcalli (ah_xrunV E hP hS (As := [.int v0]) (rest := [.int (nI 0), .ref o]) (b := x) (c_endingPattern l hl1 A D _ hC) lk_Law_46 li_Law_46 hxx rfl ⟨rfl, rfl, (Nat.le_of_ble_eq_true rfl), (Nat.le_of_ble_eq_true rfl)⟩ rfl hl.1 rfl (Nat.le_of_ble_eq_true rfl) dL_endingPattern_4 ⟨(Nat.le_of_ble_eq_true rfl), (Nat.le_of_ble_eq_true rfl)⟩) hS (fun E0 q9 Fx H locs hT => ?_) (fun r F1 H locs hq hP hS => ?_)
  · skip
    obtain ⟨rfl, hE, hc1⟩ := id hT.1
    · skip
      subst hE
      refine ah_catch E hT [] ⟨0, 9, 12, 49⟩ [] htab (fun z hz => by cases hz) rfl (show 49 ≠ 0 by decide) (ah_in 528 (by decide +kernel) rfl) (ah_in 543 (by decide +kernel) rfl) ?_
      obtain ⟨-, hP, hS, -⟩ := hT
      have hC1 := hC
      have ho9 := ho
      refine lv_astore_n (lv' := [(3, .ref q9), (0, .ref x), (1, .int v0), (2, .ref o)]) hx hb dL_endingPattern_12 rfl hl (by decide) rfl (fun ls hl => ?_)
      refine lv_iconst (v := (nI 1)) hx hb dL_endingPattern_13 (by decide) ?_
      rw [hQ]
      exact vx_ret (ah_iret E hr hP hS (ah_An_i (v := 0) (k := 1) (ah_ep_none hc1) hC1 ho9 (fun h => absurd h (by decide))) (Nat.le_of_ble_eq_true rfl) (Nat.le_of_ble_eq_true rfl) dL_endingPattern_14)
  · skip
    obtain ⟨rfl, i, h1, h2⟩ := hq
    have hC1 := hC
    have ho9 := ho
    refine lv_i2l (v := (Int32.toInt64 r)) hx hb dL_endingPattern_7 rfl ?_
    refine ah_last E hP hS ho9 (by omega) (by omega) dL_endingPattern_8 (fun H locs hP hS => ?_)
    obtain ⟨F2, eF2⟩ : ∃ Fz : ah_F, Fz = ah_up F o (ah_al D 1 (vp_updL fo 0 (Int32.toInt64 r))) := ⟨_, rfl⟩
    have hP : ah_K A D F2 H := by rw [eF2]; exact hP
    have hF3 : F2 o = some (ah_al D 1 (vp_updL fo 0 (Int32.toInt64 r))) := by rw [eF2]; exact ah_up_s _ _ _
    refine lv_goto (tgt := 15) hx hb dL_endingPattern_9 (by decide) ?_
    refine lv_iconst (v := (nI 0)) hx hb dL_endingPattern_15 (by decide) ?_
    have hC9 := ah_C_o (e := ah_al D 1 (vp_updL fo 0 (Int32.toInt64 r))) hC1 ho9
    rw [← eF2] at hC9
    rw [hQ]
    exact vx_ret (ah_iret E hr hP hS (ah_An_i (v := r) (k := 0) (ah_ep_some h1 h2) hC9 hF3 (fun _ => by simp [vp_updL])) (Nat.le_of_ble_eq_true rfl) (Nat.le_of_ble_eq_true rfl) dL_endingPattern_16)

set_option maxHeartbeats 4000000 in
set_option maxRecDepth 100000 in
/-- occurrence -/
theorem w_occurrence (l : Launch) (hl1 : l.stackTraces = false) (A : Nat → Prop) (D : ah_G) (F : ah_F) {x n : Nat} {P : ah_Pt} {dr S : List Nat} {td : Int32} (hC : ah_C D F x P n dr S td) {o : Nat} {fo : Nat → Int64} (ho : F o = some (ah_al D 1 fo)) {v0 v1 : Int32} : vx_Met l yL_occurrence (Cond.codeWith yL_occurrence cL_occurrence 5 (some .int) [((0 : Nat), (10 : Nat), (13 : Nat), (25 : Nat)), ((0 : Nat), (10 : Nat), (17 : Nat), (49 : Nat))] :: ah_T) { frames := 8, cells := 2, slots := 12, locals := 127 } (va_Pc [.ref x, .int v0, .int v1, .ref o] (ah_B A D F)) (ah_Qi A D (fun (r : Int32) F1 => ah_An D F1 x o (sp_occurrence P n dr S td v0 v1) r)) (ah_X A D (fun _ _ => False)) 2 12 A := by
  refine ah_wmet (own := "AhoarchLaw") (hh := [((0 : Nat), (10 : Nat), (13 : Nat), (25 : Nat)), ((0 : Nat), (10 : Nat), (17 : Nat), (49 : Nat))]) (by decide) rfl (Nat.le_of_ble_eq_true rfl) ?_
  intro p e s m below meth c ls E hr htab hl hP hS Q hQ
  have hx := E.1
  have hb := E.2.1
  have hl : lv_has ls 5 [(0, .ref x), (1, .int v0), (2, .int v1), (3, .ref o)] := hl
  obtain ⟨b, ra, st, la, ch, cp, cl, tx, ta, dw, rf, lf, pf, plf, tf, cc, tc, pr, hxx, hbk, hra, hrows, hst, hla, hstr, hch, hcp, hcl, htx, hta, hdw, hdok, hn40, hPn, hpr, hpr20⟩ := id hC
  refine lv_aload_n hx hb dL_occurrence_0 rfl (lv_at hl 3 rfl) ?_
  refine lv_iconst (v := (nI 0)) hx hb dL_occurrence_1 (by decide) ?_
  refine lv_aload_n hx hb dL_occurrence_2 rfl (lv_at hl 0 rfl) ?_
  refine lv_iload_n hx hb dL_occurrence_3 rfl (lv_at hl 1 rfl) ?_
  refine lv_iload_n hx hb dL_occurrence_4 rfl (lv_at hl 2 rfl) ?_
  refine ah_xcalli (ah_xrunV E hP hS (As := [.int v0, .int v1]) (rest := [.int (nI 0), .ref o]) (b := x) (c_occurrence l hl1 A D _ hC) lk_Law_54 li_Law_54 hxx rfl ⟨rfl, rfl, (Nat.le_of_ble_eq_true rfl), (Nat.le_of_ble_eq_true rfl)⟩ rfl hl.1 rfl (Nat.le_of_ble_eq_true rfl) dL_occurrence_5 ⟨(Nat.le_of_ble_eq_true rfl), (Nat.le_of_ble_eq_true rfl)⟩) hS (fun E0 q9 Fx H locs hT => ?_) (fun r F1 H locs hq hP hS => ?_)
  · skip
    obtain ⟨rfl, ⟨hE, hc1⟩ | ⟨hE, hc1⟩⟩ := id hT.1
    · skip
      subst hE
      refine ah_catch E hT [] ⟨0, 10, 13, 25⟩ [⟨0, 10, 17, 49⟩] htab (fun z hz => by cases hz) rfl (show 25 ≠ 0 by decide) (ah_in 424 (by decide +kernel) rfl) (ah_in 439 (by decide +kernel) rfl) ?_
      obtain ⟨-, hP, hS, -⟩ := hT
      have hC1 := hC
      have ho9 := ho
      refine lv_astore (lv' := [(4, .ref q9), (0, .ref x), (1, .int v0), (2, .int v1), (3, .ref o)]) hx hb dL_occurrence_13 hl (by decide) rfl (fun ls hl => ?_)
      refine lv_iconst (v := (nI 1)) hx hb dL_occurrence_15 (by decide) ?_
      rw [hQ]
      exact vx_ret (ah_iret E hr hP hS (ah_An_i (v := 0) (k := 1) (by simp only [sp_occurrence, hc1]) hC1 ho9 (fun h => absurd h (by decide))) (Nat.le_of_ble_eq_true rfl) (Nat.le_of_ble_eq_true rfl) dL_occurrence_16)
    · skip
      subst hE
      refine ah_catch E hT [⟨0, 10, 13, 25⟩] ⟨0, 10, 17, 49⟩ [] htab (fun z hz => by simp only [List.mem_cons, List.not_mem_nil, or_false] at hz; subst hz; exact ⟨(show 25 ≠ 0 by decide), "java/util/NoSuchElementException", (ah_in 424 (by decide +kernel) rfl), by simp [ah_Ncs]⟩) rfl (show 49 ≠ 0 by decide) (ah_in 528 (by decide +kernel) rfl) (ah_in 543 (by decide +kernel) rfl) ?_
      obtain ⟨-, hP, hS, -⟩ := hT
      have hC1 := hC
      have ho9 := ho
      refine lv_astore (lv' := [(4, .ref q9), (0, .ref x), (1, .int v0), (2, .int v1), (3, .ref o)]) hx hb dL_occurrence_17 hl (by decide) rfl (fun ls hl => ?_)
      refine lv_iconst (v := (nI 2)) hx hb dL_occurrence_19 (by decide) ?_
      rw [hQ]
      exact vx_ret (ah_iret E hr hP hS (ah_An_i (v := 0) (k := 2) (by obtain ⟨i, w, r0, g1, g2, g3⟩ := hc1; simp only [sp_occurrence, g1, ah_w_s g2, g3]) hC1 ho9 (fun h => absurd h (by decide))) (Nat.le_of_ble_eq_true rfl) (Nat.le_of_ble_eq_true rfl) dL_occurrence_20)
  · skip
    obtain ⟨rfl, i, w, r0, k, h1, h2, h3, h4⟩ := hq
    have hC1 := hC
    have ho9 := ho
    refine lv_i2l (v := (Int32.toInt64 r)) hx hb dL_occurrence_8 rfl ?_
    refine ah_last E hP hS ho9 (by omega) (by omega) dL_occurrence_9 (fun H locs hP hS => ?_)
    obtain ⟨F2, eF2⟩ : ∃ Fz : ah_F, Fz = ah_up F o (ah_al D 1 (vp_updL fo 0 (Int32.toInt64 r))) := ⟨_, rfl⟩
    have hP : ah_K A D F2 H := by rw [eF2]; exact hP
    have hF3 : F2 o = some (ah_al D 1 (vp_updL fo 0 (Int32.toInt64 r))) := by rw [eF2]; exact ah_up_s _ _ _
    refine lv_goto (tgt := 21) hx hb dL_occurrence_10 (by decide) ?_
    refine lv_iconst (v := (nI 0)) hx hb dL_occurrence_21 (by decide) ?_
    have hC9 := ah_C_o (e := ah_al D 1 (vp_updL fo 0 (Int32.toInt64 r))) hC1 ho9
    rw [← eF2] at hC9
    rw [hQ]
    exact vx_ret (ah_iret E hr hP hS (ah_An_i (v := r) (k := 0) (by simp only [sp_occurrence, h1, ah_w_s h2, h3, h4]) hC9 hF3 (fun _ => by simp [vp_updL])) (Nat.le_of_ble_eq_true rfl) (Nat.le_of_ble_eq_true rfl) dL_occurrence_22)

set_option maxHeartbeats 4000000 in
set_option maxRecDepth 100000 in
/-- chosen -/
theorem w_chosen (l : Launch) (hl1 : l.stackTraces = false) (A : Nat → Prop) (D : ah_G) (F : ah_F) {x n : Nat} {P : ah_Pt} {dr S : List Nat} {td : Int32} (hC : ah_C D F x P n dr S td) {o : Nat} {fo : Nat → Int64} (ho : F o = some (ah_al D 1 fo)) {v0 : Int32} : vx_Met l yL_chosen (Cond.codeWith yL_chosen cL_chosen 4 (some .int) [((0 : Nat), (9 : Nat), (12 : Nat), (13 : Nat))] :: ah_T) { frames := 8, cells := 1, slots := 6, locals := 141 } (va_Pc [.ref x, .int v0, .ref o] (ah_B A D F)) (ah_Qi A D (fun (r : Int32) F1 => ah_An D F1 x o (sp_chosen P n dr S td v0) r)) (ah_X A D (fun _ _ => False)) 1 6 A := by
  refine ah_wmet (own := "AhoarchLaw") (hh := [((0 : Nat), (9 : Nat), (12 : Nat), (13 : Nat))]) (by decide) rfl (Nat.le_of_ble_eq_true rfl) ?_
  intro p e s m below meth c ls E hr htab hl hP hS Q hQ
  have hx := E.1
  have hb := E.2.1
  have hl : lv_has ls 4 [(0, .ref x), (1, .int v0), (2, .ref o)] := hl
  obtain ⟨b, ra, st, la, ch, cp, cl, tx, ta, dw, rf, lf, pf, plf, tf, cc, tc, pr, hxx, hbk, hra, hrows, hst, hla, hstr, hch, hcp, hcl, htx, hta, hdw, hdok, hn40, hPn, hpr, hpr20⟩ := id hC
  refine lv_aload_n hx hb dL_chosen_0 rfl (lv_at hl 2 rfl) ?_
  refine lv_iconst (v := (nI 0)) hx hb dL_chosen_1 (by decide) ?_
  refine lv_aload_n hx hb dL_chosen_2 rfl (lv_at hl 0 rfl) ?_
  refine lv_iload_n hx hb dL_chosen_3 rfl (lv_at hl 1 rfl) ?_
  refine ah_xcalli (ah_xrunV E hP hS (As := [.int v0]) (rest := [.int (nI 0), .ref o]) (b := x) (c_chosen l hl1 A D _ hC) lk_Law_57 li_Law_57 hxx rfl ⟨rfl, rfl, (Nat.le_of_ble_eq_true rfl), (Nat.le_of_ble_eq_true rfl)⟩ rfl hl.1 rfl (Nat.le_of_ble_eq_true rfl) dL_chosen_4 ⟨(Nat.le_of_ble_eq_true rfl), (Nat.le_of_ble_eq_true rfl)⟩) hS (fun E0 q9 Fx H locs hT => ?_) (fun r F1 H locs hq hP hS => ?_)
  · skip
    obtain ⟨rfl, hE, hc1⟩ := id hT.1
    · skip
      subst hE
      refine ah_catch E hT [] ⟨0, 9, 12, 13⟩ [] htab (fun z hz => by cases hz) rfl (show 13 ≠ 0 by decide) (ah_in 273 (by decide +kernel) rfl) (ah_in 284 (by decide +kernel) rfl) ?_
      obtain ⟨-, hP, hS, -⟩ := hT
      have hC1 := hC
      have ho9 := ho
      refine lv_astore_n (lv' := [(3, .ref q9), (0, .ref x), (1, .int v0), (2, .ref o)]) hx hb dL_chosen_12 rfl hl (by decide) rfl (fun ls hl => ?_)
      refine lv_iconst (v := (nI 1)) hx hb dL_chosen_13 (by decide) ?_
      rw [hQ]
      exact vx_ret (ah_iret E hr hP hS (ah_An_i (v := 0) (k := 1) (by simp only [sp_chosen, ah_rul_n hc1]) hC1 ho9 (fun h => absurd h (by decide))) (Nat.le_of_ble_eq_true rfl) (Nat.le_of_ble_eq_true rfl) dL_chosen_14)
  · skip
    obtain ⟨ru, h1, h2, h3, hC1, ho1⟩ := hq
    have ho9 := (ho1 o fo ho).trans ho
    refine lv_i2l (v := (Int32.toInt64 r)) hx hb dL_chosen_7 rfl ?_
    refine ah_last E hP hS ho9 (by omega) (by omega) dL_chosen_8 (fun H locs hP hS => ?_)
    obtain ⟨F2, eF2⟩ : ∃ Fz : ah_F, Fz = ah_up F1 o (ah_al D 1 (vp_updL fo 0 (Int32.toInt64 r))) := ⟨_, rfl⟩
    have hP : ah_K A D F2 H := by rw [eF2]; exact hP
    have hF3 : F2 o = some (ah_al D 1 (vp_updL fo 0 (Int32.toInt64 r))) := by rw [eF2]; exact ah_up_s _ _ _
    refine lv_goto (tgt := 15) hx hb dL_chosen_9 (by decide) ?_
    refine lv_iconst (v := (nI 0)) hx hb dL_chosen_15 (by decide) ?_
    have hC9 := ah_C_o (e := ah_al D 1 (vp_updL fo 0 (Int32.toInt64 r))) hC1 ho9
    rw [← eF2] at hC9
    rw [hQ]
    exact vx_ret (ah_iret E hr hP hS (ah_An_i (v := r) (k := 0) (by simp only [sp_chosen, ah_rul_s h1 h2, h3]) hC9 hF3 (fun _ => by simp [vp_updL])) (Nat.le_of_ble_eq_true rfl) (Nat.le_of_ble_eq_true rfl) dL_chosen_16)

set_option maxHeartbeats 4000000 in
set_option maxRecDepth 100000 in
/-- replacedLength -/
theorem w_replacedLength (l : Launch) (hl1 : l.stackTraces = false) (A : Nat → Prop) (D : ah_G) (F : ah_F) {x n : Nat} {P : ah_Pt} {dr S : List Nat} {td : Int32} (hC : ah_C D F x P n dr S td) {o : Nat} {fo : Nat → Int64} (ho : F o = some (ah_al D 1 fo)) {v0 : Int32} : vx_Met l yL_replacedLength (Cond.codeWith yL_replacedLength cL_replacedLength 4 (some .int) [((0 : Nat), (9 : Nat), (12 : Nat), (13 : Nat))] :: ah_T) { frames := 8, cells := 1, slots := 6, locals := 165 } (va_Pc [.ref x, .int v0, .ref o] (ah_B A D F)) (ah_Qi A D (fun (r : Int32) F1 => ah_An D F1 x o (sp_replacedLength P n dr S td v0) r)) (ah_X A D (fun _ _ => False)) 1 6 A := by
  refine ah_wmet (own := "AhoarchLaw") (hh := [((0 : Nat), (9 : Nat), (12 : Nat), (13 : Nat))]) (by decide) rfl (Nat.le_of_ble_eq_true rfl) ?_
  intro p e s m below meth c ls E hr htab hl hP hS Q hQ
  have hx := E.1
  have hb := E.2.1
  have hl : lv_has ls 4 [(0, .ref x), (1, .int v0), (2, .ref o)] := hl
  obtain ⟨b, ra, st, la, ch, cp, cl, tx, ta, dw, rf, lf, pf, plf, tf, cc, tc, pr, hxx, hbk, hra, hrows, hst, hla, hstr, hch, hcp, hcl, htx, hta, hdw, hdok, hn40, hPn, hpr, hpr20⟩ := id hC
  refine lv_aload_n hx hb dL_replacedLength_0 rfl (lv_at hl 2 rfl) ?_
  refine lv_iconst (v := (nI 0)) hx hb dL_replacedLength_1 (by decide) ?_
  refine lv_aload_n hx hb dL_replacedLength_2 rfl (lv_at hl 0 rfl) ?_
  refine lv_iload_n hx hb dL_replacedLength_3 rfl (lv_at hl 1 rfl) ?_
  refine ah_xcalli (ah_xrunV E hP hS (As := [.int v0]) (rest := [.int (nI 0), .ref o]) (b := x) (c_replacedLength l hl1 A D _ hC) lk_Law_66 li_Law_66 hxx rfl ⟨rfl, rfl, (Nat.le_of_ble_eq_true rfl), (Nat.le_of_ble_eq_true rfl)⟩ rfl hl.1 rfl (Nat.le_of_ble_eq_true rfl) dL_replacedLength_4 ⟨(Nat.le_of_ble_eq_true rfl), (Nat.le_of_ble_eq_true rfl)⟩) hS (fun E0 q9 Fx H locs hT => ?_) (fun r F1 H locs hq hP hS => ?_)
  · skip
    obtain ⟨rfl, hE, hc1⟩ := id hT.1
    · skip
      subst hE
      refine ah_catch E hT [] ⟨0, 9, 12, 13⟩ [] htab (fun z hz => by cases hz) rfl (show 13 ≠ 0 by decide) (ah_in 273 (by decide +kernel) rfl) (ah_in 284 (by decide +kernel) rfl) ?_
      obtain ⟨-, hP, hS, -⟩ := hT
      have hC1 := hC
      have ho9 := ho
      refine lv_astore_n (lv' := [(3, .ref q9), (0, .ref x), (1, .int v0), (2, .ref o)]) hx hb dL_replacedLength_12 rfl hl (by decide) rfl (fun ls hl => ?_)
      refine lv_iconst (v := (nI 1)) hx hb dL_replacedLength_13 (by decide) ?_
      rw [hQ]
      exact vx_ret (ah_iret E hr hP hS (ah_An_i (v := 0) (k := 1) (by simp only [sp_replacedLength, ah_rul_n hc1]) hC1 ho9 (fun h => absurd h (by decide))) (Nat.le_of_ble_eq_true rfl) (Nat.le_of_ble_eq_true rfl) dL_replacedLength_14)
  · skip
    obtain ⟨ru, h1, h2, h3, hC1, ho1⟩ := hq
    have ho9 := (ho1 o fo ho).trans ho
    refine lv_i2l (v := (Int32.toInt64 r)) hx hb dL_replacedLength_7 rfl ?_
    refine ah_last E hP hS ho9 (by omega) (by omega) dL_replacedLength_8 (fun H locs hP hS => ?_)
    obtain ⟨F2, eF2⟩ : ∃ Fz : ah_F, Fz = ah_up F1 o (ah_al D 1 (vp_updL fo 0 (Int32.toInt64 r))) := ⟨_, rfl⟩
    have hP : ah_K A D F2 H := by rw [eF2]; exact hP
    have hF3 : F2 o = some (ah_al D 1 (vp_updL fo 0 (Int32.toInt64 r))) := by rw [eF2]; exact ah_up_s _ _ _
    refine lv_goto (tgt := 15) hx hb dL_replacedLength_9 (by decide) ?_
    refine lv_iconst (v := (nI 0)) hx hb dL_replacedLength_15 (by decide) ?_
    have hC9 := ah_C_o (e := ah_al D 1 (vp_updL fo 0 (Int32.toInt64 r))) hC1 ho9
    rw [← eF2] at hC9
    rw [hQ]
    exact vx_ret (ah_iret E hr hP hS (ah_An_i (v := r) (k := 0) (by simp only [sp_replacedLength, ah_rul_s h1 h2, h3]) hC9 hF3 (fun _ => by simp [vp_updL])) (Nat.le_of_ble_eq_true rfl) (Nat.le_of_ble_eq_true rfl) dL_replacedLength_16)

set_option maxHeartbeats 4000000 in
set_option maxRecDepth 100000 in
/-- chosenPattern -/
theorem w_chosenPattern (l : Launch) (hl1 : l.stackTraces = false) (A : Nat → Prop) (D : ah_G) (F : ah_F) {x n : Nat} {P : ah_Pt} {dr S : List Nat} {td : Int32} (hC : ah_C D F x P n dr S td) {o : Nat} {fo : Nat → Int64} (ho : F o = some (ah_al D 1 fo)) {v0 v1 : Int32} : vx_Met l yL_chosenPattern (Cond.codeWith yL_chosenPattern cL_chosenPattern 5 (some .int) [((0 : Nat), (10 : Nat), (13 : Nat), (13 : Nat)), ((0 : Nat), (10 : Nat), (17 : Nat), (49 : Nat))] :: ah_T) { frames := 9, cells := 2, slots := 12, locals := 165 } (va_Pc [.ref x, .int v0, .int v1, .ref o] (ah_B A D F)) (ah_Qi A D (fun (r : Int32) F1 => ah_An D F1 x o (sp_chosenPattern P n dr S td v0 v1) r)) (ah_X A D (fun _ _ => False)) 2 12 A := by
  refine ah_wmet (own := "AhoarchLaw") (hh := [((0 : Nat), (10 : Nat), (13 : Nat), (13 : Nat)), ((0 : Nat), (10 : Nat), (17 : Nat), (49 : Nat))]) (by decide) rfl (Nat.le_of_ble_eq_true rfl) ?_
  intro p e s m below meth c ls E hr htab hl hP hS Q hQ
  have hx := E.1
  have hb := E.2.1
  have hl : lv_has ls 5 [(0, .ref x), (1, .int v0), (2, .int v1), (3, .ref o)] := hl
  obtain ⟨b, ra, st, la, ch, cp, cl, tx, ta, dw, rf, lf, pf, plf, tf, cc, tc, pr, hxx, hbk, hra, hrows, hst, hla, hstr, hch, hcp, hcl, htx, hta, hdw, hdok, hn40, hPn, hpr, hpr20⟩ := id hC
  refine lv_aload_n hx hb dL_chosenPattern_0 rfl (lv_at hl 3 rfl) ?_
  refine lv_iconst (v := (nI 0)) hx hb dL_chosenPattern_1 (by decide) ?_
  refine lv_aload_n hx hb dL_chosenPattern_2 rfl (lv_at hl 0 rfl) ?_
  refine lv_iload_n hx hb dL_chosenPattern_3 rfl (lv_at hl 1 rfl) ?_
  refine lv_iload_n hx hb dL_chosenPattern_4 rfl (lv_at hl 2 rfl) ?_
  refine ah_xcalli (ah_xrunV E hP hS (As := [.int v0, .int v1]) (rest := [.int (nI 0), .ref o]) (b := x) (c_chosenPattern l hl1 A D _ hC) lk_Law_60 li_Law_60 hxx rfl ⟨rfl, rfl, (Nat.le_of_ble_eq_true rfl), (Nat.le_of_ble_eq_true rfl)⟩ rfl hl.1 rfl (Nat.le_of_ble_eq_true rfl) dL_chosenPattern_5 ⟨(Nat.le_of_ble_eq_true rfl), (Nat.le_of_ble_eq_true rfl)⟩) hS (fun E0 q9 Fx H locs hT => ?_) (fun r F1 H locs hq hP hS => ?_)
  · skip
    obtain ⟨rfl, hE, hc1⟩ | ⟨hE, hC1, ho1, ru, g1, g2, g3⟩ := id hT.1
    · skip
      subst hE
      refine ah_catch E hT [] ⟨0, 10, 13, 13⟩ [⟨0, 10, 17, 49⟩] htab (fun z hz => by cases hz) rfl (show 13 ≠ 0 by decide) (ah_in 273 (by decide +kernel) rfl) (ah_in 284 (by decide +kernel) rfl) ?_
      obtain ⟨-, hP, hS, -⟩ := hT
      have hC1 := hC
      have ho9 := ho
      refine lv_astore (lv' := [(4, .ref q9), (0, .ref x), (1, .int v0), (2, .int v1), (3, .ref o)]) hx hb dL_chosenPattern_13 hl (by decide) rfl (fun ls hl => ?_)
      refine lv_iconst (v := (nI 1)) hx hb dL_chosenPattern_15 (by decide) ?_
      rw [hQ]
      exact vx_ret (ah_iret E hr hP hS (ah_An_i (v := 0) (k := 1) (by simp only [sp_chosenPattern, ah_rul_n hc1]) hC1 ho9 (fun h => absurd h (by decide))) (Nat.le_of_ble_eq_true rfl) (Nat.le_of_ble_eq_true rfl) dL_chosenPattern_16)
    · skip
      subst hE
      refine ah_catch E hT [⟨0, 10, 13, 13⟩] ⟨0, 10, 17, 49⟩ [] htab (fun z hz => by simp only [List.mem_cons, List.not_mem_nil, or_false] at hz; subst hz; exact ⟨(show 13 ≠ 0 by decide), "java/lang/IllegalArgumentException", (ah_in 273 (by decide +kernel) rfl), by simp [ah_Ncs]⟩) rfl (show 49 ≠ 0 by decide) (ah_in 528 (by decide +kernel) rfl) (ah_in 543 (by decide +kernel) rfl) ?_
      obtain ⟨-, hP, hS, -⟩ := hT
      have ho9 := (ho1 o fo ho).trans ho
      refine lv_astore (lv' := [(4, .ref q9), (0, .ref x), (1, .int v0), (2, .int v1), (3, .ref o)]) hx hb dL_chosenPattern_17 hl (by decide) rfl (fun ls hl => ?_)
      refine lv_iconst (v := (nI 2)) hx hb dL_chosenPattern_19 (by decide) ?_
      rw [hQ]
      exact vx_ret (ah_iret E hr hP hS (ah_An_i (v := 0) (k := 2) (by simp only [sp_chosenPattern, ah_rul_s g1 g2, g3]) hC1 ho9 (fun h => absurd h (by decide))) (Nat.le_of_ble_eq_true rfl) (Nat.le_of_ble_eq_true rfl) dL_chosenPattern_20)
  · skip
    obtain ⟨ru, t, j, i, h1, h2, h3, h4, h5, hC1, ho1⟩ := hq
    have ho9 := (ho1 o fo ho).trans ho
    refine lv_i2l (v := (Int32.toInt64 r)) hx hb dL_chosenPattern_8 rfl ?_
    refine ah_last E hP hS ho9 (by omega) (by omega) dL_chosenPattern_9 (fun H locs hP hS => ?_)
    obtain ⟨F2, eF2⟩ : ∃ Fz : ah_F, Fz = ah_up F1 o (ah_al D 1 (vp_updL fo 0 (Int32.toInt64 r))) := ⟨_, rfl⟩
    have hP : ah_K A D F2 H := by rw [eF2]; exact hP
    have hF3 : F2 o = some (ah_al D 1 (vp_updL fo 0 (Int32.toInt64 r))) := by rw [eF2]; exact ah_up_s _ _ _
    refine lv_goto (tgt := 21) hx hb dL_chosenPattern_10 (by decide) ?_
    refine lv_iconst (v := (nI 0)) hx hb dL_chosenPattern_21 (by decide) ?_
    have hC9 := ah_C_o (e := ah_al D 1 (vp_updL fo 0 (Int32.toInt64 r))) hC1 ho9
    rw [← eF2] at hC9
    rw [hQ]
    exact vx_ret (ah_iret E hr hP hS (ah_An_i (v := r) (k := 0) (by simp only [sp_chosenPattern, ah_rul_s h1 h2, h3, h4, Option.getD_some, h5]) hC9 hF3 (fun _ => by simp [vp_updL])) (Nat.le_of_ble_eq_true rfl) (Nat.le_of_ble_eq_true rfl) dL_chosenPattern_22)

set_option maxHeartbeats 4000000 in
set_option maxRecDepth 100000 in
/-- chosenPlace -/
theorem w_chosenPlace (l : Launch) (hl1 : l.stackTraces = false) (A : Nat → Prop) (D : ah_G) (F : ah_F) {x n : Nat} {P : ah_Pt} {dr S : List Nat} {td : Int32} (hC : ah_C D F x P n dr S td) {o : Nat} {fo : Nat → Int64} (ho : F o = some (ah_al D 1 fo)) {v0 v1 : Int32} : vx_Met l yL_chosenPlace (Cond.codeWith yL_chosenPlace cL_chosenPlace 5 (some .int) [((0 : Nat), (10 : Nat), (13 : Nat), (13 : Nat)), ((0 : Nat), (10 : Nat), (17 : Nat), (49 : Nat))] :: ah_T) { frames := 9, cells := 2, slots := 12, locals := 165 } (va_Pc [.ref x, .int v0, .int v1, .ref o] (ah_B A D F)) (ah_Qi A D (fun (r : Int32) F1 => ah_An D F1 x o (sp_chosenPlace P n dr S td v0 v1) r)) (ah_X A D (fun _ _ => False)) 2 12 A := by
  refine ah_wmet (own := "AhoarchLaw") (hh := [((0 : Nat), (10 : Nat), (13 : Nat), (13 : Nat)), ((0 : Nat), (10 : Nat), (17 : Nat), (49 : Nat))]) (by decide) rfl (Nat.le_of_ble_eq_true rfl) ?_
  intro p e s m below meth c ls E hr htab hl hP hS Q hQ
  have hx := E.1
  have hb := E.2.1
  have hl : lv_has ls 5 [(0, .ref x), (1, .int v0), (2, .int v1), (3, .ref o)] := hl
  obtain ⟨b, ra, st, la, ch, cp, cl, tx, ta, dw, rf, lf, pf, plf, tf, cc, tc, pr, hxx, hbk, hra, hrows, hst, hla, hstr, hch, hcp, hcl, htx, hta, hdw, hdok, hn40, hPn, hpr, hpr20⟩ := id hC
  refine lv_aload_n hx hb dL_chosenPlace_0 rfl (lv_at hl 3 rfl) ?_
  refine lv_iconst (v := (nI 0)) hx hb dL_chosenPlace_1 (by decide) ?_
  refine lv_aload_n hx hb dL_chosenPlace_2 rfl (lv_at hl 0 rfl) ?_
  refine lv_iload_n hx hb dL_chosenPlace_3 rfl (lv_at hl 1 rfl) ?_
  refine lv_iload_n hx hb dL_chosenPlace_4 rfl (lv_at hl 2 rfl) ?_
  refine ah_xcalli (ah_xrunV E hP hS (As := [.int v0, .int v1]) (rest := [.int (nI 0), .ref o]) (b := x) (c_chosenPlace l hl1 A D _ hC) lk_Law_63 li_Law_63 hxx rfl ⟨rfl, rfl, (Nat.le_of_ble_eq_true rfl), (Nat.le_of_ble_eq_true rfl)⟩ rfl hl.1 rfl (Nat.le_of_ble_eq_true rfl) dL_chosenPlace_5 ⟨(Nat.le_of_ble_eq_true rfl), (Nat.le_of_ble_eq_true rfl)⟩) hS (fun E0 q9 Fx H locs hT => ?_) (fun r F1 H locs hq hP hS => ?_)
  · skip
    obtain ⟨rfl, hE, hc1⟩ | ⟨hE, hC1, ho1, ru, g1, g2, g3⟩ := id hT.1
    · skip
      subst hE
      refine ah_catch E hT [] ⟨0, 10, 13, 13⟩ [⟨0, 10, 17, 49⟩] htab (fun z hz => by cases hz) rfl (show 13 ≠ 0 by decide) (ah_in 273 (by decide +kernel) rfl) (ah_in 284 (by decide +kernel) rfl) ?_
      obtain ⟨-, hP, hS, -⟩ := hT
      have hC1 := hC
      have ho9 := ho
      refine lv_astore (lv' := [(4, .ref q9), (0, .ref x), (1, .int v0), (2, .int v1), (3, .ref o)]) hx hb dL_chosenPlace_13 hl (by decide) rfl (fun ls hl => ?_)
      refine lv_iconst (v := (nI 1)) hx hb dL_chosenPlace_15 (by decide) ?_
      rw [hQ]
      exact vx_ret (ah_iret E hr hP hS (ah_An_i (v := 0) (k := 1) (by simp only [sp_chosenPlace, ah_rul_n hc1]) hC1 ho9 (fun h => absurd h (by decide))) (Nat.le_of_ble_eq_true rfl) (Nat.le_of_ble_eq_true rfl) dL_chosenPlace_16)
    · skip
      subst hE
      refine ah_catch E hT [⟨0, 10, 13, 13⟩] ⟨0, 10, 17, 49⟩ [] htab (fun z hz => by simp only [List.mem_cons, List.not_mem_nil, or_false] at hz; subst hz; exact ⟨(show 13 ≠ 0 by decide), "java/lang/IllegalArgumentException", (ah_in 273 (by decide +kernel) rfl), by simp [ah_Ncs]⟩) rfl (show 49 ≠ 0 by decide) (ah_in 528 (by decide +kernel) rfl) (ah_in 543 (by decide +kernel) rfl) ?_
      obtain ⟨-, hP, hS, -⟩ := hT
      have ho9 := (ho1 o fo ho).trans ho
      refine lv_astore (lv' := [(4, .ref q9), (0, .ref x), (1, .int v0), (2, .int v1), (3, .ref o)]) hx hb dL_chosenPlace_17 hl (by decide) rfl (fun ls hl => ?_)
      refine lv_iconst (v := (nI 2)) hx hb dL_chosenPlace_19 (by decide) ?_
      rw [hQ]
      exact vx_ret (ah_iret E hr hP hS (ah_An_i (v := 0) (k := 2) (by simp only [sp_chosenPlace, ah_rul_s g1 g2, g3]) hC1 ho9 (fun h => absurd h (by decide))) (Nat.le_of_ble_eq_true rfl) (Nat.le_of_ble_eq_true rfl) dL_chosenPlace_20)
  · skip
    obtain ⟨ru, t, j, i, h1, h2, h3, h4, h5, hC1, ho1⟩ := hq
    have ho9 := (ho1 o fo ho).trans ho
    refine lv_i2l (v := (Int32.toInt64 r)) hx hb dL_chosenPlace_8 rfl ?_
    refine ah_last E hP hS ho9 (by omega) (by omega) dL_chosenPlace_9 (fun H locs hP hS => ?_)
    obtain ⟨F2, eF2⟩ : ∃ Fz : ah_F, Fz = ah_up F1 o (ah_al D 1 (vp_updL fo 0 (Int32.toInt64 r))) := ⟨_, rfl⟩
    have hP : ah_K A D F2 H := by rw [eF2]; exact hP
    have hF3 : F2 o = some (ah_al D 1 (vp_updL fo 0 (Int32.toInt64 r))) := by rw [eF2]; exact ah_up_s _ _ _
    refine lv_goto (tgt := 21) hx hb dL_chosenPlace_10 (by decide) ?_
    refine lv_iconst (v := (nI 0)) hx hb dL_chosenPlace_21 (by decide) ?_
    have hC9 := ah_C_o (e := ah_al D 1 (vp_updL fo 0 (Int32.toInt64 r))) hC1 ho9
    rw [← eF2] at hC9
    rw [hQ]
    exact vx_ret (ah_iret E hr hP hS (ah_An_i (v := r) (k := 0) (by simp only [sp_chosenPlace, ah_rul_s h1 h2, h3, h4, Option.getD_some, h5]) hC9 hF3 (fun _ => by simp [vp_updL])) (Nat.le_of_ble_eq_true rfl) (Nat.le_of_ble_eq_true rfl) dL_chosenPlace_22)

set_option maxHeartbeats 4000000 in
set_option maxRecDepth 100000 in
/-- replaced -/
theorem w_replaced (l : Launch) (hl1 : l.stackTraces = false) (A : Nat → Prop) (D : ah_G) (F : ah_F) {x n : Nat} {P : ah_Pt} {dr S : List Nat} {td : Int32} (hC : ah_C D F x P n dr S td) {o : Nat} {fo : Nat → Int64} (ho : F o = some (ah_al D 1 fo)) {v0 v1 : Int32} : vx_Met l yL_replaced (Cond.codeWith yL_replaced cL_replaced 5 (some .int) [((0 : Nat), (10 : Nat), (13 : Nat), (13 : Nat)), ((0 : Nat), (10 : Nat), (17 : Nat), (49 : Nat))] :: ah_T) { frames := 8, cells := 2, slots := 12, locals := 166 } (va_Pc [.ref x, .int v0, .int v1, .ref o] (ah_B A D F)) (ah_Qi A D (fun (r : Int32) F1 => ah_An D F1 x o (sp_replaced P n dr S td v0 v1) r)) (ah_X A D (fun _ _ => False)) 2 12 A := by
  refine ah_wmet (own := "AhoarchLaw") (hh := [((0 : Nat), (10 : Nat), (13 : Nat), (13 : Nat)), ((0 : Nat), (10 : Nat), (17 : Nat), (49 : Nat))]) (by decide) rfl (Nat.le_of_ble_eq_true rfl) ?_
  intro p e s m below meth c ls E hr htab hl hP hS Q hQ
  have hx := E.1
  have hb := E.2.1
  have hl : lv_has ls 5 [(0, .ref x), (1, .int v0), (2, .int v1), (3, .ref o)] := hl
  obtain ⟨b, ra, st, la, ch, cp, cl, tx, ta, dw, rf, lf, pf, plf, tf, cc, tc, pr, hxx, hbk, hra, hrows, hst, hla, hstr, hch, hcp, hcl, htx, hta, hdw, hdok, hn40, hPn, hpr, hpr20⟩ := id hC
  refine lv_aload_n hx hb dL_replaced_0 rfl (lv_at hl 3 rfl) ?_
  refine lv_iconst (v := (nI 0)) hx hb dL_replaced_1 (by decide) ?_
  refine lv_aload_n hx hb dL_replaced_2 rfl (lv_at hl 0 rfl) ?_
  refine lv_iload_n hx hb dL_replaced_3 rfl (lv_at hl 1 rfl) ?_
  refine lv_iload_n hx hb dL_replaced_4 rfl (lv_at hl 2 rfl) ?_
  refine ah_xcalli (ah_xrunV E hP hS (As := [.int v0, .int v1]) (rest := [.int (nI 0), .ref o]) (b := x) (c_replaced l hl1 A D _ hC) lk_Law_69 li_Law_69 hxx rfl ⟨rfl, rfl, (Nat.le_of_ble_eq_true rfl), (Nat.le_of_ble_eq_true rfl)⟩ rfl hl.1 rfl (Nat.le_of_ble_eq_true rfl) dL_replaced_5 ⟨(Nat.le_of_ble_eq_true rfl), (Nat.le_of_ble_eq_true rfl)⟩) hS (fun E0 q9 Fx H locs hT => ?_) (fun r F1 H locs hq hP hS => ?_)
  · skip
    obtain ⟨rfl, hE, hc1⟩ | ⟨hE, hC1, ho1, ru, g1, g2, g3⟩ := id hT.1
    · skip
      subst hE
      refine ah_catch E hT [] ⟨0, 10, 13, 13⟩ [⟨0, 10, 17, 49⟩] htab (fun z hz => by cases hz) rfl (show 13 ≠ 0 by decide) (ah_in 273 (by decide +kernel) rfl) (ah_in 284 (by decide +kernel) rfl) ?_
      obtain ⟨-, hP, hS, -⟩ := hT
      have hC1 := hC
      have ho9 := ho
      refine lv_astore (lv' := [(4, .ref q9), (0, .ref x), (1, .int v0), (2, .int v1), (3, .ref o)]) hx hb dL_replaced_13 hl (by decide) rfl (fun ls hl => ?_)
      refine lv_iconst (v := (nI 1)) hx hb dL_replaced_15 (by decide) ?_
      rw [hQ]
      exact vx_ret (ah_iret E hr hP hS (ah_An_i (v := 0) (k := 1) (by simp only [sp_replaced, ah_rul_n hc1]) hC1 ho9 (fun h => absurd h (by decide))) (Nat.le_of_ble_eq_true rfl) (Nat.le_of_ble_eq_true rfl) dL_replaced_16)
    · skip
      subst hE
      refine ah_catch E hT [⟨0, 10, 13, 13⟩] ⟨0, 10, 17, 49⟩ [] htab (fun z hz => by simp only [List.mem_cons, List.not_mem_nil, or_false] at hz; subst hz; exact ⟨(show 13 ≠ 0 by decide), "java/lang/IllegalArgumentException", (ah_in 273 (by decide +kernel) rfl), by simp [ah_Ncs]⟩) rfl (show 49 ≠ 0 by decide) (ah_in 528 (by decide +kernel) rfl) (ah_in 543 (by decide +kernel) rfl) ?_
      obtain ⟨-, hP, hS, -⟩ := hT
      have ho9 := (ho1 o fo ho).trans ho
      refine lv_astore (lv' := [(4, .ref q9), (0, .ref x), (1, .int v0), (2, .int v1), (3, .ref o)]) hx hb dL_replaced_17 hl (by decide) rfl (fun ls hl => ?_)
      refine lv_iconst (v := (nI 2)) hx hb dL_replaced_19 (by decide) ?_
      rw [hQ]
      exact vx_ret (ah_iret E hr hP hS (ah_An_i (v := 0) (k := 2) (by simp only [sp_replaced, ah_rul_s g1 g2, g3]) hC1 ho9 (fun h => absurd h (by decide))) (Nat.le_of_ble_eq_true rfl) (Nat.le_of_ble_eq_true rfl) dL_replaced_20)
  · skip
    obtain ⟨ru, k, h1, h2, h3, h4, hC1, ho1⟩ := hq
    have ho9 := (ho1 o fo ho).trans ho
    refine lv_i2l (v := (Int32.toInt64 r)) hx hb dL_replaced_8 rfl ?_
    refine ah_last E hP hS ho9 (by omega) (by omega) dL_replaced_9 (fun H locs hP hS => ?_)
    obtain ⟨F2, eF2⟩ : ∃ Fz : ah_F, Fz = ah_up F1 o (ah_al D 1 (vp_updL fo 0 (Int32.toInt64 r))) := ⟨_, rfl⟩
    have hP : ah_K A D F2 H := by rw [eF2]; exact hP
    have hF3 : F2 o = some (ah_al D 1 (vp_updL fo 0 (Int32.toInt64 r))) := by rw [eF2]; exact ah_up_s _ _ _
    refine lv_goto (tgt := 21) hx hb dL_replaced_10 (by decide) ?_
    refine lv_iconst (v := (nI 0)) hx hb dL_replaced_21 (by decide) ?_
    have hC9 := ah_C_o (e := ah_al D 1 (vp_updL fo 0 (Int32.toInt64 r))) hC1 ho9
    rw [← eF2] at hC9
    rw [hQ]
    exact vx_ret (ah_iret E hr hP hS (ah_An_i (v := r) (k := 0) (by simp only [sp_replaced, ah_rul_s h1 h2, h3, h4]) hC9 hF3 (fun _ => by simp [vp_updL])) (Nat.le_of_ble_eq_true rfl) (Nat.le_of_ble_eq_true rfl) dL_replaced_22)
