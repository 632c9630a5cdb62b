section AHW
variable {p : Program} {l : Launch} {e : Env} {R : Room} {s : State} {m : MethodId} {args : Array Value} {below : List Frame} {meth : Method} {c : Code} {H : Heap} {locs : List Loc} {cells slots : Nat} {Q : State → Prop}
variable {cc bytes : ByteArray} {pc nL index maxL n mc ms : Nat} {ls : Array Slot} {rest As st0 : List Value} {D : ah_G} {A : Nat → Prop} {b : Nat} {F : ah_F} {own host : String} {y : MethodName} {ret : Option FieldType} {rm : Room} {Qc : Array Value → State → Outcome → State → Prop} {XC : String → State → State → Prop}
theorem ah_wmet {hh : List (Nat × Nat × Nat × Nat)} {av : List Value} (hy : plainName y.cls = true) (hown : y.cls = own) (hlen : (lg_sl av).length ≤ maxL)
    (body : ∀ (p : Program) (e : Env) (s : State) (m : MethodId) (below : List Frame) (meth : Method) (c : Code) (ls : Array Slot), ah_E A D p s m av.toArray meth c own bytes maxL → meth.sig.returnType = ret → c.exceptionTable.toList = tableOf hh → lv_has ls maxL (lv_args 0 av) → ah_K A D F s.heap → va_S A s.heap s.heap [] → ∀ Q : State → Prop, Q = vx_MQ below Qc XC av.toArray s mc ms A → W p l e rm s m av.toArray below meth c s.heap [] 0 0 Q (F0 m 0 ls [])) :
    vx_Met l y (Cond.codeWith y bytes maxL ret hh :: ah_T) rm (va_Pc av (ah_B A D F)) Qc XC mc ms A := by
  refine vx_ofWH (cc := bytes) (maxL := maxL) (ret := ret) (hh := hh) hy rfl ?_
  intro p e s m args below meth c s₁ B hml hv
  obtain ⟨rfl, hV, hK, hA⟩ := hv
  have hts := atoms_spec (ws := Cond.codeWith y bytes maxL ret hh :: ah_T) B.pre
  have htab := vx_table (x := y) B (hts _ List.mem_cons_self)
  have hl := lv_entry av (n := maxL) hlen
  rw [lg_entry_eq]
  generalize (lg_sl av ++ List.replicate (maxL - (lg_sl av).length) Slot.unset).toArray = ls at hl ⊢
  exact body p e s m below meth c ls ⟨B.exec, B.bytes, hml, by rw [← hown]; exact findClass_of_methodNamed B.named, fun w hw => hts w (List.mem_cons_of_mem _ hw), B.notSynchronized, hV, hA⟩ B.returns htab hl hK va_S.rf _ rfl
theorem ah_catch {px : String → ah_F → Prop} {E0 : String} {q : Addr} {F1 : ah_F} (E : ah_E A D p s m args meth c own cc nL) (hT : ah_Th A D px s E0 q F1 H locs) (pre : List ExceptionTableEntry) (x : ExceptionTableEntry) (suf : List ExceptionTableEntry) (hsplit : c.exceptionTable.toList = pre ++ x :: suf)
    (hpass : ∀ z ∈ pre, z.catchType ≠ 0 ∧ ∃ nm : String, Cond.classLink own z.catchType nm ∈ ah_T ∧ (E0, nm) ∈ ah_Ncs) (hx : covers x pc = true) (h0 : x.catchType ≠ 0) (hlink : Cond.classLink own x.catchType E0 ∈ ah_T) (hcast : Cond.castable E0 E0 ∈ ah_T)
    (kk : W p l e R s m args below meth c H locs cells slots Q (F0 m x.handlerPc ls [.ref q])) : vx_W p l e R s m args below meth c H locs cells slots Q (F0 m pc ls rest) q := by
  obtain ⟨h1, hP, hS, ce, h2, h3, h4⟩ := hT
  exact vx_catch E.2.2.2.1 pre x suf hsplit (fun z hz => Or.inr ⟨(hpass z hz).1, by obtain ⟨-, nm, h5, h6⟩ := hpass z hz; exact ⟨nm, E.2.2.2.2.1 _ h5, E.2.2.2.2.2.2.1.2.2.2.2 _ h6⟩⟩) hx h0 (E.2.2.2.2.1 _ hlink) (E.2.2.2.2.1 _ hcast) h2 h3 h4 kk
/-- a static method with an exception table, which throws nothing itself -/
def aw_L (own : String) (index : Nat) (y : MethodName) (bytes : ByteArray) (maxL : Nat) (ret : Option FieldType) (hh : List (Nat × Nat × Nat × Nat)) (n : Nat) : Prop :=
  Cond.methodLink own index y ∈ ah_T ∧ Cond.static y ∈ ah_T ∧ Cond.initialized y.cls ∈ ah_T ∧ Cond.codeWith y bytes maxL ret hh ∈ ah_T ∧ y.cls ≠ "java/lang/invoke/MethodHandle" ∧ y.cls ≠ "java/lang/invoke/VarHandle" ∧ (parseMethodDescriptor y.desc).map (fun d => d.parameters.length) = some n
theorem ah_xrunW {hh : List (Nat × Nat × Nat × Nat)} (E : ah_E A D p s m args meth c own cc nL) (hP : ah_K A D F H) (hS : va_S A s.heap H locs) (hM : vx_Met l y (Cond.codeWith y bytes maxL ret hh :: ah_T) rm (va_Pc As (ah_B A D F)) Qc XC mc ms A) (hL : aw_L own index y bytes maxL ret hh n) (hR : rm.cells = mc ∧ rm.slots = ms ∧ rm.frames + 1 ≤ R.frames ∧ 8 + (maxL + 11) + rm.locals ≤ R.locals)
    (hn : As.length = n) (hsize : ls.size = nL) (hstack : st0 = As.reverse ++ rest) (hW : (rest.map fun v => v.category).sum ≤ 8) (hdg : decode cc pc = .ok (.invokestatic index, 3)) (hf : cells + mc ≤ R.cells ∧ slots + ms ≤ R.slots) :
    vx_Run p l e R s m args below meth c H locs cells slots mc ms (F0 m pc ls st0) rest (Qc As.toArray) XC A := by
  obtain ⟨g1, g2, g3, g4, g5, g6, g7⟩ := hL
  have hts := E.2.2.2.2.1
  have hpay : ∀ w ∈ Cond.codeWith y bytes maxL ret hh :: ah_T, ∀ (a' : Array Value) (U : State), s.WarmedH U.vm → w.before a' U = true := by
    intro w hw a' U hW
    rcases List.mem_cons.mp hw with e | hw
    · rw [e]; exact ah_tr rfl hW (hts _ g4)
    · exact ah_tr (List.mem_filter.mp hw).2 hW (hts _ hw)
  exact vx_runSX (As := As) (rest := rest) (ah_fix E) hM ⟨⟨hR.1, hR.2.1, hR.2.2.1, hR.2.2.2, hpay, List.mem_cons_self⟩, hts _ g4, hts _ g3, ⟨g5, g6⟩, ah_par g7, hts _ g1, hts _ g2⟩ ⟨ah_blind, fun U hU hW => ah_pre E hP hS U hU hW⟩ rfl hn hsize hstack (lv_room hW) hdg hf
end AHW
theorem awl_65 : aw_L "AhoarchLaw" 65 yL_ofEnter cL_ofEnter 2 (some .int) [((0 : Nat), (4 : Nat), (5 : Nat), (72 : Nat))] 1 := ⟨(ah_in 392 (by decide +kernel) rfl), (ah_in 393 (by decide +kernel) rfl), (ah_in 0 (by decide +kernel) rfl), (ah_in 394 (by decide +kernel) rfl), by decide, by decide, by decide +kernel⟩
set_option maxHeartbeats 4000000 in
set_option maxRecDepth 100000 in
/-- ofEnter -/
theorem w_ofEnter (l : Launch) (hl1 : l.stackTraces = false) (A : Nat → Prop) (D : ah_G) (F : ah_F) {x n : Nat} {P : ah_Pt} {dr S : List Nat} {td : Int32} (hC : ah_C D F x P n dr S td) : vx_Met l yL_ofEnter (Cond.codeWith yL_ofEnter cL_ofEnter 2 (some .int) [((0 : Nat), (4 : Nat), (5 : Nat), (72 : Nat))] :: ah_T) { frames := 7, cells := 3, slots := 7, locals := 108 } (va_Pc [.ref x] (ah_B A D F)) (ah_Qi A D (fun (r : Int32) F1 => (ah_can P n dr = true ∧ nI n = r ∧ ah_C D F1 x (ah_ins P n dr) (n + 1) [] S td ∧ ah_out D F F1) ∨ (ah_can P n dr = false ∧ r = -1 ∧ F = F1))) (ah_X A D (fun _ _ => False)) 3 7 A := by
  refine ah_wmet (own := "AhoarchLaw") (hh := [((0 : Nat), (4 : Nat), (5 : Nat), (72 : Nat))]) (by decide) rfl (Nat.le_of_ble_eq_true rfl) ?_
  intro p e s m below meth c ls E hr htab hl hP hS Q hQ
  have hx := E.1
  have hb := E.2.1
  have hl : lv_has ls 2 [(0, .ref x)] := hl
  obtain ⟨fs0, hxx⟩ := ah_C_x hC
  refine lv_aload_n hx hb dL_ofEnter_0 rfl (lv_at hl 0 rfl) ?_
  refine ah_xcalli (ah_xrunV E hP hS (As := []) (rest := []) (b := x) (c_enter l hl1 A D _ hC) lk_Law_69 li_Law_69 hxx rfl ⟨rfl, rfl, (Nat.le_of_ble_eq_true rfl), (Nat.le_of_ble_eq_true rfl)⟩ rfl hl.1 rfl (Nat.le_of_ble_eq_true rfl) dL_ofEnter_1 ⟨(Nat.le_of_ble_eq_true rfl), (Nat.le_of_ble_eq_true rfl)⟩) hS (fun E0 q9 Fx H locs hT => ?_) (fun r F1 H locs hq hP hS => ?_)
  · skip
    obtain ⟨rfl, hE, hc1⟩ := id hT.1
    · skip
      subst hE
      refine ah_catch E hT [] ⟨0, 4, 5, 72⟩ [] htab (fun z hz => by cases hz) rfl (show 72 ≠ 0 by decide) (ah_in 395 (by decide +kernel) rfl) (ah_in 366 (by decide +kernel) rfl) ?_
      obtain ⟨-, hP, hS, -⟩ := hT
      refine lv_astore_n (lv' := [(1, .ref q9), (0, .ref x)]) hx hb dL_ofEnter_5 rfl hl (by decide) rfl (fun ls hl => ?_)
      refine lv_iconst (v := (-1)) hx hb dL_ofEnter_6 (by decide) ?_
      rw [hQ]
      exact vx_ret (ah_iret E hr hP hS (Or.inr ⟨hc1, rfl, rfl⟩) (Nat.le_of_ble_eq_true rfl) (Nat.le_of_ble_eq_true rfl) dL_ofEnter_7)
  · skip
    rw [hQ]
    exact vx_ret (ah_iret E hr hP hS (Or.inl hq) (Nat.le_of_ble_eq_true rfl) (Nat.le_of_ble_eq_true rfl) dL_ofEnter_4)

set_option maxHeartbeats 4000000 in
set_option maxRecDepth 100000 in
/-- enters -/
theorem w_enters (l : Launch) (A : Nat → Prop) (D : ah_G) (F : ah_F) (hl1 : l.stackTraces = false) {x n : Nat} {P : ah_Pt} {dr S : List Nat} {td : Int32} (hC : ah_C D F x P n dr S td) {o : Nat} {rv : Nat → Int32} (ho : F o = some (ah_ai D 42 rv)) (hR : pr_R P n dr rv) (hD : pd_D P) : Met l yL_enters (Cond.code yL_enters cL_enters 7 (some .boolean) :: ah_T) { frames := 8, cells := 5, slots := 15, locals := 129 } (va_Pc [.ref x, .ref o] (ah_B A D F)) (ah_Qi A D (fun (r : Int32) F1 => nI 1 = r ∧ ∃ (P1 : ah_Pt) (n1 : Nat) (dr1 : List Nat) (rv1 : Nat → Int32), ah_C D F1 x P1 n1 dr1 S td ∧ F1 o = some (ah_ai D 42 rv1) ∧ pr_R P1 n1 dr1 rv1 ∧ pd_D P1)) 5 15 A := by
  refine ah_met (own := "AhoarchLaw") (by decide) rfl (Nat.le_of_ble_eq_true rfl) ?_
  intro p e s m below meth c ls E hr hini hl hP hS Q hQ
  have hx := E.1
  have hb := E.2.1
  have hl : lv_has ls 7 [(0, .ref x), (1, .ref o)] := hl
  obtain ⟨hPok, hn40, hPn, hS200, hSlt, hdok, hcnt⟩ := ah_C_ok hC
  obtain ⟨fs0, hxx⟩ := ah_C_x hC
  obtain ⟨hdl8, hdlt⟩ := id hdok
  refine lv_aload_n hx hb dL_enters_0 rfl (lv_at hl 0 rfl) ?_
  refine ah_calli (ah_runV E hP hS (As := []) (rest := []) (b := x) (c_patterns l A D _ hC) lk_Law_30 li_Law_30 hxx rfl ⟨rfl, rfl, (Nat.le_of_ble_eq_true rfl), (Nat.le_of_ble_eq_true rfl)⟩ rfl hl.1 rfl (Nat.le_of_ble_eq_true rfl) dL_enters_1 ⟨(Nat.le_of_ble_eq_true rfl), (Nat.le_of_ble_eq_true rfl)⟩) hS (fun r F1 H locs hq hP hS => ?_)
  obtain ⟨rfl, rfl⟩ := hq
  refine lv_istore_n (lv' := [(2, .int (nI (pu_cn (fun i => (P i).isSome) 40))), (0, .ref x), (1, .ref o)]) hx hb dL_enters_4 rfl hl (by decide) rfl (fun ls hl => ?_)
  refine lv_aload_n hx hb dL_enters_5 rfl (lv_at hl 2 rfl) ?_
  refine lv_bipush (v := (nI 41)) hx hb dL_enters_6 (by decide) ?_
  refine ah_iald E hP ho (by omega) (by omega) dL_enters_8 ?_
  rw [hR.2.2]
  refine ah_if_eq (tgt := 27) hx hb (by omega) dL_enters_9 (by decide) (fun hc9 => ?_) (fun hc9 => ?_)
  · skip
    refine lv_iload_n hx hb dL_enters_27 rfl (lv_at hl 0 rfl) ?_
    refine lv_bipush (v := (nI 20)) hx hb dL_enters_28 (by decide) ?_
    refine ah_icmp_gt (tgt := 37) hx hb (by omega) (by omega) dL_enters_30 (by decide) (fun hc30 => ?_) (fun hc30 => ?_)
    · skip
      exact absurd hc30 (by omega)
    · skip
      refine lv_iconst (v := (nI 1)) hx hb dL_enters_33 (by decide) ?_
      refine lv_goto (tgt := 38) hx hb dL_enters_34 (by decide) ?_
      rw [hQ]
      exact ah_zret E hr (by first | exact bI_nz _ | decide) hP hS ⟨rfl, P, n, dr, rv, hC, ho, hR, hD⟩ (Nat.le_of_ble_eq_true rfl) (Nat.le_of_ble_eq_true rfl) dL_enters_38
  · skip
    refine lv_iload_n hx hb dL_enters_12 rfl (lv_at hl 0 rfl) ?_
    refine lv_bipush (v := (nI 20)) hx hb dL_enters_13 (by decide) ?_
    refine ah_icmp_eq (tgt := 27) hx hb (by omega) (by omega) dL_enters_15 (by decide) (fun hc15 => ?_) (fun hc15 => ?_)
    · skip
      refine lv_iload_n hx hb dL_enters_27 rfl (lv_at hl 0 rfl) ?_
      refine lv_bipush (v := (nI 20)) hx hb dL_enters_28 (by decide) ?_
      refine ah_icmp_gt (tgt := 37) hx hb (by omega) (by omega) dL_enters_30 (by decide) (fun hc30 => ?_) (fun hc30 => ?_)
      · skip
        exact absurd hc30 (by omega)
      · skip
        refine lv_iconst (v := (nI 1)) hx hb dL_enters_33 (by decide) ?_
        refine lv_goto (tgt := 38) hx hb dL_enters_34 (by decide) ?_
        rw [hQ]
        exact ah_zret E hr (by first | exact bI_nz _ | decide) hP hS ⟨rfl, P, n, dr, rv, hC, ho, hR, hD⟩ (Nat.le_of_ble_eq_true rfl) (Nat.le_of_ble_eq_true rfl) dL_enters_38
    · skip
      refine lv_aload_n hx hb dL_enters_18 rfl (lv_at hl 2 rfl) ?_
      refine lv_bipush (v := (nI 40)) hx hb dL_enters_19 (by decide) ?_
      refine ah_iald E hP ho (by omega) (by omega) dL_enters_21 ?_
      rw [hR.2.1]
      refine lv_bipush (v := (nI 40)) hx hb dL_enters_22 (by decide) ?_
      refine ah_icmp_ne (tgt := 39) hx hb (by omega) (by omega) dL_enters_24 (by decide) (fun hc24 => ?_) (fun hc24 => ?_)
      · skip
        refine lv_aload_n hx hb dL_enters_39 rfl (lv_at hl 1 rfl) ?_
        refine ah_xcalli (ah_xrunW E hP hS (As := [.ref x]) (rest := []) (w_ofEnter l hl1 A D _ hC) awl_65 ⟨rfl, rfl, (Nat.le_of_ble_eq_true rfl), (Nat.le_of_ble_eq_true rfl)⟩ rfl hl.1 rfl (Nat.le_of_ble_eq_true rfl) dL_enters_40 ⟨(Nat.le_of_ble_eq_true rfl), (Nat.le_of_ble_eq_true rfl)⟩) hS (fun E0 q9 Fx H locs hT => False.elim hT.1) (fun r F40 H locs hq hP hS => ?_)
        rcases hq with ⟨hcan, rfl, hC1, hout⟩ | ⟨hcan, rfl, rfl⟩
        · skip
          have ho1 := (hout _ _ ho).trans ho
          obtain ⟨fs1, hxx1⟩ := ah_C_x hC1
          have hn4 : n < 40 := by omega
          have hpn : ah_ins P n dr n = some (dr, []) := by simp [ah_ins]
          have hins := ah_cn_ins (w := dr) hn4 (hPn n (Nat.le_refl _))
          refine lv_istore_n (lv' := [(3, .int (nI n)), (2, .int (nI (pu_cn (fun i => (P i).isSome) 40))), (0, .ref x), (1, .ref o)]) hx hb dL_enters_43 rfl hl (by decide) rfl (fun ls hl => ?_)
          refine lv_iload_n hx hb dL_enters_44 rfl (lv_at hl 0 rfl) ?_
          refine ah_if_ge (tgt := 142) hx hb (by omega) dL_enters_45 (by decide) ?_
          refine lv_iload_n hx hb dL_enters_142 rfl (lv_at hl 0 rfl) ?_
          refine lv_aload_n hx hb dL_enters_143 rfl (lv_at hl 3 rfl) ?_
          refine lv_bipush (v := (nI 40)) hx hb dL_enters_144 (by decide) ?_
          refine ah_iald E hP ho1 (by omega) (by omega) dL_enters_146 ?_
          rw [hR.2.1]
          refine ah_icmp_ne (tgt := 176) hx hb (by omega) (by omega) dL_enters_147 (by decide) (fun hc147 => ?_) (fun hc147 => ?_)
          · skip
            exact (hc147 rfl).elim
          · skip
            refine lv_aload_n hx hb dL_enters_150 rfl (lv_at hl 2 rfl) ?_
            refine lv_iload_n hx hb dL_enters_151 rfl (lv_at hl 0 rfl) ?_
            refine ah_calli (ah_runV E hP hS (As := [.int (nI n)]) (rest := []) (b := x) (q_length l A D _ hC1 hn4 hpn) lk_Law_40 li_Law_40 hxx1 rfl ⟨rfl, rfl, (Nat.le_of_ble_eq_true rfl), (Nat.le_of_ble_eq_true rfl)⟩ rfl hl.1 rfl (Nat.le_of_ble_eq_true rfl) dL_enters_152 ⟨(Nat.le_of_ble_eq_true rfl), (Nat.le_of_ble_eq_true rfl)⟩) hS (fun r F2 H locs hq hP hS => ?_)
            obtain ⟨rfl, rfl⟩ := hq
            refine lv_aload_n hx hb dL_enters_155 rfl (lv_at hl 3 rfl) ?_
            refine lv_bipush (v := (nI 41)) hx hb dL_enters_156 (by decide) ?_
            refine ah_iald E hP ho1 (by omega) (by omega) dL_enters_158 ?_
            rw [hR.2.2]
            refine ah_icmp_ne (tgt := 176) hx hb (by omega) (by omega) dL_enters_159 (by decide) (fun hc159 => ?_) (fun hc159 => ?_)
            · skip
              exact (hc159 rfl).elim
            · skip
              refine lv_aload_n hx hb dL_enters_162 rfl (lv_at hl 2 rfl) ?_
              refine ah_calli (ah_runV E hP hS (As := []) (rest := []) (b := x) (c_patterns l A D _ hC1) lk_Law_30 li_Law_30 hxx1 rfl ⟨rfl, rfl, (Nat.le_of_ble_eq_true rfl), (Nat.le_of_ble_eq_true rfl)⟩ rfl hl.1 rfl (Nat.le_of_ble_eq_true rfl) dL_enters_163 ⟨(Nat.le_of_ble_eq_true rfl), (Nat.le_of_ble_eq_true rfl)⟩) hS (fun r F3 H locs hq hP hS => ?_)
              obtain ⟨rfl, rfl⟩ := hq
              refine lv_iload_n hx hb dL_enters_166 rfl (lv_at hl 1 rfl) ?_
              refine lv_iconst (v := (nI 1)) hx hb dL_enters_167 (by decide) ?_
              refine ah_iadd hx hb dL_enters_168 ?_
              refine ah_icmp_ne (tgt := 176) hx hb (by omega) (by omega) dL_enters_169 (by decide) (fun hc169 => ?_) (fun hc169 => ?_)
              · skip
                exact (hc169 hins).elim
              · skip
                refine lv_iconst (v := (nI 1)) hx hb dL_enters_172 (by decide) ?_
                refine lv_goto (tgt := 177) hx hb dL_enters_173 (by decide) ?_
                refine lv_istore (lv' := [(4, .int (nI 1)), (3, .int (nI n)), (2, .int (nI (pu_cn (fun i => (P i).isSome) 40))), (0, .ref x), (1, .ref o)]) hx hb dL_enters_177 hl (by decide) rfl (fun ls hl => ?_)
                refine lv_aload_n hx hb dL_enters_179 rfl (lv_at hl 4 rfl) ?_
                refine lv_iload_n hx hb dL_enters_180 rfl (lv_at hl 1 rfl) ?_
                refine lv_iconst (v := (nI 1)) hx hb dL_enters_181 (by decide) ?_
                refine ah_iast E hP hS ho1 (by omega) (by omega) dL_enters_182 (fun H locs hP hS => ?_)
                obtain ⟨F4, eF4⟩ : ∃ Fz : ah_F, Fz = ah_up F40 o (ah_ai D 42 (upd rv n (nI 1))) := ⟨_, rfl⟩
                have hP : ah_K A D F4 H := by rw [eF4]; exact hP
                have hF5 : F4 o = some (ah_ai D 42 (upd rv n (nI 1))) := by rw [eF4]; exact ah_up_s _ _ _
                have hF6 : F4 x = some (.inr (6, fs1)) := by rw [eF4]; exact ah_keep ho1 hxx1 rfl
                have hCF4 := ah_C_o (e := ah_ai D 42 (upd rv n (nI 1))) hC1 ho1
                rw [← eF4] at hCF4
                refine lv_aload_n hx hb dL_enters_183 rfl (lv_at hl 4 rfl) ?_
                refine lv_bipush (v := (nI 40)) hx hb dL_enters_184 (by decide) ?_
                refine lv_dup2_11 hx hb dL_enters_186 rfl rfl ?_
                refine ah_iald E hP hF5 (by omega) (by omega) dL_enters_187 ?_
                rw [(show upd rv n (nI 1) 40 = nI n from (pk_un (by omega)).trans hR.2.1)]
                refine lv_iconst (v := (nI 1)) hx hb dL_enters_188 (by decide) ?_
                refine ah_iadd hx hb dL_enters_189 ?_
                refine ah_iast E hP hS hF5 (by omega) (by omega) dL_enters_190 (fun H locs hP hS => ?_)
                obtain ⟨F7, eF7⟩ : ∃ Fz : ah_F, Fz = ah_up F4 o (ah_ai D 42 (upd (upd rv n (nI 1)) 40 (nI (n + 1)))) := ⟨_, rfl⟩
                have hP : ah_K A D F7 H := by rw [eF7]; exact hP
                have hF8 : F7 o = some (ah_ai D 42 (upd (upd rv n (nI 1)) 40 (nI (n + 1)))) := by rw [eF7]; exact ah_up_s _ _ _
                have hF9 : F7 x = some (.inr (6, fs1)) := by rw [eF7]; exact ah_keep hF5 hF6 rfl
                have hCF7 := ah_C_o (e := ah_ai D 42 (upd (upd rv n (nI 1)) 40 (nI (n + 1)))) hCF4 hF5
                rw [← eF7] at hCF7
                refine lv_aload_n hx hb dL_enters_191 rfl (lv_at hl 4 rfl) ?_
                refine lv_bipush (v := (nI 41)) hx hb dL_enters_192 (by decide) ?_
                refine lv_iconst (v := (nI 0)) hx hb dL_enters_194 (by decide) ?_
                refine ah_iast E hP hS hF8 (by omega) (by omega) dL_enters_195 (fun H locs hP hS => ?_)
                obtain ⟨F10, eF10⟩ : ∃ Fz : ah_F, Fz = ah_up F7 o (ah_ai D 42 (upd (upd (upd rv n (nI 1)) 40 (nI (n + 1))) 41 (nI 0))) := ⟨_, rfl⟩
                have hP : ah_K A D F10 H := by rw [eF10]; exact hP
                have hF11 : F10 o = some (ah_ai D 42 (upd (upd (upd rv n (nI 1)) 40 (nI (n + 1))) 41 (nI 0))) := by rw [eF10]; exact ah_up_s _ _ _
                have hF12 : F10 x = some (.inr (6, fs1)) := by rw [eF10]; exact ah_keep hF8 hF9 rfl
                have hCF10 := ah_C_o (e := ah_ai D 42 (upd (upd (upd rv n (nI 1)) 40 (nI (n + 1))) 41 (nI 0))) hCF7 hF8
                rw [← eF10] at hCF10
                refine lv_iload hx hb dL_enters_196 (lv_at hl 0 rfl) ?_
                rw [hQ]
                exact ah_zret E hr (by first | exact bI_nz _ | decide) hP hS ⟨rfl, ah_ins P n dr, n + 1, [], _, hCF10, hF11, pr_R_ins hR hn4, pd_ins hD hn40 hPn hcan⟩ (Nat.le_of_ble_eq_true rfl) (Nat.le_of_ble_eq_true rfl) dL_enters_198
        · skip
          refine lv_istore_n (lv' := [(3, .int (-1)), (2, .int (nI (pu_cn (fun i => (P i).isSome) 40))), (0, .ref x), (1, .ref o)]) hx hb dL_enters_43 rfl hl (by decide) rfl (fun ls hl => ?_)
          refine lv_iload_n hx hb dL_enters_44 rfl (lv_at hl 0 rfl) ?_
          refine lv_if_ge (tgt := 142) hx hb dL_enters_45 (by decide) (fun hc45 => ?_) (fun hc45 => ?_)
          · skip
            exact absurd hc45 (by decide)
          · skip
            refine lv_iconst (v := (nI 0)) hx hb dL_enters_48 (by decide) ?_
            refine lv_istore (lv' := [(4, .int (nI 0)), (3, .int (-1)), (2, .int (nI (pu_cn (fun i => (P i).isSome) 40))), (0, .ref x), (1, .ref o)]) hx hb dL_enters_49 hl (by decide) rfl (fun ls hl => ?_)
            have L51 : ∀ (fuel : Nat), ∀ (k : Nat), n - k < fuel → k ≤ n → (∀ i, i < k → P i = none) → ∀ (H : Heap) (locs : List Loc), ah_K A D F H → va_S A s.heap H locs → ∀ (ls : Array Slot), lv_has ls 7 [(0, .ref x), (1, .ref o), (2, .int (nI (pu_cn (fun i => (P i).isSome) 40))), (4, .int (nI k))] → W p l e { frames := 8, cells := 5, slots := 15, locals := 129 } s m [.ref x, .ref o].toArray below meth c H locs ((0 + 0) + 3) ((0 + 0) + 7) Q (F0 m 51 ls []) := by
              intro fuel
              induction fuel with
              | zero =>
                intro k hm
                exact absurd hm (Nat.not_lt_zero _)
              | succ fuel ih51 =>
                intro k hm hk hno H locs hP hS ls hl
                have hpl := pr_l_le hPok k
                refine lv_iload hx hb dL_enters_51 (lv_at hl 3 rfl) ?_
                refine lv_aload_n hx hb dL_enters_53 rfl (lv_at hl 1 rfl) ?_
                refine lv_bipush (v := (nI 40)) hx hb dL_enters_54 (by decide) ?_
                refine ah_iald E hP ho (by omega) (by omega) dL_enters_56 ?_
                rw [hR.2.1]
                refine ah_icmp_ge (tgt := 140) hx hb (by omega) (by omega) dL_enters_57 (by decide) (fun hc57 => ?_) (fun hc57 => ?_)
                · skip
                  exact (pd_dup hcan hc9 (by omega) (by omega) (fun i hi => hno i (by omega)) hPn).elim
                · skip
                  refine lv_aload_n hx hb dL_enters_60 rfl (lv_at hl 1 rfl) ?_
                  refine lv_iload hx hb dL_enters_61 (lv_at hl 3 rfl) ?_
                  refine ah_iald E hP ho (by omega) (by omega) dL_enters_63 ?_
                  rw [hR.1 k (by omega)]
                  refine ah_if_le (tgt := 134) hx hb (by omega) dL_enters_64 (by decide) (fun hc64 => ?_) (fun hc64 => ?_)
                  · skip
                    have hp0 := pr_l_n hc64
                    refine lv_iinc (v := (nI (k + 1))) (lv' := [(4, .int (nI (k + 1))), (0, .ref x), (1, .ref o), (2, .int (nI (pu_cn (fun i => (P i).isSome) 40)))]) hx hb dL_enters_134 hl (k := 3) rfl (ah_inc _) (by decide) rfl (fun ls hl => ?_)
                    refine lv_goto (tgt := 51) hx hb dL_enters_137 (by decide) ?_
                    exact ih51 (k + 1) (by omega) (by omega) (fun i hi => if e9 : i = k then by rw [e9]; exact hp0 else hno i (by omega)) _ _ hP hS ls (lv_sub hl [1, 2, 3, 0] rfl)
                  · skip
                    obtain ⟨w, r0, hp0⟩ := pr_l_s hc64
                    have hok := hPok _ _ _ hp0
                    have hrl := hok.2.1.1
                    have hk40 : k < 40 := by omega
                    have hrep := ah_cn_rep (P := P) (i := k) (w := w) (r := dr) (by rw [hp0]; rfl)
                    refine lv_aload_n hx hb dL_enters_67 rfl (lv_at hl 1 rfl) ?_
                    refine lv_bipush (v := (nI 41)) hx hb dL_enters_68 (by decide) ?_
                    refine ah_iald E hP ho (by omega) (by omega) dL_enters_70 ?_
                    rw [hR.2.2]
                    refine ah_if_le (tgt := 134) hx hb (by omega) dL_enters_71 (by decide) (fun hc71 => ?_) (fun hc71 => ?_)
                    · skip
                      exact absurd hc71 (by omega)
                    · skip
                      refine lv_aload_n hx hb dL_enters_74 rfl (lv_at hl 0 rfl) ?_
                      refine lv_iload hx hb dL_enters_75 (lv_at hl 3 rfl) ?_
                      refine ah_calli (ah_runV E hP hS (As := [.int (nI k)]) (rest := []) (b := x) (q_setReplacement l hl1 A D _ hC hk40 hp0) lk_Law_26 li_Law_26 hxx rfl ⟨rfl, rfl, (Nat.le_of_ble_eq_true rfl), (Nat.le_of_ble_eq_true rfl)⟩ rfl hl.1 rfl (Nat.le_of_ble_eq_true rfl) dL_enters_77 ⟨(Nat.le_of_ble_eq_true rfl), (Nat.le_of_ble_eq_true rfl)⟩) hS (fun r F13 H locs hq hP hS => ?_)
                      obtain ⟨rfl, hCw14, houtw14⟩ := hq
                      have how14 := (houtw14 _ _ ho).trans ho
                      obtain ⟨fsw14, hxxw14⟩ := ah_C_x hCw14
                      refine lv_istore (lv' := [(5, .int (nI r0.length)), (0, .ref x), (1, .ref o), (2, .int (nI (pu_cn (fun i => (P i).isSome) 40))), (4, .int (nI k))]) hx hb dL_enters_80 hl (by decide) rfl (fun ls hl => ?_)
                      refine lv_iload hx hb dL_enters_82 (lv_at hl 0 rfl) ?_
                      refine lv_aload_n hx hb dL_enters_84 rfl (lv_at hl 2 rfl) ?_
                      refine lv_iload hx hb dL_enters_85 (lv_at hl 4 rfl) ?_
                      refine ah_iald E hP how14 (by omega) (by omega) dL_enters_87 ?_
                      rw [hR.1 k (by omega)]
                      rw [pr_l_e hp0]
                      refine lv_iconst (v := (nI 1)) hx hb dL_enters_88 (by decide) ?_
                      refine ah_isub hx hb (by omega) dL_enters_89 ?_
                      refine ah_icmp_ne (tgt := 97) hx hb (by omega) (by omega) dL_enters_90 (by decide) (fun hc90 => ?_) (fun hc90 => ?_)
                      · skip
                        exact (hc90 (by omega)).elim
                      · skip
                        refine lv_iconst (v := (nI 1)) hx hb dL_enters_93 (by decide) ?_
                        refine lv_goto (tgt := 98) hx hb dL_enters_94 (by decide) ?_
                        refine lv_istore (lv' := [(6, .int (nI 1)), (5, .int (nI r0.length)), (0, .ref x), (1, .ref o), (2, .int (nI (pu_cn (fun i => (P i).isSome) 40))), (4, .int (nI k))]) hx hb dL_enters_98 hl (by decide) rfl (fun ls hl => ?_)
                        refine lv_aload_n hx hb dL_enters_100 rfl (lv_at hl 3 rfl) ?_
                        refine lv_iload hx hb dL_enters_101 (lv_at hl 5 rfl) ?_
                        refine lv_aload_n hx hb dL_enters_103 rfl (lv_at hl 3 rfl) ?_
                        refine lv_bipush (v := (nI 41)) hx hb dL_enters_104 (by decide) ?_
                        refine ah_iald E hP how14 (by omega) (by omega) dL_enters_106 ?_
                        rw [hR.2.2]
                        refine lv_iconst (v := (nI 1)) hx hb dL_enters_107 (by decide) ?_
                        refine ah_iadd hx hb dL_enters_108 ?_
                        refine ah_iast E hP hS how14 (by omega) (by omega) dL_enters_109 (fun H locs hP hS => ?_)
                        obtain ⟨F15, eF15⟩ : ∃ Fz : ah_F, Fz = ah_up F13 o (ah_ai D 42 (upd rv k (nI (dr.length + 1)))) := ⟨_, rfl⟩
                        have hP : ah_K A D F15 H := by rw [eF15]; exact hP
                        have hF16 : F15 o = some (ah_ai D 42 (upd rv k (nI (dr.length + 1)))) := by rw [eF15]; exact ah_up_s _ _ _
                        have hF17 : F15 x = some (.inr (6, fsw14)) := by rw [eF15]; exact ah_keep how14 hxxw14 rfl
                        have hCF15 := ah_C_o (e := ah_ai D 42 (upd rv k (nI (dr.length + 1)))) hCw14 how14
                        rw [← eF15] at hCF15
                        refine lv_aload_n hx hb dL_enters_110 rfl (lv_at hl 3 rfl) ?_
                        refine lv_bipush (v := (nI 41)) hx hb dL_enters_111 (by decide) ?_
                        refine lv_iconst (v := (nI 0)) hx hb dL_enters_113 (by decide) ?_
                        refine ah_iast E hP hS hF16 (by omega) (by omega) dL_enters_114 (fun H locs hP hS => ?_)
                        obtain ⟨F18, eF18⟩ : ∃ Fz : ah_F, Fz = ah_up F15 o (ah_ai D 42 (upd (upd rv k (nI (dr.length + 1))) 41 (nI 0))) := ⟨_, rfl⟩
                        have hP : ah_K A D F18 H := by rw [eF18]; exact hP
                        have hF19 : F18 o = some (ah_ai D 42 (upd (upd rv k (nI (dr.length + 1))) 41 (nI 0))) := by rw [eF18]; exact ah_up_s _ _ _
                        have hF20 : F18 x = some (.inr (6, fsw14)) := by rw [eF18]; exact ah_keep hF16 hF17 rfl
                        have hCF18 := ah_C_o (e := ah_ai D 42 (upd (upd rv k (nI (dr.length + 1))) 41 (nI 0))) hCF15 hF16
                        rw [← eF18] at hCF18
                        refine lv_iload hx hb dL_enters_115 (lv_at hl 0 rfl) ?_
                        refine ah_if_eq (tgt := 132) hx hb (by omega) dL_enters_117 (by decide) (fun hc117 => ?_) (fun hc117 => ?_)
                        · skip
                          exact absurd hc117 (by decide)
                        · skip
                          refine lv_aload_n hx hb dL_enters_120 rfl (lv_at hl 2 rfl) ?_
                          refine ah_calli (ah_runV E hP hS (As := []) (rest := []) (b := x) (c_patterns l A D _ hCF18) lk_Law_30 li_Law_30 hF20 rfl ⟨rfl, rfl, (Nat.le_of_ble_eq_true rfl), (Nat.le_of_ble_eq_true rfl)⟩ rfl hl.1 rfl (Nat.le_of_ble_eq_true rfl) dL_enters_121 ⟨(Nat.le_of_ble_eq_true rfl), (Nat.le_of_ble_eq_true rfl)⟩) hS (fun r F21 H locs hq hP hS => ?_)
                          obtain ⟨rfl, rfl⟩ := hq
                          refine lv_iload_n hx hb dL_enters_124 rfl (lv_at hl 4 rfl) ?_
                          refine ah_icmp_ne (tgt := 132) hx hb (by omega) (by omega) dL_enters_125 (by decide) (fun hc125 => ?_) (fun hc125 => ?_)
                          · skip
                            exact (hc125 hrep).elim
                          · skip
                            refine lv_iconst (v := (nI 1)) hx hb dL_enters_128 (by decide) ?_
                            refine lv_goto (tgt := 133) hx hb dL_enters_129 (by decide) ?_
                            rw [hQ]
                            exact ah_zret E hr (by first | exact bI_nz _ | decide) hP hS ⟨rfl, ah_rep P k w dr, n, [], _, hCF18, hF19, pr_R_rep hR hk40, pd_rep hD hp0⟩ (Nat.le_of_ble_eq_true rfl) (Nat.le_of_ble_eq_true rfl) dL_enters_133
            exact L51 (n + 1) 0 (by omega) (Nat.zero_le _) (fun i hi => absurd hi (Nat.not_lt_zero _)) _ _ hP hS ls (lv_sub hl [3, 4, 2, 0] rfl)
      · skip
        refine lv_iload_n hx hb dL_enters_27 rfl (lv_at hl 0 rfl) ?_
        refine lv_bipush (v := (nI 20)) hx hb dL_enters_28 (by decide) ?_
        refine ah_icmp_gt (tgt := 37) hx hb (by omega) (by omega) dL_enters_30 (by decide) (fun hc30 => ?_) (fun hc30 => ?_)
        · skip
          exact absurd hc30 (by omega)
        · skip
          refine lv_iconst (v := (nI 1)) hx hb dL_enters_33 (by decide) ?_
          refine lv_goto (tgt := 38) hx hb dL_enters_34 (by decide) ?_
          rw [hQ]
          exact ah_zret E hr (by first | exact bI_nz _ | decide) hP hS ⟨rfl, P, n, dr, rv, hC, ho, hR, hD⟩ (Nat.le_of_ble_eq_true rfl) (Nat.le_of_ble_eq_true rfl) dL_enters_38
