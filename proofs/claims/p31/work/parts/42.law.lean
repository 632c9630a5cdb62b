/-! the law's own ints -/
section AHD
variable {p : Program} {l : Launch} {e : Env} {R : Room} {s : State} {m : MethodId} {args : Array Value} {below : List Frame} {meth : Method} {c : Code} {H : Heap} {locs : List Loc} {cells slots : Nat}
variable {cc bytes : ByteArray} {pc nL index maxL n mc ms : Nat} {ls : Array Slot} {rest As st0 : List Value} {D : ah_G} {A : Nat → Prop} {F : ah_F} {own : String} {y : MethodName} {ret : Option FieldType} {rm : Room} {Qc : Array Value → State → Outcome → State → Prop}
theorem aw_dmet {av : List Value} {X : State → Prop} (hy : plainName y.cls = true) (hown : y.cls = own) (hlen : (lg_sl av).length ≤ maxL)
    (body : ∀ (p : Program) (e : Env) (s : State) (m : MethodId) (below : List Frame) (meth : Method) (c : Code) (ls : Array Slot), ah_E A D p s m av.toArray meth c own bytes maxL → meth.sig.returnType = ret → X s → lv_has ls maxL (lv_args 0 av) → ah_K A D F s.heap → va_S A s.heap s.heap [] → ∀ Q : State → Prop, Q = MQ below Qc av.toArray s mc ms A → W p l e rm s m av.toArray below meth c s.heap [] 0 0 Q (F0 m 0 ls [])) :
    Met l y (Cond.code y bytes maxL ret :: ah_T) rm (va_Pc av (fun U => ah_B A D F U ∧ X U)) Qc mc ms A := by
  refine Met.ofW (cc := bytes) (maxL := maxL) (ret := ret) hy rfl ?_
  intro p e s m args below meth c s₁ B hml hv
  obtain ⟨rfl, ⟨hV, hK, hA⟩, hXs⟩ := hv
  have hts := atoms_spec (ws := Cond.code y bytes maxL ret :: ah_T) B.pre
  have hl := lv_entry av (n := maxL) hlen
  rw [lg_entry_eq]
  generalize (lg_sl av ++ List.replicate (maxL - (lg_sl av).length) Slot.unset).toArray = ls at hl ⊢
  exact body p e s m below meth c ls ⟨B.exec, B.bytes, hml, by rw [← hown]; exact findClass_of_methodNamed B.named, fun w hw => hts w (List.mem_cons_of_mem _ hw), B.notSynchronized, hV, hA⟩ B.returns hXs hl hK va_S.rf _ rfl
theorem aw_runD {b L : Nat} {xs : Nat → Int32} (E : ah_E A D p s m args meth c own cc nL) (hP : ah_K A D F H) (hS : va_S A s.heap H locs) (hX : va_X b L xs s s.heap) (hbl : b < s.heap.size) (hbA : ¬ A b) (hM : Met l y (Cond.code y bytes maxL ret :: ah_T) rm (va_Pc As (fun U => ah_B A D F U ∧ va_X b L xs U U.heap)) Qc mc ms A) (hL : ah_L own index y bytes maxL ret n (.methodLink own index y)) (hi : Cond.static y ∈ ah_T) (hR : rm.cells = mc ∧ rm.slots = ms ∧ rm.frames + 1 ≤ R.frames ∧ 8 + (maxL + 11) + rm.locals ≤ R.locals)
    (hn : As.length = n) (hsize : ls.size = nL) (hstack : st0 = As.reverse ++ rest) (hW : (rest.map fun v => v.category).sum ≤ 8) (hdg : decode cc pc = .ok (.invokestatic index, 3)) (hf : cells + mc ≤ R.cells ∧ slots + ms ≤ R.slots) :
    va_Run p l e R s m args below meth c H locs cells slots mc ms (F0 m pc ls st0) rest (Qc As.toArray) A :=
  va_runS (As := As) (rest := rest) (ah_fix E) hM ⟨ah_cb E hL hR, E.2.2.2.2.1 _ hi⟩ ⟨fun a U g mk q => ⟨q.1, (ah_blind (av := As) a U g mk ⟨q.1, q.2.1⟩).2, va_X.moved (U := U.calling g mk a) (Vm.Alike.refl U.vm) q.2.2⟩, fun U hU hW => ⟨rfl, (ah_pre (av := As) E hP hS U hU hW).2, by rw [hU]; exact (hX.kept (hS.2.1 b hbl hbA)).moved hW.alike⟩⟩ rfl hn hsize hstack (lv_room hW) hdg hf
end AHD
set_option maxHeartbeats 4000000 in
set_option maxRecDepth 100000 in
theorem w_draw (l : Launch) (A : Nat → Prop) (D : ah_G) (F : ah_F) {b L k : Nat} {xs : Nat → Int32} (hbA : ¬ A b) (hL : L ≤ 260) (hk : k < 1000) : Met l yL_draw (Cond.code yL_draw cL_draw 2 (some .int) :: ah_T) { frames := 0, cells := 0, slots := 0, locals := 0 } (va_Pc [.ref b, .int (nI k)] (fun U => ah_B A D F U ∧ va_X b L xs U U.heap)) (ah_Qi A D (fun (r : Int32) F1 => F = F1 ∧ ∃ v : Nat, v < 2 ^ 31 ∧ nI v = r)) 0 0 A := by
  refine aw_dmet (own := "AhoarchLaw") (X := fun U => va_X b L xs U U.heap) (by decide) rfl (Nat.le_of_ble_eq_true rfl) ?_
  intro p e s m below meth c ls E hr hX hl hP hS Q hQ
  have hx := E.1
  have hb := E.2.1
  have hbl : b < s.heap.size := by
    obtain ⟨scr, h1, -⟩ := hX
    exact (Array.getElem?_eq_some_iff.mp h1).1
  have hl : lv_has ls 2 [(0, .ref b), (1, .int (nI k))] := hl
  refine lv_iload_n hx hb dL_draw_0 rfl (lv_at hl 1 rfl) ?_
  refine lv_aload_n hx hb dL_draw_1 rfl (lv_at hl 0 rfl) ?_
  refine va_slen hx hb hX hbl hbA hS dL_draw_2 ?_
  refine ah_icmp_ge (a := k) (b := L) (tgt := 15) hx hb (by omega) (by omega) dL_draw_3 (by decide) (fun hc3 => ?_) (fun hc3 => ?_)
  · refine lv_ldc (v := (nI 104729)) hx hb E.2.2.2.1 (E.2.2.2.2.1 (.constant "AhoarchLaw" 8 104729) (ah_in 348 (by decide +kernel) rfl)) dL_draw_15 ?_
    refine lv_iload_n hx hb dL_draw_17 rfl (lv_at hl 1 rfl) ?_
    refine lv_iconst (v := (nI 2)) hx hb dL_draw_18 (by decide) ?_
    refine ah_iadd hx hb dL_draw_19 ?_
    refine ah_imul hx hb dL_draw_20 ?_
    refine lv_ldc (v := (nI 65521)) hx hb E.2.2.2.1 (E.2.2.2.2.1 (.constant "AhoarchLaw" 9 65521) (ah_in 349 (by decide +kernel) rfl)) dL_draw_21 ?_
    refine lv_irem hx hb dL_draw_23 (nI_ne0 (by omega) (by omega)) ?_
    rw [pk_rem (a := 104729 * (k + 2)) (d := 65521) (by omega) (by omega) (by omega)]
    rw [hQ]
    exact ah_iret E hr hP hS ⟨rfl, _, by omega, rfl⟩ (Nat.le_of_ble_eq_true rfl) (Nat.le_of_ble_eq_true rfl) dL_draw_24
  · refine lv_aload_n hx hb dL_draw_6 rfl (lv_at hl 0 rfl) ?_
    refine lv_iload_n hx hb dL_draw_7 rfl (lv_at hl 1 rfl) ?_
    refine va_sld hx hb hX hbl hbA hS (vp_in_nI hc3 (by omega)) dL_draw_8 ?_
    refine lv_ldc (v := (nI 2147483647)) hx hb E.2.2.2.1 (E.2.2.2.2.1 (.constant "AhoarchLaw" 7 2147483647) (ah_in 347 (by decide +kernel) rfl)) dL_draw_9 ?_
    refine lv_iand hx hb dL_draw_11 ?_
    rw [pk_and _ 31 (by decide)]
    refine lv_goto (tgt := 24) hx hb dL_draw_12 (by decide) ?_
    rw [hQ]
    exact ah_iret E hr hP hS ⟨rfl, _, Nat.mod_lt _ (by decide), rfl⟩ (Nat.le_of_ble_eq_true rfl) (Nat.le_of_ble_eq_true rfl) dL_draw_24
set_option maxHeartbeats 4000000 in
set_option maxRecDepth 100000 in
theorem law_body {p : Program} {e : Env} {s : State} {m : MethodId} {below : List Frame} {meth : Method} {c : Code} (l : Launch) (hl1 : l.stackTraces = false) {A : Nat → Prop} (hA : ∀ q, A q → s.heap.size ≤ q) {D : ah_G} {b L x o : Nat} {xs : Nat → Int32} (E : ah_E A D p s m #[Value.ref b] meth c "AhoarchLaw" cL_law 6) (hr : meth.sig.returnType = ret) (hX : va_X b L xs s s.heap) (hbl : b < s.heap.size) (hbA : ¬ A b) (hL : L ≤ 260) {F : ah_F} {H : Heap} {locs : List Loc} {ls : Array Slot} {P : ah_Pt} {rv : Nat → Int32} (hP : ah_K A D F H) (hS : va_S A s.heap H locs) (hC0 : ah_C D F x P 0 [] [] (nI 0)) (ho : F o = some (ah_ai D 42 rv)) (hR : pr_R P 0 [] rv) (hD : pd_D P) (hl : lv_has ls 6 [(0, .ref b), (1, .ref x), (2, .ref o)]) : W p l e room_1 s m #[Value.ref b] below meth c H locs 12 2301 (lw_Z below #[Value.ref b] s) (F0 m 13 ls []) := by
  have hx := E.1
  have hb := E.2.1
  have hC := hC0
  obtain ⟨hPok, hn40, hPn, hS200, hSlt, hdok, hcnt⟩ := ah_C_ok hC
  obtain ⟨fs1, hxx1⟩ := ah_C_x hC
  have hzp : pu_cn (fun i => (P i).isSome) 40 = 0 := pc_zero (fun i _ => by rw [hPn i (Nat.zero_le _)]; rfl)
  have hzb : pu_cb P 40 ≤ 0 := (pb_fin hPok hn40 hPn).1
  have hzc : (ah_ct P [] ([] : List Nat).length).2.1 = 0 := rfl
  have hzm : (ah_chs P [] 2).length ≤ 0 := pq_chs hPok 2
  generalize hQ : lw_Z below #[Value.ref b] s = Q
  refine lv_aload_n hx hb dL_law_13 rfl (lv_at hl 1 rfl) ?_
  refine ah_calli (ah_runV E hP hS (As := []) (rest := []) (b := x) (c_patterns l A D _ hC) lk_Law_30 li_Law_30 hxx1 rfl ⟨rfl, rfl, (Nat.le_of_ble_eq_true rfl), (Nat.le_of_ble_eq_true rfl)⟩ rfl hl.1 rfl (Nat.le_of_ble_eq_true rfl) dL_law_14 ⟨show _ ≤ 600172 by omega, show _ ≤ 7300668 by omega⟩) hS (fun r F1 H locs hq hP hS => ?_)
  obtain ⟨rfl, rfl⟩ := hq
  refine ah_if_ne (tgt := 45) hx hb (by omega) dL_law_17 (by decide) (fun hc17 => ?_) (fun hc17 => ?_)
  · skip
    exact absurd hc17 (by omega)
  · skip
    refine lv_aload_n hx hb dL_law_20 rfl (lv_at hl 1 rfl) ?_
    refine ah_calli (ah_runV E hP hS (As := []) (rest := []) (b := x) (c_beginnings l A D _ hC) lk_Law_97 li_Law_97 hxx1 rfl ⟨rfl, rfl, (Nat.le_of_ble_eq_true rfl), (Nat.le_of_ble_eq_true rfl)⟩ rfl hl.1 rfl (Nat.le_of_ble_eq_true rfl) dL_law_21 ⟨show _ ≤ 600172 by omega, show _ ≤ 7300668 by omega⟩) hS (fun r F2 H locs hq hP hS => ?_)
    obtain ⟨rfl, rfl⟩ := hq
    refine ah_if_ne (tgt := 45) hx hb (by omega) dL_law_24 (by decide) (fun hc24 => ?_) (fun hc24 => ?_)
    · skip
      exact absurd hc24 (by omega)
    · skip
      refine lv_aload_n hx hb dL_law_27 rfl (lv_at hl 1 rfl) ?_
      refine ah_calli (ah_runV E hP hS (As := []) (rest := []) (b := x) (c_certain l A D _ hC) lk_Law_74 li_Law_74 hxx1 rfl ⟨rfl, rfl, (Nat.le_of_ble_eq_true rfl), (Nat.le_of_ble_eq_true rfl)⟩ rfl hl.1 rfl (Nat.le_of_ble_eq_true rfl) dL_law_28 ⟨show _ ≤ 600172 by omega, show _ ≤ 7300668 by omega⟩) hS (fun r F3 H locs hq hP hS => ?_)
      obtain ⟨rfl, rfl⟩ := hq
      refine ah_if_ne (tgt := 45) hx hb (by omega) dL_law_31 (by decide) (fun hc31 => ?_) (fun hc31 => ?_)
      · skip
        exact absurd hc31 (by omega)
      · skip
        refine lv_aload_n hx hb dL_law_34 rfl (lv_at hl 1 rfl) ?_
        refine ah_calli (ah_runV E hP hS (As := []) (rest := []) (b := x) (c_mostApart l A D _ hC) lk_Law_106 li_Law_106 hxx1 rfl ⟨rfl, rfl, (Nat.le_of_ble_eq_true rfl), (Nat.le_of_ble_eq_true rfl)⟩ rfl hl.1 rfl (Nat.le_of_ble_eq_true rfl) dL_law_35 ⟨show _ ≤ 600172 by omega, show _ ≤ 7300668 by omega⟩) hS (fun r F4 H locs hq hP hS => ?_)
        obtain ⟨rfl, hCw5, houtw5⟩ := hq
        have how5 := (houtw5 _ _ ho).trans ho
        obtain ⟨fsw5, hxxw5⟩ := ah_C_x hCw5
        refine ah_if_ne (tgt := 45) hx hb (by omega) dL_law_38 (by decide) (fun hc38 => ?_) (fun hc38 => ?_)
        · skip
          exact absurd hc38 (by omega)
        · skip
          refine lv_iconst (v := (nI 1)) hx hb dL_law_41 (by decide) ?_
          refine lv_goto (tgt := 46) hx hb dL_law_42 (by decide) ?_
          refine lv_istore_n (lv' := [(3, .int (nI 1)), (0, .ref b), (1, .ref x), (2, .ref o)]) hx hb dL_law_46 rfl hl (by decide) rfl (fun ls hl => ?_)
          have J67 : ∀ (st : Nat), st ≤ 80 → ∀ (H : Heap) (locs : List Loc), ah_K A D F4 H → va_S A s.heap H locs → ∀ (ls : Array Slot), lv_has ls 6 [(0, .ref b), (1, .ref x), (2, .ref o), (3, .int (nI 1)), (4, .int (nI st))] → W p l e room_1 s m #[Value.ref b] below meth c H locs ((((12 + 0) + 0) + 0) + 0) ((((2301 + 0) + 0) + 0) + 0) Q (F0 m 67 ls []) := by
            intro st hst H locs hP hS ls hl
            refine lv_iconst (v := (nI 0)) hx hb dL_law_67 (by decide) ?_
            refine lv_istore (lv' := [(5, .int (nI 0)), (0, .ref b), (1, .ref x), (2, .ref o), (3, .int (nI 1)), (4, .int (nI st))]) hx hb dL_law_68 hl (by decide) rfl (fun ls hl => ?_)
            have L70 : ∀ (fuel : Nat), ∀ (Fv : ah_F) (k : Nat), st - k < fuel → k ≤ st → pr_S D Fv x o → ∀ (H : Heap) (locs : List Loc), ah_K A D Fv H → va_S A s.heap H locs → ∀ (ls : Array Slot), lv_has ls 6 [(0, .ref b), (1, .ref x), (2, .ref o), (3, .int (nI 1)), (4, .int (nI st)), (5, .int (nI k))] → W p l e room_1 s m #[Value.ref b] below meth c H locs (12 + 5 * k) (2301 + 15 * k) Q (F0 m 70 ls []) := by
              intro fuel
              induction fuel with
              | zero =>
                intro Fv k hm
                exact absurd hm (Nat.not_lt_zero _)
              | succ fuel ih70 =>
                intro Fv k hm hk hSt H locs hP hS ls hl
                obtain ⟨P, n, dr, S, td, rv, hC, ho, hR, hD, hS6⟩ := hSt
                obtain ⟨hPok, hn40, hPn, hS200, hSlt, hdok, hcnt⟩ := ah_C_ok hC
                obtain ⟨fs1, hxx1⟩ := ah_C_x hC
                refine lv_iload hx hb dL_law_70 (lv_at hl 5 rfl) ?_
                refine lv_iload hx hb dL_law_72 (lv_at hl 4 rfl) ?_
                refine ah_icmp_ge (tgt := 201) hx hb (by omega) (by omega) dL_law_74 (by decide) (fun hc74 => ?_) (fun hc74 => ?_)
                · skip
                  refine lv_iload_n hx hb dL_law_201 rfl (lv_at hl 3 rfl) ?_
                  rw [← hQ]
                  refine va_forget (fun q hq => hA _ (hS.2.2 q hq)) ?_
                  exact W.widen (by omega) (by omega) (lw_ret hx hb hr E.2.2.2.2.2.1 dL_law_202)
                · skip
                  refine lv_iload_n hx hb dL_law_77 rfl (lv_at hl 3 rfl) ?_
                  refine ah_if_eq (tgt := 201) hx hb (by omega) dL_law_78 (by decide) (fun hc78 => ?_) (fun hc78 => ?_)
                  · skip
                    exact absurd hc78 (by decide)
                  · skip
                    refine lv_aload_n hx hb dL_law_81 rfl (lv_at hl 1 rfl) ?_
                    refine lv_aload_n hx hb dL_law_82 rfl (lv_at hl 2 rfl) ?_
                    refine lv_aload_n hx hb dL_law_83 rfl (lv_at hl 0 rfl) ?_
                    refine lv_iconst (v := (nI 3)) hx hb dL_law_84 (by decide) ?_
                    refine lv_iload hx hb dL_law_85 (lv_at hl 5 rfl) ?_
                    refine ah_imul hx hb dL_law_87 ?_
                    refine ah_calli (aw_runD E hP hS hX hbl hbA (As := [.ref b, .int (nI (3 * k))]) (rest := [.ref o, .ref x]) (w_draw l A D _ hbA hL (by omega)) lk_Law_126 li_Law_126 ⟨rfl, rfl, (Nat.le_of_ble_eq_true rfl), (Nat.le_of_ble_eq_true rfl)⟩ rfl hl.1 rfl (Nat.le_of_ble_eq_true rfl) dL_law_88 ⟨show _ ≤ 600172 by omega, show _ ≤ 7300668 by omega⟩) hS (fun r FD H locs hq hP hS => ?_)
                    obtain ⟨rfl, wh, hwh, rfl⟩ := hq
                    refine lv_aload_n hx hb dL_law_91 rfl (lv_at hl 0 rfl) ?_
                    refine lv_iconst (v := (nI 3)) hx hb dL_law_92 (by decide) ?_
                    refine lv_iload hx hb dL_law_93 (lv_at hl 5 rfl) ?_
                    refine ah_imul hx hb dL_law_95 ?_
                    refine lv_iconst (v := (nI 1)) hx hb dL_law_96 (by decide) ?_
                    refine ah_iadd hx hb dL_law_97 ?_
                    refine ah_calli (aw_runD E hP hS hX hbl hbA (As := [.ref b, .int (nI ((3 * k) + 1))]) (rest := [.int (nI wh), .ref o, .ref x]) (w_draw l A D _ hbA hL (by omega)) lk_Law_126 li_Law_126 ⟨rfl, rfl, (Nat.le_of_ble_eq_true rfl), (Nat.le_of_ble_eq_true rfl)⟩ rfl hl.1 rfl (Nat.le_of_ble_eq_true rfl) dL_law_98 ⟨show _ ≤ 600172 by omega, show _ ≤ 7300668 by omega⟩) hS (fun r FD H locs hq hP hS => ?_)
                    obtain ⟨rfl, aa, haa, rfl⟩ := hq
                    refine lv_aload_n hx hb dL_law_101 rfl (lv_at hl 0 rfl) ?_
                    refine lv_iconst (v := (nI 3)) hx hb dL_law_102 (by decide) ?_
                    refine lv_iload hx hb dL_law_103 (lv_at hl 5 rfl) ?_
                    refine ah_imul hx hb dL_law_105 ?_
                    refine lv_iconst (v := (nI 2)) hx hb dL_law_106 (by decide) ?_
                    refine ah_iadd hx hb dL_law_107 ?_
                    refine ah_calli (aw_runD E hP hS hX hbl hbA (As := [.ref b, .int (nI ((3 * k) + 2))]) (rest := [.int (nI aa), .int (nI wh), .ref o, .ref x]) (w_draw l A D _ hbA hL (by omega)) lk_Law_126 li_Law_126 ⟨rfl, rfl, (Nat.le_of_ble_eq_true rfl), (Nat.le_of_ble_eq_true rfl)⟩ rfl hl.1 rfl (Nat.le_of_ble_eq_true rfl) dL_law_108 ⟨show _ ≤ 600172 by omega, show _ ≤ 7300668 by omega⟩) hS (fun r FD H locs hq hP hS => ?_)
                    obtain ⟨rfl, bb, hbb, rfl⟩ := hq
                    refine ah_calli (ah_runS E hP hS (As := [.ref x, .ref o, .int (nI wh), .int (nI aa), .int (nI bb)]) (rest := []) (w_step l A D _ hl1 hC ho hR hD hS6 hwh haa hbb) lk_Law_130 li_Law_130 ⟨rfl, rfl, (Nat.le_of_ble_eq_true rfl), (Nat.le_of_ble_eq_true rfl)⟩ rfl hl.1 rfl (Nat.le_of_ble_eq_true rfl) dL_law_111 ⟨show _ ≤ 600172 by omega, show _ ≤ 7300668 by omega⟩) hS (fun r F6 H locs hq hP hS => ?_)
                    obtain ⟨rfl, P, n, dr, S, td, rv, hC, ho, hR, hD, hS6⟩ := hq
                    obtain ⟨hPok, hn40, hPn, hS200, hSlt, hdok, hcnt⟩ := ah_C_ok hC
                    obtain ⟨fs1, hxx1⟩ := ah_C_x hC
                    refine ah_if_eq (tgt := 140) hx hb (by omega) dL_law_114 (by decide) (fun hc114 => ?_) (fun hc114 => ?_)
                    · skip
                      exact absurd hc114 (by decide)
                    · skip
                      refine lv_aload_n hx hb dL_law_117 rfl (lv_at hl 1 rfl) ?_
                      refine ah_calli (ah_runS E hP hS (As := [.ref x]) (rest := []) (w_areEnding l A D _ hC hD) lk_Law_134 li_Law_134 ⟨rfl, rfl, (Nat.le_of_ble_eq_true rfl), (Nat.le_of_ble_eq_true rfl)⟩ rfl hl.1 rfl (Nat.le_of_ble_eq_true rfl) dL_law_118 ⟨show _ ≤ 600172 by omega, show _ ≤ 7300668 by omega⟩) hS (fun r F7 H locs hq hP hS => ?_)
                      obtain ⟨rfl, rfl⟩ := hq
                      refine ah_if_eq (tgt := 140) hx hb (by omega) dL_law_121 (by decide) (fun hc121 => ?_) (fun hc121 => ?_)
                      · skip
                        exact absurd hc121 (by decide)
                      · skip
                        have hz0 := pz_le (S := S) hPok
                        have hz1 := pq_tx (S := S) hPok 0
                        refine lv_aload_n hx hb dL_law_124 rfl (lv_at hl 1 rfl) ?_
                        refine ah_calli (ah_runV E hP hS (As := []) (rest := []) (b := x) (c_certain l A D _ hC) lk_Law_74 li_Law_74 hxx1 rfl ⟨rfl, rfl, (Nat.le_of_ble_eq_true rfl), (Nat.le_of_ble_eq_true rfl)⟩ rfl hl.1 rfl (Nat.le_of_ble_eq_true rfl) dL_law_125 ⟨show _ ≤ 600172 by omega, show _ ≤ 7300668 by omega⟩) hS (fun r F8 H locs hq hP hS => ?_)
                        obtain ⟨rfl, rfl⟩ := hq
                        refine lv_aload_n hx hb dL_law_128 rfl (lv_at hl 1 rfl) ?_
                        refine lv_iconst (v := (nI 0)) hx hb dL_law_129 (by decide) ?_
                        refine ah_calli (ah_runV E hP hS (As := [.int (nI 0)]) (rest := [.int (nI ((ah_ct P S S.length).2.1))]) (b := x) (z_replacedLength l A D _ hC (ru := 0) (by omega)) lk_Law_119 li_Law_119 hxx1 rfl ⟨rfl, rfl, (Nat.le_of_ble_eq_true rfl), (Nat.le_of_ble_eq_true rfl)⟩ rfl hl.1 rfl (Nat.le_of_ble_eq_true rfl) dL_law_130 ⟨show _ ≤ 600172 by omega, show _ ≤ 7300668 by omega⟩) hS (fun r F9 H locs hq hP hS => ?_)
                        obtain ⟨rfl, hCw10, houtw10⟩ := hq
                        have how10 := (houtw10 _ _ ho).trans ho
                        obtain ⟨fsw10, hxxw10⟩ := ah_C_x hCw10
                        refine ah_icmp_gt (tgt := 140) hx hb (by omega) (by omega) dL_law_133 (by decide) (fun hc133 => ?_) (fun hc133 => ?_)
                        · skip
                          exact absurd hc133 (by omega)
                        · skip
                          refine lv_iconst (v := (nI 1)) hx hb dL_law_136 (by decide) ?_
                          refine lv_goto (tgt := 141) hx hb dL_law_137 (by decide) ?_
                          refine lv_istore_n (lv' := [(3, .int (nI 1)), (0, .ref b), (1, .ref x), (2, .ref o), (4, .int (nI st)), (5, .int (nI k))]) hx hb dL_law_141 rfl hl (by decide) rfl (fun ls hl => ?_)
                          refine lv_iload_n hx hb dL_law_142 rfl (lv_at hl 0 rfl) ?_
                          refine ah_if_eq (tgt := 195) hx hb (by omega) dL_law_143 (by decide) (fun hc143 => ?_) (fun hc143 => ?_)
                          · skip
                            exact absurd hc143 (by decide)
                          · skip
                            refine lv_iload hx hb dL_law_146 (lv_at hl 5 rfl) ?_
                            refine lv_iconst (v := (nI 4)) hx hb dL_law_148 (by decide) ?_
                            refine lv_irem hx hb dL_law_149 (nI_ne0 (by omega) (by omega)) ?_
                            rw [pk_rem (a := k) (d := 4) (by omega) (by omega) (by omega)]
                            refine lv_iconst (v := (nI 3)) hx hb dL_law_150 (by decide) ?_
                            refine ah_icmp_ne (tgt := 195) hx hb (by omega) (by omega) dL_law_151 (by decide) (fun hc151 => ?_) (fun hc151 => ?_)
                            · skip
                              refine lv_iinc (v := (nI (k + 1))) (lv' := [(5, .int (nI (k + 1))), (3, .int (nI 1)), (0, .ref b), (1, .ref x), (2, .ref o), (4, .int (nI st))]) hx hb dL_law_195 hl (k := 5) rfl (ah_inc _) (by decide) rfl (fun ls hl => ?_)
                              refine lv_goto (tgt := 70) hx hb dL_law_198 (by decide) ?_
                              exact W.widen (by omega) (by omega) (ih70 _ (k + 1) (by omega) (by omega) ⟨P, n, dr, S, td, rv, hCw10, how10, hR, hD, hS6⟩ _ _ hP hS ls (lv_sub hl [2, 3, 4, 1, 5, 0] rfl))
                            · skip
                              refine lv_aload_n hx hb dL_law_154 rfl (lv_at hl 2 rfl) ?_
                              refine lv_aload_n hx hb dL_law_155 rfl (lv_at hl 3 rfl) ?_
                              refine ah_calli (ah_runS E hP hS (As := [.ref x, .ref o]) (rest := []) (w_arePatterns l A D _ hCw10 how10 hR) lk_Law_138 li_Law_138 ⟨rfl, rfl, (Nat.le_of_ble_eq_true rfl), (Nat.le_of_ble_eq_true rfl)⟩ rfl hl.1 rfl (Nat.le_of_ble_eq_true rfl) dL_law_156 ⟨show _ ≤ 600172 by omega, show _ ≤ 7300668 by omega⟩) hS (fun r F11 H locs hq hP hS => ?_)
                              obtain ⟨rfl, rfl⟩ := hq
                              refine ah_if_eq (tgt := 193) hx hb (by omega) dL_law_159 (by decide) (fun hc159 => ?_) (fun hc159 => ?_)
                              · skip
                                exact absurd hc159 (by decide)
                              · skip
                                refine lv_aload_n hx hb dL_law_162 rfl (lv_at hl 2 rfl) ?_
                                refine lv_aload_n hx hb dL_law_163 rfl (lv_at hl 3 rfl) ?_
                                refine lv_iconst (v := (nI 0)) hx hb dL_law_164 (by decide) ?_
                                refine ah_calli (ah_runS E hP hS (As := [.ref x, .ref o, .int (nI 0)]) (rest := []) (w_areChosen l A D _ hCw10 how10 hR (ru := 0) (by omega)) lk_Law_141 li_Law_141 ⟨rfl, rfl, (Nat.le_of_ble_eq_true rfl), (Nat.le_of_ble_eq_true rfl)⟩ rfl hl.1 rfl (Nat.le_of_ble_eq_true rfl) dL_law_165 ⟨show _ ≤ 600172 by omega, show _ ≤ 7300668 by omega⟩) hS (fun r F12 H locs hq hP hS => ?_)
                                obtain ⟨rfl, hCy13, hoy13⟩ := hq
                                obtain ⟨fsy13, hxxy13⟩ := ah_C_x hCy13
                                refine ah_if_eq (tgt := 193) hx hb (by omega) dL_law_168 (by decide) (fun hc168 => ?_) (fun hc168 => ?_)
                                · skip
                                  exact absurd hc168 (by decide)
                                · skip
                                  refine lv_aload_n hx hb dL_law_171 rfl (lv_at hl 2 rfl) ?_
                                  refine lv_aload_n hx hb dL_law_172 rfl (lv_at hl 3 rfl) ?_
                                  refine lv_iconst (v := (nI 1)) hx hb dL_law_173 (by decide) ?_
                                  refine ah_calli (ah_runS E hP hS (As := [.ref x, .ref o, .int (nI 1)]) (rest := []) (w_areChosen l A D _ hCy13 hoy13 hR (ru := 1) (by omega)) lk_Law_141 li_Law_141 ⟨rfl, rfl, (Nat.le_of_ble_eq_true rfl), (Nat.le_of_ble_eq_true rfl)⟩ rfl hl.1 rfl (Nat.le_of_ble_eq_true rfl) dL_law_174 ⟨show _ ≤ 600172 by omega, show _ ≤ 7300668 by omega⟩) hS (fun r F14 H locs hq hP hS => ?_)
                                  obtain ⟨rfl, hCy15, hoy15⟩ := hq
                                  obtain ⟨fsy15, hxxy15⟩ := ah_C_x hCy15
                                  refine ah_if_eq (tgt := 193) hx hb (by omega) dL_law_177 (by decide) (fun hc177 => ?_) (fun hc177 => ?_)
                                  · skip
                                    exact absurd hc177 (by decide)
                                  · skip
                                    refine lv_aload_n hx hb dL_law_180 rfl (lv_at hl 2 rfl) ?_
                                    refine lv_aload_n hx hb dL_law_181 rfl (lv_at hl 3 rfl) ?_
                                    refine lv_iconst (v := (nI 2)) hx hb dL_law_182 (by decide) ?_
                                    refine ah_calli (ah_runS E hP hS (As := [.ref x, .ref o, .int (nI 2)]) (rest := []) (w_areChosen l A D _ hCy15 hoy15 hR (ru := 2) (by omega)) lk_Law_141 li_Law_141 ⟨rfl, rfl, (Nat.le_of_ble_eq_true rfl), (Nat.le_of_ble_eq_true rfl)⟩ rfl hl.1 rfl (Nat.le_of_ble_eq_true rfl) dL_law_183 ⟨show _ ≤ 600172 by omega, show _ ≤ 7300668 by omega⟩) hS (fun r F16 H locs hq hP hS => ?_)
                                    obtain ⟨rfl, hCy17, hoy17⟩ := hq
                                    obtain ⟨fsy17, hxxy17⟩ := ah_C_x hCy17
                                    refine ah_if_eq (tgt := 193) hx hb (by omega) dL_law_186 (by decide) (fun hc186 => ?_) (fun hc186 => ?_)
                                    · skip
                                      exact absurd hc186 (by decide)
                                    · skip
                                      refine lv_iconst (v := (nI 1)) hx hb dL_law_189 (by decide) ?_
                                      refine lv_goto (tgt := 194) hx hb dL_law_190 (by decide) ?_
                                      refine lv_istore_n (lv' := [(3, .int (nI 1)), (0, .ref b), (1, .ref x), (2, .ref o), (4, .int (nI st)), (5, .int (nI k))]) hx hb dL_law_194 rfl hl (by decide) rfl (fun ls hl => ?_)
                                      refine lv_iinc (v := (nI (k + 1))) (lv' := [(5, .int (nI (k + 1))), (3, .int (nI 1)), (0, .ref b), (1, .ref x), (2, .ref o), (4, .int (nI st))]) hx hb dL_law_195 hl (k := 5) rfl (ah_inc _) (by decide) rfl (fun ls hl => ?_)
                                      refine lv_goto (tgt := 70) hx hb dL_law_198 (by decide) ?_
                                      exact W.widen (by omega) (by omega) (ih70 _ (k + 1) (by omega) (by omega) ⟨P, n, dr, S, td, rv, hCy17, hoy17, hR, hD, hS6⟩ _ _ hP hS ls (lv_sub hl [2, 3, 4, 1, 5, 0] rfl))
            exact W.widen (by omega) (by omega) (L70 (st + 1) _ 0 (by omega) (Nat.zero_le _) ⟨P, 0, [], [], nI 0, rv, hCw5, how5, hR, hD, by simp⟩ _ _ hP hS ls (lv_sub hl [1, 2, 3, 4, 5, 0] rfl))
          refine lv_aload_n hx hb dL_law_47 rfl (lv_at hl 1 rfl) ?_
          refine va_slen hx hb hX hbl hbA hS dL_law_48 ?_
          rw [show Int32.ofNat L = nI L from rfl]
          refine lv_iconst (v := (nI 3)) hx hb dL_law_49 (by decide) ?_
          refine lv_idiv hx hb dL_law_50 (nI_ne0 (by omega) (by omega)) ?_
          rw [pk_div (a := L) (d := 3) (by omega) (by omega) (by omega)]
          refine lv_bipush (v := (nI 80)) hx hb dL_law_51 (by decide) ?_
          refine ah_icmp_le (tgt := 61) hx hb (by omega) (by omega) dL_law_53 (by decide) (fun hc53 => ?_) (fun hc53 => ?_)
          · skip
            refine lv_aload_n hx hb dL_law_61 rfl (lv_at hl 1 rfl) ?_
            refine va_slen hx hb hX hbl hbA hS dL_law_62 ?_
            rw [show Int32.ofNat L = nI L from rfl]
            refine lv_iconst (v := (nI 3)) hx hb dL_law_63 (by decide) ?_
            refine lv_idiv hx hb dL_law_64 (nI_ne0 (by omega) (by omega)) ?_
            rw [pk_div (a := L) (d := 3) (by omega) (by omega) (by omega)]
            refine lv_istore (lv' := [(4, .int (nI (L / 3))), (3, .int (nI 1)), (0, .ref b), (1, .ref x), (2, .ref o)]) hx hb dL_law_65 hl (by decide) rfl (fun ls hl => ?_)
            exact J67 (L / 3) (by omega) _ _ hP hS ls (lv_sub hl [2, 3, 4, 1, 0] rfl)
          · skip
            refine lv_bipush (v := (nI 80)) hx hb dL_law_56 (by decide) ?_
            refine lv_goto (tgt := 65) hx hb dL_law_58 (by decide) ?_
            refine lv_istore (lv' := [(4, .int (nI 80)), (3, .int (nI 1)), (0, .ref b), (1, .ref x), (2, .ref o)]) hx hb dL_law_65 hl (by decide) rfl (fun ls hl => ?_)
            exact J67 80 (by omega) _ _ hP hS ls (lv_sub hl [2, 3, 4, 1, 0] rfl)
