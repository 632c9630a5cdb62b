theorem awl_77 : aw_L "AhoarchLaw" 77 yL_draft cL_draft 4 (some .int) [((0 : Nat), (9 : Nat), (12 : Nat), (13 : Nat)), ((0 : Nat), (9 : Nat), (15 : Nat), (15 : Nat))] 3 := ⟨(ah_in 270 (by decide +kernel) rfl), (ah_in 271 (by decide +kernel) rfl), (ah_in 0 (by decide +kernel) rfl), (ah_in 272 (by decide +kernel) rfl), by decide, by decide, by decide +kernel⟩
theorem awl_86 : aw_L "AhoarchLaw" 86 yL_enter cL_enter 3 (some .int) [((0 : Nat), (8 : Nat), (11 : Nat), (15 : Nat))] 2 := ⟨(ah_in 376 (by decide +kernel) rfl), (ah_in 377 (by decide +kernel) rfl), (ah_in 0 (by decide +kernel) rfl), (ah_in 378 (by decide +kernel) rfl), by decide, by decide, by decide +kernel⟩
theorem awl_90 : aw_L "AhoarchLaw" 90 yL_setReplacement cL_setReplacement 4 (some .int) [((0 : Nat), (9 : Nat), (12 : Nat), (25 : Nat))] 3 := ⟨(ah_in 421 (by decide +kernel) rfl), (ah_in 422 (by decide +kernel) rfl), (ah_in 0 (by decide +kernel) rfl), (ah_in 423 (by decide +kernel) rfl), by decide, by decide, by decide +kernel⟩
theorem awl_94 : aw_L "AhoarchLaw" 94 yL_takeOut cL_takeOut 4 (some .int) [((0 : Nat), (9 : Nat), (12 : Nat), (25 : Nat))] 3 := ⟨(ah_in 453 (by decide +kernel) rfl), (ah_in 454 (by decide +kernel) rfl), (ah_in 0 (by decide +kernel) rfl), (ah_in 455 (by decide +kernel) rfl), by decide, by decide, by decide +kernel⟩
theorem awl_101 : aw_L "AhoarchLaw" 101 yL_length cL_length 4 (some .int) [((0 : Nat), (9 : Nat), (12 : Nat), (25 : Nat))] 3 := ⟨(ah_in 465 (by decide +kernel) rfl), (ah_in 466 (by decide +kernel) rfl), (ah_in 0 (by decide +kernel) rfl), (ah_in 467 (by decide +kernel) rfl), by decide, by decide, by decide +kernel⟩
theorem awl_108 : aw_L "AhoarchLaw" 108 yL_link cL_link 4 (some .int) [((0 : Nat), (9 : Nat), (12 : Nat), (25 : Nat))] 3 := ⟨(ah_in 472 (by decide +kernel) rfl), (ah_in 473 (by decide +kernel) rfl), (ah_in 0 (by decide +kernel) rfl), (ah_in 474 (by decide +kernel) rfl), by decide, by decide, by decide +kernel⟩
theorem awl_111 : aw_L "AhoarchLaw" 111 yL_overlap cL_overlap 5 (some .int) [((0 : Nat), (10 : Nat), (13 : Nat), (25 : Nat))] 4 := ⟨(ah_in 479 (by decide +kernel) rfl), (ah_in 480 (by decide +kernel) rfl), (ah_in 0 (by decide +kernel) rfl), (ah_in 481 (by decide +kernel) rfl), by decide, by decide, by decide +kernel⟩
theorem awl_115 : aw_L "AhoarchLaw" 115 yL_feed cL_feed 4 (some .int) [((0 : Nat), (9 : Nat), (12 : Nat), (13 : Nat)), ((0 : Nat), (9 : Nat), (15 : Nat), (15 : Nat))] 3 := ⟨(ah_in 487 (by decide +kernel) rfl), (ah_in 488 (by decide +kernel) rfl), (ah_in 0 (by decide +kernel) rfl), (ah_in 489 (by decide +kernel) rfl), by decide, by decide, by decide +kernel⟩
theorem awl_118 : aw_L "AhoarchLaw" 118 yL_feedPattern cL_feedPattern 4 (some .int) [((0 : Nat), (9 : Nat), (12 : Nat), (25 : Nat)), ((0 : Nat), (9 : Nat), (15 : Nat), (15 : Nat))] 3 := ⟨(ah_in 508 (by decide +kernel) rfl), (ah_in 509 (by decide +kernel) rfl), (ah_in 0 (by decide +kernel) rfl), (ah_in 510 (by decide +kernel) rfl), by decide, by decide, by decide +kernel⟩
theorem awl_137 : aw_L "AhoarchLaw" 137 yL_endingPattern cL_endingPattern 4 (some .int) [((0 : Nat), (9 : Nat), (12 : Nat), (49 : Nat))] 3 := ⟨(ah_in 525 (by decide +kernel) rfl), (ah_in 526 (by decide +kernel) rfl), (ah_in 0 (by decide +kernel) rfl), (ah_in 527 (by decide +kernel) rfl), by decide, by decide, by decide +kernel⟩
theorem awl_144 : aw_L "AhoarchLaw" 144 yL_occurrencesOf cL_occurrencesOf 4 (some .int) [((0 : Nat), (9 : Nat), (12 : Nat), (25 : Nat))] 3 := ⟨(ah_in 557 (by decide +kernel) rfl), (ah_in 558 (by decide +kernel) rfl), (ah_in 0 (by decide +kernel) rfl), (ah_in 559 (by decide +kernel) rfl), by decide, by decide, by decide +kernel⟩
theorem awl_147 : aw_L "AhoarchLaw" 147 yL_occurrence cL_occurrence 5 (some .int) [((0 : Nat), (10 : Nat), (13 : Nat), (25 : Nat)), ((0 : Nat), (10 : Nat), (17 : Nat), (49 : Nat))] 4 := ⟨(ah_in 569 (by decide +kernel) rfl), (ah_in 570 (by decide +kernel) rfl), (ah_in 0 (by decide +kernel) rfl), (ah_in 571 (by decide +kernel) rfl), by decide, by decide, by decide +kernel⟩
theorem awl_162 : aw_L "AhoarchLaw" 162 yL_chosen cL_chosen 4 (some .int) [((0 : Nat), (9 : Nat), (12 : Nat), (13 : Nat))] 3 := ⟨(ah_in 580 (by decide +kernel) rfl), (ah_in 581 (by decide +kernel) rfl), (ah_in 0 (by decide +kernel) rfl), (ah_in 582 (by decide +kernel) rfl), by decide, by decide, by decide +kernel⟩
theorem awl_165 : aw_L "AhoarchLaw" 165 yL_chosenPattern cL_chosenPattern 5 (some .int) [((0 : Nat), (10 : Nat), (13 : Nat), (13 : Nat)), ((0 : Nat), (10 : Nat), (17 : Nat), (49 : Nat))] 4 := ⟨(ah_in 591 (by decide +kernel) rfl), (ah_in 592 (by decide +kernel) rfl), (ah_in 0 (by decide +kernel) rfl), (ah_in 593 (by decide +kernel) rfl), by decide, by decide, by decide +kernel⟩
theorem awl_168 : aw_L "AhoarchLaw" 168 yL_chosenPlace cL_chosenPlace 5 (some .int) [((0 : Nat), (10 : Nat), (13 : Nat), (13 : Nat)), ((0 : Nat), (10 : Nat), (17 : Nat), (49 : Nat))] 4 := ⟨(ah_in 606 (by decide +kernel) rfl), (ah_in 607 (by decide +kernel) rfl), (ah_in 0 (by decide +kernel) rfl), (ah_in 608 (by decide +kernel) rfl), by decide, by decide, by decide +kernel⟩
theorem awl_171 : aw_L "AhoarchLaw" 171 yL_replacedLength cL_replacedLength 4 (some .int) [((0 : Nat), (9 : Nat), (12 : Nat), (13 : Nat))] 3 := ⟨(ah_in 617 (by decide +kernel) rfl), (ah_in 618 (by decide +kernel) rfl), (ah_in 0 (by decide +kernel) rfl), (ah_in 619 (by decide +kernel) rfl), by decide, by decide, by decide +kernel⟩
theorem awl_174 : aw_L "AhoarchLaw" 174 yL_replaced cL_replaced 5 (some .int) [((0 : Nat), (10 : Nat), (13 : Nat), (13 : Nat)), ((0 : Nat), (10 : Nat), (17 : Nat), (49 : Nat))] 4 := ⟨(ah_in 646 (by decide +kernel) rfl), (ah_in 647 (by decide +kernel) rfl), (ah_in 0 (by decide +kernel) rfl), (ah_in 648 (by decide +kernel) rfl), by decide, by decide, by decide +kernel⟩
theorem sb_draft {P : ah_Pt} {n : Nat} {dr S : List Nat} {td : Int32} {cv : Nat} : (sp_draft P n dr S td cv).1 ≤ 2 := by
  unfold sp_draft
  repeat' split
  all_goals exact Nat.le_of_ble_eq_true rfl
theorem sb_enter {P : ah_Pt} {n : Nat} {dr S : List Nat} {td : Int32}  : (sp_enter P n dr S td ).1 ≤ 2 := by
  unfold sp_enter
  repeat' split
  all_goals exact Nat.le_of_ble_eq_true rfl
theorem sb_setReplacement {P : ah_Pt} {n : Nat} {dr S : List Nat} {td : Int32} {v0 : Int32} : (sp_setReplacement P n dr S td v0).1 ≤ 2 := by
  unfold sp_setReplacement
  repeat' split
  all_goals exact Nat.le_of_ble_eq_true rfl
theorem sb_takeOut {P : ah_Pt} {n : Nat} {dr S : List Nat} {td : Int32} {v0 : Int32} : (sp_takeOut P n dr S td v0).1 ≤ 2 := by
  unfold sp_takeOut
  repeat' split
  all_goals exact Nat.le_of_ble_eq_true rfl
theorem sb_length {P : ah_Pt} {n : Nat} {dr S : List Nat} {td : Int32} {v0 : Int32} : (sp_length P n dr S td v0).1 ≤ 2 := by
  unfold sp_length
  repeat' split
  all_goals exact Nat.le_of_ble_eq_true rfl
theorem sb_link {P : ah_Pt} {n : Nat} {dr S : List Nat} {td : Int32} {v0 : Int32} : (sp_link P n dr S td v0).1 ≤ 2 := by
  unfold sp_link
  repeat' split
  all_goals exact Nat.le_of_ble_eq_true rfl
theorem sb_overlap {P : ah_Pt} {n : Nat} {dr S : List Nat} {td : Int32} {v0 v1 : Int32} : (sp_overlap P n dr S td v0 v1).1 ≤ 2 := by
  unfold sp_overlap
  repeat' split
  all_goals exact Nat.le_of_ble_eq_true rfl
theorem sb_feed {P : ah_Pt} {n : Nat} {dr S : List Nat} {td : Int32} {cv : Nat} : (sp_feed P n dr S td cv).1 ≤ 2 := by
  unfold sp_feed
  repeat' split
  all_goals exact Nat.le_of_ble_eq_true rfl
theorem sb_feedPattern {P : ah_Pt} {n : Nat} {dr S : List Nat} {td : Int32} {v0 : Int32} : (sp_feedPattern P n dr S td v0).1 ≤ 2 := by
  unfold sp_feedPattern
  repeat' split
  all_goals exact Nat.le_of_ble_eq_true rfl
theorem sb_endingPattern {P : ah_Pt} {n : Nat} {dr S : List Nat} {td : Int32} {v0 : Int32} : (sp_endingPattern P n dr S td v0).1 ≤ 2 := by
  unfold sp_endingPattern
  repeat' split
  all_goals exact Nat.le_of_ble_eq_true rfl
theorem sb_occurrencesOf {P : ah_Pt} {n : Nat} {dr S : List Nat} {td : Int32} {v0 : Int32} : (sp_occurrencesOf P n dr S td v0).1 ≤ 2 := by
  unfold sp_occurrencesOf
  repeat' split
  all_goals exact Nat.le_of_ble_eq_true rfl
theorem sb_occurrence {P : ah_Pt} {n : Nat} {dr S : List Nat} {td : Int32} {v0 v1 : Int32} : (sp_occurrence P n dr S td v0 v1).1 ≤ 2 := by
  unfold sp_occurrence
  repeat' split
  all_goals exact Nat.le_of_ble_eq_true rfl
theorem sb_chosen {P : ah_Pt} {n : Nat} {dr S : List Nat} {td : Int32} {v0 : Int32} : (sp_chosen P n dr S td v0).1 ≤ 2 := by
  unfold sp_chosen
  repeat' split
  all_goals exact Nat.le_of_ble_eq_true rfl
theorem sb_chosenPattern {P : ah_Pt} {n : Nat} {dr S : List Nat} {td : Int32} {v0 v1 : Int32} : (sp_chosenPattern P n dr S td v0 v1).1 ≤ 2 := by
  unfold sp_chosenPattern
  repeat' split
  all_goals exact Nat.le_of_ble_eq_true rfl
theorem sb_chosenPlace {P : ah_Pt} {n : Nat} {dr S : List Nat} {td : Int32} {v0 v1 : Int32} : (sp_chosenPlace P n dr S td v0 v1).1 ≤ 2 := by
  unfold sp_chosenPlace
  repeat' split
  all_goals exact Nat.le_of_ble_eq_true rfl
theorem sb_replacedLength {P : ah_Pt} {n : Nat} {dr S : List Nat} {td : Int32} {v0 : Int32} : (sp_replacedLength P n dr S td v0).1 ≤ 2 := by
  unfold sp_replacedLength
  repeat' split
  all_goals exact Nat.le_of_ble_eq_true rfl
theorem sb_replaced {P : ah_Pt} {n : Nat} {dr S : List Nat} {td : Int32} {v0 v1 : Int32} : (sp_replaced P n dr S td v0 v1).1 ≤ 2 := by
  unfold sp_replaced
  repeat' split
  all_goals exact Nat.le_of_ble_eq_true rfl
def lw_K (p : Program) (l : Launch) (e : Env) (s : State) (m : MethodId) (below : List Frame) (meth : Method) (c : Code) (Q : State → Prop) (D : ah_G) (b x mo o i cells slots : Nat) : Prop := ∀ (FC1 FM1 : ah_F) (H1 : Heap) (locs1 : List Loc) (ls1 : Array Slot), aw_St D FC1 FM1 x mo o → aw_J (aw_O s) D FC1 FM1 H1 → va_S (aw_O s) s.heap H1 locs1 → lv_has ls1 7 [(0, .ref b), (1, .ref x), (2, .ref mo), (3, .ref o), (4, .int (nI i))] → W p l e room_1 s m #[Value.ref b] below meth c H1 locs1 (cells + 4) (slots + 16) Q (F0 m 1311 ls1 [])
section LWC
variable {p : Program} {l : Launch} {e : Env} {s : State} {m : MethodId} {below : List Frame} {meth : Method} {c : Code} {Q : State → Prop} {D : ah_G} {b L x mo o i : Nat} {xs : Nat → Int32} {FC FM : ah_F} {H : Heap} {locs : List Loc} {cells slots : Nat} {ls : Array Slot}
set_option maxHeartbeats 4000000 in
set_option maxRecDepth 100000 in
/-- 0: draft -/
theorem lw_c0 (E : ah_E (aw_O s) D p s m #[Value.ref b] meth c "AhoarchLaw" cL_law 7) (hl1 : l.stackTraces = false) (hX : va_X b L xs s s.heap) (hbl : b < s.heap.size) (hL : L ≤ 1536) (hi : i + 3 ≤ L) (hst : aw_St D FC FM x mo o) (hJ : aw_J (aw_O s) D FC FM H) (hS : va_S (aw_O s) s.heap H locs) (hl : lv_has ls 7 [(0, .ref b), (1, .ref x), (2, .ref mo), (3, .ref o), (4, .int (nI i))]) (hcs : cells + 4 ≤ 689485) (hss : slots + 16 ≤ 7027648) (kk : lw_K p l e s m below meth c Q D b x mo o i cells slots) : W p l e room_1 s m #[Value.ref b] below meth c H locs cells slots Q (F0 m 164 ls []) := by
  obtain ⟨P, n, dr, S, td, th, hC, hM, fo, ho⟩ := hst
  obtain ⟨fsx, hxx⟩ := hC.x
  obtain ⟨fsm, hmm⟩ := hM.x
  have hx := E.1
  have hb := E.2.1
  refine lv_aload_n hx hb dL_law_164 rfl (lv_at hl 1 rfl) ?_
  refine lv_aload_n hx hb dL_law_165 rfl (lv_at hl 0 rfl) ?_
  refine lv_iload hx hb dL_law_166 (lv_at hl 4 rfl) ?_
  refine lv_iconst (v := (nI 1)) hx hb dL_law_168 (by decide) ?_
  refine ah_iadd hx hb dL_law_169 ?_
  refine aw_sld E hX hbl hS (by omega) hL dL_law_170 ?_
  obtain ⟨cv, hcv, hcvx⟩ : ∃ cv : Nat, cv < 65536 ∧ ((xs (i + 1)).toUInt32 % 65536).toInt32 = nI cv := ⟨_, Nat.mod_lt _ (by decide), pk_char _⟩
  refine lv_i2c (v := nI cv) hx hb dL_law_171 hcvx ?_
  refine lv_aload_n hx hb dL_law_172 rfl (lv_at hl 3 rfl) ?_
  refine aw_xcall E hJ hS (As := [.ref x, .int (nI cv), .ref o]) (rest := []) (fun A => w_draft l hl1 A D FC hC ho hcv) awl_77 ⟨rfl, rfl, (Nat.le_of_ble_eq_true rfl), (Nat.le_of_ble_eq_true rfl)⟩ rfl hl.1 rfl (Nat.le_of_ble_eq_true rfl) dL_law_173 ⟨(show cells + 2 ≤ 689485 by omega), (show slots + 12 ≤ 7027648 by omega)⟩ (fun r FC1 H locs hq hJ hS => ?_)
  obtain ⟨a, ha⟩ : ∃ a : ah_Ans, a = sp_draft P n dr S td cv := ⟨_, rfl⟩
  have hab : a.1 ≤ 2 := by rw [ha]; exact sb_draft
  rw [← ha] at hq
  obtain ⟨hr, hC1, f1, ho1, hf1⟩ := hq
  subst hr
  refine lv_istore (lv' := [(5, .int (nI a.1)), (0, .ref b), (1, .ref x), (2, .ref mo), (3, .ref o), (4, .int (nI i))]) hx hb dL_law_176 hl (by decide) rfl (fun ls hl => ?_)
  refine lv_aload_n hx hb dL_law_178 rfl (lv_at hl 3 rfl) ?_
  refine lv_aload_n hx hb dL_law_179 rfl (lv_at hl 1 rfl) ?_
  refine lv_iload hx hb dL_law_180 (lv_at hl 5 rfl) ?_
  refine lv_iconst (v := (nI 1)) hx hb dL_law_182 (by decide) ?_
  refine ah_iadd hx hb dL_law_183 ?_
  refine aw_sld E hX hbl hS (by omega) hL dL_law_184 ?_
  refine lv_i2c (v := nI cv) hx hb dL_law_185 hcvx ?_
  refine aw_calli E hJ.symm hS (As := [.int (nI cv)]) (rest := []) (b := mo) (fun A => m_draft l A D FM hM hcv) lk_Law_82 li_Law_82 hmm rfl ⟨rfl, rfl, (Nat.le_of_ble_eq_true rfl), (Nat.le_of_ble_eq_true rfl)⟩ rfl hl.1 rfl (Nat.le_of_ble_eq_true rfl) dL_law_186 ⟨(show cells + 2 + 0 ≤ 689485 by omega), (show slots + 12 + 0 ≤ 7027648 by omega)⟩ (fun r2 FM1 H locs hq2 hJ hS => ?_)
  rw [← ha] at hq2
  obtain ⟨hM1, hv2⟩ := hq2
  have hJ := hJ.symm
  refine lv_istore (lv' := [(6, .int r2), (5, .int (nI a.1)), (0, .ref b), (1, .ref x), (2, .ref mo), (3, .ref o), (4, .int (nI i))]) hx hb dL_law_189 hl (by decide) rfl (fun ls hl => ?_)
  refine lv_aload_n hx hb dL_law_191 rfl (lv_at hl 4 rfl) ?_
  obtain ⟨fsm1, hmm1⟩ := hM1.x
  refine aw_calli E hJ.symm hS (As := []) (rest := []) (b := mo) (fun A => m_thrown2 l A D FM1 hM1) lk_Law_83 li_Law_83 hmm1 rfl ⟨rfl, rfl, (Nat.le_of_ble_eq_true rfl), (Nat.le_of_ble_eq_true rfl)⟩ rfl hl.1 rfl (Nat.le_of_ble_eq_true rfl) dL_law_192 ⟨(show cells + 2 + 0 + 0 ≤ 689485 by omega), (show slots + 12 + 0 + 0 ≤ 7027648 by omega)⟩ (fun r3 FM2 H locs hq3 hJ hS => ?_)
  obtain ⟨rfl, rfl⟩ := hq3
  have hJ := hJ.symm
  refine lv_iload hx hb dL_law_195 (lv_at hl 1 rfl) ?_
  refine lv_icmp_eq (tgt := 202) hx hb dL_law_197 (by decide) (fun _ => ?_) (fun h9 => absurd rfl h9)
  refine lv_iload hx hb dL_law_202 (lv_at hl 1 rfl) ?_
  refine ah_if_ne (tgt := 219) hx hb (by omega) dL_law_204 (by decide) (fun h7 => ?_) (fun h0 => ?_)
  · refine lv_goto (tgt := 1311) hx hb dL_law_219 (by decide) ?_
    exact W.widen (by omega) (by omega) (kk _ _ _ _ _ ⟨_, _, _, _, _, _, hC1, hM1, _, ho1⟩ hJ hS (lv_sub hl [2, 3, 4, 5, 6] rfl))
  refine lv_aload_n hx hb dL_law_207 rfl (lv_at hl 5 rfl) ?_
  refine lv_iconst (v := (nI 0)) hx hb dL_law_208 (by decide) ?_
  refine ah_lald E hJ.K ho1 (by omega) (by omega) dL_law_209 ?_
  refine lv_iload hx hb dL_law_210 (lv_at hl 0 rfl) ?_
  refine lv_i2l (v := (Int32.toInt64 r2)) hx hb dL_law_212 rfl ?_
  refine W.lcmp hx hb dL_law_213 ?_
  refine lv_if_eq (tgt := 219) hx hb dL_law_214 (by decide) (fun _ => ?_) (fun h9 => absurd (by rw [hf1 h0, hv2 h0]; exact lg_cmp_0 _) h9)
  refine lv_goto (tgt := 1311) hx hb dL_law_219 (by decide) ?_
  exact W.widen (by omega) (by omega) (kk _ _ _ _ _ ⟨_, _, _, _, _, _, hC1, hM1, _, ho1⟩ hJ hS (lv_sub hl [2, 3, 4, 5, 6] rfl))
set_option maxHeartbeats 4000000 in
set_option maxRecDepth 100000 in
/-- 1: enter -/
theorem lw_c1 (E : ah_E (aw_O s) D p s m #[Value.ref b] meth c "AhoarchLaw" cL_law 7) (hl1 : l.stackTraces = false) (hX : va_X b L xs s s.heap) (hbl : b < s.heap.size) (hL : L ≤ 1536) (hi : i + 3 ≤ L) (hst : aw_St D FC FM x mo o) (hJ : aw_J (aw_O s) D FC FM H) (hS : va_S (aw_O s) s.heap H locs) (hl : lv_has ls 7 [(0, .ref b), (1, .ref x), (2, .ref mo), (3, .ref o), (4, .int (nI i))]) (hcs : cells + 4 ≤ 689485) (hss : slots + 16 ≤ 7027648) (kk : lw_K p l e s m below meth c Q D b x mo o i cells slots) : W p l e room_1 s m #[Value.ref b] below meth c H locs cells slots Q (F0 m 222 ls []) := by
  obtain ⟨P, n, dr, S, td, th, hC, hM, fo, ho⟩ := hst
  obtain ⟨fsx, hxx⟩ := hC.x
  obtain ⟨fsm, hmm⟩ := hM.x
  have hx := E.1
  have hb := E.2.1
  refine lv_aload_n hx hb dL_law_222 rfl (lv_at hl 1 rfl) ?_
  refine lv_aload_n hx hb dL_law_223 rfl (lv_at hl 3 rfl) ?_
  refine aw_xcall E hJ hS (As := [.ref x, .ref o]) (rest := []) (fun A => w_enter l hl1 A D FC hC ho) awl_86 ⟨rfl, rfl, (Nat.le_of_ble_eq_true rfl), (Nat.le_of_ble_eq_true rfl)⟩ rfl hl.1 rfl (Nat.le_of_ble_eq_true rfl) dL_law_224 ⟨(show cells + 3 ≤ 689485 by omega), (show slots + 7 ≤ 7027648 by omega)⟩ (fun r FC1 H locs hq hJ hS => ?_)
  obtain ⟨a, ha⟩ : ∃ a : ah_Ans, a = sp_enter P n dr S td  := ⟨_, rfl⟩
  have hab : a.1 ≤ 2 := by rw [ha]; exact sb_enter
  rw [← ha] at hq
  obtain ⟨hr, hC1, f1, ho1, hf1⟩ := hq
  subst hr
  refine lv_istore (lv' := [(5, .int (nI a.1)), (0, .ref b), (1, .ref x), (2, .ref mo), (3, .ref o), (4, .int (nI i))]) hx hb dL_law_227 hl (by decide) rfl (fun ls hl => ?_)
  refine lv_aload_n hx hb dL_law_229 rfl (lv_at hl 3 rfl) ?_
  refine aw_calli E hJ.symm hS (As := []) (rest := []) (b := mo) (fun A => m_enter l A D FM hM) lk_Law_89 li_Law_89 hmm rfl ⟨rfl, rfl, (Nat.le_of_ble_eq_true rfl), (Nat.le_of_ble_eq_true rfl)⟩ rfl hl.1 rfl (Nat.le_of_ble_eq_true rfl) dL_law_230 ⟨(show cells + 3 + 0 ≤ 689485 by omega), (show slots + 7 + 0 ≤ 7027648 by omega)⟩ (fun r2 FM1 H locs hq2 hJ hS => ?_)
  rw [← ha] at hq2
  obtain ⟨hM1, hv2⟩ := hq2
  have hJ := hJ.symm
  refine lv_istore (lv' := [(6, .int r2), (5, .int (nI a.1)), (0, .ref b), (1, .ref x), (2, .ref mo), (3, .ref o), (4, .int (nI i))]) hx hb dL_law_233 hl (by decide) rfl (fun ls hl => ?_)
  refine lv_aload_n hx hb dL_law_235 rfl (lv_at hl 4 rfl) ?_
  obtain ⟨fsm1, hmm1⟩ := hM1.x
  refine aw_calli E hJ.symm hS (As := []) (rest := []) (b := mo) (fun A => m_thrown2 l A D FM1 hM1) lk_Law_83 li_Law_83 hmm1 rfl ⟨rfl, rfl, (Nat.le_of_ble_eq_true rfl), (Nat.le_of_ble_eq_true rfl)⟩ rfl hl.1 rfl (Nat.le_of_ble_eq_true rfl) dL_law_236 ⟨(show cells + 3 + 0 + 0 ≤ 689485 by omega), (show slots + 7 + 0 + 0 ≤ 7027648 by omega)⟩ (fun r3 FM2 H locs hq3 hJ hS => ?_)
  obtain ⟨rfl, rfl⟩ := hq3
  have hJ := hJ.symm
  refine lv_iload hx hb dL_law_239 (lv_at hl 1 rfl) ?_
  refine lv_icmp_eq (tgt := 246) hx hb dL_law_241 (by decide) (fun _ => ?_) (fun h9 => absurd rfl h9)
  refine lv_iload hx hb dL_law_246 (lv_at hl 1 rfl) ?_
  refine ah_if_ne (tgt := 263) hx hb (by omega) dL_law_248 (by decide) (fun h7 => ?_) (fun h0 => ?_)
  · refine lv_goto (tgt := 1311) hx hb dL_law_263 (by decide) ?_
    exact W.widen (by omega) (by omega) (kk _ _ _ _ _ ⟨_, _, _, _, _, _, hC1, hM1, _, ho1⟩ hJ hS (lv_sub hl [2, 3, 4, 5, 6] rfl))
  refine lv_aload_n hx hb dL_law_251 rfl (lv_at hl 5 rfl) ?_
  refine lv_iconst (v := (nI 0)) hx hb dL_law_252 (by decide) ?_
  refine ah_lald E hJ.K ho1 (by omega) (by omega) dL_law_253 ?_
  refine lv_iload hx hb dL_law_254 (lv_at hl 0 rfl) ?_
  refine lv_i2l (v := (Int32.toInt64 r2)) hx hb dL_law_256 rfl ?_
  refine W.lcmp hx hb dL_law_257 ?_
  refine lv_if_eq (tgt := 263) hx hb dL_law_258 (by decide) (fun _ => ?_) (fun h9 => absurd (by rw [hf1 h0, hv2 h0]; exact lg_cmp_0 _) h9)
  refine lv_goto (tgt := 1311) hx hb dL_law_263 (by decide) ?_
  exact W.widen (by omega) (by omega) (kk _ _ _ _ _ ⟨_, _, _, _, _, _, hC1, hM1, _, ho1⟩ hJ hS (lv_sub hl [2, 3, 4, 5, 6] rfl))
set_option maxHeartbeats 4000000 in
set_option maxRecDepth 100000 in
/-- 2: setReplacement -/
theorem lw_c2 (E : ah_E (aw_O s) D p s m #[Value.ref b] meth c "AhoarchLaw" cL_law 7) (hl1 : l.stackTraces = false) (hX : va_X b L xs s s.heap) (hbl : b < s.heap.size) (hL : L ≤ 1536) (hi : i + 3 ≤ L) (hst : aw_St D FC FM x mo o) (hJ : aw_J (aw_O s) D FC FM H) (hS : va_S (aw_O s) s.heap H locs) (hl : lv_has ls 7 [(0, .ref b), (1, .ref x), (2, .ref mo), (3, .ref o), (4, .int (nI i))]) (hcs : cells + 4 ≤ 689485) (hss : slots + 16 ≤ 7027648) (kk : lw_K p l e s m below meth c Q D b x mo o i cells slots) : W p l e room_1 s m #[Value.ref b] below meth c H locs cells slots Q (F0 m 266 ls []) := by
  obtain ⟨P, n, dr, S, td, th, hC, hM, fo, ho⟩ := hst
  obtain ⟨fsx, hxx⟩ := hC.x
  obtain ⟨fsm, hmm⟩ := hM.x
  have hx := E.1
  have hb := E.2.1
  refine lv_aload_n hx hb dL_law_266 rfl (lv_at hl 1 rfl) ?_
  refine lv_aload_n hx hb dL_law_267 rfl (lv_at hl 0 rfl) ?_
  refine lv_iload hx hb dL_law_268 (lv_at hl 4 rfl) ?_
  refine lv_iconst (v := (nI 1)) hx hb dL_law_270 (by decide) ?_
  refine ah_iadd hx hb dL_law_271 ?_
  refine aw_sld E hX hbl hS (by omega) hL dL_law_272 ?_
  refine lv_aload_n hx hb dL_law_273 rfl (lv_at hl 3 rfl) ?_
  refine aw_xcall E hJ hS (As := [.ref x, .int (xs (i + 1)), .ref o]) (rest := []) (fun A => w_setReplacement l hl1 A D FC hC ho (v0 := xs (i + 1))) awl_90 ⟨rfl, rfl, (Nat.le_of_ble_eq_true rfl), (Nat.le_of_ble_eq_true rfl)⟩ rfl hl.1 rfl (Nat.le_of_ble_eq_true rfl) dL_law_274 ⟨(show cells + 2 ≤ 689485 by omega), (show slots + 8 ≤ 7027648 by omega)⟩ (fun r FC1 H locs hq hJ hS => ?_)
  obtain ⟨a, ha⟩ : ∃ a : ah_Ans, a = sp_setReplacement P n dr S td (xs (i + 1)) := ⟨_, rfl⟩
  have hab : a.1 ≤ 2 := by rw [ha]; exact sb_setReplacement
  rw [← ha] at hq
  obtain ⟨hr, hC1, f1, ho1, hf1⟩ := hq
  subst hr
  refine lv_istore (lv' := [(5, .int (nI a.1)), (0, .ref b), (1, .ref x), (2, .ref mo), (3, .ref o), (4, .int (nI i))]) hx hb dL_law_277 hl (by decide) rfl (fun ls hl => ?_)
  refine lv_aload_n hx hb dL_law_279 rfl (lv_at hl 3 rfl) ?_
  refine lv_aload_n hx hb dL_law_280 rfl (lv_at hl 1 rfl) ?_
  refine lv_iload hx hb dL_law_281 (lv_at hl 5 rfl) ?_
  refine lv_iconst (v := (nI 1)) hx hb dL_law_283 (by decide) ?_
  refine ah_iadd hx hb dL_law_284 ?_
  refine aw_sld E hX hbl hS (by omega) hL dL_law_285 ?_
  refine aw_calli E hJ.symm hS (As := [.int (xs (i + 1))]) (rest := []) (b := mo) (fun A => m_setReplacement l A D FM hM (v0 := xs (i + 1))) lk_Law_93 li_Law_93 hmm rfl ⟨rfl, rfl, (Nat.le_of_ble_eq_true rfl), (Nat.le_of_ble_eq_true rfl)⟩ rfl hl.1 rfl (Nat.le_of_ble_eq_true rfl) dL_law_286 ⟨(show cells + 2 + 0 ≤ 689485 by omega), (show slots + 8 + 0 ≤ 7027648 by omega)⟩ (fun r2 FM1 H locs hq2 hJ hS => ?_)
  rw [← ha] at hq2
  obtain ⟨hM1, hv2⟩ := hq2
  have hJ := hJ.symm
  refine lv_istore (lv' := [(6, .int r2), (5, .int (nI a.1)), (0, .ref b), (1, .ref x), (2, .ref mo), (3, .ref o), (4, .int (nI i))]) hx hb dL_law_289 hl (by decide) rfl (fun ls hl => ?_)
  refine lv_aload_n hx hb dL_law_291 rfl (lv_at hl 4 rfl) ?_
  obtain ⟨fsm1, hmm1⟩ := hM1.x
  refine aw_calli E hJ.symm hS (As := []) (rest := []) (b := mo) (fun A => m_thrown2 l A D FM1 hM1) lk_Law_83 li_Law_83 hmm1 rfl ⟨rfl, rfl, (Nat.le_of_ble_eq_true rfl), (Nat.le_of_ble_eq_true rfl)⟩ rfl hl.1 rfl (Nat.le_of_ble_eq_true rfl) dL_law_292 ⟨(show cells + 2 + 0 + 0 ≤ 689485 by omega), (show slots + 8 + 0 + 0 ≤ 7027648 by omega)⟩ (fun r3 FM2 H locs hq3 hJ hS => ?_)
  obtain ⟨rfl, rfl⟩ := hq3
  have hJ := hJ.symm
  refine lv_iload hx hb dL_law_295 (lv_at hl 1 rfl) ?_
  refine lv_icmp_eq (tgt := 302) hx hb dL_law_297 (by decide) (fun _ => ?_) (fun h9 => absurd rfl h9)
  refine lv_iload hx hb dL_law_302 (lv_at hl 1 rfl) ?_
  refine ah_if_ne (tgt := 319) hx hb (by omega) dL_law_304 (by decide) (fun h7 => ?_) (fun h0 => ?_)
  · refine lv_goto (tgt := 1311) hx hb dL_law_319 (by decide) ?_
    exact W.widen (by omega) (by omega) (kk _ _ _ _ _ ⟨_, _, _, _, _, _, hC1, hM1, _, ho1⟩ hJ hS (lv_sub hl [2, 3, 4, 5, 6] rfl))
  refine lv_aload_n hx hb dL_law_307 rfl (lv_at hl 5 rfl) ?_
  refine lv_iconst (v := (nI 0)) hx hb dL_law_308 (by decide) ?_
  refine ah_lald E hJ.K ho1 (by omega) (by omega) dL_law_309 ?_
  refine lv_iload hx hb dL_law_310 (lv_at hl 0 rfl) ?_
  refine lv_i2l (v := (Int32.toInt64 r2)) hx hb dL_law_312 rfl ?_
  refine W.lcmp hx hb dL_law_313 ?_
  refine lv_if_eq (tgt := 319) hx hb dL_law_314 (by decide) (fun _ => ?_) (fun h9 => absurd (by rw [hf1 h0, hv2 h0]; exact lg_cmp_0 _) h9)
  refine lv_goto (tgt := 1311) hx hb dL_law_319 (by decide) ?_
  exact W.widen (by omega) (by omega) (kk _ _ _ _ _ ⟨_, _, _, _, _, _, hC1, hM1, _, ho1⟩ hJ hS (lv_sub hl [2, 3, 4, 5, 6] rfl))
set_option maxHeartbeats 4000000 in
set_option maxRecDepth 100000 in
/-- 3: takeOut -/
theorem lw_c3 (E : ah_E (aw_O s) D p s m #[Value.ref b] meth c "AhoarchLaw" cL_law 7) (hl1 : l.stackTraces = false) (hX : va_X b L xs s s.heap) (hbl : b < s.heap.size) (hL : L ≤ 1536) (hi : i + 3 ≤ L) (hst : aw_St D FC FM x mo o) (hJ : aw_J (aw_O s) D FC FM H) (hS : va_S (aw_O s) s.heap H locs) (hl : lv_has ls 7 [(0, .ref b), (1, .ref x), (2, .ref mo), (3, .ref o), (4, .int (nI i))]) (hcs : cells + 4 ≤ 689485) (hss : slots + 16 ≤ 7027648) (kk : lw_K p l e s m below meth c Q D b x mo o i cells slots) : W p l e room_1 s m #[Value.ref b] below meth c H locs cells slots Q (F0 m 322 ls []) := by
  obtain ⟨P, n, dr, S, td, th, hC, hM, fo, ho⟩ := hst
  obtain ⟨fsx, hxx⟩ := hC.x
  obtain ⟨fsm, hmm⟩ := hM.x
  have hx := E.1
  have hb := E.2.1
  refine lv_aload_n hx hb dL_law_322 rfl (lv_at hl 1 rfl) ?_
  refine lv_aload_n hx hb dL_law_323 rfl (lv_at hl 0 rfl) ?_
  refine lv_iload hx hb dL_law_324 (lv_at hl 4 rfl) ?_
  refine lv_iconst (v := (nI 1)) hx hb dL_law_326 (by decide) ?_
  refine ah_iadd hx hb dL_law_327 ?_
  refine aw_sld E hX hbl hS (by omega) hL dL_law_328 ?_
  refine lv_aload_n hx hb dL_law_329 rfl (lv_at hl 3 rfl) ?_
  refine aw_xcall E hJ hS (As := [.ref x, .int (xs (i + 1)), .ref o]) (rest := []) (fun A => w_takeOut l hl1 A D FC hC ho (v0 := xs (i + 1))) awl_94 ⟨rfl, rfl, (Nat.le_of_ble_eq_true rfl), (Nat.le_of_ble_eq_true rfl)⟩ rfl hl.1 rfl (Nat.le_of_ble_eq_true rfl) dL_law_330 ⟨(show cells + 1 ≤ 689485 by omega), (show slots + 6 ≤ 7027648 by omega)⟩ (fun r FC1 H locs hq hJ hS => ?_)
  obtain ⟨a, ha⟩ : ∃ a : ah_Ans, a = sp_takeOut P n dr S td (xs (i + 1)) := ⟨_, rfl⟩
  have hab : a.1 ≤ 2 := by rw [ha]; exact sb_takeOut
  rw [← ha] at hq
  obtain ⟨hr, hC1, f1, ho1, hf1⟩ := hq
  subst hr
  refine lv_istore (lv' := [(5, .int (nI a.1)), (0, .ref b), (1, .ref x), (2, .ref mo), (3, .ref o), (4, .int (nI i))]) hx hb dL_law_333 hl (by decide) rfl (fun ls hl => ?_)
  refine lv_aload_n hx hb dL_law_335 rfl (lv_at hl 3 rfl) ?_
  refine lv_aload_n hx hb dL_law_336 rfl (lv_at hl 1 rfl) ?_
  refine lv_iload hx hb dL_law_337 (lv_at hl 5 rfl) ?_
  refine lv_iconst (v := (nI 1)) hx hb dL_law_339 (by decide) ?_
  refine ah_iadd hx hb dL_law_340 ?_
  refine aw_sld E hX hbl hS (by omega) hL dL_law_341 ?_
  refine aw_calli E hJ.symm hS (As := [.int (xs (i + 1))]) (rest := []) (b := mo) (fun A => m_takeOut l A D FM hM (v0 := xs (i + 1))) lk_Law_96 li_Law_96 hmm rfl ⟨rfl, rfl, (Nat.le_of_ble_eq_true rfl), (Nat.le_of_ble_eq_true rfl)⟩ rfl hl.1 rfl (Nat.le_of_ble_eq_true rfl) dL_law_342 ⟨(show cells + 1 + 0 ≤ 689485 by omega), (show slots + 6 + 0 ≤ 7027648 by omega)⟩ (fun r2 FM1 H locs hq2 hJ hS => ?_)
  rw [← ha] at hq2
  obtain ⟨hM1, hv2⟩ := hq2
  have hJ := hJ.symm
  refine lv_istore (lv' := [(6, .int r2), (5, .int (nI a.1)), (0, .ref b), (1, .ref x), (2, .ref mo), (3, .ref o), (4, .int (nI i))]) hx hb dL_law_345 hl (by decide) rfl (fun ls hl => ?_)
  refine lv_aload_n hx hb dL_law_347 rfl (lv_at hl 4 rfl) ?_
  obtain ⟨fsm1, hmm1⟩ := hM1.x
  refine aw_calli E hJ.symm hS (As := []) (rest := []) (b := mo) (fun A => m_thrown2 l A D FM1 hM1) lk_Law_83 li_Law_83 hmm1 rfl ⟨rfl, rfl, (Nat.le_of_ble_eq_true rfl), (Nat.le_of_ble_eq_true rfl)⟩ rfl hl.1 rfl (Nat.le_of_ble_eq_true rfl) dL_law_348 ⟨(show cells + 1 + 0 + 0 ≤ 689485 by omega), (show slots + 6 + 0 + 0 ≤ 7027648 by omega)⟩ (fun r3 FM2 H locs hq3 hJ hS => ?_)
  obtain ⟨rfl, rfl⟩ := hq3
  have hJ := hJ.symm
  refine lv_iload hx hb dL_law_351 (lv_at hl 1 rfl) ?_
  refine lv_icmp_eq (tgt := 358) hx hb dL_law_353 (by decide) (fun _ => ?_) (fun h9 => absurd rfl h9)
  refine lv_iload hx hb dL_law_358 (lv_at hl 1 rfl) ?_
  refine ah_if_ne (tgt := 375) hx hb (by omega) dL_law_360 (by decide) (fun h7 => ?_) (fun h0 => ?_)
  · refine lv_goto (tgt := 1311) hx hb dL_law_375 (by decide) ?_
    exact W.widen (by omega) (by omega) (kk _ _ _ _ _ ⟨_, _, _, _, _, _, hC1, hM1, _, ho1⟩ hJ hS (lv_sub hl [2, 3, 4, 5, 6] rfl))
  refine lv_aload_n hx hb dL_law_363 rfl (lv_at hl 5 rfl) ?_
  refine lv_iconst (v := (nI 0)) hx hb dL_law_364 (by decide) ?_
  refine ah_lald E hJ.K ho1 (by omega) (by omega) dL_law_365 ?_
  refine lv_iload hx hb dL_law_366 (lv_at hl 0 rfl) ?_
  refine lv_i2l (v := (Int32.toInt64 r2)) hx hb dL_law_368 rfl ?_
  refine W.lcmp hx hb dL_law_369 ?_
  refine lv_if_eq (tgt := 375) hx hb dL_law_370 (by decide) (fun _ => ?_) (fun h9 => absurd (by rw [hf1 h0, hv2 h0]; exact lg_cmp_0 _) h9)
  refine lv_goto (tgt := 1311) hx hb dL_law_375 (by decide) ?_
  exact W.widen (by omega) (by omega) (kk _ _ _ _ _ ⟨_, _, _, _, _, _, hC1, hM1, _, ho1⟩ hJ hS (lv_sub hl [2, 3, 4, 5, 6] rfl))
set_option maxHeartbeats 4000000 in
set_option maxRecDepth 100000 in
/-- 4: patterns -/
theorem lw_c4 (E : ah_E (aw_O s) D p s m #[Value.ref b] meth c "AhoarchLaw" cL_law 7) (hl1 : l.stackTraces = false) (hX : va_X b L xs s s.heap) (hbl : b < s.heap.size) (hL : L ≤ 1536) (hi : i + 3 ≤ L) (hst : aw_St D FC FM x mo o) (hJ : aw_J (aw_O s) D FC FM H) (hS : va_S (aw_O s) s.heap H locs) (hl : lv_has ls 7 [(0, .ref b), (1, .ref x), (2, .ref mo), (3, .ref o), (4, .int (nI i))]) (hcs : cells + 4 ≤ 689485) (hss : slots + 16 ≤ 7027648) (kk : lw_K p l e s m below meth c Q D b x mo o i cells slots) : W p l e room_1 s m #[Value.ref b] below meth c H locs cells slots Q (F0 m 378 ls []) := by
  obtain ⟨P, n, dr, S, td, th, hC, hM, fo, ho⟩ := hst
  obtain ⟨fsx, hxx⟩ := hC.x
  obtain ⟨fsm, hmm⟩ := hM.x
  have hx := E.1
  have hb := E.2.1
  refine lv_aload_n hx hb dL_law_378 rfl (lv_at hl 1 rfl) ?_
  refine aw_calli E hJ hS (As := []) (rest := []) (b := x) (fun A => c_patterns l A D FC hC) lk_Law_97 li_Law_97 hxx rfl ⟨rfl, rfl, (Nat.le_of_ble_eq_true rfl), (Nat.le_of_ble_eq_true rfl)⟩ rfl hl.1 rfl (Nat.le_of_ble_eq_true rfl) dL_law_379 ⟨(show cells + 0 ≤ 689485 by omega), (show slots + 0 ≤ 7027648 by omega)⟩ (fun r FC1 H locs hq hJ hS => ?_)
  obtain ⟨rfl, rfl⟩ := hq
  refine lv_aload_n hx hb dL_law_382 rfl (lv_at hl 2 rfl) ?_
  refine aw_calli E hJ.symm hS (As := []) (rest := [.int (nI (pu_cn (fun i => (P i).isSome) 40))]) (b := mo) (fun A => m_patterns l A D FM hM) lk_Law_100 li_Law_100 hmm rfl ⟨rfl, rfl, (Nat.le_of_ble_eq_true rfl), (Nat.le_of_ble_eq_true rfl)⟩ rfl hl.1 rfl (Nat.le_of_ble_eq_true rfl) dL_law_383 ⟨(show cells + 0 + 0 ≤ 689485 by omega), (show slots + 0 + 0 ≤ 7027648 by omega)⟩ (fun r2 FM1 H locs hq2 hJ hS => ?_)
  obtain ⟨hM1, hv2⟩ := hq2
  have hJ := hJ.symm
  have hv3 : r2 = nI (pu_cn (fun i => (P i).isSome) 40) := hv2 rfl
  subst hv3
  refine lv_icmp_eq (tgt := 1311) hx hb dL_law_386 (by decide) (fun _ => ?_) (fun h9 => absurd rfl h9)
  exact W.widen (by omega) (by omega) (kk _ _ _ _ _ ⟨_, _, _, _, _, _, hC, hM1, _, ho⟩ hJ hS (lv_sub hl [0, 1, 2, 3, 4] rfl))
set_option maxHeartbeats 4000000 in
set_option maxRecDepth 100000 in
/-- 5: length -/
theorem lw_c5 (E : ah_E (aw_O s) D p s m #[Value.ref b] meth c "AhoarchLaw" cL_law 7) (hl1 : l.stackTraces = false) (hX : va_X b L xs s s.heap) (hbl : b < s.heap.size) (hL : L ≤ 1536) (hi : i + 3 ≤ L) (hst : aw_St D FC FM x mo o) (hJ : aw_J (aw_O s) D FC FM H) (hS : va_S (aw_O s) s.heap H locs) (hl : lv_has ls 7 [(0, .ref b), (1, .ref x), (2, .ref mo), (3, .ref o), (4, .int (nI i))]) (hcs : cells + 4 ≤ 689485) (hss : slots + 16 ≤ 7027648) (kk : lw_K p l e s m below meth c Q D b x mo o i cells slots) : W p l e room_1 s m #[Value.ref b] below meth c H locs cells slots Q (F0 m 391 ls []) := by
  obtain ⟨P, n, dr, S, td, th, hC, hM, fo, ho⟩ := hst
  obtain ⟨fsx, hxx⟩ := hC.x
  obtain ⟨fsm, hmm⟩ := hM.x
  have hx := E.1
  have hb := E.2.1
  refine lv_aload_n hx hb dL_law_391 rfl (lv_at hl 1 rfl) ?_
  refine lv_aload_n hx hb dL_law_392 rfl (lv_at hl 0 rfl) ?_
  refine lv_iload hx hb dL_law_393 (lv_at hl 4 rfl) ?_
  refine lv_iconst (v := (nI 1)) hx hb dL_law_395 (by decide) ?_
  refine ah_iadd hx hb dL_law_396 ?_
  refine aw_sld E hX hbl hS (by omega) hL dL_law_397 ?_
  refine lv_aload_n hx hb dL_law_398 rfl (lv_at hl 3 rfl) ?_
  refine aw_xcall E hJ hS (As := [.ref x, .int (xs (i + 1)), .ref o]) (rest := []) (fun A => w_length l hl1 A D FC hC ho (v0 := xs (i + 1))) awl_101 ⟨rfl, rfl, (Nat.le_of_ble_eq_true rfl), (Nat.le_of_ble_eq_true rfl)⟩ rfl hl.1 rfl (Nat.le_of_ble_eq_true rfl) dL_law_399 ⟨(show cells + 1 ≤ 689485 by omega), (show slots + 6 ≤ 7027648 by omega)⟩ (fun r FC1 H locs hq hJ hS => ?_)
  obtain ⟨a, ha⟩ : ∃ a : ah_Ans, a = sp_length P n dr S td (xs (i + 1)) := ⟨_, rfl⟩
  have hab : a.1 ≤ 2 := by rw [ha]; exact sb_length
  rw [← ha] at hq
  obtain ⟨hr, hC1, f1, ho1, hf1⟩ := hq
  subst hr
  refine lv_istore (lv' := [(5, .int (nI a.1)), (0, .ref b), (1, .ref x), (2, .ref mo), (3, .ref o), (4, .int (nI i))]) hx hb dL_law_402 hl (by decide) rfl (fun ls hl => ?_)
  refine lv_aload_n hx hb dL_law_404 rfl (lv_at hl 3 rfl) ?_
  refine lv_aload_n hx hb dL_law_405 rfl (lv_at hl 1 rfl) ?_
  refine lv_iload hx hb dL_law_406 (lv_at hl 5 rfl) ?_
  refine lv_iconst (v := (nI 1)) hx hb dL_law_408 (by decide) ?_
  refine ah_iadd hx hb dL_law_409 ?_
  refine aw_sld E hX hbl hS (by omega) hL dL_law_410 ?_
  refine aw_calli E hJ.symm hS (As := [.int (xs (i + 1))]) (rest := []) (b := mo) (fun A => m_length l A D FM hM (v0 := xs (i + 1))) lk_Law_103 li_Law_103 hmm rfl ⟨rfl, rfl, (Nat.le_of_ble_eq_true rfl), (Nat.le_of_ble_eq_true rfl)⟩ rfl hl.1 rfl (Nat.le_of_ble_eq_true rfl) dL_law_411 ⟨(show cells + 1 + 0 ≤ 689485 by omega), (show slots + 6 + 0 ≤ 7027648 by omega)⟩ (fun r2 FM1 H locs hq2 hJ hS => ?_)
  rw [← ha] at hq2
  obtain ⟨hM1, hv2⟩ := hq2
  have hJ := hJ.symm
  refine lv_istore (lv' := [(6, .int r2), (5, .int (nI a.1)), (0, .ref b), (1, .ref x), (2, .ref mo), (3, .ref o), (4, .int (nI i))]) hx hb dL_law_414 hl (by decide) rfl (fun ls hl => ?_)
  refine lv_aload_n hx hb dL_law_416 rfl (lv_at hl 4 rfl) ?_
  obtain ⟨fsm1, hmm1⟩ := hM1.x
  refine aw_calli E hJ.symm hS (As := []) (rest := []) (b := mo) (fun A => m_thrown2 l A D FM1 hM1) lk_Law_83 li_Law_83 hmm1 rfl ⟨rfl, rfl, (Nat.le_of_ble_eq_true rfl), (Nat.le_of_ble_eq_true rfl)⟩ rfl hl.1 rfl (Nat.le_of_ble_eq_true rfl) dL_law_417 ⟨(show cells + 1 + 0 + 0 ≤ 689485 by omega), (show slots + 6 + 0 + 0 ≤ 7027648 by omega)⟩ (fun r3 FM2 H locs hq3 hJ hS => ?_)
  obtain ⟨rfl, rfl⟩ := hq3
  have hJ := hJ.symm
  refine lv_iload hx hb dL_law_420 (lv_at hl 1 rfl) ?_
  refine lv_icmp_eq (tgt := 427) hx hb dL_law_422 (by decide) (fun _ => ?_) (fun h9 => absurd rfl h9)
  refine lv_iload hx hb dL_law_427 (lv_at hl 1 rfl) ?_
  refine ah_if_ne (tgt := 444) hx hb (by omega) dL_law_429 (by decide) (fun h7 => ?_) (fun h0 => ?_)
  · refine lv_goto (tgt := 1311) hx hb dL_law_444 (by decide) ?_
    exact W.widen (by omega) (by omega) (kk _ _ _ _ _ ⟨_, _, _, _, _, _, hC1, hM1, _, ho1⟩ hJ hS (lv_sub hl [2, 3, 4, 5, 6] rfl))
  refine lv_aload_n hx hb dL_law_432 rfl (lv_at hl 5 rfl) ?_
  refine lv_iconst (v := (nI 0)) hx hb dL_law_433 (by decide) ?_
  refine ah_lald E hJ.K ho1 (by omega) (by omega) dL_law_434 ?_
  refine lv_iload hx hb dL_law_435 (lv_at hl 0 rfl) ?_
  refine lv_i2l (v := (Int32.toInt64 r2)) hx hb dL_law_437 rfl ?_
  refine W.lcmp hx hb dL_law_438 ?_
  refine lv_if_eq (tgt := 444) hx hb dL_law_439 (by decide) (fun _ => ?_) (fun h9 => absurd (by rw [hf1 h0, hv2 h0]; exact lg_cmp_0 _) h9)
  refine lv_goto (tgt := 1311) hx hb dL_law_444 (by decide) ?_
  exact W.widen (by omega) (by omega) (kk _ _ _ _ _ ⟨_, _, _, _, _, _, hC1, hM1, _, ho1⟩ hJ hS (lv_sub hl [2, 3, 4, 5, 6] rfl))
set_option maxHeartbeats 4000000 in
set_option maxRecDepth 100000 in
/-- 6: beginnings -/
theorem lw_c6 (E : ah_E (aw_O s) D p s m #[Value.ref b] meth c "AhoarchLaw" cL_law 7) (hl1 : l.stackTraces = false) (hX : va_X b L xs s s.heap) (hbl : b < s.heap.size) (hL : L ≤ 1536) (hi : i + 3 ≤ L) (hst : aw_St D FC FM x mo o) (hJ : aw_J (aw_O s) D FC FM H) (hS : va_S (aw_O s) s.heap H locs) (hl : lv_has ls 7 [(0, .ref b), (1, .ref x), (2, .ref mo), (3, .ref o), (4, .int (nI i))]) (hcs : cells + 4 ≤ 689485) (hss : slots + 16 ≤ 7027648) (kk : lw_K p l e s m below meth c Q D b x mo o i cells slots) : W p l e room_1 s m #[Value.ref b] below meth c H locs cells slots Q (F0 m 447 ls []) := by
  obtain ⟨P, n, dr, S, td, th, hC, hM, fo, ho⟩ := hst
  obtain ⟨fsx, hxx⟩ := hC.x
  obtain ⟨fsm, hmm⟩ := hM.x
  have hx := E.1
  have hb := E.2.1
  refine lv_aload_n hx hb dL_law_447 rfl (lv_at hl 1 rfl) ?_
  refine aw_calli E hJ hS (As := []) (rest := []) (b := x) (fun A => c_beginnings l A D FC hC) lk_Law_104 li_Law_104 hxx rfl ⟨rfl, rfl, (Nat.le_of_ble_eq_true rfl), (Nat.le_of_ble_eq_true rfl)⟩ rfl hl.1 rfl (Nat.le_of_ble_eq_true rfl) dL_law_448 ⟨(show cells + 0 ≤ 689485 by omega), (show slots + 0 ≤ 7027648 by omega)⟩ (fun r FC1 H locs hq hJ hS => ?_)
  obtain ⟨rfl, rfl⟩ := hq
  refine lv_aload_n hx hb dL_law_451 rfl (lv_at hl 2 rfl) ?_
  refine aw_calli E hJ.symm hS (As := []) (rest := [.int (nI (pu_cb P 40))]) (b := mo) (fun A => m_beginnings l A D FM hM) lk_Law_107 li_Law_107 hmm rfl ⟨rfl, rfl, (Nat.le_of_ble_eq_true rfl), (Nat.le_of_ble_eq_true rfl)⟩ rfl hl.1 rfl (Nat.le_of_ble_eq_true rfl) dL_law_452 ⟨(show cells + 0 + 0 ≤ 689485 by omega), (show slots + 0 + 0 ≤ 7027648 by omega)⟩ (fun r2 FM1 H locs hq2 hJ hS => ?_)
  obtain ⟨hM1, hv2⟩ := hq2
  have hJ := hJ.symm
  have hv3 : r2 = nI (pu_cb P 40) := hv2 rfl
  subst hv3
  refine lv_icmp_eq (tgt := 1311) hx hb dL_law_455 (by decide) (fun _ => ?_) (fun h9 => absurd rfl h9)
  exact W.widen (by omega) (by omega) (kk _ _ _ _ _ ⟨_, _, _, _, _, _, hC, hM1, _, ho⟩ hJ hS (lv_sub hl [0, 1, 2, 3, 4] rfl))
set_option maxHeartbeats 4000000 in
set_option maxRecDepth 100000 in
/-- 7: link -/
theorem lw_c7 (E : ah_E (aw_O s) D p s m #[Value.ref b] meth c "AhoarchLaw" cL_law 7) (hl1 : l.stackTraces = false) (hX : va_X b L xs s s.heap) (hbl : b < s.heap.size) (hL : L ≤ 1536) (hi : i + 3 ≤ L) (hst : aw_St D FC FM x mo o) (hJ : aw_J (aw_O s) D FC FM H) (hS : va_S (aw_O s) s.heap H locs) (hl : lv_has ls 7 [(0, .ref b), (1, .ref x), (2, .ref mo), (3, .ref o), (4, .int (nI i))]) (hcs : cells + 4 ≤ 689485) (hss : slots + 16 ≤ 7027648) (kk : lw_K p l e s m below meth c Q D b x mo o i cells slots) : W p l e room_1 s m #[Value.ref b] below meth c H locs cells slots Q (F0 m 460 ls []) := by
  obtain ⟨P, n, dr, S, td, th, hC, hM, fo, ho⟩ := hst
  obtain ⟨fsx, hxx⟩ := hC.x
  obtain ⟨fsm, hmm⟩ := hM.x
  have hx := E.1
  have hb := E.2.1
  refine lv_aload_n hx hb dL_law_460 rfl (lv_at hl 1 rfl) ?_
  refine lv_aload_n hx hb dL_law_461 rfl (lv_at hl 0 rfl) ?_
  refine lv_iload hx hb dL_law_462 (lv_at hl 4 rfl) ?_
  refine lv_iconst (v := (nI 1)) hx hb dL_law_464 (by decide) ?_
  refine ah_iadd hx hb dL_law_465 ?_
  refine aw_sld E hX hbl hS (by omega) hL dL_law_466 ?_
  refine lv_aload_n hx hb dL_law_467 rfl (lv_at hl 3 rfl) ?_
  refine aw_xcall E hJ hS (As := [.ref x, .int (xs (i + 1)), .ref o]) (rest := []) (fun A => w_link l hl1 A D FC hC ho (v0 := xs (i + 1))) awl_108 ⟨rfl, rfl, (Nat.le_of_ble_eq_true rfl), (Nat.le_of_ble_eq_true rfl)⟩ rfl hl.1 rfl (Nat.le_of_ble_eq_true rfl) dL_law_468 ⟨(show cells + 1 ≤ 689485 by omega), (show slots + 6 ≤ 7027648 by omega)⟩ (fun r FC1 H locs hq hJ hS => ?_)
  obtain ⟨a, ha⟩ : ∃ a : ah_Ans, a = sp_link P n dr S td (xs (i + 1)) := ⟨_, rfl⟩
  have hab : a.1 ≤ 2 := by rw [ha]; exact sb_link
  rw [← ha] at hq
  obtain ⟨hr, hC1, f1, ho1, hf1⟩ := hq
  subst hr
  refine lv_istore (lv' := [(5, .int (nI a.1)), (0, .ref b), (1, .ref x), (2, .ref mo), (3, .ref o), (4, .int (nI i))]) hx hb dL_law_471 hl (by decide) rfl (fun ls hl => ?_)
  refine lv_aload_n hx hb dL_law_473 rfl (lv_at hl 3 rfl) ?_
  refine lv_aload_n hx hb dL_law_474 rfl (lv_at hl 1 rfl) ?_
  refine lv_iload hx hb dL_law_475 (lv_at hl 5 rfl) ?_
  refine lv_iconst (v := (nI 1)) hx hb dL_law_477 (by decide) ?_
  refine ah_iadd hx hb dL_law_478 ?_
  refine aw_sld E hX hbl hS (by omega) hL dL_law_479 ?_
  refine aw_calli E hJ.symm hS (As := [.int (xs (i + 1))]) (rest := []) (b := mo) (fun A => m_link l A D FM hM (v0 := xs (i + 1))) lk_Law_110 li_Law_110 hmm rfl ⟨rfl, rfl, (Nat.le_of_ble_eq_true rfl), (Nat.le_of_ble_eq_true rfl)⟩ rfl hl.1 rfl (Nat.le_of_ble_eq_true rfl) dL_law_480 ⟨(show cells + 1 + 0 ≤ 689485 by omega), (show slots + 6 + 0 ≤ 7027648 by omega)⟩ (fun r2 FM1 H locs hq2 hJ hS => ?_)
  rw [← ha] at hq2
  obtain ⟨hM1, hv2⟩ := hq2
  have hJ := hJ.symm
  refine lv_istore (lv' := [(6, .int r2), (5, .int (nI a.1)), (0, .ref b), (1, .ref x), (2, .ref mo), (3, .ref o), (4, .int (nI i))]) hx hb dL_law_483 hl (by decide) rfl (fun ls hl => ?_)
  refine lv_aload_n hx hb dL_law_485 rfl (lv_at hl 4 rfl) ?_
  obtain ⟨fsm1, hmm1⟩ := hM1.x
  refine aw_calli E hJ.symm hS (As := []) (rest := []) (b := mo) (fun A => m_thrown2 l A D FM1 hM1) lk_Law_83 li_Law_83 hmm1 rfl ⟨rfl, rfl, (Nat.le_of_ble_eq_true rfl), (Nat.le_of_ble_eq_true rfl)⟩ rfl hl.1 rfl (Nat.le_of_ble_eq_true rfl) dL_law_486 ⟨(show cells + 1 + 0 + 0 ≤ 689485 by omega), (show slots + 6 + 0 + 0 ≤ 7027648 by omega)⟩ (fun r3 FM2 H locs hq3 hJ hS => ?_)
  obtain ⟨rfl, rfl⟩ := hq3
  have hJ := hJ.symm
  refine lv_iload hx hb dL_law_489 (lv_at hl 1 rfl) ?_
  refine lv_icmp_eq (tgt := 496) hx hb dL_law_491 (by decide) (fun _ => ?_) (fun h9 => absurd rfl h9)
  refine lv_iload hx hb dL_law_496 (lv_at hl 1 rfl) ?_
  refine ah_if_ne (tgt := 513) hx hb (by omega) dL_law_498 (by decide) (fun h7 => ?_) (fun h0 => ?_)
  · refine lv_goto (tgt := 1311) hx hb dL_law_513 (by decide) ?_
    exact W.widen (by omega) (by omega) (kk _ _ _ _ _ ⟨_, _, _, _, _, _, hC1, hM1, _, ho1⟩ hJ hS (lv_sub hl [2, 3, 4, 5, 6] rfl))
  refine lv_aload_n hx hb dL_law_501 rfl (lv_at hl 5 rfl) ?_
  refine lv_iconst (v := (nI 0)) hx hb dL_law_502 (by decide) ?_
  refine ah_lald E hJ.K ho1 (by omega) (by omega) dL_law_503 ?_
  refine lv_iload hx hb dL_law_504 (lv_at hl 0 rfl) ?_
  refine lv_i2l (v := (Int32.toInt64 r2)) hx hb dL_law_506 rfl ?_
  refine W.lcmp hx hb dL_law_507 ?_
  refine lv_if_eq (tgt := 513) hx hb dL_law_508 (by decide) (fun _ => ?_) (fun h9 => absurd (by rw [hf1 h0, hv2 h0]; exact lg_cmp_0 _) h9)
  refine lv_goto (tgt := 1311) hx hb dL_law_513 (by decide) ?_
  exact W.widen (by omega) (by omega) (kk _ _ _ _ _ ⟨_, _, _, _, _, _, hC1, hM1, _, ho1⟩ hJ hS (lv_sub hl [2, 3, 4, 5, 6] rfl))
set_option maxHeartbeats 4000000 in
set_option maxRecDepth 100000 in
/-- 8: overlap -/
theorem lw_c8 (E : ah_E (aw_O s) D p s m #[Value.ref b] meth c "AhoarchLaw" cL_law 7) (hl1 : l.stackTraces = false) (hX : va_X b L xs s s.heap) (hbl : b < s.heap.size) (hL : L ≤ 1536) (hi : i + 3 ≤ L) (hst : aw_St D FC FM x mo o) (hJ : aw_J (aw_O s) D FC FM H) (hS : va_S (aw_O s) s.heap H locs) (hl : lv_has ls 7 [(0, .ref b), (1, .ref x), (2, .ref mo), (3, .ref o), (4, .int (nI i))]) (hcs : cells + 4 ≤ 689485) (hss : slots + 16 ≤ 7027648) (kk : lw_K p l e s m below meth c Q D b x mo o i cells slots) : W p l e room_1 s m #[Value.ref b] below meth c H locs cells slots Q (F0 m 516 ls []) := by
  obtain ⟨P, n, dr, S, td, th, hC, hM, fo, ho⟩ := hst
  obtain ⟨fsx, hxx⟩ := hC.x
  obtain ⟨fsm, hmm⟩ := hM.x
  have hx := E.1
  have hb := E.2.1
  refine lv_aload_n hx hb dL_law_516 rfl (lv_at hl 1 rfl) ?_
  refine lv_aload_n hx hb dL_law_517 rfl (lv_at hl 0 rfl) ?_
  refine lv_iload hx hb dL_law_518 (lv_at hl 4 rfl) ?_
  refine lv_iconst (v := (nI 1)) hx hb dL_law_520 (by decide) ?_
  refine ah_iadd hx hb dL_law_521 ?_
  refine aw_sld E hX hbl hS (by omega) hL dL_law_522 ?_
  refine lv_aload_n hx hb dL_law_523 rfl (lv_at hl 0 rfl) ?_
  refine lv_iload hx hb dL_law_524 (lv_at hl 4 rfl) ?_
  refine lv_iconst (v := (nI 2)) hx hb dL_law_526 (by decide) ?_
  refine ah_iadd hx hb dL_law_527 ?_
  refine aw_sld E hX hbl hS (by omega) hL dL_law_528 ?_
  refine lv_aload_n hx hb dL_law_529 rfl (lv_at hl 3 rfl) ?_
  refine aw_xcall E hJ hS (As := [.ref x, .int (xs (i + 1)), .int (xs (i + 2)), .ref o]) (rest := []) (fun A => w_overlap l hl1 A D FC hC ho (v0 := xs (i + 1)) (v1 := xs (i + 2))) awl_111 ⟨rfl, rfl, (Nat.le_of_ble_eq_true rfl), (Nat.le_of_ble_eq_true rfl)⟩ rfl hl.1 rfl (Nat.le_of_ble_eq_true rfl) dL_law_530 ⟨(show cells + 2 ≤ 689485 by omega), (show slots + 12 ≤ 7027648 by omega)⟩ (fun r FC1 H locs hq hJ hS => ?_)
  obtain ⟨a, ha⟩ : ∃ a : ah_Ans, a = sp_overlap P n dr S td (xs (i + 1)) (xs (i + 2)) := ⟨_, rfl⟩
  have hab : a.1 ≤ 2 := by rw [ha]; exact sb_overlap
  rw [← ha] at hq
  obtain ⟨hr, hC1, f1, ho1, hf1⟩ := hq
  subst hr
  refine lv_istore (lv' := [(5, .int (nI a.1)), (0, .ref b), (1, .ref x), (2, .ref mo), (3, .ref o), (4, .int (nI i))]) hx hb dL_law_533 hl (by decide) rfl (fun ls hl => ?_)
  refine lv_aload_n hx hb dL_law_535 rfl (lv_at hl 3 rfl) ?_
  refine lv_aload_n hx hb dL_law_536 rfl (lv_at hl 1 rfl) ?_
  refine lv_iload hx hb dL_law_537 (lv_at hl 5 rfl) ?_
  refine lv_iconst (v := (nI 1)) hx hb dL_law_539 (by decide) ?_
  refine ah_iadd hx hb dL_law_540 ?_
  refine aw_sld E hX hbl hS (by omega) hL dL_law_541 ?_
  refine lv_aload_n hx hb dL_law_542 rfl (lv_at hl 1 rfl) ?_
  refine lv_iload hx hb dL_law_543 (lv_at hl 5 rfl) ?_
  refine lv_iconst (v := (nI 2)) hx hb dL_law_545 (by decide) ?_
  refine ah_iadd hx hb dL_law_546 ?_
  refine aw_sld E hX hbl hS (by omega) hL dL_law_547 ?_
  refine aw_calli E hJ.symm hS (As := [.int (xs (i + 1)), .int (xs (i + 2))]) (rest := []) (b := mo) (fun A => m_overlap l A D FM hM (v0 := xs (i + 1)) (v1 := xs (i + 2))) lk_Law_114 li_Law_114 hmm rfl ⟨rfl, rfl, (Nat.le_of_ble_eq_true rfl), (Nat.le_of_ble_eq_true rfl)⟩ rfl hl.1 rfl (Nat.le_of_ble_eq_true rfl) dL_law_548 ⟨(show cells + 2 + 0 ≤ 689485 by omega), (show slots + 12 + 0 ≤ 7027648 by omega)⟩ (fun r2 FM1 H locs hq2 hJ hS => ?_)
  rw [← ha] at hq2
  obtain ⟨hM1, hv2⟩ := hq2
  have hJ := hJ.symm
  refine lv_istore (lv' := [(6, .int r2), (5, .int (nI a.1)), (0, .ref b), (1, .ref x), (2, .ref mo), (3, .ref o), (4, .int (nI i))]) hx hb dL_law_551 hl (by decide) rfl (fun ls hl => ?_)
  refine lv_aload_n hx hb dL_law_553 rfl (lv_at hl 4 rfl) ?_
  obtain ⟨fsm1, hmm1⟩ := hM1.x
  refine aw_calli E hJ.symm hS (As := []) (rest := []) (b := mo) (fun A => m_thrown2 l A D FM1 hM1) lk_Law_83 li_Law_83 hmm1 rfl ⟨rfl, rfl, (Nat.le_of_ble_eq_true rfl), (Nat.le_of_ble_eq_true rfl)⟩ rfl hl.1 rfl (Nat.le_of_ble_eq_true rfl) dL_law_554 ⟨(show cells + 2 + 0 + 0 ≤ 689485 by omega), (show slots + 12 + 0 + 0 ≤ 7027648 by omega)⟩ (fun r3 FM2 H locs hq3 hJ hS => ?_)
  obtain ⟨rfl, rfl⟩ := hq3
  have hJ := hJ.symm
  refine lv_iload hx hb dL_law_557 (lv_at hl 1 rfl) ?_
  refine lv_icmp_eq (tgt := 564) hx hb dL_law_559 (by decide) (fun _ => ?_) (fun h9 => absurd rfl h9)
  refine lv_iload hx hb dL_law_564 (lv_at hl 1 rfl) ?_
  refine ah_if_ne (tgt := 581) hx hb (by omega) dL_law_566 (by decide) (fun h7 => ?_) (fun h0 => ?_)
  · refine lv_goto (tgt := 1311) hx hb dL_law_581 (by decide) ?_
    exact W.widen (by omega) (by omega) (kk _ _ _ _ _ ⟨_, _, _, _, _, _, hC1, hM1, _, ho1⟩ hJ hS (lv_sub hl [2, 3, 4, 5, 6] rfl))
  refine lv_aload_n hx hb dL_law_569 rfl (lv_at hl 5 rfl) ?_
  refine lv_iconst (v := (nI 0)) hx hb dL_law_570 (by decide) ?_
  refine ah_lald E hJ.K ho1 (by omega) (by omega) dL_law_571 ?_
  refine lv_iload hx hb dL_law_572 (lv_at hl 0 rfl) ?_
  refine lv_i2l (v := (Int32.toInt64 r2)) hx hb dL_law_574 rfl ?_
  refine W.lcmp hx hb dL_law_575 ?_
  refine lv_if_eq (tgt := 581) hx hb dL_law_576 (by decide) (fun _ => ?_) (fun h9 => absurd (by rw [hf1 h0, hv2 h0]; exact lg_cmp_0 _) h9)
  refine lv_goto (tgt := 1311) hx hb dL_law_581 (by decide) ?_
  exact W.widen (by omega) (by omega) (kk _ _ _ _ _ ⟨_, _, _, _, _, _, hC1, hM1, _, ho1⟩ hJ hS (lv_sub hl [2, 3, 4, 5, 6] rfl))
set_option maxHeartbeats 4000000 in
set_option maxRecDepth 100000 in
/-- 9: feed -/
theorem lw_c9 (E : ah_E (aw_O s) D p s m #[Value.ref b] meth c "AhoarchLaw" cL_law 7) (hl1 : l.stackTraces = false) (hX : va_X b L xs s s.heap) (hbl : b < s.heap.size) (hL : L ≤ 1536) (hi : i + 3 ≤ L) (hst : aw_St D FC FM x mo o) (hJ : aw_J (aw_O s) D FC FM H) (hS : va_S (aw_O s) s.heap H locs) (hl : lv_has ls 7 [(0, .ref b), (1, .ref x), (2, .ref mo), (3, .ref o), (4, .int (nI i))]) (hcs : cells + 4 ≤ 689485) (hss : slots + 16 ≤ 7027648) (kk : lw_K p l e s m below meth c Q D b x mo o i cells slots) : W p l e room_1 s m #[Value.ref b] below meth c H locs cells slots Q (F0 m 584 ls []) := by
  obtain ⟨P, n, dr, S, td, th, hC, hM, fo, ho⟩ := hst
  obtain ⟨fsx, hxx⟩ := hC.x
  obtain ⟨fsm, hmm⟩ := hM.x
  have hx := E.1
  have hb := E.2.1
  refine lv_aload_n hx hb dL_law_584 rfl (lv_at hl 1 rfl) ?_
  refine lv_aload_n hx hb dL_law_585 rfl (lv_at hl 0 rfl) ?_
  refine lv_iload hx hb dL_law_586 (lv_at hl 4 rfl) ?_
  refine lv_iconst (v := (nI 1)) hx hb dL_law_588 (by decide) ?_
  refine ah_iadd hx hb dL_law_589 ?_
  refine aw_sld E hX hbl hS (by omega) hL dL_law_590 ?_
  obtain ⟨cv, hcv, hcvx⟩ : ∃ cv : Nat, cv < 65536 ∧ ((xs (i + 1)).toUInt32 % 65536).toInt32 = nI cv := ⟨_, Nat.mod_lt _ (by decide), pk_char _⟩
  refine lv_i2c (v := nI cv) hx hb dL_law_591 hcvx ?_
  refine lv_aload_n hx hb dL_law_592 rfl (lv_at hl 3 rfl) ?_
  refine aw_xcall E hJ hS (As := [.ref x, .int (nI cv), .ref o]) (rest := []) (fun A => w_feed l hl1 A D FC hC ho hcv) awl_115 ⟨rfl, rfl, (Nat.le_of_ble_eq_true rfl), (Nat.le_of_ble_eq_true rfl)⟩ rfl hl.1 rfl (Nat.le_of_ble_eq_true rfl) dL_law_593 ⟨(show cells + 2 ≤ 689485 by omega), (show slots + 12 ≤ 7027648 by omega)⟩ (fun r FC1 H locs hq hJ hS => ?_)
  obtain ⟨a, ha⟩ : ∃ a : ah_Ans, a = sp_feed P n dr S td cv := ⟨_, rfl⟩
  have hab : a.1 ≤ 2 := by rw [ha]; exact sb_feed
  rw [← ha] at hq
  obtain ⟨hr, hC1, f1, ho1, hf1⟩ := hq
  subst hr
  refine lv_istore (lv' := [(5, .int (nI a.1)), (0, .ref b), (1, .ref x), (2, .ref mo), (3, .ref o), (4, .int (nI i))]) hx hb dL_law_596 hl (by decide) rfl (fun ls hl => ?_)
  refine lv_aload_n hx hb dL_law_598 rfl (lv_at hl 3 rfl) ?_
  refine lv_aload_n hx hb dL_law_599 rfl (lv_at hl 1 rfl) ?_
  refine lv_iload hx hb dL_law_600 (lv_at hl 5 rfl) ?_
  refine lv_iconst (v := (nI 1)) hx hb dL_law_602 (by decide) ?_
  refine ah_iadd hx hb dL_law_603 ?_
  refine aw_sld E hX hbl hS (by omega) hL dL_law_604 ?_
  refine lv_i2c (v := nI cv) hx hb dL_law_605 hcvx ?_
  refine aw_calli E hJ.symm hS (As := [.int (nI cv)]) (rest := []) (b := mo) (fun A => m_feed l A D FM hM hcv) lk_Law_117 li_Law_117 hmm rfl ⟨rfl, rfl, (Nat.le_of_ble_eq_true rfl), (Nat.le_of_ble_eq_true rfl)⟩ rfl hl.1 rfl (Nat.le_of_ble_eq_true rfl) dL_law_606 ⟨(show cells + 2 + 0 ≤ 689485 by omega), (show slots + 12 + 0 ≤ 7027648 by omega)⟩ (fun r2 FM1 H locs hq2 hJ hS => ?_)
  rw [← ha] at hq2
  obtain ⟨hM1, hv2⟩ := hq2
  have hJ := hJ.symm
  refine lv_istore (lv' := [(6, .int r2), (5, .int (nI a.1)), (0, .ref b), (1, .ref x), (2, .ref mo), (3, .ref o), (4, .int (nI i))]) hx hb dL_law_609 hl (by decide) rfl (fun ls hl => ?_)
  refine lv_aload_n hx hb dL_law_611 rfl (lv_at hl 4 rfl) ?_
  obtain ⟨fsm1, hmm1⟩ := hM1.x
  refine aw_calli E hJ.symm hS (As := []) (rest := []) (b := mo) (fun A => m_thrown2 l A D FM1 hM1) lk_Law_83 li_Law_83 hmm1 rfl ⟨rfl, rfl, (Nat.le_of_ble_eq_true rfl), (Nat.le_of_ble_eq_true rfl)⟩ rfl hl.1 rfl (Nat.le_of_ble_eq_true rfl) dL_law_612 ⟨(show cells + 2 + 0 + 0 ≤ 689485 by omega), (show slots + 12 + 0 + 0 ≤ 7027648 by omega)⟩ (fun r3 FM2 H locs hq3 hJ hS => ?_)
  obtain ⟨rfl, rfl⟩ := hq3
  have hJ := hJ.symm
  refine lv_iload hx hb dL_law_615 (lv_at hl 1 rfl) ?_
  refine lv_icmp_eq (tgt := 622) hx hb dL_law_617 (by decide) (fun _ => ?_) (fun h9 => absurd rfl h9)
  refine lv_iload hx hb dL_law_622 (lv_at hl 1 rfl) ?_
  refine ah_if_ne (tgt := 639) hx hb (by omega) dL_law_624 (by decide) (fun h7 => ?_) (fun h0 => ?_)
  · refine lv_goto (tgt := 1311) hx hb dL_law_639 (by decide) ?_
    exact W.widen (by omega) (by omega) (kk _ _ _ _ _ ⟨_, _, _, _, _, _, hC1, hM1, _, ho1⟩ hJ hS (lv_sub hl [2, 3, 4, 5, 6] rfl))
  refine lv_aload_n hx hb dL_law_627 rfl (lv_at hl 5 rfl) ?_
  refine lv_iconst (v := (nI 0)) hx hb dL_law_628 (by decide) ?_
  refine ah_lald E hJ.K ho1 (by omega) (by omega) dL_law_629 ?_
  refine lv_iload hx hb dL_law_630 (lv_at hl 0 rfl) ?_
  refine lv_i2l (v := (Int32.toInt64 r2)) hx hb dL_law_632 rfl ?_
  refine W.lcmp hx hb dL_law_633 ?_
  refine lv_if_eq (tgt := 639) hx hb dL_law_634 (by decide) (fun _ => ?_) (fun h9 => absurd (by rw [hf1 h0, hv2 h0]; exact lg_cmp_0 _) h9)
  refine lv_goto (tgt := 1311) hx hb dL_law_639 (by decide) ?_
  exact W.widen (by omega) (by omega) (kk _ _ _ _ _ ⟨_, _, _, _, _, _, hC1, hM1, _, ho1⟩ hJ hS (lv_sub hl [2, 3, 4, 5, 6] rfl))
set_option maxHeartbeats 4000000 in
set_option maxRecDepth 100000 in
/-- 10: feedPattern -/
theorem lw_c10 (E : ah_E (aw_O s) D p s m #[Value.ref b] meth c "AhoarchLaw" cL_law 7) (hl1 : l.stackTraces = false) (hX : va_X b L xs s s.heap) (hbl : b < s.heap.size) (hL : L ≤ 1536) (hi : i + 3 ≤ L) (hst : aw_St D FC FM x mo o) (hJ : aw_J (aw_O s) D FC FM H) (hS : va_S (aw_O s) s.heap H locs) (hl : lv_has ls 7 [(0, .ref b), (1, .ref x), (2, .ref mo), (3, .ref o), (4, .int (nI i))]) (hcs : cells + 4 ≤ 689485) (hss : slots + 16 ≤ 7027648) (kk : lw_K p l e s m below meth c Q D b x mo o i cells slots) : W p l e room_1 s m #[Value.ref b] below meth c H locs cells slots Q (F0 m 642 ls []) := by
  obtain ⟨P, n, dr, S, td, th, hC, hM, fo, ho⟩ := hst
  obtain ⟨fsx, hxx⟩ := hC.x
  obtain ⟨fsm, hmm⟩ := hM.x
  have hx := E.1
  have hb := E.2.1
  refine lv_aload_n hx hb dL_law_642 rfl (lv_at hl 1 rfl) ?_
  refine lv_aload_n hx hb dL_law_643 rfl (lv_at hl 0 rfl) ?_
  refine lv_iload hx hb dL_law_644 (lv_at hl 4 rfl) ?_
  refine lv_iconst (v := (nI 1)) hx hb dL_law_646 (by decide) ?_
  refine ah_iadd hx hb dL_law_647 ?_
  refine aw_sld E hX hbl hS (by omega) hL dL_law_648 ?_
  refine lv_aload_n hx hb dL_law_649 rfl (lv_at hl 3 rfl) ?_
  refine aw_xcall E hJ hS (As := [.ref x, .int (xs (i + 1)), .ref o]) (rest := []) (fun A => w_feedPattern l hl1 A D FC hC ho (v0 := xs (i + 1))) awl_118 ⟨rfl, rfl, (Nat.le_of_ble_eq_true rfl), (Nat.le_of_ble_eq_true rfl)⟩ rfl hl.1 rfl (Nat.le_of_ble_eq_true rfl) dL_law_650 ⟨(show cells + 2 ≤ 689485 by omega), (show slots + 12 ≤ 7027648 by omega)⟩ (fun r FC1 H locs hq hJ hS => ?_)
  obtain ⟨a, ha⟩ : ∃ a : ah_Ans, a = sp_feedPattern P n dr S td (xs (i + 1)) := ⟨_, rfl⟩
  have hab : a.1 ≤ 2 := by rw [ha]; exact sb_feedPattern
  rw [← ha] at hq
  obtain ⟨hr, hC1, f1, ho1, hf1⟩ := hq
  subst hr
  refine lv_istore (lv' := [(5, .int (nI a.1)), (0, .ref b), (1, .ref x), (2, .ref mo), (3, .ref o), (4, .int (nI i))]) hx hb dL_law_653 hl (by decide) rfl (fun ls hl => ?_)
  refine lv_aload_n hx hb dL_law_655 rfl (lv_at hl 3 rfl) ?_
  refine lv_aload_n hx hb dL_law_656 rfl (lv_at hl 1 rfl) ?_
  refine lv_iload hx hb dL_law_657 (lv_at hl 5 rfl) ?_
  refine lv_iconst (v := (nI 1)) hx hb dL_law_659 (by decide) ?_
  refine ah_iadd hx hb dL_law_660 ?_
  refine aw_sld E hX hbl hS (by omega) hL dL_law_661 ?_
  refine aw_calli E hJ.symm hS (As := [.int (xs (i + 1))]) (rest := []) (b := mo) (fun A => m_feedPattern l A D FM hM (v0 := xs (i + 1))) lk_Law_120 li_Law_120 hmm rfl ⟨rfl, rfl, (Nat.le_of_ble_eq_true rfl), (Nat.le_of_ble_eq_true rfl)⟩ rfl hl.1 rfl (Nat.le_of_ble_eq_true rfl) dL_law_662 ⟨(show cells + 2 + 0 ≤ 689485 by omega), (show slots + 12 + 0 ≤ 7027648 by omega)⟩ (fun r2 FM1 H locs hq2 hJ hS => ?_)
  rw [← ha] at hq2
  obtain ⟨hM1, hv2⟩ := hq2
  have hJ := hJ.symm
  refine lv_istore (lv' := [(6, .int r2), (5, .int (nI a.1)), (0, .ref b), (1, .ref x), (2, .ref mo), (3, .ref o), (4, .int (nI i))]) hx hb dL_law_665 hl (by decide) rfl (fun ls hl => ?_)
  refine lv_aload_n hx hb dL_law_667 rfl (lv_at hl 4 rfl) ?_
  obtain ⟨fsm1, hmm1⟩ := hM1.x
  refine aw_calli E hJ.symm hS (As := []) (rest := []) (b := mo) (fun A => m_thrown2 l A D FM1 hM1) lk_Law_83 li_Law_83 hmm1 rfl ⟨rfl, rfl, (Nat.le_of_ble_eq_true rfl), (Nat.le_of_ble_eq_true rfl)⟩ rfl hl.1 rfl (Nat.le_of_ble_eq_true rfl) dL_law_668 ⟨(show cells + 2 + 0 + 0 ≤ 689485 by omega), (show slots + 12 + 0 + 0 ≤ 7027648 by omega)⟩ (fun r3 FM2 H locs hq3 hJ hS => ?_)
  obtain ⟨rfl, rfl⟩ := hq3
  have hJ := hJ.symm
  refine lv_iload hx hb dL_law_671 (lv_at hl 1 rfl) ?_
  refine lv_icmp_eq (tgt := 678) hx hb dL_law_673 (by decide) (fun _ => ?_) (fun h9 => absurd rfl h9)
  refine lv_iload hx hb dL_law_678 (lv_at hl 1 rfl) ?_
  refine ah_if_ne (tgt := 695) hx hb (by omega) dL_law_680 (by decide) (fun h7 => ?_) (fun h0 => ?_)
  · refine lv_goto (tgt := 1311) hx hb dL_law_695 (by decide) ?_
    exact W.widen (by omega) (by omega) (kk _ _ _ _ _ ⟨_, _, _, _, _, _, hC1, hM1, _, ho1⟩ hJ hS (lv_sub hl [2, 3, 4, 5, 6] rfl))
  refine lv_aload_n hx hb dL_law_683 rfl (lv_at hl 5 rfl) ?_
  refine lv_iconst (v := (nI 0)) hx hb dL_law_684 (by decide) ?_
  refine ah_lald E hJ.K ho1 (by omega) (by omega) dL_law_685 ?_
  refine lv_iload hx hb dL_law_686 (lv_at hl 0 rfl) ?_
  refine lv_i2l (v := (Int32.toInt64 r2)) hx hb dL_law_688 rfl ?_
  refine W.lcmp hx hb dL_law_689 ?_
  refine lv_if_eq (tgt := 695) hx hb dL_law_690 (by decide) (fun _ => ?_) (fun h9 => absurd (by rw [hf1 h0, hv2 h0]; exact lg_cmp_0 _) h9)
  refine lv_goto (tgt := 1311) hx hb dL_law_695 (by decide) ?_
  exact W.widen (by omega) (by omega) (kk _ _ _ _ _ ⟨_, _, _, _, _, _, hC1, hM1, _, ho1⟩ hJ hS (lv_sub hl [2, 3, 4, 5, 6] rfl))
set_option maxHeartbeats 4000000 in
set_option maxRecDepth 100000 in
/-- 11: clear -/
theorem lw_c11 (E : ah_E (aw_O s) D p s m #[Value.ref b] meth c "AhoarchLaw" cL_law 7) (hl1 : l.stackTraces = false) (hX : va_X b L xs s s.heap) (hbl : b < s.heap.size) (hL : L ≤ 1536) (hi : i + 3 ≤ L) (hst : aw_St D FC FM x mo o) (hJ : aw_J (aw_O s) D FC FM H) (hS : va_S (aw_O s) s.heap H locs) (hl : lv_has ls 7 [(0, .ref b), (1, .ref x), (2, .ref mo), (3, .ref o), (4, .int (nI i))]) (hcs : cells + 4 ≤ 689485) (hss : slots + 16 ≤ 7027648) (kk : lw_K p l e s m below meth c Q D b x mo o i cells slots) : W p l e room_1 s m #[Value.ref b] below meth c H locs cells slots Q (F0 m 698 ls []) := by
  obtain ⟨P, n, dr, S, td, th, hC, hM, fo, ho⟩ := hst
  obtain ⟨fsx, hxx⟩ := hC.x
  obtain ⟨fsm, hmm⟩ := hM.x
  have hx := E.1
  have hb := E.2.1
  refine lv_aload_n hx hb dL_law_698 rfl (lv_at hl 1 rfl) ?_
  refine aw_calli E hJ hS (As := []) (rest := []) (b := x) (fun A => c_clear l A D FC hC) lk_Law_121 li_Law_121 hxx rfl ⟨rfl, rfl, (Nat.le_of_ble_eq_true rfl), (Nat.le_of_ble_eq_true rfl)⟩ rfl hl.1 rfl (Nat.le_of_ble_eq_true rfl) dL_law_699 ⟨(show cells + 0 ≤ 689485 by omega), (show slots + 0 ≤ 7027648 by omega)⟩ (fun r FC1 H locs hq hJ hS => ?_)
  obtain ⟨rfl, hC1, hout⟩ := hq
  have ho1 : FC1 o = some (ah_al D 1 fo) := (hout o fo ho).trans ho
  refine lv_aload_n hx hb dL_law_702 rfl (lv_at hl 2 rfl) ?_
  refine aw_calli E hJ.symm hS (As := []) (rest := [.int (nI S.length)]) (b := mo) (fun A => m_clear l A D FM hM) lk_Law_124 li_Law_124 hmm rfl ⟨rfl, rfl, (Nat.le_of_ble_eq_true rfl), (Nat.le_of_ble_eq_true rfl)⟩ rfl hl.1 rfl (Nat.le_of_ble_eq_true rfl) dL_law_703 ⟨(show cells + 0 + 0 ≤ 689485 by omega), (show slots + 0 + 0 ≤ 7027648 by omega)⟩ (fun r2 FM1 H locs hq2 hJ hS => ?_)
  obtain ⟨hM1, hv2⟩ := hq2
  have hJ := hJ.symm
  have hv3 : r2 = nI S.length := hv2 rfl
  subst hv3
  refine lv_icmp_eq (tgt := 1311) hx hb dL_law_706 (by decide) (fun _ => ?_) (fun h9 => absurd rfl h9)
  exact W.widen (by omega) (by omega) (kk _ _ _ _ _ ⟨_, _, _, _, _, _, hC1, hM1, _, ho1⟩ hJ hS (lv_sub hl [0, 1, 2, 3, 4] rfl))
set_option maxHeartbeats 4000000 in
set_option maxRecDepth 100000 in
/-- 12: streamLength -/
theorem lw_c12 (E : ah_E (aw_O s) D p s m #[Value.ref b] meth c "AhoarchLaw" cL_law 7) (hl1 : l.stackTraces = false) (hX : va_X b L xs s s.heap) (hbl : b < s.heap.size) (hL : L ≤ 1536) (hi : i + 3 ≤ L) (hst : aw_St D FC FM x mo o) (hJ : aw_J (aw_O s) D FC FM H) (hS : va_S (aw_O s) s.heap H locs) (hl : lv_has ls 7 [(0, .ref b), (1, .ref x), (2, .ref mo), (3, .ref o), (4, .int (nI i))]) (hcs : cells + 4 ≤ 689485) (hss : slots + 16 ≤ 7027648) (kk : lw_K p l e s m below meth c Q D b x mo o i cells slots) : W p l e room_1 s m #[Value.ref b] below meth c H locs cells slots Q (F0 m 711 ls []) := by
  obtain ⟨P, n, dr, S, td, th, hC, hM, fo, ho⟩ := hst
  obtain ⟨fsx, hxx⟩ := hC.x
  obtain ⟨fsm, hmm⟩ := hM.x
  have hx := E.1
  have hb := E.2.1
  refine lv_aload_n hx hb dL_law_711 rfl (lv_at hl 1 rfl) ?_
  refine aw_calli E hJ hS (As := []) (rest := []) (b := x) (fun A => c_streamLength l A D FC hC) lk_Law_125 li_Law_125 hxx rfl ⟨rfl, rfl, (Nat.le_of_ble_eq_true rfl), (Nat.le_of_ble_eq_true rfl)⟩ rfl hl.1 rfl (Nat.le_of_ble_eq_true rfl) dL_law_712 ⟨(show cells + 0 ≤ 689485 by omega), (show slots + 0 ≤ 7027648 by omega)⟩ (fun r FC1 H locs hq hJ hS => ?_)
  obtain ⟨rfl, rfl⟩ := hq
  refine lv_aload_n hx hb dL_law_715 rfl (lv_at hl 2 rfl) ?_
  refine aw_calli E hJ.symm hS (As := []) (rest := [.int (nI S.length)]) (b := mo) (fun A => m_streamLength l A D FM hM) lk_Law_128 li_Law_128 hmm rfl ⟨rfl, rfl, (Nat.le_of_ble_eq_true rfl), (Nat.le_of_ble_eq_true rfl)⟩ rfl hl.1 rfl (Nat.le_of_ble_eq_true rfl) dL_law_716 ⟨(show cells + 0 + 0 ≤ 689485 by omega), (show slots + 0 + 0 ≤ 7027648 by omega)⟩ (fun r2 FM1 H locs hq2 hJ hS => ?_)
  obtain ⟨hM1, hv2⟩ := hq2
  have hJ := hJ.symm
  have hv3 : r2 = nI S.length := hv2 rfl
  subst hv3
  refine lv_icmp_eq (tgt := 1311) hx hb dL_law_719 (by decide) (fun _ => ?_) (fun h9 => absurd rfl h9)
  exact W.widen (by omega) (by omega) (kk _ _ _ _ _ ⟨_, _, _, _, _, _, hC, hM1, _, ho⟩ hJ hS (lv_sub hl [0, 1, 2, 3, 4] rfl))
set_option maxHeartbeats 4000000 in
set_option maxRecDepth 100000 in
/-- 13: depth -/
theorem lw_c13 (E : ah_E (aw_O s) D p s m #[Value.ref b] meth c "AhoarchLaw" cL_law 7) (hl1 : l.stackTraces = false) (hX : va_X b L xs s s.heap) (hbl : b < s.heap.size) (hL : L ≤ 1536) (hi : i + 3 ≤ L) (hst : aw_St D FC FM x mo o) (hJ : aw_J (aw_O s) D FC FM H) (hS : va_S (aw_O s) s.heap H locs) (hl : lv_has ls 7 [(0, .ref b), (1, .ref x), (2, .ref mo), (3, .ref o), (4, .int (nI i))]) (hcs : cells + 4 ≤ 689485) (hss : slots + 16 ≤ 7027648) (kk : lw_K p l e s m below meth c Q D b x mo o i cells slots) : W p l e room_1 s m #[Value.ref b] below meth c H locs cells slots Q (F0 m 724 ls []) := by
  obtain ⟨P, n, dr, S, td, th, hC, hM, fo, ho⟩ := hst
  obtain ⟨fsx, hxx⟩ := hC.x
  obtain ⟨fsm, hmm⟩ := hM.x
  have hx := E.1
  have hb := E.2.1
  refine lv_aload_n hx hb dL_law_724 rfl (lv_at hl 1 rfl) ?_
  refine aw_calli E hJ hS (As := []) (rest := []) (b := x) (fun A => c_depth l A D FC hC) lk_Law_129 li_Law_129 hxx rfl ⟨rfl, rfl, (Nat.le_of_ble_eq_true rfl), (Nat.le_of_ble_eq_true rfl)⟩ rfl hl.1 rfl (Nat.le_of_ble_eq_true rfl) dL_law_725 ⟨(show cells + 0 ≤ 689485 by omega), (show slots + 0 ≤ 7027648 by omega)⟩ (fun r FC1 H locs hq hJ hS => ?_)
  obtain ⟨rfl, rfl⟩ := hq
  refine lv_aload_n hx hb dL_law_728 rfl (lv_at hl 2 rfl) ?_
  refine aw_calli E hJ.symm hS (As := []) (rest := [.int (nI (ah_le P (ah_l8 S) (min S.length 8)))]) (b := mo) (fun A => m_depth l A D FM hM) lk_Law_132 li_Law_132 hmm rfl ⟨rfl, rfl, (Nat.le_of_ble_eq_true rfl), (Nat.le_of_ble_eq_true rfl)⟩ rfl hl.1 rfl (Nat.le_of_ble_eq_true rfl) dL_law_729 ⟨(show cells + 0 + 0 ≤ 689485 by omega), (show slots + 0 + 0 ≤ 7027648 by omega)⟩ (fun r2 FM1 H locs hq2 hJ hS => ?_)
  obtain ⟨hM1, hv2⟩ := hq2
  have hJ := hJ.symm
  have hv3 : r2 = nI (ah_le P (ah_l8 S) (min S.length 8)) := hv2 rfl
  subst hv3
  refine lv_icmp_eq (tgt := 1311) hx hb dL_law_732 (by decide) (fun _ => ?_) (fun h9 => absurd rfl h9)
  exact W.widen (by omega) (by omega) (kk _ _ _ _ _ ⟨_, _, _, _, _, _, hC, hM1, _, ho⟩ hJ hS (lv_sub hl [0, 1, 2, 3, 4] rfl))
end LWC
