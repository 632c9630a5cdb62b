section LWC
variable {p : Program} {l : Launch} {e : Env} {s : State} {m : MethodId} {below : List Frame} {meth : Method} {c : Code} {Q : State → Prop} {D : ah_G} {b L x mo o i : Nat} {xs : Nat → Int32} {FC FM : ah_F} {H : Heap} {locs : List Loc} {cells slots : Nat} {ls : Array Slot}
set_option maxHeartbeats 4000000 in
set_option maxRecDepth 100000 in
/-- 14: ending -/
theorem lw_c14 (E : ah_E (aw_O s) D p s m #[Value.ref b] meth c "AhoarchLaw" cL_law 7) (hl1 : l.stackTraces = false) (hX : va_X b L xs s s.heap) (hbl : b < s.heap.size) (hL : L ≤ 1536) (hi : i + 3 ≤ L) (hst : aw_St D FC FM x mo o) (hJ : aw_J (aw_O s) D FC FM H) (hS : va_S (aw_O s) s.heap H locs) (hl : lv_has ls 7 [(0, .ref b), (1, .ref x), (2, .ref mo), (3, .ref o), (4, .int (nI i))]) (hcs : cells + 4 ≤ 689485) (hss : slots + 16 ≤ 7027648) (kk : lw_K p l e s m below meth c Q D b x mo o i cells slots) : W p l e room_1 s m #[Value.ref b] below meth c H locs cells slots Q (F0 m 737 ls []) := by
  obtain ⟨P, n, dr, S, td, th, hC, hM, fo, ho⟩ := hst
  obtain ⟨fsx, hxx⟩ := hC.x
  obtain ⟨fsm, hmm⟩ := hM.x
  have hx := E.1
  have hb := E.2.1
  refine lv_aload_n hx hb dL_law_737 rfl (lv_at hl 1 rfl) ?_
  refine aw_calli E hJ hS (As := []) (rest := []) (b := x) (fun A => c_ending l A D FC hC) lk_Law_133 li_Law_133 hxx rfl ⟨rfl, rfl, (Nat.le_of_ble_eq_true rfl), (Nat.le_of_ble_eq_true rfl)⟩ rfl hl.1 rfl (Nat.le_of_ble_eq_true rfl) dL_law_738 ⟨(show cells + 0 ≤ 689485 by omega), (show slots + 0 ≤ 7027648 by omega)⟩ (fun r FC1 H locs hq hJ hS => ?_)
  obtain ⟨rfl, rfl⟩ := hq
  refine lv_aload_n hx hb dL_law_741 rfl (lv_at hl 2 rfl) ?_
  refine aw_calli E hJ.symm hS (As := []) (rest := [.int (nI (pu_cn (ah_sat P (fun w => ah_en S S.length w)) 40))]) (b := mo) (fun A => m_ending l A D FM hM) lk_Law_136 li_Law_136 hmm rfl ⟨rfl, rfl, (Nat.le_of_ble_eq_true rfl), (Nat.le_of_ble_eq_true rfl)⟩ rfl hl.1 rfl (Nat.le_of_ble_eq_true rfl) dL_law_742 ⟨(show cells + 0 + 0 ≤ 689485 by omega), (show slots + 0 + 0 ≤ 7027648 by omega)⟩ (fun r2 FM1 H locs hq2 hJ hS => ?_)
  obtain ⟨hM1, hv2⟩ := hq2
  have hJ := hJ.symm
  have hv3 : r2 = nI (pu_cn (ah_sat P (fun w => ah_en S S.length w)) 40) := hv2 rfl
  subst hv3
  refine lv_icmp_eq (tgt := 1311) hx hb dL_law_745 (by decide) (fun _ => ?_) (fun h9 => absurd rfl h9)
  exact W.widen (by omega) (by omega) (kk _ _ _ _ _ ⟨_, _, _, _, _, _, hC, hM1, _, ho⟩ hJ hS (lv_sub hl [0, 1, 2, 3, 4] rfl))
set_option maxHeartbeats 4000000 in
set_option maxRecDepth 100000 in
/-- 15: endingPattern -/
theorem lw_c15 (E : ah_E (aw_O s) D p s m #[Value.ref b] meth c "AhoarchLaw" cL_law 7) (hl1 : l.stackTraces = false) (hX : va_X b L xs s s.heap) (hbl : b < s.heap.size) (hL : L ≤ 1536) (hi : i + 3 ≤ L) (hst : aw_St D FC FM x mo o) (hJ : aw_J (aw_O s) D FC FM H) (hS : va_S (aw_O s) s.heap H locs) (hl : lv_has ls 7 [(0, .ref b), (1, .ref x), (2, .ref mo), (3, .ref o), (4, .int (nI i))]) (hcs : cells + 4 ≤ 689485) (hss : slots + 16 ≤ 7027648) (kk : lw_K p l e s m below meth c Q D b x mo o i cells slots) : W p l e room_1 s m #[Value.ref b] below meth c H locs cells slots Q (F0 m 750 ls []) := by
  obtain ⟨P, n, dr, S, td, th, hC, hM, fo, ho⟩ := hst
  obtain ⟨fsx, hxx⟩ := hC.x
  obtain ⟨fsm, hmm⟩ := hM.x
  have hx := E.1
  have hb := E.2.1
  refine lv_aload_n hx hb dL_law_750 rfl (lv_at hl 1 rfl) ?_
  refine lv_aload_n hx hb dL_law_751 rfl (lv_at hl 0 rfl) ?_
  refine lv_iload hx hb dL_law_752 (lv_at hl 4 rfl) ?_
  refine lv_iconst (v := (nI 1)) hx hb dL_law_754 (by decide) ?_
  refine ah_iadd hx hb dL_law_755 ?_
  refine aw_sld E hX hbl hS (by omega) hL dL_law_756 ?_
  refine lv_aload_n hx hb dL_law_757 rfl (lv_at hl 3 rfl) ?_
  refine aw_xcall E hJ hS (As := [.ref x, .int (xs (i + 1)), .ref o]) (rest := []) (fun A => w_endingPattern l hl1 A D FC hC ho (v0 := xs (i + 1))) awl_137 ⟨rfl, rfl, (Nat.le_of_ble_eq_true rfl), (Nat.le_of_ble_eq_true rfl)⟩ rfl hl.1 rfl (Nat.le_of_ble_eq_true rfl) dL_law_758 ⟨(show cells + 1 ≤ 689485 by omega), (show slots + 6 ≤ 7027648 by omega)⟩ (fun r FC1 H locs hq hJ hS => ?_)
  obtain ⟨a, ha⟩ : ∃ a : ah_Ans, a = sp_endingPattern P n dr S td (xs (i + 1)) := ⟨_, rfl⟩
  have hab : a.1 ≤ 2 := by rw [ha]; exact sb_endingPattern
  rw [← ha] at hq
  obtain ⟨hr, hC1, f1, ho1, hf1⟩ := hq
  subst hr
  refine lv_istore (lv' := [(5, .int (nI a.1)), (0, .ref b), (1, .ref x), (2, .ref mo), (3, .ref o), (4, .int (nI i))]) hx hb dL_law_761 hl (by decide) rfl (fun ls hl => ?_)
  refine lv_aload_n hx hb dL_law_763 rfl (lv_at hl 3 rfl) ?_
  refine lv_aload_n hx hb dL_law_764 rfl (lv_at hl 1 rfl) ?_
  refine lv_iload hx hb dL_law_765 (lv_at hl 5 rfl) ?_
  refine lv_iconst (v := (nI 1)) hx hb dL_law_767 (by decide) ?_
  refine ah_iadd hx hb dL_law_768 ?_
  refine aw_sld E hX hbl hS (by omega) hL dL_law_769 ?_
  refine aw_calli E hJ.symm hS (As := [.int (xs (i + 1))]) (rest := []) (b := mo) (fun A => m_endingPattern l A D FM hM (v0 := xs (i + 1))) lk_Law_139 li_Law_139 hmm rfl ⟨rfl, rfl, (Nat.le_of_ble_eq_true rfl), (Nat.le_of_ble_eq_true rfl)⟩ rfl hl.1 rfl (Nat.le_of_ble_eq_true rfl) dL_law_770 ⟨(show cells + 1 + 0 ≤ 689485 by omega), (show slots + 6 + 0 ≤ 7027648 by omega)⟩ (fun r2 FM1 H locs hq2 hJ hS => ?_)
  rw [← ha] at hq2
  obtain ⟨hM1, hv2⟩ := hq2
  have hJ := hJ.symm
  refine lv_istore (lv' := [(6, .int r2), (5, .int (nI a.1)), (0, .ref b), (1, .ref x), (2, .ref mo), (3, .ref o), (4, .int (nI i))]) hx hb dL_law_773 hl (by decide) rfl (fun ls hl => ?_)
  refine lv_aload_n hx hb dL_law_775 rfl (lv_at hl 4 rfl) ?_
  obtain ⟨fsm1, hmm1⟩ := hM1.x
  refine aw_calli E hJ.symm hS (As := []) (rest := []) (b := mo) (fun A => m_thrown2 l A D FM1 hM1) lk_Law_83 li_Law_83 hmm1 rfl ⟨rfl, rfl, (Nat.le_of_ble_eq_true rfl), (Nat.le_of_ble_eq_true rfl)⟩ rfl hl.1 rfl (Nat.le_of_ble_eq_true rfl) dL_law_776 ⟨(show cells + 1 + 0 + 0 ≤ 689485 by omega), (show slots + 6 + 0 + 0 ≤ 7027648 by omega)⟩ (fun r3 FM2 H locs hq3 hJ hS => ?_)
  obtain ⟨rfl, rfl⟩ := hq3
  have hJ := hJ.symm
  refine lv_iload hx hb dL_law_779 (lv_at hl 1 rfl) ?_
  refine lv_icmp_eq (tgt := 786) hx hb dL_law_781 (by decide) (fun _ => ?_) (fun h9 => absurd rfl h9)
  refine lv_iload hx hb dL_law_786 (lv_at hl 1 rfl) ?_
  refine ah_if_ne (tgt := 803) hx hb (by omega) dL_law_788 (by decide) (fun h7 => ?_) (fun h0 => ?_)
  · refine lv_goto (tgt := 1311) hx hb dL_law_803 (by decide) ?_
    exact W.widen (by omega) (by omega) (kk _ _ _ _ _ ⟨_, _, _, _, _, _, hC1, hM1, _, ho1⟩ hJ hS (lv_sub hl [2, 3, 4, 5, 6] rfl))
  refine lv_aload_n hx hb dL_law_791 rfl (lv_at hl 5 rfl) ?_
  refine lv_iconst (v := (nI 0)) hx hb dL_law_792 (by decide) ?_
  refine ah_lald E hJ.K ho1 (by omega) (by omega) dL_law_793 ?_
  refine lv_iload hx hb dL_law_794 (lv_at hl 0 rfl) ?_
  refine lv_i2l (v := (Int32.toInt64 r2)) hx hb dL_law_796 rfl ?_
  refine W.lcmp hx hb dL_law_797 ?_
  refine lv_if_eq (tgt := 803) hx hb dL_law_798 (by decide) (fun _ => ?_) (fun h9 => absurd (by rw [hf1 h0, hv2 h0]; exact lg_cmp_0 _) h9)
  refine lv_goto (tgt := 1311) hx hb dL_law_803 (by decide) ?_
  exact W.widen (by omega) (by omega) (kk _ _ _ _ _ ⟨_, _, _, _, _, _, hC1, hM1, _, ho1⟩ hJ hS (lv_sub hl [2, 3, 4, 5, 6] rfl))
set_option maxHeartbeats 4000000 in
set_option maxRecDepth 100000 in
/-- 16: occurrences -/
theorem lw_c16 (E : ah_E (aw_O s) D p s m #[Value.ref b] meth c "AhoarchLaw" cL_law 7) (hl1 : l.stackTraces = false) (hX : va_X b L xs s s.heap) (hbl : b < s.heap.size) (hL : L ≤ 1536) (hi : i + 3 ≤ L) (hst : aw_St D FC FM x mo o) (hJ : aw_J (aw_O s) D FC FM H) (hS : va_S (aw_O s) s.heap H locs) (hl : lv_has ls 7 [(0, .ref b), (1, .ref x), (2, .ref mo), (3, .ref o), (4, .int (nI i))]) (hcs : cells + 4 ≤ 689485) (hss : slots + 16 ≤ 7027648) (kk : lw_K p l e s m below meth c Q D b x mo o i cells slots) : W p l e room_1 s m #[Value.ref b] below meth c H locs cells slots Q (F0 m 806 ls []) := by
  obtain ⟨P, n, dr, S, td, th, hC, hM, fo, ho⟩ := hst
  obtain ⟨fsx, hxx⟩ := hC.x
  obtain ⟨fsm, hmm⟩ := hM.x
  have hx := E.1
  have hb := E.2.1
  refine lv_aload_n hx hb dL_law_806 rfl (lv_at hl 1 rfl) ?_
  refine aw_calli E hJ hS (As := []) (rest := []) (b := x) (fun A => c_occurrences l A D FC hC) lk_Law_140 li_Law_140 hxx rfl ⟨rfl, rfl, (Nat.le_of_ble_eq_true rfl), (Nat.le_of_ble_eq_true rfl)⟩ rfl hl.1 rfl (Nat.le_of_ble_eq_true rfl) dL_law_807 ⟨(show cells + 0 ≤ 689485 by omega), (show slots + 0 ≤ 7027648 by omega)⟩ (fun r FC1 H locs hq hJ hS => ?_)
  obtain ⟨rfl, rfl⟩ := hq
  refine lv_aload_n hx hb dL_law_810 rfl (lv_at hl 2 rfl) ?_
  refine aw_calli E hJ.symm hS (As := []) (rest := [.int (nI (ah_oc P S S.length))]) (b := mo) (fun A => m_occurrences l A D FM hM) lk_Law_143 li_Law_143 hmm rfl ⟨rfl, rfl, (Nat.le_of_ble_eq_true rfl), (Nat.le_of_ble_eq_true rfl)⟩ rfl hl.1 rfl (Nat.le_of_ble_eq_true rfl) dL_law_811 ⟨(show cells + 0 + 0 ≤ 689485 by omega), (show slots + 0 + 0 ≤ 7027648 by omega)⟩ (fun r2 FM1 H locs hq2 hJ hS => ?_)
  obtain ⟨hM1, hv2⟩ := hq2
  have hJ := hJ.symm
  have hv3 : r2 = nI (ah_oc P S S.length) := hv2 rfl
  subst hv3
  refine lv_icmp_eq (tgt := 1311) hx hb dL_law_814 (by decide) (fun _ => ?_) (fun h9 => absurd rfl h9)
  exact W.widen (by omega) (by omega) (kk _ _ _ _ _ ⟨_, _, _, _, _, _, hC, hM1, _, ho⟩ hJ hS (lv_sub hl [0, 1, 2, 3, 4] rfl))
set_option maxHeartbeats 4000000 in
set_option maxRecDepth 100000 in
/-- 17: occurrencesOf -/
theorem lw_c17 (E : ah_E (aw_O s) D p s m #[Value.ref b] meth c "AhoarchLaw" cL_law 7) (hl1 : l.stackTraces = false) (hX : va_X b L xs s s.heap) (hbl : b < s.heap.size) (hL : L ≤ 1536) (hi : i + 3 ≤ L) (hst : aw_St D FC FM x mo o) (hJ : aw_J (aw_O s) D FC FM H) (hS : va_S (aw_O s) s.heap H locs) (hl : lv_has ls 7 [(0, .ref b), (1, .ref x), (2, .ref mo), (3, .ref o), (4, .int (nI i))]) (hcs : cells + 4 ≤ 689485) (hss : slots + 16 ≤ 7027648) (kk : lw_K p l e s m below meth c Q D b x mo o i cells slots) : W p l e room_1 s m #[Value.ref b] below meth c H locs cells slots Q (F0 m 819 ls []) := by
  obtain ⟨P, n, dr, S, td, th, hC, hM, fo, ho⟩ := hst
  obtain ⟨fsx, hxx⟩ := hC.x
  obtain ⟨fsm, hmm⟩ := hM.x
  have hx := E.1
  have hb := E.2.1
  refine lv_aload_n hx hb dL_law_819 rfl (lv_at hl 1 rfl) ?_
  refine lv_aload_n hx hb dL_law_820 rfl (lv_at hl 0 rfl) ?_
  refine lv_iload hx hb dL_law_821 (lv_at hl 4 rfl) ?_
  refine lv_iconst (v := (nI 1)) hx hb dL_law_823 (by decide) ?_
  refine ah_iadd hx hb dL_law_824 ?_
  refine aw_sld E hX hbl hS (by omega) hL dL_law_825 ?_
  refine lv_aload_n hx hb dL_law_826 rfl (lv_at hl 3 rfl) ?_
  refine aw_xcall E hJ hS (As := [.ref x, .int (xs (i + 1)), .ref o]) (rest := []) (fun A => w_occurrencesOf l hl1 A D FC hC ho (v0 := xs (i + 1))) awl_144 ⟨rfl, rfl, (Nat.le_of_ble_eq_true rfl), (Nat.le_of_ble_eq_true rfl)⟩ rfl hl.1 rfl (Nat.le_of_ble_eq_true rfl) dL_law_827 ⟨(show cells + 1 ≤ 689485 by omega), (show slots + 6 ≤ 7027648 by omega)⟩ (fun r FC1 H locs hq hJ hS => ?_)
  obtain ⟨a, ha⟩ : ∃ a : ah_Ans, a = sp_occurrencesOf P n dr S td (xs (i + 1)) := ⟨_, rfl⟩
  have hab : a.1 ≤ 2 := by rw [ha]; exact sb_occurrencesOf
  rw [← ha] at hq
  obtain ⟨hr, hC1, f1, ho1, hf1⟩ := hq
  subst hr
  refine lv_istore (lv' := [(5, .int (nI a.1)), (0, .ref b), (1, .ref x), (2, .ref mo), (3, .ref o), (4, .int (nI i))]) hx hb dL_law_830 hl (by decide) rfl (fun ls hl => ?_)
  refine lv_aload_n hx hb dL_law_832 rfl (lv_at hl 3 rfl) ?_
  refine lv_aload_n hx hb dL_law_833 rfl (lv_at hl 1 rfl) ?_
  refine lv_iload hx hb dL_law_834 (lv_at hl 5 rfl) ?_
  refine lv_iconst (v := (nI 1)) hx hb dL_law_836 (by decide) ?_
  refine ah_iadd hx hb dL_law_837 ?_
  refine aw_sld E hX hbl hS (by omega) hL dL_law_838 ?_
  refine aw_calli E hJ.symm hS (As := [.int (xs (i + 1))]) (rest := []) (b := mo) (fun A => m_occurrencesOf l A D FM hM (v0 := xs (i + 1))) lk_Law_146 li_Law_146 hmm rfl ⟨rfl, rfl, (Nat.le_of_ble_eq_true rfl), (Nat.le_of_ble_eq_true rfl)⟩ rfl hl.1 rfl (Nat.le_of_ble_eq_true rfl) dL_law_839 ⟨(show cells + 1 + 0 ≤ 689485 by omega), (show slots + 6 + 0 ≤ 7027648 by omega)⟩ (fun r2 FM1 H locs hq2 hJ hS => ?_)
  rw [← ha] at hq2
  obtain ⟨hM1, hv2⟩ := hq2
  have hJ := hJ.symm
  refine lv_istore (lv' := [(6, .int r2), (5, .int (nI a.1)), (0, .ref b), (1, .ref x), (2, .ref mo), (3, .ref o), (4, .int (nI i))]) hx hb dL_law_842 hl (by decide) rfl (fun ls hl => ?_)
  refine lv_aload_n hx hb dL_law_844 rfl (lv_at hl 4 rfl) ?_
  obtain ⟨fsm1, hmm1⟩ := hM1.x
  refine aw_calli E hJ.symm hS (As := []) (rest := []) (b := mo) (fun A => m_thrown2 l A D FM1 hM1) lk_Law_83 li_Law_83 hmm1 rfl ⟨rfl, rfl, (Nat.le_of_ble_eq_true rfl), (Nat.le_of_ble_eq_true rfl)⟩ rfl hl.1 rfl (Nat.le_of_ble_eq_true rfl) dL_law_845 ⟨(show cells + 1 + 0 + 0 ≤ 689485 by omega), (show slots + 6 + 0 + 0 ≤ 7027648 by omega)⟩ (fun r3 FM2 H locs hq3 hJ hS => ?_)
  obtain ⟨rfl, rfl⟩ := hq3
  have hJ := hJ.symm
  refine lv_iload hx hb dL_law_848 (lv_at hl 1 rfl) ?_
  refine lv_icmp_eq (tgt := 855) hx hb dL_law_850 (by decide) (fun _ => ?_) (fun h9 => absurd rfl h9)
  refine lv_iload hx hb dL_law_855 (lv_at hl 1 rfl) ?_
  refine ah_if_ne (tgt := 872) hx hb (by omega) dL_law_857 (by decide) (fun h7 => ?_) (fun h0 => ?_)
  · refine lv_goto (tgt := 1311) hx hb dL_law_872 (by decide) ?_
    exact W.widen (by omega) (by omega) (kk _ _ _ _ _ ⟨_, _, _, _, _, _, hC1, hM1, _, ho1⟩ hJ hS (lv_sub hl [2, 3, 4, 5, 6] rfl))
  refine lv_aload_n hx hb dL_law_860 rfl (lv_at hl 5 rfl) ?_
  refine lv_iconst (v := (nI 0)) hx hb dL_law_861 (by decide) ?_
  refine ah_lald E hJ.K ho1 (by omega) (by omega) dL_law_862 ?_
  refine lv_iload hx hb dL_law_863 (lv_at hl 0 rfl) ?_
  refine lv_i2l (v := (Int32.toInt64 r2)) hx hb dL_law_865 rfl ?_
  refine W.lcmp hx hb dL_law_866 ?_
  refine lv_if_eq (tgt := 872) hx hb dL_law_867 (by decide) (fun _ => ?_) (fun h9 => absurd (by rw [hf1 h0, hv2 h0]; exact lg_cmp_0 _) h9)
  refine lv_goto (tgt := 1311) hx hb dL_law_872 (by decide) ?_
  exact W.widen (by omega) (by omega) (kk _ _ _ _ _ ⟨_, _, _, _, _, _, hC1, hM1, _, ho1⟩ hJ hS (lv_sub hl [2, 3, 4, 5, 6] rfl))
set_option maxHeartbeats 4000000 in
set_option maxRecDepth 100000 in
/-- 18: occurrence -/
theorem lw_c18 (E : ah_E (aw_O s) D p s m #[Value.ref b] meth c "AhoarchLaw" cL_law 7) (hl1 : l.stackTraces = false) (hX : va_X b L xs s s.heap) (hbl : b < s.heap.size) (hL : L ≤ 1536) (hi : i + 3 ≤ L) (hst : aw_St D FC FM x mo o) (hJ : aw_J (aw_O s) D FC FM H) (hS : va_S (aw_O s) s.heap H locs) (hl : lv_has ls 7 [(0, .ref b), (1, .ref x), (2, .ref mo), (3, .ref o), (4, .int (nI i))]) (hcs : cells + 4 ≤ 689485) (hss : slots + 16 ≤ 7027648) (kk : lw_K p l e s m below meth c Q D b x mo o i cells slots) : W p l e room_1 s m #[Value.ref b] below meth c H locs cells slots Q (F0 m 875 ls []) := by
  obtain ⟨P, n, dr, S, td, th, hC, hM, fo, ho⟩ := hst
  obtain ⟨fsx, hxx⟩ := hC.x
  obtain ⟨fsm, hmm⟩ := hM.x
  have hx := E.1
  have hb := E.2.1
  refine lv_aload_n hx hb dL_law_875 rfl (lv_at hl 1 rfl) ?_
  refine lv_aload_n hx hb dL_law_876 rfl (lv_at hl 0 rfl) ?_
  refine lv_iload hx hb dL_law_877 (lv_at hl 4 rfl) ?_
  refine lv_iconst (v := (nI 1)) hx hb dL_law_879 (by decide) ?_
  refine ah_iadd hx hb dL_law_880 ?_
  refine aw_sld E hX hbl hS (by omega) hL dL_law_881 ?_
  refine lv_aload_n hx hb dL_law_882 rfl (lv_at hl 0 rfl) ?_
  refine lv_iload hx hb dL_law_883 (lv_at hl 4 rfl) ?_
  refine lv_iconst (v := (nI 2)) hx hb dL_law_885 (by decide) ?_
  refine ah_iadd hx hb dL_law_886 ?_
  refine aw_sld E hX hbl hS (by omega) hL dL_law_887 ?_
  refine lv_aload_n hx hb dL_law_888 rfl (lv_at hl 3 rfl) ?_
  refine aw_xcall E hJ hS (As := [.ref x, .int (xs (i + 1)), .int (xs (i + 2)), .ref o]) (rest := []) (fun A => w_occurrence l hl1 A D FC hC ho (v0 := xs (i + 1)) (v1 := xs (i + 2))) awl_147 ⟨rfl, rfl, (Nat.le_of_ble_eq_true rfl), (Nat.le_of_ble_eq_true rfl)⟩ rfl hl.1 rfl (Nat.le_of_ble_eq_true rfl) dL_law_889 ⟨(show cells + 2 ≤ 689485 by omega), (show slots + 12 ≤ 7027648 by omega)⟩ (fun r FC1 H locs hq hJ hS => ?_)
  obtain ⟨a, ha⟩ : ∃ a : ah_Ans, a = sp_occurrence P n dr S td (xs (i + 1)) (xs (i + 2)) := ⟨_, rfl⟩
  have hab : a.1 ≤ 2 := by rw [ha]; exact sb_occurrence
  rw [← ha] at hq
  obtain ⟨hr, hC1, f1, ho1, hf1⟩ := hq
  subst hr
  refine lv_istore (lv' := [(5, .int (nI a.1)), (0, .ref b), (1, .ref x), (2, .ref mo), (3, .ref o), (4, .int (nI i))]) hx hb dL_law_892 hl (by decide) rfl (fun ls hl => ?_)
  refine lv_aload_n hx hb dL_law_894 rfl (lv_at hl 3 rfl) ?_
  refine lv_aload_n hx hb dL_law_895 rfl (lv_at hl 1 rfl) ?_
  refine lv_iload hx hb dL_law_896 (lv_at hl 5 rfl) ?_
  refine lv_iconst (v := (nI 1)) hx hb dL_law_898 (by decide) ?_
  refine ah_iadd hx hb dL_law_899 ?_
  refine aw_sld E hX hbl hS (by omega) hL dL_law_900 ?_
  refine lv_aload_n hx hb dL_law_901 rfl (lv_at hl 1 rfl) ?_
  refine lv_iload hx hb dL_law_902 (lv_at hl 5 rfl) ?_
  refine lv_iconst (v := (nI 2)) hx hb dL_law_904 (by decide) ?_
  refine ah_iadd hx hb dL_law_905 ?_
  refine aw_sld E hX hbl hS (by omega) hL dL_law_906 ?_
  refine aw_calli E hJ.symm hS (As := [.int (xs (i + 1)), .int (xs (i + 2))]) (rest := []) (b := mo) (fun A => m_occurrence l A D FM hM (v0 := xs (i + 1)) (v1 := xs (i + 2))) lk_Law_149 li_Law_149 hmm rfl ⟨rfl, rfl, (Nat.le_of_ble_eq_true rfl), (Nat.le_of_ble_eq_true rfl)⟩ rfl hl.1 rfl (Nat.le_of_ble_eq_true rfl) dL_law_907 ⟨(show cells + 2 + 0 ≤ 689485 by omega), (show slots + 12 + 0 ≤ 7027648 by omega)⟩ (fun r2 FM1 H locs hq2 hJ hS => ?_)
  rw [← ha] at hq2
  obtain ⟨hM1, hv2⟩ := hq2
  have hJ := hJ.symm
  refine lv_istore (lv' := [(6, .int r2), (5, .int (nI a.1)), (0, .ref b), (1, .ref x), (2, .ref mo), (3, .ref o), (4, .int (nI i))]) hx hb dL_law_910 hl (by decide) rfl (fun ls hl => ?_)
  refine lv_aload_n hx hb dL_law_912 rfl (lv_at hl 4 rfl) ?_
  obtain ⟨fsm1, hmm1⟩ := hM1.x
  refine aw_calli E hJ.symm hS (As := []) (rest := []) (b := mo) (fun A => m_thrown2 l A D FM1 hM1) lk_Law_83 li_Law_83 hmm1 rfl ⟨rfl, rfl, (Nat.le_of_ble_eq_true rfl), (Nat.le_of_ble_eq_true rfl)⟩ rfl hl.1 rfl (Nat.le_of_ble_eq_true rfl) dL_law_913 ⟨(show cells + 2 + 0 + 0 ≤ 689485 by omega), (show slots + 12 + 0 + 0 ≤ 7027648 by omega)⟩ (fun r3 FM2 H locs hq3 hJ hS => ?_)
  obtain ⟨rfl, rfl⟩ := hq3
  have hJ := hJ.symm
  refine lv_iload hx hb dL_law_916 (lv_at hl 1 rfl) ?_
  refine lv_icmp_eq (tgt := 923) hx hb dL_law_918 (by decide) (fun _ => ?_) (fun h9 => absurd rfl h9)
  refine lv_iload hx hb dL_law_923 (lv_at hl 1 rfl) ?_
  refine ah_if_ne (tgt := 940) hx hb (by omega) dL_law_925 (by decide) (fun h7 => ?_) (fun h0 => ?_)
  · refine lv_goto (tgt := 1311) hx hb dL_law_940 (by decide) ?_
    exact W.widen (by omega) (by omega) (kk _ _ _ _ _ ⟨_, _, _, _, _, _, hC1, hM1, _, ho1⟩ hJ hS (lv_sub hl [2, 3, 4, 5, 6] rfl))
  refine lv_aload_n hx hb dL_law_928 rfl (lv_at hl 5 rfl) ?_
  refine lv_iconst (v := (nI 0)) hx hb dL_law_929 (by decide) ?_
  refine ah_lald E hJ.K ho1 (by omega) (by omega) dL_law_930 ?_
  refine lv_iload hx hb dL_law_931 (lv_at hl 0 rfl) ?_
  refine lv_i2l (v := (Int32.toInt64 r2)) hx hb dL_law_933 rfl ?_
  refine W.lcmp hx hb dL_law_934 ?_
  refine lv_if_eq (tgt := 940) hx hb dL_law_935 (by decide) (fun _ => ?_) (fun h9 => absurd (by rw [hf1 h0, hv2 h0]; exact lg_cmp_0 _) h9)
  refine lv_goto (tgt := 1311) hx hb dL_law_940 (by decide) ?_
  exact W.widen (by omega) (by omega) (kk _ _ _ _ _ ⟨_, _, _, _, _, _, hC1, hM1, _, ho1⟩ hJ hS (lv_sub hl [2, 3, 4, 5, 6] rfl))
set_option maxHeartbeats 4000000 in
set_option maxRecDepth 100000 in
/-- 19: told -/
theorem lw_c19 (E : ah_E (aw_O s) D p s m #[Value.ref b] meth c "AhoarchLaw" cL_law 7) (hl1 : l.stackTraces = false) (hX : va_X b L xs s s.heap) (hbl : b < s.heap.size) (hL : L ≤ 1536) (hi : i + 3 ≤ L) (hst : aw_St D FC FM x mo o) (hJ : aw_J (aw_O s) D FC FM H) (hS : va_S (aw_O s) s.heap H locs) (hl : lv_has ls 7 [(0, .ref b), (1, .ref x), (2, .ref mo), (3, .ref o), (4, .int (nI i))]) (hcs : cells + 4 ≤ 689485) (hss : slots + 16 ≤ 7027648) (kk : lw_K p l e s m below meth c Q D b x mo o i cells slots) : W p l e room_1 s m #[Value.ref b] below meth c H locs cells slots Q (F0 m 943 ls []) := by
  obtain ⟨P, n, dr, S, td, th, hC, hM, fo, ho⟩ := hst
  obtain ⟨fsx, hxx⟩ := hC.x
  obtain ⟨fsm, hmm⟩ := hM.x
  have hx := E.1
  have hb := E.2.1
  refine lv_aload_n hx hb dL_law_943 rfl (lv_at hl 1 rfl) ?_
  refine aw_calli E hJ hS (As := []) (rest := []) (b := x) (fun A => c_told l A D FC hC) lk_Law_150 li_Law_150 hxx rfl ⟨rfl, rfl, (Nat.le_of_ble_eq_true rfl), (Nat.le_of_ble_eq_true rfl)⟩ rfl hl.1 rfl (Nat.le_of_ble_eq_true rfl) dL_law_944 ⟨(show cells + 0 ≤ 689485 by omega), (show slots + 0 ≤ 7027648 by omega)⟩ (fun r FC1 H locs hq hJ hS => ?_)
  obtain ⟨rfl, rfl⟩ := hq
  refine lv_aload_n hx hb dL_law_947 rfl (lv_at hl 2 rfl) ?_
  refine aw_calli E hJ.symm hS (As := []) (rest := [.int (td)]) (b := mo) (fun A => m_told l A D FM hM) lk_Law_153 li_Law_153 hmm rfl ⟨rfl, rfl, (Nat.le_of_ble_eq_true rfl), (Nat.le_of_ble_eq_true rfl)⟩ rfl hl.1 rfl (Nat.le_of_ble_eq_true rfl) dL_law_948 ⟨(show cells + 0 + 0 ≤ 689485 by omega), (show slots + 0 + 0 ≤ 7027648 by omega)⟩ (fun r2 FM1 H locs hq2 hJ hS => ?_)
  obtain ⟨hM1, hv2⟩ := hq2
  have hJ := hJ.symm
  have hv3 : r2 = td := hv2 rfl
  subst hv3
  refine lv_icmp_eq (tgt := 1311) hx hb dL_law_951 (by decide) (fun _ => ?_) (fun h9 => absurd rfl h9)
  exact W.widen (by omega) (by omega) (kk _ _ _ _ _ ⟨_, _, _, _, _, _, hC, hM1, _, ho⟩ hJ hS (lv_sub hl [0, 1, 2, 3, 4] rfl))
set_option maxHeartbeats 4000000 in
set_option maxRecDepth 100000 in
/-- 20: covered -/
theorem lw_c20 (E : ah_E (aw_O s) D p s m #[Value.ref b] meth c "AhoarchLaw" cL_law 7) (hl1 : l.stackTraces = false) (hX : va_X b L xs s s.heap) (hbl : b < s.heap.size) (hL : L ≤ 1536) (hi : i + 3 ≤ L) (hst : aw_St D FC FM x mo o) (hJ : aw_J (aw_O s) D FC FM H) (hS : va_S (aw_O s) s.heap H locs) (hl : lv_has ls 7 [(0, .ref b), (1, .ref x), (2, .ref mo), (3, .ref o), (4, .int (nI i))]) (hcs : cells + 4 ≤ 689485) (hss : slots + 16 ≤ 7027648) (kk : lw_K p l e s m below meth c Q D b x mo o i cells slots) : W p l e room_1 s m #[Value.ref b] below meth c H locs cells slots Q (F0 m 956 ls []) := by
  obtain ⟨P, n, dr, S, td, th, hC, hM, fo, ho⟩ := hst
  obtain ⟨fsx, hxx⟩ := hC.x
  obtain ⟨fsm, hmm⟩ := hM.x
  have hx := E.1
  have hb := E.2.1
  refine lv_aload_n hx hb dL_law_956 rfl (lv_at hl 1 rfl) ?_
  refine aw_calli E hJ hS (As := []) (rest := []) (b := x) (fun A => c_covered l A D FC hC) lk_Law_154 li_Law_154 hxx rfl ⟨rfl, rfl, (Nat.le_of_ble_eq_true rfl), (Nat.le_of_ble_eq_true rfl)⟩ rfl hl.1 rfl (Nat.le_of_ble_eq_true rfl) dL_law_957 ⟨(show cells + 0 ≤ 689485 by omega), (show slots + 0 ≤ 7027648 by omega)⟩ (fun r FC1 H locs hq hJ hS => ?_)
  obtain ⟨rfl, rfl⟩ := hq
  refine lv_aload_n hx hb dL_law_960 rfl (lv_at hl 2 rfl) ?_
  refine aw_calli E hJ.symm hS (As := []) (rest := [.int (nI (ah_cv P S S.length).2)]) (b := mo) (fun A => m_covered l A D FM hM) lk_Law_157 li_Law_157 hmm rfl ⟨rfl, rfl, (Nat.le_of_ble_eq_true rfl), (Nat.le_of_ble_eq_true rfl)⟩ rfl hl.1 rfl (Nat.le_of_ble_eq_true rfl) dL_law_961 ⟨(show cells + 0 + 0 ≤ 689485 by omega), (show slots + 0 + 0 ≤ 7027648 by omega)⟩ (fun r2 FM1 H locs hq2 hJ hS => ?_)
  obtain ⟨hM1, hv2⟩ := hq2
  have hJ := hJ.symm
  have hv3 : r2 = nI (ah_cv P S S.length).2 := hv2 rfl
  subst hv3
  refine lv_icmp_eq (tgt := 1311) hx hb dL_law_964 (by decide) (fun _ => ?_) (fun h9 => absurd rfl h9)
  exact W.widen (by omega) (by omega) (kk _ _ _ _ _ ⟨_, _, _, _, _, _, hC, hM1, _, ho⟩ hJ hS (lv_sub hl [0, 1, 2, 3, 4] rfl))
set_option maxHeartbeats 4000000 in
set_option maxRecDepth 100000 in
/-- 21: mostApart -/
theorem lw_c21 (E : ah_E (aw_O s) D p s m #[Value.ref b] meth c "AhoarchLaw" cL_law 7) (hl1 : l.stackTraces = false) (hX : va_X b L xs s s.heap) (hbl : b < s.heap.size) (hL : L ≤ 1536) (hi : i + 3 ≤ L) (hst : aw_St D FC FM x mo o) (hJ : aw_J (aw_O s) D FC FM H) (hS : va_S (aw_O s) s.heap H locs) (hl : lv_has ls 7 [(0, .ref b), (1, .ref x), (2, .ref mo), (3, .ref o), (4, .int (nI i))]) (hcs : cells + 4 ≤ 689485) (hss : slots + 16 ≤ 7027648) (kk : lw_K p l e s m below meth c Q D b x mo o i cells slots) : W p l e room_1 s m #[Value.ref b] below meth c H locs cells slots Q (F0 m 969 ls []) := by
  obtain ⟨P, n, dr, S, td, th, hC, hM, fo, ho⟩ := hst
  obtain ⟨fsx, hxx⟩ := hC.x
  obtain ⟨fsm, hmm⟩ := hM.x
  have hx := E.1
  have hb := E.2.1
  refine lv_aload_n hx hb dL_law_969 rfl (lv_at hl 1 rfl) ?_
  refine aw_calli E hJ hS (As := []) (rest := []) (b := x) (fun A => c_mostApart l A D FC hC) lk_Law_158 li_Law_158 hxx rfl ⟨rfl, rfl, (Nat.le_of_ble_eq_true rfl), (Nat.le_of_ble_eq_true rfl)⟩ rfl hl.1 rfl (Nat.le_of_ble_eq_true rfl) dL_law_970 ⟨(show cells + 0 ≤ 689485 by omega), (show slots + 0 ≤ 7027648 by omega)⟩ (fun r FC1 H locs hq hJ hS => ?_)
  obtain ⟨rfl, hC1, hout⟩ := hq
  have ho1 : FC1 o = some (ah_al D 1 fo) := (hout o fo ho).trans ho
  refine lv_aload_n hx hb dL_law_973 rfl (lv_at hl 2 rfl) ?_
  refine aw_calli E hJ.symm hS (As := []) (rest := [.int (nI (ah_chs P S 2).length)]) (b := mo) (fun A => m_mostApart l A D FM hM) lk_Law_161 li_Law_161 hmm rfl ⟨rfl, rfl, (Nat.le_of_ble_eq_true rfl), (Nat.le_of_ble_eq_true rfl)⟩ rfl hl.1 rfl (Nat.le_of_ble_eq_true rfl) dL_law_974 ⟨(show cells + 0 + 0 ≤ 689485 by omega), (show slots + 0 + 0 ≤ 7027648 by omega)⟩ (fun r2 FM1 H locs hq2 hJ hS => ?_)
  obtain ⟨hM1, hv2⟩ := hq2
  have hJ := hJ.symm
  have hv3 : r2 = nI (ah_chs P S 2).length := hv2 rfl
  subst hv3
  refine lv_icmp_eq (tgt := 1311) hx hb dL_law_977 (by decide) (fun _ => ?_) (fun h9 => absurd rfl h9)
  exact W.widen (by omega) (by omega) (kk _ _ _ _ _ ⟨_, _, _, _, _, _, hC1, hM1, _, ho1⟩ hJ hS (lv_sub hl [0, 1, 2, 3, 4] rfl))
set_option maxHeartbeats 4000000 in
set_option maxRecDepth 100000 in
/-- 22: chosen -/
theorem lw_c22 (E : ah_E (aw_O s) D p s m #[Value.ref b] meth c "AhoarchLaw" cL_law 7) (hl1 : l.stackTraces = false) (hX : va_X b L xs s s.heap) (hbl : b < s.heap.size) (hL : L ≤ 1536) (hi : i + 3 ≤ L) (hst : aw_St D FC FM x mo o) (hJ : aw_J (aw_O s) D FC FM H) (hS : va_S (aw_O s) s.heap H locs) (hl : lv_has ls 7 [(0, .ref b), (1, .ref x), (2, .ref mo), (3, .ref o), (4, .int (nI i))]) (hcs : cells + 4 ≤ 689485) (hss : slots + 16 ≤ 7027648) (kk : lw_K p l e s m below meth c Q D b x mo o i cells slots) : W p l e room_1 s m #[Value.ref b] below meth c H locs cells slots Q (F0 m 982 ls []) := by
  obtain ⟨P, n, dr, S, td, th, hC, hM, fo, ho⟩ := hst
  obtain ⟨fsx, hxx⟩ := hC.x
  obtain ⟨fsm, hmm⟩ := hM.x
  have hx := E.1
  have hb := E.2.1
  refine lv_aload_n hx hb dL_law_982 rfl (lv_at hl 1 rfl) ?_
  refine lv_aload_n hx hb dL_law_983 rfl (lv_at hl 0 rfl) ?_
  refine lv_iload hx hb dL_law_984 (lv_at hl 4 rfl) ?_
  refine lv_iconst (v := (nI 1)) hx hb dL_law_986 (by decide) ?_
  refine ah_iadd hx hb dL_law_987 ?_
  refine aw_sld E hX hbl hS (by omega) hL dL_law_988 ?_
  refine lv_aload_n hx hb dL_law_989 rfl (lv_at hl 3 rfl) ?_
  refine aw_xcall E hJ hS (As := [.ref x, .int (xs (i + 1)), .ref o]) (rest := []) (fun A => w_chosen l hl1 A D FC hC ho (v0 := xs (i + 1))) awl_162 ⟨rfl, rfl, (Nat.le_of_ble_eq_true rfl), (Nat.le_of_ble_eq_true rfl)⟩ rfl hl.1 rfl (Nat.le_of_ble_eq_true rfl) dL_law_990 ⟨(show cells + 1 ≤ 689485 by omega), (show slots + 6 ≤ 7027648 by omega)⟩ (fun r FC1 H locs hq hJ hS => ?_)
  obtain ⟨a, ha⟩ : ∃ a : ah_Ans, a = sp_chosen P n dr S td (xs (i + 1)) := ⟨_, rfl⟩
  have hab : a.1 ≤ 2 := by rw [ha]; exact sb_chosen
  rw [← ha] at hq
  obtain ⟨hr, hC1, f1, ho1, hf1⟩ := hq
  subst hr
  refine lv_istore (lv' := [(5, .int (nI a.1)), (0, .ref b), (1, .ref x), (2, .ref mo), (3, .ref o), (4, .int (nI i))]) hx hb dL_law_993 hl (by decide) rfl (fun ls hl => ?_)
  refine lv_aload_n hx hb dL_law_995 rfl (lv_at hl 3 rfl) ?_
  refine lv_aload_n hx hb dL_law_996 rfl (lv_at hl 1 rfl) ?_
  refine lv_iload hx hb dL_law_997 (lv_at hl 5 rfl) ?_
  refine lv_iconst (v := (nI 1)) hx hb dL_law_999 (by decide) ?_
  refine ah_iadd hx hb dL_law_1000 ?_
  refine aw_sld E hX hbl hS (by omega) hL dL_law_1001 ?_
  refine aw_calli E hJ.symm hS (As := [.int (xs (i + 1))]) (rest := []) (b := mo) (fun A => m_chosen l A D FM hM (v0 := xs (i + 1))) lk_Law_164 li_Law_164 hmm rfl ⟨rfl, rfl, (Nat.le_of_ble_eq_true rfl), (Nat.le_of_ble_eq_true rfl)⟩ rfl hl.1 rfl (Nat.le_of_ble_eq_true rfl) dL_law_1002 ⟨(show cells + 1 + 0 ≤ 689485 by omega), (show slots + 6 + 0 ≤ 7027648 by omega)⟩ (fun r2 FM1 H locs hq2 hJ hS => ?_)
  rw [← ha] at hq2
  obtain ⟨hM1, hv2⟩ := hq2
  have hJ := hJ.symm
  refine lv_istore (lv' := [(6, .int r2), (5, .int (nI a.1)), (0, .ref b), (1, .ref x), (2, .ref mo), (3, .ref o), (4, .int (nI i))]) hx hb dL_law_1005 hl (by decide) rfl (fun ls hl => ?_)
  refine lv_aload_n hx hb dL_law_1007 rfl (lv_at hl 4 rfl) ?_
  obtain ⟨fsm1, hmm1⟩ := hM1.x
  refine aw_calli E hJ.symm hS (As := []) (rest := []) (b := mo) (fun A => m_thrown2 l A D FM1 hM1) lk_Law_83 li_Law_83 hmm1 rfl ⟨rfl, rfl, (Nat.le_of_ble_eq_true rfl), (Nat.le_of_ble_eq_true rfl)⟩ rfl hl.1 rfl (Nat.le_of_ble_eq_true rfl) dL_law_1008 ⟨(show cells + 1 + 0 + 0 ≤ 689485 by omega), (show slots + 6 + 0 + 0 ≤ 7027648 by omega)⟩ (fun r3 FM2 H locs hq3 hJ hS => ?_)
  obtain ⟨rfl, rfl⟩ := hq3
  have hJ := hJ.symm
  refine lv_iload hx hb dL_law_1011 (lv_at hl 1 rfl) ?_
  refine lv_icmp_eq (tgt := 1018) hx hb dL_law_1013 (by decide) (fun _ => ?_) (fun h9 => absurd rfl h9)
  refine lv_iload hx hb dL_law_1018 (lv_at hl 1 rfl) ?_
  refine ah_if_ne (tgt := 1035) hx hb (by omega) dL_law_1020 (by decide) (fun h7 => ?_) (fun h0 => ?_)
  · refine lv_goto (tgt := 1311) hx hb dL_law_1035 (by decide) ?_
    exact W.widen (by omega) (by omega) (kk _ _ _ _ _ ⟨_, _, _, _, _, _, hC1, hM1, _, ho1⟩ hJ hS (lv_sub hl [2, 3, 4, 5, 6] rfl))
  refine lv_aload_n hx hb dL_law_1023 rfl (lv_at hl 5 rfl) ?_
  refine lv_iconst (v := (nI 0)) hx hb dL_law_1024 (by decide) ?_
  refine ah_lald E hJ.K ho1 (by omega) (by omega) dL_law_1025 ?_
  refine lv_iload hx hb dL_law_1026 (lv_at hl 0 rfl) ?_
  refine lv_i2l (v := (Int32.toInt64 r2)) hx hb dL_law_1028 rfl ?_
  refine W.lcmp hx hb dL_law_1029 ?_
  refine lv_if_eq (tgt := 1035) hx hb dL_law_1030 (by decide) (fun _ => ?_) (fun h9 => absurd (by rw [hf1 h0, hv2 h0]; exact lg_cmp_0 _) h9)
  refine lv_goto (tgt := 1311) hx hb dL_law_1035 (by decide) ?_
  exact W.widen (by omega) (by omega) (kk _ _ _ _ _ ⟨_, _, _, _, _, _, hC1, hM1, _, ho1⟩ hJ hS (lv_sub hl [2, 3, 4, 5, 6] rfl))
set_option maxHeartbeats 4000000 in
set_option maxRecDepth 100000 in
/-- 23: chosenPattern -/
theorem lw_c23 (E : ah_E (aw_O s) D p s m #[Value.ref b] meth c "AhoarchLaw" cL_law 7) (hl1 : l.stackTraces = false) (hX : va_X b L xs s s.heap) (hbl : b < s.heap.size) (hL : L ≤ 1536) (hi : i + 3 ≤ L) (hst : aw_St D FC FM x mo o) (hJ : aw_J (aw_O s) D FC FM H) (hS : va_S (aw_O s) s.heap H locs) (hl : lv_has ls 7 [(0, .ref b), (1, .ref x), (2, .ref mo), (3, .ref o), (4, .int (nI i))]) (hcs : cells + 4 ≤ 689485) (hss : slots + 16 ≤ 7027648) (kk : lw_K p l e s m below meth c Q D b x mo o i cells slots) : W p l e room_1 s m #[Value.ref b] below meth c H locs cells slots Q (F0 m 1038 ls []) := by
  obtain ⟨P, n, dr, S, td, th, hC, hM, fo, ho⟩ := hst
  obtain ⟨fsx, hxx⟩ := hC.x
  obtain ⟨fsm, hmm⟩ := hM.x
  have hx := E.1
  have hb := E.2.1
  refine lv_aload_n hx hb dL_law_1038 rfl (lv_at hl 1 rfl) ?_
  refine lv_aload_n hx hb dL_law_1039 rfl (lv_at hl 0 rfl) ?_
  refine lv_iload hx hb dL_law_1040 (lv_at hl 4 rfl) ?_
  refine lv_iconst (v := (nI 1)) hx hb dL_law_1042 (by decide) ?_
  refine ah_iadd hx hb dL_law_1043 ?_
  refine aw_sld E hX hbl hS (by omega) hL dL_law_1044 ?_
  refine lv_aload_n hx hb dL_law_1045 rfl (lv_at hl 0 rfl) ?_
  refine lv_iload hx hb dL_law_1046 (lv_at hl 4 rfl) ?_
  refine lv_iconst (v := (nI 2)) hx hb dL_law_1048 (by decide) ?_
  refine ah_iadd hx hb dL_law_1049 ?_
  refine aw_sld E hX hbl hS (by omega) hL dL_law_1050 ?_
  refine lv_aload_n hx hb dL_law_1051 rfl (lv_at hl 3 rfl) ?_
  refine aw_xcall E hJ hS (As := [.ref x, .int (xs (i + 1)), .int (xs (i + 2)), .ref o]) (rest := []) (fun A => w_chosenPattern l hl1 A D FC hC ho (v0 := xs (i + 1)) (v1 := xs (i + 2))) awl_165 ⟨rfl, rfl, (Nat.le_of_ble_eq_true rfl), (Nat.le_of_ble_eq_true rfl)⟩ rfl hl.1 rfl (Nat.le_of_ble_eq_true rfl) dL_law_1052 ⟨(show cells + 2 ≤ 689485 by omega), (show slots + 12 ≤ 7027648 by omega)⟩ (fun r FC1 H locs hq hJ hS => ?_)
  obtain ⟨a, ha⟩ : ∃ a : ah_Ans, a = sp_chosenPattern P n dr S td (xs (i + 1)) (xs (i + 2)) := ⟨_, rfl⟩
  have hab : a.1 ≤ 2 := by rw [ha]; exact sb_chosenPattern
  rw [← ha] at hq
  obtain ⟨hr, hC1, f1, ho1, hf1⟩ := hq
  subst hr
  refine lv_istore (lv' := [(5, .int (nI a.1)), (0, .ref b), (1, .ref x), (2, .ref mo), (3, .ref o), (4, .int (nI i))]) hx hb dL_law_1055 hl (by decide) rfl (fun ls hl => ?_)
  refine lv_aload_n hx hb dL_law_1057 rfl (lv_at hl 3 rfl) ?_
  refine lv_aload_n hx hb dL_law_1058 rfl (lv_at hl 1 rfl) ?_
  refine lv_iload hx hb dL_law_1059 (lv_at hl 5 rfl) ?_
  refine lv_iconst (v := (nI 1)) hx hb dL_law_1061 (by decide) ?_
  refine ah_iadd hx hb dL_law_1062 ?_
  refine aw_sld E hX hbl hS (by omega) hL dL_law_1063 ?_
  refine lv_aload_n hx hb dL_law_1064 rfl (lv_at hl 1 rfl) ?_
  refine lv_iload hx hb dL_law_1065 (lv_at hl 5 rfl) ?_
  refine lv_iconst (v := (nI 2)) hx hb dL_law_1067 (by decide) ?_
  refine ah_iadd hx hb dL_law_1068 ?_
  refine aw_sld E hX hbl hS (by omega) hL dL_law_1069 ?_
  refine aw_calli E hJ.symm hS (As := [.int (xs (i + 1)), .int (xs (i + 2))]) (rest := []) (b := mo) (fun A => m_chosenPattern l A D FM hM (v0 := xs (i + 1)) (v1 := xs (i + 2))) lk_Law_167 li_Law_167 hmm rfl ⟨rfl, rfl, (Nat.le_of_ble_eq_true rfl), (Nat.le_of_ble_eq_true rfl)⟩ rfl hl.1 rfl (Nat.le_of_ble_eq_true rfl) dL_law_1070 ⟨(show cells + 2 + 0 ≤ 689485 by omega), (show slots + 12 + 0 ≤ 7027648 by omega)⟩ (fun r2 FM1 H locs hq2 hJ hS => ?_)
  rw [← ha] at hq2
  obtain ⟨hM1, hv2⟩ := hq2
  have hJ := hJ.symm
  refine lv_istore (lv' := [(6, .int r2), (5, .int (nI a.1)), (0, .ref b), (1, .ref x), (2, .ref mo), (3, .ref o), (4, .int (nI i))]) hx hb dL_law_1073 hl (by decide) rfl (fun ls hl => ?_)
  refine lv_aload_n hx hb dL_law_1075 rfl (lv_at hl 4 rfl) ?_
  obtain ⟨fsm1, hmm1⟩ := hM1.x
  refine aw_calli E hJ.symm hS (As := []) (rest := []) (b := mo) (fun A => m_thrown2 l A D FM1 hM1) lk_Law_83 li_Law_83 hmm1 rfl ⟨rfl, rfl, (Nat.le_of_ble_eq_true rfl), (Nat.le_of_ble_eq_true rfl)⟩ rfl hl.1 rfl (Nat.le_of_ble_eq_true rfl) dL_law_1076 ⟨(show cells + 2 + 0 + 0 ≤ 689485 by omega), (show slots + 12 + 0 + 0 ≤ 7027648 by omega)⟩ (fun r3 FM2 H locs hq3 hJ hS => ?_)
  obtain ⟨rfl, rfl⟩ := hq3
  have hJ := hJ.symm
  refine lv_iload hx hb dL_law_1079 (lv_at hl 1 rfl) ?_
  refine lv_icmp_eq (tgt := 1086) hx hb dL_law_1081 (by decide) (fun _ => ?_) (fun h9 => absurd rfl h9)
  refine lv_iload hx hb dL_law_1086 (lv_at hl 1 rfl) ?_
  refine ah_if_ne (tgt := 1103) hx hb (by omega) dL_law_1088 (by decide) (fun h7 => ?_) (fun h0 => ?_)
  · refine lv_goto (tgt := 1311) hx hb dL_law_1103 (by decide) ?_
    exact W.widen (by omega) (by omega) (kk _ _ _ _ _ ⟨_, _, _, _, _, _, hC1, hM1, _, ho1⟩ hJ hS (lv_sub hl [2, 3, 4, 5, 6] rfl))
  refine lv_aload_n hx hb dL_law_1091 rfl (lv_at hl 5 rfl) ?_
  refine lv_iconst (v := (nI 0)) hx hb dL_law_1092 (by decide) ?_
  refine ah_lald E hJ.K ho1 (by omega) (by omega) dL_law_1093 ?_
  refine lv_iload hx hb dL_law_1094 (lv_at hl 0 rfl) ?_
  refine lv_i2l (v := (Int32.toInt64 r2)) hx hb dL_law_1096 rfl ?_
  refine W.lcmp hx hb dL_law_1097 ?_
  refine lv_if_eq (tgt := 1103) hx hb dL_law_1098 (by decide) (fun _ => ?_) (fun h9 => absurd (by rw [hf1 h0, hv2 h0]; exact lg_cmp_0 _) h9)
  refine lv_goto (tgt := 1311) hx hb dL_law_1103 (by decide) ?_
  exact W.widen (by omega) (by omega) (kk _ _ _ _ _ ⟨_, _, _, _, _, _, hC1, hM1, _, ho1⟩ hJ hS (lv_sub hl [2, 3, 4, 5, 6] rfl))
set_option maxHeartbeats 4000000 in
set_option maxRecDepth 100000 in
/-- 24: chosenPlace -/
theorem lw_c24 (E : ah_E (aw_O s) D p s m #[Value.ref b] meth c "AhoarchLaw" cL_law 7) (hl1 : l.stackTraces = false) (hX : va_X b L xs s s.heap) (hbl : b < s.heap.size) (hL : L ≤ 1536) (hi : i + 3 ≤ L) (hst : aw_St D FC FM x mo o) (hJ : aw_J (aw_O s) D FC FM H) (hS : va_S (aw_O s) s.heap H locs) (hl : lv_has ls 7 [(0, .ref b), (1, .ref x), (2, .ref mo), (3, .ref o), (4, .int (nI i))]) (hcs : cells + 4 ≤ 689485) (hss : slots + 16 ≤ 7027648) (kk : lw_K p l e s m below meth c Q D b x mo o i cells slots) : W p l e room_1 s m #[Value.ref b] below meth c H locs cells slots Q (F0 m 1106 ls []) := by
  obtain ⟨P, n, dr, S, td, th, hC, hM, fo, ho⟩ := hst
  obtain ⟨fsx, hxx⟩ := hC.x
  obtain ⟨fsm, hmm⟩ := hM.x
  have hx := E.1
  have hb := E.2.1
  refine lv_aload_n hx hb dL_law_1106 rfl (lv_at hl 1 rfl) ?_
  refine lv_aload_n hx hb dL_law_1107 rfl (lv_at hl 0 rfl) ?_
  refine lv_iload hx hb dL_law_1108 (lv_at hl 4 rfl) ?_
  refine lv_iconst (v := (nI 1)) hx hb dL_law_1110 (by decide) ?_
  refine ah_iadd hx hb dL_law_1111 ?_
  refine aw_sld E hX hbl hS (by omega) hL dL_law_1112 ?_
  refine lv_aload_n hx hb dL_law_1113 rfl (lv_at hl 0 rfl) ?_
  refine lv_iload hx hb dL_law_1114 (lv_at hl 4 rfl) ?_
  refine lv_iconst (v := (nI 2)) hx hb dL_law_1116 (by decide) ?_
  refine ah_iadd hx hb dL_law_1117 ?_
  refine aw_sld E hX hbl hS (by omega) hL dL_law_1118 ?_
  refine lv_aload_n hx hb dL_law_1119 rfl (lv_at hl 3 rfl) ?_
  refine aw_xcall E hJ hS (As := [.ref x, .int (xs (i + 1)), .int (xs (i + 2)), .ref o]) (rest := []) (fun A => w_chosenPlace l hl1 A D FC hC ho (v0 := xs (i + 1)) (v1 := xs (i + 2))) awl_168 ⟨rfl, rfl, (Nat.le_of_ble_eq_true rfl), (Nat.le_of_ble_eq_true rfl)⟩ rfl hl.1 rfl (Nat.le_of_ble_eq_true rfl) dL_law_1120 ⟨(show cells + 2 ≤ 689485 by omega), (show slots + 12 ≤ 7027648 by omega)⟩ (fun r FC1 H locs hq hJ hS => ?_)
  obtain ⟨a, ha⟩ : ∃ a : ah_Ans, a = sp_chosenPlace P n dr S td (xs (i + 1)) (xs (i + 2)) := ⟨_, rfl⟩
  have hab : a.1 ≤ 2 := by rw [ha]; exact sb_chosenPlace
  rw [← ha] at hq
  obtain ⟨hr, hC1, f1, ho1, hf1⟩ := hq
  subst hr
  refine lv_istore (lv' := [(5, .int (nI a.1)), (0, .ref b), (1, .ref x), (2, .ref mo), (3, .ref o), (4, .int (nI i))]) hx hb dL_law_1123 hl (by decide) rfl (fun ls hl => ?_)
  refine lv_aload_n hx hb dL_law_1125 rfl (lv_at hl 3 rfl) ?_
  refine lv_aload_n hx hb dL_law_1126 rfl (lv_at hl 1 rfl) ?_
  refine lv_iload hx hb dL_law_1127 (lv_at hl 5 rfl) ?_
  refine lv_iconst (v := (nI 1)) hx hb dL_law_1129 (by decide) ?_
  refine ah_iadd hx hb dL_law_1130 ?_
  refine aw_sld E hX hbl hS (by omega) hL dL_law_1131 ?_
  refine lv_aload_n hx hb dL_law_1132 rfl (lv_at hl 1 rfl) ?_
  refine lv_iload hx hb dL_law_1133 (lv_at hl 5 rfl) ?_
  refine lv_iconst (v := (nI 2)) hx hb dL_law_1135 (by decide) ?_
  refine ah_iadd hx hb dL_law_1136 ?_
  refine aw_sld E hX hbl hS (by omega) hL dL_law_1137 ?_
  refine aw_calli E hJ.symm hS (As := [.int (xs (i + 1)), .int (xs (i + 2))]) (rest := []) (b := mo) (fun A => m_chosenPlace l A D FM hM (v0 := xs (i + 1)) (v1 := xs (i + 2))) lk_Law_170 li_Law_170 hmm rfl ⟨rfl, rfl, (Nat.le_of_ble_eq_true rfl), (Nat.le_of_ble_eq_true rfl)⟩ rfl hl.1 rfl (Nat.le_of_ble_eq_true rfl) dL_law_1138 ⟨(show cells + 2 + 0 ≤ 689485 by omega), (show slots + 12 + 0 ≤ 7027648 by omega)⟩ (fun r2 FM1 H locs hq2 hJ hS => ?_)
  rw [← ha] at hq2
  obtain ⟨hM1, hv2⟩ := hq2
  have hJ := hJ.symm
  refine lv_istore (lv' := [(6, .int r2), (5, .int (nI a.1)), (0, .ref b), (1, .ref x), (2, .ref mo), (3, .ref o), (4, .int (nI i))]) hx hb dL_law_1141 hl (by decide) rfl (fun ls hl => ?_)
  refine lv_aload_n hx hb dL_law_1143 rfl (lv_at hl 4 rfl) ?_
  obtain ⟨fsm1, hmm1⟩ := hM1.x
  refine aw_calli E hJ.symm hS (As := []) (rest := []) (b := mo) (fun A => m_thrown2 l A D FM1 hM1) lk_Law_83 li_Law_83 hmm1 rfl ⟨rfl, rfl, (Nat.le_of_ble_eq_true rfl), (Nat.le_of_ble_eq_true rfl)⟩ rfl hl.1 rfl (Nat.le_of_ble_eq_true rfl) dL_law_1144 ⟨(show cells + 2 + 0 + 0 ≤ 689485 by omega), (show slots + 12 + 0 + 0 ≤ 7027648 by omega)⟩ (fun r3 FM2 H locs hq3 hJ hS => ?_)
  obtain ⟨rfl, rfl⟩ := hq3
  have hJ := hJ.symm
  refine lv_iload hx hb dL_law_1147 (lv_at hl 1 rfl) ?_
  refine lv_icmp_eq (tgt := 1154) hx hb dL_law_1149 (by decide) (fun _ => ?_) (fun h9 => absurd rfl h9)
  refine lv_iload hx hb dL_law_1154 (lv_at hl 1 rfl) ?_
  refine ah_if_ne (tgt := 1171) hx hb (by omega) dL_law_1156 (by decide) (fun h7 => ?_) (fun h0 => ?_)
  · refine lv_goto (tgt := 1311) hx hb dL_law_1171 (by decide) ?_
    exact W.widen (by omega) (by omega) (kk _ _ _ _ _ ⟨_, _, _, _, _, _, hC1, hM1, _, ho1⟩ hJ hS (lv_sub hl [2, 3, 4, 5, 6] rfl))
  refine lv_aload_n hx hb dL_law_1159 rfl (lv_at hl 5 rfl) ?_
  refine lv_iconst (v := (nI 0)) hx hb dL_law_1160 (by decide) ?_
  refine ah_lald E hJ.K ho1 (by omega) (by omega) dL_law_1161 ?_
  refine lv_iload hx hb dL_law_1162 (lv_at hl 0 rfl) ?_
  refine lv_i2l (v := (Int32.toInt64 r2)) hx hb dL_law_1164 rfl ?_
  refine W.lcmp hx hb dL_law_1165 ?_
  refine lv_if_eq (tgt := 1171) hx hb dL_law_1166 (by decide) (fun _ => ?_) (fun h9 => absurd (by rw [hf1 h0, hv2 h0]; exact lg_cmp_0 _) h9)
  refine lv_goto (tgt := 1311) hx hb dL_law_1171 (by decide) ?_
  exact W.widen (by omega) (by omega) (kk _ _ _ _ _ ⟨_, _, _, _, _, _, hC1, hM1, _, ho1⟩ hJ hS (lv_sub hl [2, 3, 4, 5, 6] rfl))
set_option maxHeartbeats 4000000 in
set_option maxRecDepth 100000 in
/-- 25: replacedLength -/
theorem lw_c25 (E : ah_E (aw_O s) D p s m #[Value.ref b] meth c "AhoarchLaw" cL_law 7) (hl1 : l.stackTraces = false) (hX : va_X b L xs s s.heap) (hbl : b < s.heap.size) (hL : L ≤ 1536) (hi : i + 3 ≤ L) (hst : aw_St D FC FM x mo o) (hJ : aw_J (aw_O s) D FC FM H) (hS : va_S (aw_O s) s.heap H locs) (hl : lv_has ls 7 [(0, .ref b), (1, .ref x), (2, .ref mo), (3, .ref o), (4, .int (nI i))]) (hcs : cells + 4 ≤ 689485) (hss : slots + 16 ≤ 7027648) (kk : lw_K p l e s m below meth c Q D b x mo o i cells slots) : W p l e room_1 s m #[Value.ref b] below meth c H locs cells slots Q (F0 m 1174 ls []) := by
  obtain ⟨P, n, dr, S, td, th, hC, hM, fo, ho⟩ := hst
  obtain ⟨fsx, hxx⟩ := hC.x
  obtain ⟨fsm, hmm⟩ := hM.x
  have hx := E.1
  have hb := E.2.1
  refine lv_aload_n hx hb dL_law_1174 rfl (lv_at hl 1 rfl) ?_
  refine lv_aload_n hx hb dL_law_1175 rfl (lv_at hl 0 rfl) ?_
  refine lv_iload hx hb dL_law_1176 (lv_at hl 4 rfl) ?_
  refine lv_iconst (v := (nI 1)) hx hb dL_law_1178 (by decide) ?_
  refine ah_iadd hx hb dL_law_1179 ?_
  refine aw_sld E hX hbl hS (by omega) hL dL_law_1180 ?_
  refine lv_aload_n hx hb dL_law_1181 rfl (lv_at hl 3 rfl) ?_
  refine aw_xcall E hJ hS (As := [.ref x, .int (xs (i + 1)), .ref o]) (rest := []) (fun A => w_replacedLength l hl1 A D FC hC ho (v0 := xs (i + 1))) awl_171 ⟨rfl, rfl, (Nat.le_of_ble_eq_true rfl), (Nat.le_of_ble_eq_true rfl)⟩ rfl hl.1 rfl (Nat.le_of_ble_eq_true rfl) dL_law_1182 ⟨(show cells + 1 ≤ 689485 by omega), (show slots + 6 ≤ 7027648 by omega)⟩ (fun r FC1 H locs hq hJ hS => ?_)
  obtain ⟨a, ha⟩ : ∃ a : ah_Ans, a = sp_replacedLength P n dr S td (xs (i + 1)) := ⟨_, rfl⟩
  have hab : a.1 ≤ 2 := by rw [ha]; exact sb_replacedLength
  rw [← ha] at hq
  obtain ⟨hr, hC1, f1, ho1, hf1⟩ := hq
  subst hr
  refine lv_istore (lv' := [(5, .int (nI a.1)), (0, .ref b), (1, .ref x), (2, .ref mo), (3, .ref o), (4, .int (nI i))]) hx hb dL_law_1185 hl (by decide) rfl (fun ls hl => ?_)
  refine lv_aload_n hx hb dL_law_1187 rfl (lv_at hl 3 rfl) ?_
  refine lv_aload_n hx hb dL_law_1188 rfl (lv_at hl 1 rfl) ?_
  refine lv_iload hx hb dL_law_1189 (lv_at hl 5 rfl) ?_
  refine lv_iconst (v := (nI 1)) hx hb dL_law_1191 (by decide) ?_
  refine ah_iadd hx hb dL_law_1192 ?_
  refine aw_sld E hX hbl hS (by omega) hL dL_law_1193 ?_
  refine aw_calli E hJ.symm hS (As := [.int (xs (i + 1))]) (rest := []) (b := mo) (fun A => m_replacedLength l A D FM hM (v0 := xs (i + 1))) lk_Law_173 li_Law_173 hmm rfl ⟨rfl, rfl, (Nat.le_of_ble_eq_true rfl), (Nat.le_of_ble_eq_true rfl)⟩ rfl hl.1 rfl (Nat.le_of_ble_eq_true rfl) dL_law_1194 ⟨(show cells + 1 + 0 ≤ 689485 by omega), (show slots + 6 + 0 ≤ 7027648 by omega)⟩ (fun r2 FM1 H locs hq2 hJ hS => ?_)
  rw [← ha] at hq2
  obtain ⟨hM1, hv2⟩ := hq2
  have hJ := hJ.symm
  refine lv_istore (lv' := [(6, .int r2), (5, .int (nI a.1)), (0, .ref b), (1, .ref x), (2, .ref mo), (3, .ref o), (4, .int (nI i))]) hx hb dL_law_1197 hl (by decide) rfl (fun ls hl => ?_)
  refine lv_aload_n hx hb dL_law_1199 rfl (lv_at hl 4 rfl) ?_
  obtain ⟨fsm1, hmm1⟩ := hM1.x
  refine aw_calli E hJ.symm hS (As := []) (rest := []) (b := mo) (fun A => m_thrown2 l A D FM1 hM1) lk_Law_83 li_Law_83 hmm1 rfl ⟨rfl, rfl, (Nat.le_of_ble_eq_true rfl), (Nat.le_of_ble_eq_true rfl)⟩ rfl hl.1 rfl (Nat.le_of_ble_eq_true rfl) dL_law_1200 ⟨(show cells + 1 + 0 + 0 ≤ 689485 by omega), (show slots + 6 + 0 + 0 ≤ 7027648 by omega)⟩ (fun r3 FM2 H locs hq3 hJ hS => ?_)
  obtain ⟨rfl, rfl⟩ := hq3
  have hJ := hJ.symm
  refine lv_iload hx hb dL_law_1203 (lv_at hl 1 rfl) ?_
  refine lv_icmp_eq (tgt := 1210) hx hb dL_law_1205 (by decide) (fun _ => ?_) (fun h9 => absurd rfl h9)
  refine lv_iload hx hb dL_law_1210 (lv_at hl 1 rfl) ?_
  refine ah_if_ne (tgt := 1227) hx hb (by omega) dL_law_1212 (by decide) (fun h7 => ?_) (fun h0 => ?_)
  · refine lv_goto (tgt := 1311) hx hb dL_law_1227 (by decide) ?_
    exact W.widen (by omega) (by omega) (kk _ _ _ _ _ ⟨_, _, _, _, _, _, hC1, hM1, _, ho1⟩ hJ hS (lv_sub hl [2, 3, 4, 5, 6] rfl))
  refine lv_aload_n hx hb dL_law_1215 rfl (lv_at hl 5 rfl) ?_
  refine lv_iconst (v := (nI 0)) hx hb dL_law_1216 (by decide) ?_
  refine ah_lald E hJ.K ho1 (by omega) (by omega) dL_law_1217 ?_
  refine lv_iload hx hb dL_law_1218 (lv_at hl 0 rfl) ?_
  refine lv_i2l (v := (Int32.toInt64 r2)) hx hb dL_law_1220 rfl ?_
  refine W.lcmp hx hb dL_law_1221 ?_
  refine lv_if_eq (tgt := 1227) hx hb dL_law_1222 (by decide) (fun _ => ?_) (fun h9 => absurd (by rw [hf1 h0, hv2 h0]; exact lg_cmp_0 _) h9)
  refine lv_goto (tgt := 1311) hx hb dL_law_1227 (by decide) ?_
  exact W.widen (by omega) (by omega) (kk _ _ _ _ _ ⟨_, _, _, _, _, _, hC1, hM1, _, ho1⟩ hJ hS (lv_sub hl [2, 3, 4, 5, 6] rfl))
set_option maxHeartbeats 4000000 in
set_option maxRecDepth 100000 in
/-- 26: replaced -/
theorem lw_c26 (E : ah_E (aw_O s) D p s m #[Value.ref b] meth c "AhoarchLaw" cL_law 7) (hl1 : l.stackTraces = false) (hX : va_X b L xs s s.heap) (hbl : b < s.heap.size) (hL : L ≤ 1536) (hi : i + 3 ≤ L) (hst : aw_St D FC FM x mo o) (hJ : aw_J (aw_O s) D FC FM H) (hS : va_S (aw_O s) s.heap H locs) (hl : lv_has ls 7 [(0, .ref b), (1, .ref x), (2, .ref mo), (3, .ref o), (4, .int (nI i))]) (hcs : cells + 4 ≤ 689485) (hss : slots + 16 ≤ 7027648) (kk : lw_K p l e s m below meth c Q D b x mo o i cells slots) : W p l e room_1 s m #[Value.ref b] below meth c H locs cells slots Q (F0 m 1230 ls []) := by
  obtain ⟨P, n, dr, S, td, th, hC, hM, fo, ho⟩ := hst
  obtain ⟨fsx, hxx⟩ := hC.x
  obtain ⟨fsm, hmm⟩ := hM.x
  have hx := E.1
  have hb := E.2.1
  refine lv_aload_n hx hb dL_law_1230 rfl (lv_at hl 1 rfl) ?_
  refine lv_aload_n hx hb dL_law_1231 rfl (lv_at hl 0 rfl) ?_
  refine lv_iload hx hb dL_law_1232 (lv_at hl 4 rfl) ?_
  refine lv_iconst (v := (nI 1)) hx hb dL_law_1234 (by decide) ?_
  refine ah_iadd hx hb dL_law_1235 ?_
  refine aw_sld E hX hbl hS (by omega) hL dL_law_1236 ?_
  refine lv_aload_n hx hb dL_law_1237 rfl (lv_at hl 0 rfl) ?_
  refine lv_iload hx hb dL_law_1238 (lv_at hl 4 rfl) ?_
  refine lv_iconst (v := (nI 2)) hx hb dL_law_1240 (by decide) ?_
  refine ah_iadd hx hb dL_law_1241 ?_
  refine aw_sld E hX hbl hS (by omega) hL dL_law_1242 ?_
  refine lv_aload_n hx hb dL_law_1243 rfl (lv_at hl 3 rfl) ?_
  refine aw_xcall E hJ hS (As := [.ref x, .int (xs (i + 1)), .int (xs (i + 2)), .ref o]) (rest := []) (fun A => w_replaced l hl1 A D FC hC ho (v0 := xs (i + 1)) (v1 := xs (i + 2))) awl_174 ⟨rfl, rfl, (Nat.le_of_ble_eq_true rfl), (Nat.le_of_ble_eq_true rfl)⟩ rfl hl.1 rfl (Nat.le_of_ble_eq_true rfl) dL_law_1244 ⟨(show cells + 2 ≤ 689485 by omega), (show slots + 12 ≤ 7027648 by omega)⟩ (fun r FC1 H locs hq hJ hS => ?_)
  obtain ⟨a, ha⟩ : ∃ a : ah_Ans, a = sp_replaced P n dr S td (xs (i + 1)) (xs (i + 2)) := ⟨_, rfl⟩
  have hab : a.1 ≤ 2 := by rw [ha]; exact sb_replaced
  rw [← ha] at hq
  obtain ⟨hr, hC1, f1, ho1, hf1⟩ := hq
  subst hr
  refine lv_istore (lv' := [(5, .int (nI a.1)), (0, .ref b), (1, .ref x), (2, .ref mo), (3, .ref o), (4, .int (nI i))]) hx hb dL_law_1247 hl (by decide) rfl (fun ls hl => ?_)
  refine lv_aload_n hx hb dL_law_1249 rfl (lv_at hl 3 rfl) ?_
  refine lv_aload_n hx hb dL_law_1250 rfl (lv_at hl 1 rfl) ?_
  refine lv_iload hx hb dL_law_1251 (lv_at hl 5 rfl) ?_
  refine lv_iconst (v := (nI 1)) hx hb dL_law_1253 (by decide) ?_
  refine ah_iadd hx hb dL_law_1254 ?_
  refine aw_sld E hX hbl hS (by omega) hL dL_law_1255 ?_
  refine lv_aload_n hx hb dL_law_1256 rfl (lv_at hl 1 rfl) ?_
  refine lv_iload hx hb dL_law_1257 (lv_at hl 5 rfl) ?_
  refine lv_iconst (v := (nI 2)) hx hb dL_law_1259 (by decide) ?_
  refine ah_iadd hx hb dL_law_1260 ?_
  refine aw_sld E hX hbl hS (by omega) hL dL_law_1261 ?_
  refine aw_calli E hJ.symm hS (As := [.int (xs (i + 1)), .int (xs (i + 2))]) (rest := []) (b := mo) (fun A => m_replaced l A D FM hM (v0 := xs (i + 1)) (v1 := xs (i + 2))) lk_Law_176 li_Law_176 hmm rfl ⟨rfl, rfl, (Nat.le_of_ble_eq_true rfl), (Nat.le_of_ble_eq_true rfl)⟩ rfl hl.1 rfl (Nat.le_of_ble_eq_true rfl) dL_law_1262 ⟨(show cells + 2 + 0 ≤ 689485 by omega), (show slots + 12 + 0 ≤ 7027648 by omega)⟩ (fun r2 FM1 H locs hq2 hJ hS => ?_)
  rw [← ha] at hq2
  obtain ⟨hM1, hv2⟩ := hq2
  have hJ := hJ.symm
  refine lv_istore (lv' := [(6, .int r2), (5, .int (nI a.1)), (0, .ref b), (1, .ref x), (2, .ref mo), (3, .ref o), (4, .int (nI i))]) hx hb dL_law_1265 hl (by decide) rfl (fun ls hl => ?_)
  refine lv_aload_n hx hb dL_law_1267 rfl (lv_at hl 4 rfl) ?_
  obtain ⟨fsm1, hmm1⟩ := hM1.x
  refine aw_calli E hJ.symm hS (As := []) (rest := []) (b := mo) (fun A => m_thrown2 l A D FM1 hM1) lk_Law_83 li_Law_83 hmm1 rfl ⟨rfl, rfl, (Nat.le_of_ble_eq_true rfl), (Nat.le_of_ble_eq_true rfl)⟩ rfl hl.1 rfl (Nat.le_of_ble_eq_true rfl) dL_law_1268 ⟨(show cells + 2 + 0 + 0 ≤ 689485 by omega), (show slots + 12 + 0 + 0 ≤ 7027648 by omega)⟩ (fun r3 FM2 H locs hq3 hJ hS => ?_)
  obtain ⟨rfl, rfl⟩ := hq3
  have hJ := hJ.symm
  refine lv_iload hx hb dL_law_1271 (lv_at hl 1 rfl) ?_
  refine lv_icmp_eq (tgt := 1278) hx hb dL_law_1273 (by decide) (fun _ => ?_) (fun h9 => absurd rfl h9)
  refine lv_iload hx hb dL_law_1278 (lv_at hl 1 rfl) ?_
  refine ah_if_ne (tgt := 1295) hx hb (by omega) dL_law_1280 (by decide) (fun h7 => ?_) (fun h0 => ?_)
  · refine lv_goto (tgt := 1311) hx hb dL_law_1295 (by decide) ?_
    exact W.widen (by omega) (by omega) (kk _ _ _ _ _ ⟨_, _, _, _, _, _, hC1, hM1, _, ho1⟩ hJ hS (lv_sub hl [2, 3, 4, 5, 6] rfl))
  refine lv_aload_n hx hb dL_law_1283 rfl (lv_at hl 5 rfl) ?_
  refine lv_iconst (v := (nI 0)) hx hb dL_law_1284 (by decide) ?_
  refine ah_lald E hJ.K ho1 (by omega) (by omega) dL_law_1285 ?_
  refine lv_iload hx hb dL_law_1286 (lv_at hl 0 rfl) ?_
  refine lv_i2l (v := (Int32.toInt64 r2)) hx hb dL_law_1288 rfl ?_
  refine W.lcmp hx hb dL_law_1289 ?_
  refine lv_if_eq (tgt := 1295) hx hb dL_law_1290 (by decide) (fun _ => ?_) (fun h9 => absurd (by rw [hf1 h0, hv2 h0]; exact lg_cmp_0 _) h9)
  refine lv_goto (tgt := 1311) hx hb dL_law_1295 (by decide) ?_
  exact W.widen (by omega) (by omega) (kk _ _ _ _ _ ⟨_, _, _, _, _, _, hC1, hM1, _, ho1⟩ hJ hS (lv_sub hl [2, 3, 4, 5, 6] rfl))
set_option maxHeartbeats 4000000 in
set_option maxRecDepth 100000 in
/-- 27: certain -/
theorem lw_c27 (E : ah_E (aw_O s) D p s m #[Value.ref b] meth c "AhoarchLaw" cL_law 7) (hl1 : l.stackTraces = false) (hX : va_X b L xs s s.heap) (hbl : b < s.heap.size) (hL : L ≤ 1536) (hi : i + 3 ≤ L) (hst : aw_St D FC FM x mo o) (hJ : aw_J (aw_O s) D FC FM H) (hS : va_S (aw_O s) s.heap H locs) (hl : lv_has ls 7 [(0, .ref b), (1, .ref x), (2, .ref mo), (3, .ref o), (4, .int (nI i))]) (hcs : cells + 4 ≤ 689485) (hss : slots + 16 ≤ 7027648) (kk : lw_K p l e s m below meth c Q D b x mo o i cells slots) : W p l e room_1 s m #[Value.ref b] below meth c H locs cells slots Q (F0 m 1298 ls []) := by
  obtain ⟨P, n, dr, S, td, th, hC, hM, fo, ho⟩ := hst
  obtain ⟨fsx, hxx⟩ := hC.x
  obtain ⟨fsm, hmm⟩ := hM.x
  have hx := E.1
  have hb := E.2.1
  refine lv_aload_n hx hb dL_law_1298 rfl (lv_at hl 1 rfl) ?_
  refine aw_calli E hJ hS (As := []) (rest := []) (b := x) (fun A => c_certain l A D FC hC) lk_Law_177 li_Law_177 hxx rfl ⟨rfl, rfl, (Nat.le_of_ble_eq_true rfl), (Nat.le_of_ble_eq_true rfl)⟩ rfl hl.1 rfl (Nat.le_of_ble_eq_true rfl) dL_law_1299 ⟨(show cells + 0 ≤ 689485 by omega), (show slots + 0 ≤ 7027648 by omega)⟩ (fun r FC1 H locs hq hJ hS => ?_)
  obtain ⟨rfl, rfl⟩ := hq
  refine lv_aload_n hx hb dL_law_1302 rfl (lv_at hl 2 rfl) ?_
  refine aw_calli E hJ.symm hS (As := []) (rest := [.int (nI (ah_ct P S S.length).2.1)]) (b := mo) (fun A => m_certain l A D FM hM) lk_Law_180 li_Law_180 hmm rfl ⟨rfl, rfl, (Nat.le_of_ble_eq_true rfl), (Nat.le_of_ble_eq_true rfl)⟩ rfl hl.1 rfl (Nat.le_of_ble_eq_true rfl) dL_law_1303 ⟨(show cells + 0 + 0 ≤ 689485 by omega), (show slots + 0 + 0 ≤ 7027648 by omega)⟩ (fun r2 FM1 H locs hq2 hJ hS => ?_)
  obtain ⟨hM1, hv2⟩ := hq2
  have hJ := hJ.symm
  have hv3 : r2 = nI (ah_ct P S S.length).2.1 := hv2 rfl
  subst hv3
  refine lv_icmp_eq (tgt := 1311) hx hb dL_law_1306 (by decide) (fun _ => ?_) (fun h9 => absurd rfl h9)
  exact W.widen (by omega) (by omega) (kk _ _ _ _ _ ⟨_, _, _, _, _, _, hC, hM1, _, ho⟩ hJ hS (lv_sub hl [0, 1, 2, 3, 4] rfl))
end LWC
