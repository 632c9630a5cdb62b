/-! the law's loop -/
set_option maxHeartbeats 4000000 in
set_option maxRecDepth 100000 in
theorem law_loop {p : Program} {e : Env} {s : State} {m : MethodId} {below : List Frame} {meth : Method} {c : Code} (l : Launch) (hl1 : l.stackTraces = false) {D : ah_G} {b L x mo o : Nat} {xs : Nat → Int32} (E : ah_E (aw_O s) D p s m #[Value.ref b] meth c "AhoarchLaw" cL_law 7) (hr : meth.sig.returnType = ret) (hX : va_X b L xs s s.heap) (hbl : b < s.heap.size) (hL : L ≤ 1536) : ∀ (fuel j : Nat) (FC FM : ah_F) (H : Heap) (locs : List Loc) (ls : Array Slot), L - 3 * j < fuel → 3 * j ≤ L → aw_St D FC FM x mo o → aw_J (aw_O s) D FC FM H → va_S (aw_O s) s.heap H locs → lv_has ls 7 [(0, .ref b), (1, .ref x), (2, .ref mo), (3, .ref o), (4, .int (nI (3 * j)))] → W p l e room_1 s m #[Value.ref b] below meth c H locs (24 + 4 * j) (3400 + 16 * j) (lw_Z below #[Value.ref b] s) (F0 m 23 ls []) := by
  have hx := E.1
  have hb := E.2.1
  intro fuel
  induction fuel with
  | zero =>
    intro j FC FM H locs ls hm
    exact absurd hm (Nat.not_lt_zero _)
  | succ fuel ih =>
    intro j FC FM H locs ls hm hj hst hJ hS hl
    have hout : ∀ ls : Array Slot, W p l e room_1 s m #[Value.ref b] below meth c H locs (24 + 4 * j) (3400 + 16 * j) (lw_Z below #[Value.ref b] s) (F0 m 1317 ls []) := by
      intro ls
      refine lv_iconst (v := 1) hx hb dL_law_1317 (by decide) ?_
      refine va_forget (fun q hq => hS.2.2 q hq) ?_
      exact W.widen (by omega) (by omega) (lw_ret hx hb hr E.2.2.2.2.2.1 dL_law_1318)
    refine lv_iload hx hb dL_law_23 (lv_at hl 4 rfl) ?_
    refine lv_aload_n hx hb dL_law_25 rfl (lv_at hl 0 rfl) ?_
    refine va_slen hx hb hX hbl (Nat.not_le.mpr hbl) hS dL_law_26 ?_
    refine lv_iconst (v := (nI 3)) hx hb dL_law_27 (by decide) ?_
    by_cases h3 : 3 ≤ L
    · refine ah_isub (a := L) hx hb h3 dL_law_28 ?_
      refine ah_icmp_gt (tgt := 1317) hx hb (by omega) (by omega) dL_law_29 (by decide) (fun _ => hout ls) (fun hc => ?_)
      refine lv_aload_n hx hb dL_law_32 rfl (lv_at hl 0 rfl) ?_
      refine lv_iload hx hb dL_law_33 (lv_at hl 4 rfl) ?_
      refine aw_sld E hX hbl hS (by omega) hL dL_law_35 ?_
      refine lv_bipush (v := (nI 31)) hx hb dL_law_36 (by decide) ?_
      refine lv_iand hx hb dL_law_38 ?_
      obtain ⟨k, hk, hke⟩ : ∃ k : Nat, k < 32 ∧ xs (3 * j) &&& nI 31 = nI k := ⟨_, Nat.mod_lt _ (by decide), pk_and _ 5 (by decide)⟩
      rw [hke]
      have hi : 3 * j + 3 ≤ L := by omega
      have kk : lw_K p l e s m below meth c (lw_Z below #[Value.ref b] s) D b x mo o (3 * j) (24 + 4 * j) (3400 + 16 * j) := by
        intro FC1 FM1 H1 locs1 ls1 hst1 hJ1 hS1 hl1
        refine lv_iinc (v := (nI (3 * (j + 1)))) (lv' := [(4, .int (nI (3 * (j + 1)))), (0, .ref b), (1, .ref x), (2, .ref mo), (3, .ref o)]) hx hb dL_law_1311 hl1 (k := 4) rfl (by rw [show 3 * (j + 1) = 3 * j + 3 by omega]; exact nI_add _ _) (by decide) rfl (fun ls hl => ?_)
        refine lv_goto (tgt := 23) hx hb dL_law_1314 (by decide) ?_
        exact W.widen (by omega) (by omega) (ih (j + 1) FC1 FM1 H1 locs1 ls (by omega) (by omega) hst1 hJ1 hS1 (lv_sub hl [1, 2, 3, 4, 0] rfl))
      have hcs : 24 + 4 * j + 4 ≤ 689485 := by omega
      have hss : 3400 + 16 * j + 16 ≤ 7027648 := by omega
      by_cases hk28 : k < 28
      · have hks : k = 0 ∨ k = 1 ∨ k = 2 ∨ k = 3 ∨ k = 4 ∨ k = 5 ∨ k = 6 ∨ k = 7 ∨ k = 8 ∨ k = 9 ∨ k = 10 ∨ k = 11 ∨ k = 12 ∨ k = 13 ∨ k = 14 ∨ k = 15 ∨ k = 16 ∨ k = 17 ∨ k = 18 ∨ k = 19 ∨ k = 20 ∨ k = 21 ∨ k = 22 ∨ k = 23 ∨ k = 24 ∨ k = 25 ∨ k = 26 ∨ k = 27 := by omega
        rcases hks with rfl | rfl | rfl | rfl | rfl | rfl | rfl | rfl | rfl | rfl | rfl | rfl | rfl | rfl | rfl | rfl | rfl | rfl | rfl | rfl | rfl | rfl | rfl | rfl | rfl | rfl | rfl | rfl
        · exact lv_tableIn (off := 125) (tgt := 164) hx hb dL_law_39 (by decide) (by decide) (by decide) (by decide) (lw_c0 E hl1 hX hbl hL hi hst hJ hS hl hcs hss kk)
        · exact lv_tableIn (off := 183) (tgt := 222) hx hb dL_law_39 (by decide) (by decide) (by decide) (by decide) (lw_c1 E hl1 hX hbl hL hi hst hJ hS hl hcs hss kk)
        · exact lv_tableIn (off := 227) (tgt := 266) hx hb dL_law_39 (by decide) (by decide) (by decide) (by decide) (lw_c2 E hl1 hX hbl hL hi hst hJ hS hl hcs hss kk)
        · exact lv_tableIn (off := 283) (tgt := 322) hx hb dL_law_39 (by decide) (by decide) (by decide) (by decide) (lw_c3 E hl1 hX hbl hL hi hst hJ hS hl hcs hss kk)
        · exact lv_tableIn (off := 339) (tgt := 378) hx hb dL_law_39 (by decide) (by decide) (by decide) (by decide) (lw_c4 E hl1 hX hbl hL hi hst hJ hS hl hcs hss kk)
        · exact lv_tableIn (off := 352) (tgt := 391) hx hb dL_law_39 (by decide) (by decide) (by decide) (by decide) (lw_c5 E hl1 hX hbl hL hi hst hJ hS hl hcs hss kk)
        · exact lv_tableIn (off := 408) (tgt := 447) hx hb dL_law_39 (by decide) (by decide) (by decide) (by decide) (lw_c6 E hl1 hX hbl hL hi hst hJ hS hl hcs hss kk)
        · exact lv_tableIn (off := 421) (tgt := 460) hx hb dL_law_39 (by decide) (by decide) (by decide) (by decide) (lw_c7 E hl1 hX hbl hL hi hst hJ hS hl hcs hss kk)
        · exact lv_tableIn (off := 477) (tgt := 516) hx hb dL_law_39 (by decide) (by decide) (by decide) (by decide) (lw_c8 E hl1 hX hbl hL hi hst hJ hS hl hcs hss kk)
        · exact lv_tableIn (off := 545) (tgt := 584) hx hb dL_law_39 (by decide) (by decide) (by decide) (by decide) (lw_c9 E hl1 hX hbl hL hi hst hJ hS hl hcs hss kk)
        · exact lv_tableIn (off := 603) (tgt := 642) hx hb dL_law_39 (by decide) (by decide) (by decide) (by decide) (lw_c10 E hl1 hX hbl hL hi hst hJ hS hl hcs hss kk)
        · exact lv_tableIn (off := 659) (tgt := 698) hx hb dL_law_39 (by decide) (by decide) (by decide) (by decide) (lw_c11 E hl1 hX hbl hL hi hst hJ hS hl hcs hss kk)
        · exact lv_tableIn (off := 672) (tgt := 711) hx hb dL_law_39 (by decide) (by decide) (by decide) (by decide) (lw_c12 E hl1 hX hbl hL hi hst hJ hS hl hcs hss kk)
        · exact lv_tableIn (off := 685) (tgt := 724) hx hb dL_law_39 (by decide) (by decide) (by decide) (by decide) (lw_c13 E hl1 hX hbl hL hi hst hJ hS hl hcs hss kk)
        · exact lv_tableIn (off := 698) (tgt := 737) hx hb dL_law_39 (by decide) (by decide) (by decide) (by decide) (lw_c14 E hl1 hX hbl hL hi hst hJ hS hl hcs hss kk)
        · exact lv_tableIn (off := 711) (tgt := 750) hx hb dL_law_39 (by decide) (by decide) (by decide) (by decide) (lw_c15 E hl1 hX hbl hL hi hst hJ hS hl hcs hss kk)
        · exact lv_tableIn (off := 767) (tgt := 806) hx hb dL_law_39 (by decide) (by decide) (by decide) (by decide) (lw_c16 E hl1 hX hbl hL hi hst hJ hS hl hcs hss kk)
        · exact lv_tableIn (off := 780) (tgt := 819) hx hb dL_law_39 (by decide) (by decide) (by decide) (by decide) (lw_c17 E hl1 hX hbl hL hi hst hJ hS hl hcs hss kk)
        · exact lv_tableIn (off := 836) (tgt := 875) hx hb dL_law_39 (by decide) (by decide) (by decide) (by decide) (lw_c18 E hl1 hX hbl hL hi hst hJ hS hl hcs hss kk)
        · exact lv_tableIn (off := 904) (tgt := 943) hx hb dL_law_39 (by decide) (by decide) (by decide) (by decide) (lw_c19 E hl1 hX hbl hL hi hst hJ hS hl hcs hss kk)
        · exact lv_tableIn (off := 917) (tgt := 956) hx hb dL_law_39 (by decide) (by decide) (by decide) (by decide) (lw_c20 E hl1 hX hbl hL hi hst hJ hS hl hcs hss kk)
        · exact lv_tableIn (off := 930) (tgt := 969) hx hb dL_law_39 (by decide) (by decide) (by decide) (by decide) (lw_c21 E hl1 hX hbl hL hi hst hJ hS hl hcs hss kk)
        · exact lv_tableIn (off := 943) (tgt := 982) hx hb dL_law_39 (by decide) (by decide) (by decide) (by decide) (lw_c22 E hl1 hX hbl hL hi hst hJ hS hl hcs hss kk)
        · exact lv_tableIn (off := 999) (tgt := 1038) hx hb dL_law_39 (by decide) (by decide) (by decide) (by decide) (lw_c23 E hl1 hX hbl hL hi hst hJ hS hl hcs hss kk)
        · exact lv_tableIn (off := 1067) (tgt := 1106) hx hb dL_law_39 (by decide) (by decide) (by decide) (by decide) (lw_c24 E hl1 hX hbl hL hi hst hJ hS hl hcs hss kk)
        · exact lv_tableIn (off := 1135) (tgt := 1174) hx hb dL_law_39 (by decide) (by decide) (by decide) (by decide) (lw_c25 E hl1 hX hbl hL hi hst hJ hS hl hcs hss kk)
        · exact lv_tableIn (off := 1191) (tgt := 1230) hx hb dL_law_39 (by decide) (by decide) (by decide) (by decide) (lw_c26 E hl1 hX hbl hL hi hst hJ hS hl hcs hss kk)
        · exact lv_tableIn (off := 1259) (tgt := 1298) hx hb dL_law_39 (by decide) (by decide) (by decide) (by decide) (lw_c27 E hl1 hX hbl hL hi hst hJ hS hl hcs hss kk)
      · refine lv_tableOut (tgt := 1311) hx hb dL_law_39 (Or.inr (by rw [nI_toInt (by omega)]; omega)) (by decide) ?_
        exact W.widen (by omega) (by omega) (kk FC FM H locs ls hst hJ hS hl)
    · refine lv_isub hx hb dL_law_28 ?_
      refine lv_icmp_gt (tgt := 1317) hx hb dL_law_29 (by decide) (fun _ => hout ls) (fun hc => ?_)
      exact absurd (md_lt_r (a := L) (b := 3) (by omega) (by omega) h3 (by omega)) hc
