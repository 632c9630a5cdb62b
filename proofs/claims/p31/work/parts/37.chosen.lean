set_option maxHeartbeats 4000000 in
set_option maxRecDepth 100000 in
/-- areChosen -/
theorem w_areChosen (l : Launch) (A : Nat → Prop) (D : ah_G) (F : ah_F) {x n : Nat} {P : ah_Pt} {dr S : List Nat} {td : Int32} (hC : ah_C D F x P n dr S td) {o : Nat} {rv : Nat → Int32} (ho : F o = some (ah_ai D 42 rv)) (hR : pr_R P n dr rv) {ru : Nat} (hru : ru ≤ 2) : Met l yL_areChosen (Cond.code yL_areChosen cL_areChosen 11 (some .boolean) :: ah_T) { frames := 7, cells := 0, slots := 0, locals := 165 } (va_Pc [.ref x, .ref o, .int (nI ru)] (ah_B A D F)) (ah_Qi A D (fun (r : Int32) F1 => nI 1 = r ∧ ah_C D F1 x P n dr S td ∧ F1 o = some (ah_ai D 42 rv))) 0 0 A := by
  refine ah_met (own := "AhoarchLaw") (by decide) rfl (Nat.le_of_ble_eq_true rfl) ?_
  intro p e s m below meth c ls E hr hini hl hP hS Q hQ
  have hx := E.1
  have hb := E.2.1
  have hl : lv_has ls 11 [(0, .ref x), (1, .ref o), (2, .int (nI ru))] := hl
  obtain ⟨hPok, hn40, hPn, hS200, hSlt, hdok, hcnt⟩ := ah_C_ok hC
  obtain ⟨fs0, hxx⟩ := ah_C_x hC
  obtain ⟨hdl8, hdlt⟩ := id hdok
  have hchn := ah_chs_chn (S := S) hPok ru
  have hLS := pq_chs (S := S) hPok ru
  have hLS2 := pq_chs (S := S) hPok 2
  have hmost := pg_chs (S := S) hPok ru
  have htb := pq_tx (S := S) hPok ru
  have hcv0 : (ah_cv P S S.length).2 ≤ S.length := by rw [pv_cnt]; exact pu_cn_le _ _
  refine lv_aload_n hx hb dL_areChosen_0 rfl (lv_at hl 0 rfl) ?_
  refine lv_iload_n hx hb dL_areChosen_1 rfl (lv_at hl 2 rfl) ?_
  refine ah_calli (ah_runV E hP hS (As := [.int (nI ru)]) (rest := []) (b := x) (z_chosen l A D _ hC hru) lk_Law_103 li_Law_103 hxx rfl ⟨rfl, rfl, (Nat.le_of_ble_eq_true rfl), (Nat.le_of_ble_eq_true rfl)⟩ rfl hl.1 rfl (Nat.le_of_ble_eq_true rfl) dL_areChosen_2 ⟨(Nat.le_of_ble_eq_true rfl), (Nat.le_of_ble_eq_true rfl)⟩) hS (fun r F1 H locs hq hP hS => ?_)
  obtain ⟨rfl, hCw2, houtw2⟩ := hq
  have how2 := (houtw2 _ _ ho).trans ho
  obtain ⟨fsw2, hxxw2⟩ := ah_C_x hCw2
  refine lv_istore_n (lv' := [(3, .int (nI ((ah_chs P S ru).length))), (0, .ref x), (1, .ref o), (2, .int (nI ru))]) hx hb dL_areChosen_5 rfl hl (by decide) rfl (fun ls hl => ?_)
  refine lv_iconst (v := (nI 0)) hx hb dL_areChosen_6 (by decide) ?_
  refine lv_istore (lv' := [(4, .int (nI 0)), (3, .int (nI ((ah_chs P S ru).length))), (0, .ref x), (1, .ref o), (2, .int (nI ru))]) hx hb dL_areChosen_7 hl (by decide) rfl (fun ls hl => ?_)
  refine lv_aload_n hx hb dL_areChosen_9 rfl (lv_at hl 2 rfl) ?_
  refine ah_calli (ah_runV E hP hS (As := []) (rest := []) (b := x) (c_streamLength l A D _ hCw2) lk_Law_37 li_Law_37 hxxw2 rfl ⟨rfl, rfl, (Nat.le_of_ble_eq_true rfl), (Nat.le_of_ble_eq_true rfl)⟩ rfl hl.1 rfl (Nat.le_of_ble_eq_true rfl) dL_areChosen_10 ⟨(Nat.le_of_ble_eq_true rfl), (Nat.le_of_ble_eq_true rfl)⟩) hS (fun r F3 H locs hq hP hS => ?_)
  obtain ⟨rfl, rfl⟩ := hq
  refine lv_istore (lv' := [(5, .int (nI S.length)), (4, .int (nI 0)), (3, .int (nI ((ah_chs P S ru).length))), (0, .ref x), (1, .ref o), (2, .int (nI ru))]) hx hb dL_areChosen_13 hl (by decide) rfl (fun ls hl => ?_)
  refine lv_iconst (v := (nI 0)) hx hb dL_areChosen_15 (by decide) ?_
  refine lv_istore (lv' := [(6, .int (nI 0)), (5, .int (nI S.length)), (4, .int (nI 0)), (3, .int (nI ((ah_chs P S ru).length))), (0, .ref x), (1, .ref o), (2, .int (nI ru))]) hx hb dL_areChosen_16 hl (by decide) rfl (fun ls hl => ?_)
  refine lv_iload_n hx hb dL_areChosen_18 rfl (lv_at hl 3 rfl) ?_
  refine lv_aload_n hx hb dL_areChosen_19 rfl (lv_at hl 4 rfl) ?_
  refine ah_calli (ah_runV E hP hS (As := []) (rest := [.int (nI ((ah_chs P S ru).length))]) (b := x) (c_mostApart l A D _ hCw2) lk_Law_106 li_Law_106 hxxw2 rfl ⟨rfl, rfl, (Nat.le_of_ble_eq_true rfl), (Nat.le_of_ble_eq_true rfl)⟩ rfl hl.1 rfl (Nat.le_of_ble_eq_true rfl) dL_areChosen_20 ⟨(Nat.le_of_ble_eq_true rfl), (Nat.le_of_ble_eq_true rfl)⟩) hS (fun r F4 H locs hq hP hS => ?_)
  obtain ⟨rfl, hCw5, houtw5⟩ := hq
  have how5 := (houtw5 _ _ how2).trans how2
  obtain ⟨fsw5, hxxw5⟩ := ah_C_x hCw5
  refine ah_icmp_gt (tgt := 43) hx hb (by omega) (by omega) dL_areChosen_23 (by decide) (fun hc23 => ?_) (fun hc23 => ?_)
  · skip
    exact absurd hc23 (by omega)
  · skip
    have J39 : ∀ (Fv : ah_F) , ah_C D Fv x P n dr S td → Fv o = some (ah_ai D 42 rv) → ∀ (H : Heap) (locs : List Loc), ah_K A D Fv H → va_S A s.heap H locs → ∀ (ls : Array Slot), lv_has ls 11 [(0, .ref x), (1, .ref o), (2, .int (nI ru)), (3, .int (nI ((ah_chs P S ru).length))), (4, .int (nI 0)), (5, .int (nI S.length)), (6, .int (nI 0))] → W p l e { frames := 7, cells := 0, slots := 0, locals := 165 } s m [.ref x, .ref o, .int (nI ru)].toArray below meth c H locs (((0 + 0) + 0) + 0) (((0 + 0) + 0) + 0) Q (F0 m 39 ls []) := by
      intro Fv hC ho H locs hP hS ls hl
      obtain ⟨fs1, hxx1⟩ := ah_C_x hC
      refine lv_iconst (v := (nI 1)) hx hb dL_areChosen_39 (by decide) ?_
      refine lv_goto (tgt := 44) hx hb dL_areChosen_40 (by decide) ?_
      refine lv_istore (lv' := [(7, .int (nI 1)), (0, .ref x), (1, .ref o), (2, .int (nI ru)), (3, .int (nI ((ah_chs P S ru).length))), (4, .int (nI 0)), (5, .int (nI S.length)), (6, .int (nI 0))]) hx hb dL_areChosen_44 hl (by decide) rfl (fun ls hl => ?_)
      refine lv_iconst (v := (nI 0)) hx hb dL_areChosen_46 (by decide) ?_
      refine lv_istore (lv' := [(8, .int (nI 0)), (7, .int (nI 1)), (0, .ref x), (1, .ref o), (2, .int (nI ru)), (3, .int (nI ((ah_chs P S ru).length))), (4, .int (nI 0)), (5, .int (nI S.length)), (6, .int (nI 0))]) hx hb dL_areChosen_47 hl (by decide) rfl (fun ls hl => ?_)
      have L49 : ∀ (fuel : Nat), ∀ (Fw : ah_F) (t pl le tl : Nat), (ah_chs P S ru).length - t < fuel → ah_C D Fw x P n dr S td → Fw o = some (ah_ai D 42 rv) → t ≤ (ah_chs P S ru).length → pl = ah_pe P (ah_chs P S ru) t → le ≤ pu_cn (pv_c P S) pl → tl = pt_l P S (ah_chs P S ru) t → ∀ (H : Heap) (locs : List Loc), ah_K A D Fw H → va_S A s.heap H locs → ∀ (ls : Array Slot), lv_has ls 11 [(0, .ref x), (1, .ref o), (2, .int (nI ru)), (3, .int (nI ((ah_chs P S ru).length))), (4, .int (nI pl)), (5, .int (nI tl)), (6, .int (nI le)), (7, .int (nI 1)), (8, .int (nI t))] → W p l e { frames := 7, cells := 0, slots := 0, locals := 165 } s m [.ref x, .ref o, .int (nI ru)].toArray below meth c H locs (((0 + 0) + 0) + 0) (((0 + 0) + 0) + 0) Q (F0 m 49 ls []) := by
        intro fuel
        induction fuel with
        | zero =>
          intro Fw t pl le tl hm
          exact absurd hm (Nat.not_lt_zero _)
        | succ fuel ih49 =>
          intro Fw t pl le tl hm hC ho ht hpl hle htl H locs hP hS ls hl
          obtain ⟨fs1, hxx1⟩ := ah_C_x hC
          have hple : pl ≤ S.length := by rw [hpl]; exact ah_pe_le hchn t ht
          have hleb := pu_cn_le (pv_c P S) pl
          have htlb : tl ≤ 8 * S.length := by rw [htl]; exact pt_le hPok hchn ht
          refine lv_iload hx hb dL_areChosen_49 (lv_at hl 8 rfl) ?_
          refine lv_iload_n hx hb dL_areChosen_51 rfl (lv_at hl 3 rfl) ?_
          refine ah_icmp_ge (tgt := 149) hx hb (by omega) (by omega) dL_areChosen_52 (by decide) (fun hc52 => ?_) (fun hc52 => ?_)
          · skip
            have hte : t = (ah_chs P S ru).length := by omega
            have htx : tl = (ah_tx P S (ah_chs P S ru)).length := by rw [htl, hte]; exact pt_e _ _ _
            have hcv : le ≤ (ah_cv P S S.length).2 := by rw [pv_cnt]; exact Nat.le_trans hle (pu_cn_mono _ hple)
            refine lv_iload hx hb dL_areChosen_149 (lv_at hl 7 rfl) ?_
            refine ah_if_eq (tgt := 197) hx hb (by omega) dL_areChosen_151 (by decide) (fun hc151 => ?_) (fun hc151 => ?_)
            · skip
              exact absurd hc151 (by decide)
            · skip
              refine lv_iload hx hb dL_areChosen_154 (lv_at hl 4 rfl) ?_
              refine lv_aload_n hx hb dL_areChosen_156 rfl (lv_at hl 0 rfl) ?_
              refine ah_calli (ah_runV E hP hS (As := []) (rest := [.int (nI pl)]) (b := x) (c_streamLength l A D _ hC) lk_Law_37 li_Law_37 hxx1 rfl ⟨rfl, rfl, (Nat.le_of_ble_eq_true rfl), (Nat.le_of_ble_eq_true rfl)⟩ rfl hl.1 rfl (Nat.le_of_ble_eq_true rfl) dL_areChosen_157 ⟨(Nat.le_of_ble_eq_true rfl), (Nat.le_of_ble_eq_true rfl)⟩) hS (fun r F6 H locs hq hP hS => ?_)
              obtain ⟨rfl, rfl⟩ := hq
              refine ah_icmp_gt (tgt := 197) hx hb (by omega) (by omega) dL_areChosen_160 (by decide) (fun hc160 => ?_) (fun hc160 => ?_)
              · skip
                exact absurd hc160 (by omega)
              · skip
                refine lv_aload_n hx hb dL_areChosen_163 rfl (lv_at hl 0 rfl) ?_
                refine lv_iload_n hx hb dL_areChosen_164 rfl (lv_at hl 2 rfl) ?_
                refine ah_calli (ah_runV E hP hS (As := [.int (nI ru)]) (rest := []) (b := x) (z_replacedLength l A D _ hC hru) lk_Law_119 li_Law_119 hxx1 rfl ⟨rfl, rfl, (Nat.le_of_ble_eq_true rfl), (Nat.le_of_ble_eq_true rfl)⟩ rfl hl.1 rfl (Nat.le_of_ble_eq_true rfl) dL_areChosen_165 ⟨(Nat.le_of_ble_eq_true rfl), (Nat.le_of_ble_eq_true rfl)⟩) hS (fun r F7 H locs hq hP hS => ?_)
                obtain ⟨rfl, hCw8, houtw8⟩ := hq
                have how8 := (houtw8 _ _ ho).trans ho
                obtain ⟨fsw8, hxxw8⟩ := ah_C_x hCw8
                refine lv_iload hx hb dL_areChosen_168 (lv_at hl 5 rfl) ?_
                refine ah_icmp_ne (tgt := 197) hx hb (by omega) (by omega) dL_areChosen_170 (by decide) (fun hc170 => ?_) (fun hc170 => ?_)
                · skip
                  exact (hc170 htx.symm).elim
                · skip
                  refine lv_aload_n hx hb dL_areChosen_173 rfl (lv_at hl 0 rfl) ?_
                  refine ah_calli (ah_runV E hP hS (As := []) (rest := []) (b := x) (c_covered l A D _ hCw8) lk_Law_122 li_Law_122 hxxw8 rfl ⟨rfl, rfl, (Nat.le_of_ble_eq_true rfl), (Nat.le_of_ble_eq_true rfl)⟩ rfl hl.1 rfl (Nat.le_of_ble_eq_true rfl) dL_areChosen_174 ⟨(Nat.le_of_ble_eq_true rfl), (Nat.le_of_ble_eq_true rfl)⟩) hS (fun r F9 H locs hq hP hS => ?_)
                  obtain ⟨rfl, rfl⟩ := hq
                  refine lv_iload hx hb dL_areChosen_177 (lv_at hl 6 rfl) ?_
                  refine ah_icmp_lt (tgt := 197) hx hb (by omega) (by omega) dL_areChosen_179 (by decide) (fun hc179 => ?_) (fun hc179 => ?_)
                  · skip
                    exact absurd hc179 (by omega)
                  · skip
                    refine lv_aload_n hx hb dL_areChosen_182 rfl (lv_at hl 0 rfl) ?_
                    refine ah_calli (ah_runV E hP hS (As := []) (rest := []) (b := x) (c_covered l A D _ hCw8) lk_Law_122 li_Law_122 hxxw8 rfl ⟨rfl, rfl, (Nat.le_of_ble_eq_true rfl), (Nat.le_of_ble_eq_true rfl)⟩ rfl hl.1 rfl (Nat.le_of_ble_eq_true rfl) dL_areChosen_183 ⟨(Nat.le_of_ble_eq_true rfl), (Nat.le_of_ble_eq_true rfl)⟩) hS (fun r F10 H locs hq hP hS => ?_)
                    obtain ⟨rfl, rfl⟩ := hq
                    refine lv_aload_n hx hb dL_areChosen_186 rfl (lv_at hl 0 rfl) ?_
                    refine ah_calli (ah_runV E hP hS (As := []) (rest := [.int (nI ((ah_cv P S S.length).2))]) (b := x) (c_streamLength l A D _ hCw8) lk_Law_37 li_Law_37 hxxw8 rfl ⟨rfl, rfl, (Nat.le_of_ble_eq_true rfl), (Nat.le_of_ble_eq_true rfl)⟩ rfl hl.1 rfl (Nat.le_of_ble_eq_true rfl) dL_areChosen_187 ⟨(Nat.le_of_ble_eq_true rfl), (Nat.le_of_ble_eq_true rfl)⟩) hS (fun r F11 H locs hq hP hS => ?_)
                    obtain ⟨rfl, rfl⟩ := hq
                    refine ah_icmp_gt (tgt := 197) hx hb (by omega) (by omega) dL_areChosen_190 (by decide) (fun hc190 => ?_) (fun hc190 => ?_)
                    · skip
                      exact absurd hc190 (by omega)
                    · skip
                      refine lv_iconst (v := (nI 1)) hx hb dL_areChosen_193 (by decide) ?_
                      refine lv_goto (tgt := 198) hx hb dL_areChosen_194 (by decide) ?_
                      rw [hQ]
                      exact ah_zret E hr (by first | exact bI_nz _ | decide) hP hS ⟨rfl, hCw8, how8⟩ (Nat.le_of_ble_eq_true rfl) (Nat.le_of_ble_eq_true rfl) dL_areChosen_198
          · skip
            refine lv_iload hx hb dL_areChosen_55 (lv_at hl 7 rfl) ?_
            refine ah_if_eq (tgt := 149) hx hb (by omega) dL_areChosen_57 (by decide) (fun hc57 => ?_) (fun hc57 => ?_)
            · skip
              exact absurd hc57 (by decide)
            · skip
              refine lv_aload_n hx hb dL_areChosen_60 rfl (lv_at hl 0 rfl) ?_
              refine lv_iload_n hx hb dL_areChosen_61 rfl (lv_at hl 2 rfl) ?_
              refine lv_iload hx hb dL_areChosen_62 (lv_at hl 8 rfl) ?_
              obtain ⟨j, i, hLt⟩ : ∃ j i : Nat, (ah_chs P S ru)[t]? = some (j, i) := ⟨_, _, List.getElem?_eq_getElem (show t < (ah_chs P S ru).length by omega)⟩
              obtain ⟨hg1, hg2, hj, hg4, hat⟩ := hchn t j i hLt
              obtain ⟨w, r0, hp0⟩ := pr_s hg4
              have hok := hPok _ _ _ hp0
              have hwl := hok.1.1
              have hrl := hok.2.1.1
              have hwt := (pt_s hchn hLt).1
              rw [ah_w_s hp0] at hg2 hat
              rw [ah_w_s hp0, ← htl] at hwt
              rw [← hpl] at hg1
              refine ah_calli (ah_runV E hP hS (As := [.int (nI ru), .int (nI t)]) (rest := []) (b := x) (z_chosenPattern l A D _ hC hru hLt) lk_Law_109 li_Law_109 hxx1 rfl ⟨rfl, rfl, (Nat.le_of_ble_eq_true rfl), (Nat.le_of_ble_eq_true rfl)⟩ rfl hl.1 rfl (Nat.le_of_ble_eq_true rfl) dL_areChosen_64 ⟨(Nat.le_of_ble_eq_true rfl), (Nat.le_of_ble_eq_true rfl)⟩) hS (fun r F12 H locs hq hP hS => ?_)
              obtain ⟨rfl, hCw13, houtw13⟩ := hq
              have how13 := (houtw13 _ _ ho).trans ho
              obtain ⟨fsw13, hxxw13⟩ := ah_C_x hCw13
              refine lv_istore (lv' := [(9, .int (nI j)), (0, .ref x), (1, .ref o), (2, .int (nI ru)), (3, .int (nI ((ah_chs P S ru).length))), (4, .int (nI pl)), (5, .int (nI tl)), (6, .int (nI le)), (7, .int (nI 1)), (8, .int (nI t))]) hx hb dL_areChosen_67 hl (by decide) rfl (fun ls hl => ?_)
              refine lv_aload_n hx hb dL_areChosen_69 rfl (lv_at hl 1 rfl) ?_
              refine lv_iload_n hx hb dL_areChosen_70 rfl (lv_at hl 3 rfl) ?_
              refine lv_iload hx hb dL_areChosen_71 (lv_at hl 9 rfl) ?_
              refine ah_calli (ah_runV E hP hS (As := [.int (nI ru), .int (nI t)]) (rest := []) (b := x) (z_chosenPlace l A D _ hCw13 hru hLt) lk_Law_112 li_Law_112 hxxw13 rfl ⟨rfl, rfl, (Nat.le_of_ble_eq_true rfl), (Nat.le_of_ble_eq_true rfl)⟩ rfl hl.1 rfl (Nat.le_of_ble_eq_true rfl) dL_areChosen_73 ⟨(Nat.le_of_ble_eq_true rfl), (Nat.le_of_ble_eq_true rfl)⟩) hS (fun r F14 H locs hq hP hS => ?_)
              obtain ⟨rfl, hCw15, houtw15⟩ := hq
              have how15 := (houtw15 _ _ how13).trans how13
              obtain ⟨fsw15, hxxw15⟩ := ah_C_x hCw15
              refine lv_istore (lv' := [(10, .int (nI i)), (9, .int (nI j)), (0, .ref x), (1, .ref o), (2, .int (nI ru)), (3, .int (nI ((ah_chs P S ru).length))), (4, .int (nI pl)), (5, .int (nI tl)), (6, .int (nI le)), (7, .int (nI 1)), (8, .int (nI t))]) hx hb dL_areChosen_76 hl (by decide) rfl (fun ls hl => ?_)
              refine lv_iload hx hb dL_areChosen_78 (lv_at hl 0 rfl) ?_
              refine lv_iload hx hb dL_areChosen_80 (lv_at hl 6 rfl) ?_
              refine ah_icmp_lt (tgt := 100) hx hb (by omega) (by omega) dL_areChosen_82 (by decide) (fun hc82 => ?_) (fun hc82 => ?_)
              · skip
                exact absurd hc82 (by omega)
              · skip
                refine lv_aload_n hx hb dL_areChosen_85 rfl (lv_at hl 2 rfl) ?_
                refine lv_iload hx hb dL_areChosen_86 (lv_at hl 1 rfl) ?_
                refine lv_iload hx hb dL_areChosen_88 (lv_at hl 0 rfl) ?_
                refine ah_calli (ah_runS E hP hS (As := [.ref x, .int (nI j), .int (nI i)]) (rest := []) (w_isOccurrence l A D _ hCw15 hj hp0 hat) lk_Law_115 li_Law_115 ⟨rfl, rfl, (Nat.le_of_ble_eq_true rfl), (Nat.le_of_ble_eq_true rfl)⟩ rfl hl.1 rfl (Nat.le_of_ble_eq_true rfl) dL_areChosen_90 ⟨(Nat.le_of_ble_eq_true rfl), (Nat.le_of_ble_eq_true rfl)⟩) hS (fun r F16 H locs hq hP hS => ?_)
                obtain ⟨rfl, rfl⟩ := hq
                refine ah_if_eq (tgt := 100) hx hb (by omega) dL_areChosen_93 (by decide) (fun hc93 => ?_) (fun hc93 => ?_)
                · skip
                  exact absurd hc93 (by decide)
                · skip
                  refine lv_iconst (v := (nI 1)) hx hb dL_areChosen_96 (by decide) ?_
                  refine lv_goto (tgt := 101) hx hb dL_areChosen_97 (by decide) ?_
                  refine lv_istore (lv' := [(7, .int (nI 1)), (10, .int (nI i)), (9, .int (nI j)), (0, .ref x), (1, .ref o), (2, .int (nI ru)), (3, .int (nI ((ah_chs P S ru).length))), (4, .int (nI pl)), (5, .int (nI tl)), (6, .int (nI le)), (8, .int (nI t))]) hx hb dL_areChosen_101 hl (by decide) rfl (fun ls hl => ?_)
                  refine lv_iload hx hb dL_areChosen_103 (lv_at hl 1 rfl) ?_
                  refine lv_aload_n hx hb dL_areChosen_105 rfl (lv_at hl 3 rfl) ?_
                  refine lv_iload hx hb dL_areChosen_106 (lv_at hl 2 rfl) ?_
                  refine ah_calli (ah_runV E hP hS (As := [.int (nI j)]) (rest := [.int (nI i)]) (b := x) (q_length l A D _ hCw15 hj hp0) lk_Law_40 li_Law_40 hxxw15 rfl ⟨rfl, rfl, (Nat.le_of_ble_eq_true rfl), (Nat.le_of_ble_eq_true rfl)⟩ rfl hl.1 rfl (Nat.le_of_ble_eq_true rfl) dL_areChosen_108 ⟨(Nat.le_of_ble_eq_true rfl), (Nat.le_of_ble_eq_true rfl)⟩) hS (fun r F17 H locs hq hP hS => ?_)
                  obtain ⟨rfl, rfl⟩ := hq
                  refine ah_iadd hx hb dL_areChosen_111 ?_
                  refine lv_istore (lv' := [(4, .int (nI (i + w.length))), (7, .int (nI 1)), (10, .int (nI i)), (9, .int (nI j)), (0, .ref x), (1, .ref o), (2, .int (nI ru)), (3, .int (nI ((ah_chs P S ru).length))), (5, .int (nI tl)), (6, .int (nI le)), (8, .int (nI t))]) hx hb dL_areChosen_112 hl (by decide) rfl (fun ls hl => ?_)
                  refine lv_iload hx hb dL_areChosen_114 (lv_at hl 8 rfl) ?_
                  refine lv_aload_n hx hb dL_areChosen_116 rfl (lv_at hl 5 rfl) ?_
                  refine lv_iload hx hb dL_areChosen_117 (lv_at hl 3 rfl) ?_
                  refine ah_iald E hP how15 (by omega) (by omega) dL_areChosen_119 ?_
                  rw [hR.1 j (by omega)]
                  rw [pr_l_e hp0]
                  refine lv_iconst (v := (nI 1)) hx hb dL_areChosen_120 (by decide) ?_
                  refine ah_isub hx hb (by omega) dL_areChosen_121 ?_
                  refine lv_aload_n hx hb dL_areChosen_122 rfl (lv_at hl 4 rfl) ?_
                  refine lv_iload hx hb dL_areChosen_123 (lv_at hl 3 rfl) ?_
                  refine ah_calli (ah_runV E hP hS (As := [.int (nI j)]) (rest := [.int (nI ((r0.length + 1) - 1)), .int (nI tl)]) (b := x) (q_length l A D _ hCw15 hj hp0) lk_Law_40 li_Law_40 hxxw15 rfl ⟨rfl, rfl, (Nat.le_of_ble_eq_true rfl), (Nat.le_of_ble_eq_true rfl)⟩ rfl hl.1 rfl (Nat.le_of_ble_eq_true rfl) dL_areChosen_125 ⟨(Nat.le_of_ble_eq_true rfl), (Nat.le_of_ble_eq_true rfl)⟩) hS (fun r F18 H locs hq hP hS => ?_)
                  obtain ⟨rfl, rfl⟩ := hq
                  refine lv_isub hx hb dL_areChosen_128 ?_
                  refine lv_iadd hx hb dL_areChosen_129 ?_
                  rw [show nI tl + (nI (r0.length + 1 - 1) - nI w.length) = nI (tl - w.length + r0.length) from pi_as hwt]
                  refine lv_istore (lv' := [(5, .int (nI (tl - w.length + r0.length))), (4, .int (nI (i + w.length))), (7, .int (nI 1)), (10, .int (nI i)), (9, .int (nI j)), (0, .ref x), (1, .ref o), (2, .int (nI ru)), (3, .int (nI ((ah_chs P S ru).length))), (6, .int (nI le)), (8, .int (nI t))]) hx hb dL_areChosen_130 hl (by decide) rfl (fun ls hl => ?_)
                  refine lv_iload hx hb dL_areChosen_132 (lv_at hl 9 rfl) ?_
                  refine lv_aload_n hx hb dL_areChosen_134 rfl (lv_at hl 5 rfl) ?_
                  refine lv_iload hx hb dL_areChosen_135 (lv_at hl 4 rfl) ?_
                  refine ah_calli (ah_runV E hP hS (As := [.int (nI j)]) (rest := [.int (nI le)]) (b := x) (q_length l A D _ hCw15 hj hp0) lk_Law_40 li_Law_40 hxxw15 rfl ⟨rfl, rfl, (Nat.le_of_ble_eq_true rfl), (Nat.le_of_ble_eq_true rfl)⟩ rfl hl.1 rfl (Nat.le_of_ble_eq_true rfl) dL_areChosen_137 ⟨(Nat.le_of_ble_eq_true rfl), (Nat.le_of_ble_eq_true rfl)⟩) hS (fun r F19 H locs hq hP hS => ?_)
                  obtain ⟨rfl, rfl⟩ := hq
                  refine ah_iadd hx hb dL_areChosen_140 ?_
                  refine lv_istore (lv' := [(6, .int (nI (le + w.length))), (5, .int (nI (tl - w.length + r0.length))), (4, .int (nI (i + w.length))), (7, .int (nI 1)), (10, .int (nI i)), (9, .int (nI j)), (0, .ref x), (1, .ref o), (2, .int (nI ru)), (3, .int (nI ((ah_chs P S ru).length))), (8, .int (nI t))]) hx hb dL_areChosen_141 hl (by decide) rfl (fun ls hl => ?_)
                  refine lv_iinc (v := (nI (t + 1))) (lv' := [(8, .int (nI (t + 1))), (6, .int (nI (le + w.length))), (5, .int (nI (tl - w.length + r0.length))), (4, .int (nI (i + w.length))), (7, .int (nI 1)), (10, .int (nI i)), (9, .int (nI j)), (0, .ref x), (1, .ref o), (2, .int (nI ru)), (3, .int (nI ((ah_chs P S ru).length)))]) hx hb dL_areChosen_143 hl (k := 10) rfl (ah_inc _) (by decide) rfl (fun ls hl => ?_)
                  refine lv_goto (tgt := 49) hx hb dL_areChosen_146 (by decide) ?_
                  exact ih49 _ (t + 1) (i + w.length) (le + w.length) (tl - w.length + r0.length) (by omega) hCw15 how15 (by omega) (by rw [ah_pe_s hLt, ah_w_s hp0]) (by have h9 := pv_step (a := le) hchn hLt (by rw [← hpl]; exact hle); rw [ah_pe_s hLt, ah_w_s hp0] at h9; exact h9) (by rw [(pt_s hchn hLt).2, ah_w_s hp0, ah_r_s hp0, ← htl]) _ _ hP hS ls (lv_sub hl [7, 8, 9, 10, 3, 2, 1, 4, 0] rfl)
      exact L49 ((ah_chs P S ru).length + 1) _ 0 0 0 S.length (by omega) hC ho (Nat.zero_le _) rfl (Nat.zero_le _) (pt_0 _ _ _).symm _ _ hP hS ls (lv_sub hl [2, 3, 4, 5, 6, 7, 8, 1, 0] rfl)
    refine lv_iload_n hx hb dL_areChosen_26 rfl (lv_at hl 6 rfl) ?_
    refine lv_iconst (v := (nI 2)) hx hb dL_areChosen_27 (by decide) ?_
    refine ah_icmp_lt (tgt := 39) hx hb (by omega) (by omega) dL_areChosen_28 (by decide) (fun hc28 => ?_) (fun hc28 => ?_)
    · skip
      exact J39 _ hCw5 how5 _ _ hP hS ls (lv_sub hl [4, 5, 6, 3, 2, 1, 0] rfl)
    · skip
      refine lv_iload_n hx hb dL_areChosen_31 rfl (lv_at hl 3 rfl) ?_
      refine lv_aload_n hx hb dL_areChosen_32 rfl (lv_at hl 4 rfl) ?_
      refine ah_calli (ah_runV E hP hS (As := []) (rest := [.int (nI ((ah_chs P S ru).length))]) (b := x) (c_mostApart l A D _ hCw5) lk_Law_106 li_Law_106 hxxw5 rfl ⟨rfl, rfl, (Nat.le_of_ble_eq_true rfl), (Nat.le_of_ble_eq_true rfl)⟩ rfl hl.1 rfl (Nat.le_of_ble_eq_true rfl) dL_areChosen_33 ⟨(Nat.le_of_ble_eq_true rfl), (Nat.le_of_ble_eq_true rfl)⟩) hS (fun r F20 H locs hq hP hS => ?_)
      obtain ⟨rfl, hCw21, houtw21⟩ := hq
      have how21 := (houtw21 _ _ how5).trans how5
      obtain ⟨fsw21, hxxw21⟩ := ah_C_x hCw21
      refine ah_icmp_ne (tgt := 43) hx hb (by omega) (by omega) dL_areChosen_36 (by decide) (fun hc36 => ?_) (fun hc36 => ?_)
      · skip
        exact (hc36 (by rw [show ru = 2 by omega])).elim
      · skip
        exact J39 _ hCw21 how21 _ _ hP hS ls (lv_sub hl [4, 5, 6, 3, 2, 1, 0] rfl)
