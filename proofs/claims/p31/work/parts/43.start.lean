/-! the law's start -/
set_option maxHeartbeats 4000000 in
set_option maxRecDepth 100000 in
theorem whole_start {p : Program} {e : Env} {s : State} {m : MethodId} {below : List Frame} {meth : Method} {c : Code} (l : Launch) (hflags : l.flags = flags0) {b L : Nat} {xs : Nat → Int32} (hL : L ≤ 260) (C0 : lw_At p s m meth c b L xs) : W p l e room_1 s m #[Value.ref b] below meth c s.heap [] 0 0 (lw_Z below #[Value.ref b] s) (entryFrame m ([Value.ref b] : List Value).toArray 6) := by
  obtain ⟨hx, hb, hr, hml, hown, hts0, hX, hbl, hlocks, hgv⟩ := id C0
  have hl1 : l.stackTraces = false := by
    show (!l.flags.contains noTraceFlag) = false
    rw [hflags]
    decide +kernel
  have hts : ∀ w ∈ ah_T, w.before #[Value.ref b] s = true := fun w hw => hts0 w (List.mem_filter.mp hw).1
  obtain ⟨D, hV⟩ := aw_V hts0 hgv
  have E : ah_E (aw_O s) D p s m #[Value.ref b] meth c "AhoarchLaw" cL_law 6 := ⟨hx, hb, hml, hown, hts, hlocks, hV, fun q h => h⟩
  have hS : va_S (aw_O s) s.heap s.heap [] := va_S.rf
  have hP : ah_K (aw_O s) D (fun _ => none) s.heap := ⟨[], fun k q h => by simp at h, ⟨fun i j p q h => by simp at h, fun k q h => by simp at h⟩, fun a x h => by cases h⟩
  have hl := lv_entry ([.ref b]) (n := 6) (Nat.le_of_ble_eq_true rfl)
  rw [lg_entry_eq]
  generalize (lg_sl ([.ref b]) ++ List.replicate (6 - (lg_sl ([.ref b])).length) Slot.unset).toArray = ls at hl ⊢
  have hl : lv_has ls 6 [(0, .ref b)] := hl
  refine nw_Law_17 E hP hS (Nat.le_of_ble_eq_true rfl) (Nat.le_of_ble_eq_true rfl) dL_law_0 (fun x H hn_x hP hS => ?_)
  refine lv_dup hx hb dL_law_3 rfl ?_
  refine ah_callv (ah_runI E hP hS (As := []) (rest := [.ref x]) (b := x) (c_Aho_init l (aw_O s) D _ (ah_up_s _ _ _)) lk_Law_125 li_Law_125 ⟨rfl, rfl, (Nat.le_of_ble_eq_true rfl), (Nat.le_of_ble_eq_true rfl)⟩ rfl hl.1 rfl (Nat.le_of_ble_eq_true rfl) dL_law_4 ⟨(Nat.le_of_ble_eq_true rfl), (Nat.le_of_ble_eq_true rfl)⟩) hS (fun F1 H locs hq hP hS => ?_)
  refine lv_astore_n (lv' := [(1, .ref x), (0, .ref b)]) hx hb dL_law_7 rfl hl (by decide) rfl (fun ls hl => ?_)
  refine lv_bipush (v := (nI 42)) hx hb dL_law_8 (by decide) ?_
  refine ah_newa (atype := .int) (ty := .int) (t0 := 0) (a0 := (42, .inl (fun _ => 0))) (N := 42) E hP hS rfl (fun _ h => nomatch h) rfl (ah_in 78 (by decide +kernel) rfl) (fun _ => rfl) (by decide) (Nat.le_of_ble_eq_true rfl) (Nat.le_of_ble_eq_true rfl) (Nat.le_of_ble_eq_true rfl) dL_law_10 (fun o H hno hP hS => ?_)
  refine lv_astore_n (lv' := [(2, .ref o), (1, .ref x), (0, .ref b)]) hx hb dL_law_12 rfl hl (by decide) rfl (fun ls hl => ?_)
  exact law_body l hl1 (fun q h => h) E hr hX hbl (Nat.not_le.mpr hbl) hL hP hS (ah_C_fr hq.1 hno) (ah_up_s _ _ _) ⟨fun k _ => rfl, rfl, rfl⟩ pd_0 (lv_sub hl [2, 1, 0] rfl)
