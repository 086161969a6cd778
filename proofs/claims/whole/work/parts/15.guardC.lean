/-! ===== JumpGuard: questions and the running ===== -/
def rCnt (n : Int32) : Nat := if ¬ n < 0 ∧ ¬ 1000 < n then n.toNatClampNeg else 0
theorem rCnt_in {n : Int32} (h1 : ¬ n < 0) (h2 : ¬ 1000 < n) : jIn n (nI 1001) := by
  refine ⟨h1, fun h => ?_⟩
  have a := Int32.le_iff_toInt_le.mp h
  have b := Int32.le_iff_toInt_le.mp (Int32.not_lt.mp h2)
  rw [nI_toInt (by decide)] at a
  have e : (1000 : Int32).toInt = 1000 := rfl
  rw [e] at b
  omega
theorem rCnt_n {k : Nat} (h : k ≤ 1000) : rCnt (nI k) = k := by
  unfold rCnt
  rw [if_pos ⟨nI_pos (by omega), nI_nlt (a := 1000) (b := k) h (by decide)⟩, nI_clamp (by omega)]
theorem iw_X1_begin_X1 : ∀ w ∈ wsX10, w ∈ wsX1_begin := by decide +kernel
theorem iw_X3_guarded_X3 : ∀ w ∈ wsX30, w ∈ wsX3_guarded := by decide +kernel
theorem iw_X3_label_X3 : ∀ w ∈ wsX30, w ∈ wsX3_label := by decide +kernel
theorem iw_X3_memory_X3 : ∀ w ∈ wsX30, w ∈ wsX3_memory := by decide +kernel
theorem iw_X3_overwrite_X3 : ∀ w ∈ wsX30, w ∈ wsX3_overwrite := by decide +kernel
theorem iw_X3_pc_X1 : ∀ w ∈ wsX10, w ∈ wsX3_pc := by decide +kernel
theorem iw_X3_pc_X3 : ∀ w ∈ wsX30, w ∈ wsX3_pc := by decide +kernel
theorem iw_X3_place_X3 : ∀ w ∈ wsX30, w ∈ wsX3_place := by decide +kernel
theorem iw_X3_register_X3 : ∀ w ∈ wsX30, w ∈ wsX3_register := by decide +kernel
theorem iw_X3_run_X3 : ∀ w ∈ wsX30, w ∈ wsX3_run := by decide +kernel
theorem iw_X3_shown_X3 : ∀ w ∈ wsX30, w ∈ wsX3_shown := by decide +kernel
theorem iw_X3_shows_X1 : ∀ w ∈ wsX10, w ∈ wsX3_shows := by decide +kernel
theorem iw_X3_shows_X3 : ∀ w ∈ wsX30, w ∈ wsX3_shows := by decide +kernel
theorem iw_X3_source_X3 : ∀ w ∈ wsX30, w ∈ wsX3_source := by decide +kernel
theorem iw_X3_start_X3 : ∀ w ∈ wsX30, w ∈ wsX3_start := by decide +kernel
theorem iw_X3_state_X1 : ∀ w ∈ wsX10, w ∈ wsX3_state := by decide +kernel
theorem iw_X3_state_X3 : ∀ w ∈ wsX30, w ∈ wsX3_state := by decide +kernel
theorem hv_J7_fill_53178 : yJ7_fill_53178.cls = RJ7 ∧ yJ7_fill_53178.cls ≠ "java/lang/invoke/MethodHandle" ∧ yJ7_fill_53178.cls ≠ "java/lang/invoke/VarHandle" ∧ (parseMethodDescriptor yJ7_fill_53178.desc).map (fun d => d.parameters.length) = some 2 := by decide +kernel
theorem hv_X1_begin : yX1_begin.cls = RX1 ∧ yX1_begin.cls ≠ "java/lang/invoke/MethodHandle" ∧ yX1_begin.cls ≠ "java/lang/invoke/VarHandle" ∧ (parseMethodDescriptor yX1_begin.desc).map (fun d => d.parameters.length) = some 1 := by decide +kernel
theorem hv_X1_isIdle : yX1_isIdle.cls = RX1 ∧ yX1_isIdle.cls ≠ "java/lang/invoke/MethodHandle" ∧ yX1_isIdle.cls ≠ "java/lang/invoke/VarHandle" ∧ (parseMethodDescriptor yX1_isIdle.desc).map (fun d => d.parameters.length) = some 0 := by decide +kernel
theorem hv_X1_makeSteps : yX1_makeSteps.cls = RX1 ∧ yX1_makeSteps.cls ≠ "java/lang/invoke/MethodHandle" ∧ yX1_makeSteps.cls ≠ "java/lang/invoke/VarHandle" ∧ (parseMethodDescriptor yX1_makeSteps.desc).map (fun d => d.parameters.length) = some 1 := by decide +kernel
theorem hv_X1_shownBefore : yX1_shownBefore.cls = RX1 ∧ yX1_shownBefore.cls ≠ "java/lang/invoke/MethodHandle" ∧ yX1_shownBefore.cls ≠ "java/lang/invoke/VarHandle" ∧ (parseMethodDescriptor yX1_shownBefore.desc).map (fun d => d.parameters.length) = some 1 := by decide +kernel
theorem hv_X3_isGuarded : yX3_isGuarded.cls = RX3 ∧ yX3_isGuarded.cls ≠ "java/lang/invoke/MethodHandle" ∧ yX3_isGuarded.cls ≠ "java/lang/invoke/VarHandle" ∧ (parseMethodDescriptor yX3_isGuarded.desc).map (fun d => d.parameters.length) = some 0 := by decide +kernel
set_option maxHeartbeats 4000000 in
set_option maxRecDepth 100000 in
theorem c_X3_source (l : Launch) (D : va_G) (cA : ClassId) (h0 : Nat) (p1 : Nat) (p2 : Nat) (e0 : Nat) (l0 : Nat) (m0 : Nat) (b1 : Nat) (k1 : Nat) (f1 : Nat → Int32) (x : Int32) (y : Int32) (hk1 : k1 ≤ 24) : Met l yX3_source wsX3_source ({ frames := 2, cells := 0, slots := 0, locals := 43 }) (roP D cA [.ref h0, .int x, .int y] [(h0, .inr (3, [.ref p1, .ref p2, .ref e0, .ref l0, .ref m0])), (p1, .inr (2, [.ref b1, .int (nI 24), .int (nI k1)])), (b1, .inl (cA, 72, .inl f1))]) (QcRead (pGet f1 k1 x y)) 0 0 (fun _ => False) := by
  refine Met.ofW (cc := cX3_source) (maxL := 3) (ret := (some .int)) (by decide) rfl ?_
  intro p e s m args below meth c s₁ B hml hv
  obtain ⟨rfl, hP, hK, hN⟩ := hv
  have hx := B.exec
  have hb := B.bytes
  have hr := B.returns
  have hts := atoms_spec (ws := wsX3_source) B.pre
  have hown : s.vm.findClass RX3 = some m.cls := findClass_of_methodNamed B.named
  have hlocks := B.notSynchronized
  have hl := lv_entry ([.ref h0, .int x, .int y]) (n := 3) (Nat.le_of_ble_eq_true rfl)
  rw [lg_entry_eq]
  generalize (lg_sl ([.ref h0, .int x, .int y]) ++ List.replicate (3 - (lg_sl ([.ref h0, .int x, .int y])).length) Slot.unset).toArray = ls at hl ⊢
  have hl : lv_has ls 3 [(0, .ref h0), (1, .int x), (2, .int y)] := hl
  refine lv_aload_n hx hb dX3_source_0 rfl (lv_at hl 0 rfl) ?_
  refine va_get (D := D) (ci := 3) (v := .ref p1) (C := RX3) (T := TX3) (N := 5) hx hb hts iw_X3_source_X3 hown hK hP 0 rfl rfl 0 (by decide) (hts (.fieldLink RX3 14 "JumpGuard" "sourceProgram" "LJumpGuard$Program;") (List.mem_of_getElem? (l := wsX3_source) (i := 1) rfl)) (fun _ h9 => h9) rfl dX3_source_1 ?_
  refine lv_iload_n hx hb dX3_source_4 rfl (lv_at hl 1 rfl) ?_
  refine lv_iload_n hx hb dX3_source_5 rfl (lv_at hl 2 rfl) ?_
  refine jr_i (va_runV (As := [.int x, .int y]) (rest := []) ⟨hx, hb, hml, hown, hts⟩ (c_X2_get l D cA p1 b1 24 k1 72 f1 x y (by omega) (by omega)) (cwV 2 hts gX3_source_X2_get rfl rfl rfl hv_X2_get ⟨Nat.le_of_ble_eq_true rfl, Nat.le_of_ble_eq_true rfl⟩) (roP.V (va_recv hK hP (ci := 2) (q0 := 1) rfl rfl) (jP_sub (w2 := [(p1, .inr (2, [.ref b1, .int (nI 24), .int (nI k1)])), (b1, .inl (cA, 72, .inl f1))]) hP [1, 2] rfl) hK hN) rfl rfl hl.1 rfl (lv_room (Nat.le_of_ble_eq_true rfl)) dX3_source_6 ⟨Nat.le_of_ble_eq_true rfl, Nat.le_of_ble_eq_true rfl⟩) ?_
  exact W.iret (v := (pGet f1 k1 x y)) hx hb hr (fun t9 ht9 hW9 => ⟨jk_ret (show (pGet f1 k1 x y) = (pGet f1 k1 x y) from rfl), ht9⟩) (fun q h => absurd h List.not_mem_nil) dX3_source_9
set_option maxHeartbeats 4000000 in
set_option maxRecDepth 100000 in
theorem c_X3_guarded (l : Launch) (D : va_G) (cA : ClassId) (h0 : Nat) (p1 : Nat) (p2 : Nat) (e0 : Nat) (l0 : Nat) (m0 : Nat) (b2 : Nat) (k2 : Nat) (f2 : Nat → Int32) (x : Int32) (y : Int32) (hk2 : k2 ≤ 72) : Met l yX3_guarded wsX3_guarded ({ frames := 2, cells := 0, slots := 0, locals := 43 }) (roP D cA [.ref h0, .int x, .int y] [(h0, .inr (3, [.ref p1, .ref p2, .ref e0, .ref l0, .ref m0])), (p2, .inr (2, [.ref b2, .int (nI 72), .int (nI k2)])), (b2, .inl (cA, 216, .inl f2))]) (QcRead (pGet f2 k2 x y)) 0 0 (fun _ => False) := by
  refine Met.ofW (cc := cX3_guarded) (maxL := 3) (ret := (some .int)) (by decide) rfl ?_
  intro p e s m args below meth c s₁ B hml hv
  obtain ⟨rfl, hP, hK, hN⟩ := hv
  have hx := B.exec
  have hb := B.bytes
  have hr := B.returns
  have hts := atoms_spec (ws := wsX3_guarded) B.pre
  have hown : s.vm.findClass RX3 = some m.cls := findClass_of_methodNamed B.named
  have hlocks := B.notSynchronized
  have hl := lv_entry ([.ref h0, .int x, .int y]) (n := 3) (Nat.le_of_ble_eq_true rfl)
  rw [lg_entry_eq]
  generalize (lg_sl ([.ref h0, .int x, .int y]) ++ List.replicate (3 - (lg_sl ([.ref h0, .int x, .int y])).length) Slot.unset).toArray = ls at hl ⊢
  have hl : lv_has ls 3 [(0, .ref h0), (1, .int x), (2, .int y)] := hl
  refine lv_aload_n hx hb dX3_guarded_0 rfl (lv_at hl 0 rfl) ?_
  refine va_get (D := D) (ci := 3) (v := .ref p2) (C := RX3) (T := TX3) (N := 5) hx hb hts iw_X3_guarded_X3 hown hK hP 0 rfl rfl 1 (by decide) (hts (.fieldLink RX3 18 "JumpGuard" "guardedProgram" "LJumpGuard$Program;") (List.mem_of_getElem? (l := wsX3_guarded) (i := 1) rfl)) (fun _ h9 => h9) rfl dX3_guarded_1 ?_
  refine lv_iload_n hx hb dX3_guarded_4 rfl (lv_at hl 1 rfl) ?_
  refine lv_iload_n hx hb dX3_guarded_5 rfl (lv_at hl 2 rfl) ?_
  refine jr_i (va_runV (As := [.int x, .int y]) (rest := []) ⟨hx, hb, hml, hown, hts⟩ (c_X2_get l D cA p2 b2 72 k2 216 f2 x y (by omega) (by omega)) (cwV 2 hts gX3_guarded_X2_get rfl rfl rfl hv_X2_get ⟨Nat.le_of_ble_eq_true rfl, Nat.le_of_ble_eq_true rfl⟩) (roP.V (va_recv hK hP (ci := 2) (q0 := 1) rfl rfl) (jP_sub (w2 := [(p2, .inr (2, [.ref b2, .int (nI 72), .int (nI k2)])), (b2, .inl (cA, 216, .inl f2))]) hP [1, 2] rfl) hK hN) rfl rfl hl.1 rfl (lv_room (Nat.le_of_ble_eq_true rfl)) dX3_guarded_6 ⟨Nat.le_of_ble_eq_true rfl, Nat.le_of_ble_eq_true rfl⟩) ?_
  exact W.iret (v := (pGet f2 k2 x y)) hx hb hr (fun t9 ht9 hW9 => ⟨jk_ret (show (pGet f2 k2 x y) = (pGet f2 k2 x y) from rfl), ht9⟩) (fun q h => absurd h List.not_mem_nil) dX3_guarded_9
set_option maxHeartbeats 4000000 in
set_option maxRecDepth 100000 in
theorem c_X3_place (l : Launch) (D : va_G) (cA : ClassId) (h0 : Nat) (p1 : Nat) (p2 : Nat) (e0 : Nat) (l0 : Nat) (m0 : Nat) (b1 : Nat) (k1 : Nat) (b2 : Nat) (k2 : Nat) (P : Nat → Int32) (x : Int32) (hk2 : k2 ≤ 72) : Met l yX3_place wsX3_place ({ frames := 2, cells := 0, slots := 0, locals := 41 }) (roP D cA [.ref h0, .int x] [(h0, .inr (3, [.ref p1, .ref p2, .ref e0, .ref l0, .ref m0])), (p1, .inr (2, [.ref b1, .int (nI 24), .int (nI k1)])), (p2, .inr (2, [.ref b2, .int (nI 72), .int (nI k2)])), (l0, .inl (cA, 24, .inl P))]) (QcRead (if 0 < k2 ∧ jIn x (nI k1) then pPl P x else -1)) 0 0 (fun _ => False) := by
  refine Met.ofW (cc := cX3_place) (maxL := 2) (ret := (some .int)) (by decide) rfl ?_
  intro p e s m args below meth c s₁ B hml hv
  obtain ⟨rfl, hP, hK, hN⟩ := hv
  have hx := B.exec
  have hb := B.bytes
  have hr := B.returns
  have hts := atoms_spec (ws := wsX3_place) B.pre
  have hown : s.vm.findClass RX3 = some m.cls := findClass_of_methodNamed B.named
  have hlocks := B.notSynchronized
  have hl := lv_entry ([.ref h0, .int x]) (n := 2) (Nat.le_of_ble_eq_true rfl)
  rw [lg_entry_eq]
  generalize (lg_sl ([.ref h0, .int x]) ++ List.replicate (2 - (lg_sl ([.ref h0, .int x])).length) Slot.unset).toArray = ls at hl ⊢
  have hl : lv_has ls 2 [(0, .ref h0), (1, .int x)] := hl
  refine lv_aload_n hx hb dX3_place_0 rfl (lv_at hl 0 rfl) ?_
  refine jr_i (va_runV (As := []) (rest := []) ⟨hx, hb, hml, hown, hts⟩ (c_X3_isGuarded l D cA h0 p1 p2 e0 l0 m0 b2 k2 (by first | assumption | omega)) (cwV 0 hts gX3_place_X3_isGuarded rfl rfl rfl hv_X3_isGuarded ⟨Nat.le_of_ble_eq_true rfl, Nat.le_of_ble_eq_true rfl⟩) (roP.V (va_recv hK hP (ci := 3) (q0 := 0) rfl rfl) (jP_sub (w2 := [(h0, .inr (3, [.ref p1, .ref p2, .ref e0, .ref l0, .ref m0])), (p2, .inr (2, [.ref b2, .int (nI 72), .int (nI k2)]))]) hP [0, 2] rfl) hK hN) rfl rfl hl.1 rfl (lv_room (Nat.le_of_ble_eq_true rfl)) dX3_place_1 ⟨Nat.le_of_ble_eq_true rfl, Nat.le_of_ble_eq_true rfl⟩) ?_
  refine lv_if_eq (tgt := 18) hx hb dX3_place_4 (by decide) (fun c_4 => ?_) (fun c_4 => ?_)
  · replace c_4 := jB_z.mp c_4
    refine lv_iconst (v := (-1)) hx hb dX3_place_18 (by decide) ?_
    exact W.iret (v := (-1)) hx hb hr (fun t9 ht9 hW9 => ⟨jk_ret (show (-1) = (if 0 < k2 ∧ jIn x (nI k1) then pPl P x else -1) from (if_neg (by first | exact fun h => c_4 h.1 | exact fun h => c_15 h.2)).symm), ht9⟩) (fun q h => absurd h List.not_mem_nil) dX3_place_19
  · replace c_4 := jB_nz.mp c_4
    refine lv_aload_n hx hb dX3_place_7 rfl (lv_at hl 0 rfl) ?_
    refine va_get (D := D) (ci := 3) (v := .ref p1) (C := RX3) (T := TX3) (N := 5) hx hb hts iw_X3_place_X3 hown hK hP 0 rfl rfl 0 (by decide) (hts (.fieldLink RX3 14 "JumpGuard" "sourceProgram" "LJumpGuard$Program;") (List.mem_of_getElem? (l := wsX3_place) (i := 1) rfl)) (fun _ h9 => h9) rfl dX3_place_8 ?_
    refine lv_iload_n hx hb dX3_place_11 rfl (lv_at hl 1 rfl) ?_
    refine jr_i (va_runV (As := [.int x]) (rest := []) ⟨hx, hb, hml, hown, hts⟩ (c_X2_has l D cA p1 b1 24 k1 x) (cwV 1 hts gX3_place_X2_has rfl rfl rfl hv_X2_has ⟨Nat.le_of_ble_eq_true rfl, Nat.le_of_ble_eq_true rfl⟩) (roP.V (va_recv hK hP (ci := 2) (q0 := 1) rfl rfl) (jP_sub (w2 := [(p1, .inr (2, [.ref b1, .int (nI 24), .int (nI k1)]))]) hP [1] rfl) hK hN) rfl rfl hl.1 rfl (lv_room (Nat.le_of_ble_eq_true rfl)) dX3_place_12 ⟨Nat.le_of_ble_eq_true rfl, Nat.le_of_ble_eq_true rfl⟩) ?_
    refine lv_if_ne (tgt := 20) hx hb dX3_place_15 (by decide) (fun c_15 => ?_) (fun c_15 => ?_)
    · replace c_15 := jB_nz.mp c_15
      refine lv_aload_n hx hb dX3_place_20 rfl (lv_at hl 0 rfl) ?_
      refine lv_iload_n hx hb dX3_place_21 rfl (lv_at hl 1 rfl) ?_
      refine jr_i (va_runV (As := [.int x]) (rest := []) ⟨hx, hb, hml, hown, hts⟩ (c_X3_placeOf l D cA h0 p1 p2 e0 l0 m0 P x) (cwV 1 hts gX3_place_X3_placeOf rfl rfl rfl hv_X3_placeOf ⟨Nat.le_of_ble_eq_true rfl, Nat.le_of_ble_eq_true rfl⟩) (roP.V (va_recv hK hP (ci := 3) (q0 := 0) rfl rfl) (jP_sub (w2 := [(h0, .inr (3, [.ref p1, .ref p2, .ref e0, .ref l0, .ref m0])), (l0, .inl (cA, 24, .inl P))]) hP [0, 3] rfl) hK hN) rfl rfl hl.1 rfl (lv_room (Nat.le_of_ble_eq_true rfl)) dX3_place_22 ⟨Nat.le_of_ble_eq_true rfl, Nat.le_of_ble_eq_true rfl⟩) ?_
      exact W.iret (v := (pPl P x)) hx hb hr (fun t9 ht9 hW9 => ⟨jk_ret (show (pPl P x) = (if 0 < k2 ∧ jIn x (nI k1) then pPl P x else -1) from (if_pos ⟨c_4, c_15⟩).symm), ht9⟩) (fun q h => absurd h List.not_mem_nil) dX3_place_25
    · replace c_15 := jB_z.mp c_15
      refine lv_iconst (v := (-1)) hx hb dX3_place_18 (by decide) ?_
      exact W.iret (v := (-1)) hx hb hr (fun t9 ht9 hW9 => ⟨jk_ret (show (-1) = (if 0 < k2 ∧ jIn x (nI k1) then pPl P x else -1) from (if_neg (by first | exact fun h => c_4 h.1 | exact fun h => c_15 h.2)).symm), ht9⟩) (fun q h => absurd h List.not_mem_nil) dX3_place_19
set_option maxHeartbeats 4000000 in
set_option maxRecDepth 100000 in
theorem c_X3_label (l : Launch) (D : va_G) (cA : ClassId) (h0 : Nat) (p1 : Nat) (p2 : Nat) (e0 : Nat) (l0 : Nat) (m0 : Nat) (b1 : Nat) (k1 : Nat) (t0 : Nat) (n0 : Nat) (j0 : Nat) (ec : Nat) (tn : Nat → Int32) (x : Int32) : Met l yX3_label wsX3_label ({ frames := 2, cells := 0, slots := 0, locals := 41 }) (roP D cA [.ref h0, .int x] [(h0, .inr (3, [.ref p1, .ref p2, .ref e0, .ref l0, .ref m0])), (p1, .inr (2, [.ref b1, .int (nI 24), .int (nI k1)])), (e0, .inr (0, [.ref t0, .ref n0, .ref j0, .int (nI ec)])), (n0, .inl (cA, 24, .inl tn))]) (QcRead (if jIn x (nI k1) then jAt tn 24 x else -1)) 0 0 (fun _ => False) := by
  refine Met.ofW (cc := cX3_label) (maxL := 2) (ret := (some .int)) (by decide) rfl ?_
  intro p e s m args below meth c s₁ B hml hv
  obtain ⟨rfl, hP, hK, hN⟩ := hv
  have hx := B.exec
  have hb := B.bytes
  have hr := B.returns
  have hts := atoms_spec (ws := wsX3_label) B.pre
  have hown : s.vm.findClass RX3 = some m.cls := findClass_of_methodNamed B.named
  have hlocks := B.notSynchronized
  have hl := lv_entry ([.ref h0, .int x]) (n := 2) (Nat.le_of_ble_eq_true rfl)
  rw [lg_entry_eq]
  generalize (lg_sl ([.ref h0, .int x]) ++ List.replicate (2 - (lg_sl ([.ref h0, .int x])).length) Slot.unset).toArray = ls at hl ⊢
  have hl : lv_has ls 2 [(0, .ref h0), (1, .int x)] := hl
  refine lv_aload_n hx hb dX3_label_0 rfl (lv_at hl 0 rfl) ?_
  refine va_get (D := D) (ci := 3) (v := .ref p1) (C := RX3) (T := TX3) (N := 5) hx hb hts iw_X3_label_X3 hown hK hP 0 rfl rfl 0 (by decide) (hts (.fieldLink RX3 14 "JumpGuard" "sourceProgram" "LJumpGuard$Program;") (List.mem_of_getElem? (l := wsX3_label) (i := 1) rfl)) (fun _ h9 => h9) rfl dX3_label_1 ?_
  refine lv_iload_n hx hb dX3_label_4 rfl (lv_at hl 1 rfl) ?_
  refine jr_i (va_runV (As := [.int x]) (rest := []) ⟨hx, hb, hml, hown, hts⟩ (c_X2_has l D cA p1 b1 24 k1 x) (cwV 1 hts gX3_label_X2_has rfl rfl rfl hv_X2_has ⟨Nat.le_of_ble_eq_true rfl, Nat.le_of_ble_eq_true rfl⟩) (roP.V (va_recv hK hP (ci := 2) (q0 := 1) rfl rfl) (jP_sub (w2 := [(p1, .inr (2, [.ref b1, .int (nI 24), .int (nI k1)]))]) hP [1] rfl) hK hN) rfl rfl hl.1 rfl (lv_room (Nat.le_of_ble_eq_true rfl)) dX3_label_5 ⟨Nat.le_of_ble_eq_true rfl, Nat.le_of_ble_eq_true rfl⟩) ?_
  refine lv_if_eq (tgt := 22) hx hb dX3_label_8 (by decide) (fun c_8 => ?_) (fun c_8 => ?_)
  · replace c_8 := jB_z.mp c_8
    refine lv_iconst (v := (-1)) hx hb dX3_label_22 (by decide) ?_
    exact W.iret (v := (-1)) hx hb hr (fun t9 ht9 hW9 => ⟨jk_ret (show (-1) = (if jIn x (nI k1) then jAt tn 24 x else -1) from (if_neg c_8).symm), ht9⟩) (fun q h => absurd h List.not_mem_nil) dX3_label_23
  · replace c_8 := jB_nz.mp c_8
    refine lv_aload_n hx hb dX3_label_11 rfl (lv_at hl 0 rfl) ?_
    refine va_get (D := D) (ci := 3) (v := .ref e0) (C := RX3) (T := TX3) (N := 5) hx hb hts iw_X3_label_X3 hown hK hP 0 rfl rfl 2 (by decide) (hts (.fieldLink RX3 24 "JumpGuard" "edges" "LJumpGuard$Edges;") (List.mem_of_getElem? (l := wsX3_label) (i := 2) rfl)) (fun _ h9 => h9) rfl dX3_label_12 ?_
    refine lv_iload_n hx hb dX3_label_15 rfl (lv_at hl 1 rfl) ?_
    refine jr_i (va_runV (As := [.int x]) (rest := []) ⟨hx, hb, hml, hown, hts⟩ (c_X0_numberOfTarget l D cA e0 t0 n0 j0 ec tn x) (cwV 1 hts gX3_label_X0_numberOfTarget rfl rfl rfl hv_X0_numberOfTarget ⟨Nat.le_of_ble_eq_true rfl, Nat.le_of_ble_eq_true rfl⟩) (roP.V (va_recv hK hP (ci := 0) (q0 := 2) rfl rfl) (jP_sub (w2 := [(e0, .inr (0, [.ref t0, .ref n0, .ref j0, .int (nI ec)])), (n0, .inl (cA, 24, .inl tn))]) hP [2, 3] rfl) hK hN) rfl rfl hl.1 rfl (lv_room (Nat.le_of_ble_eq_true rfl)) dX3_label_16 ⟨Nat.le_of_ble_eq_true rfl, Nat.le_of_ble_eq_true rfl⟩) ?_
    refine lv_goto (tgt := 23) hx hb dX3_label_19 (by decide) ?_
    exact W.iret (v := (jAt tn 24 x)) hx hb hr (fun t9 ht9 hW9 => ⟨jk_ret (show (jAt tn 24 x) = (if jIn x (nI k1) then jAt tn 24 x else -1) from (if_pos c_8).symm), ht9⟩) (fun q h => absurd h List.not_mem_nil) dX3_label_23
set_option maxHeartbeats 4000000 in
set_option maxRecDepth 100000 in
theorem c_X3_state (l : Launch) (D : va_G) (cA : ClassId) (h0 : Nat) (p1 : Nat) (p2 : Nat) (e0 : Nat) (l0 : Nat) (m0 : Nat) (r0 : Nat) (c0 : Nat) (s0 : Nat) (p0 : Nat) (pc : Int32) (st : Int32) (w : Nat) : Met l yX3_state wsX3_state ({ frames := 0, cells := 0, slots := 0, locals := 0 }) (roP D cA [.ref h0] [(h0, .inr (3, [.ref p1, .ref p2, .ref e0, .ref l0, .ref m0])), (m0, .inr (1, [.ref r0, .ref c0, .ref s0, .ref p0, .int pc, .int st, .int (nI w)]))]) (QcRead st) 0 0 (fun _ => False) := by
  refine Met.ofW (cc := cX3_state) (maxL := 1) (ret := (some .int)) (by decide) rfl ?_
  intro p e s m args below meth c s₁ B hml hv
  obtain ⟨rfl, hP, hK, hN⟩ := hv
  have hx := B.exec
  have hb := B.bytes
  have hr := B.returns
  have hts := atoms_spec (ws := wsX3_state) B.pre
  have hown : s.vm.findClass RX3 = some m.cls := findClass_of_methodNamed B.named
  have hlocks := B.notSynchronized
  have hl := lv_entry ([.ref h0]) (n := 1) (Nat.le_of_ble_eq_true rfl)
  rw [lg_entry_eq]
  generalize (lg_sl ([.ref h0]) ++ List.replicate (1 - (lg_sl ([.ref h0])).length) Slot.unset).toArray = ls at hl ⊢
  have hl : lv_has ls 1 [(0, .ref h0)] := hl
  refine lv_aload_n hx hb dX3_state_0 rfl (lv_at hl 0 rfl) ?_
  refine va_get (D := D) (ci := 3) (v := .ref m0) (C := RX3) (T := TX3) (N := 5) hx hb hts iw_X3_state_X3 hown hK hP 0 rfl rfl 4 (by decide) (hts (.fieldLink RX3 35 "JumpGuard" "machine" "LJumpGuard$Machine;") (List.mem_of_getElem? (l := wsX3_state) (i := 1) rfl)) (fun _ h9 => h9) rfl dX3_state_1 ?_
  refine va_getN (D := D) (ci := 1) (v := .int st) (C := RX1) (T := TX1) (N := 7) hx hb hts iw_X3_state_X1 hown hK hP 1 rfl rfl 5 (by decide) (va_Nw.use rfl hN.2.2.2.1) (fun _ h9 => h9) rfl dX3_state_4 ?_
  exact W.iret (v := st) hx hb hr (fun t9 ht9 hW9 => ⟨jk_ret (show st = st from rfl), ht9⟩) (fun q h => absurd h List.not_mem_nil) dX3_state_7
set_option maxHeartbeats 4000000 in
set_option maxRecDepth 100000 in
theorem c_X3_pc (l : Launch) (D : va_G) (cA : ClassId) (h0 : Nat) (p1 : Nat) (p2 : Nat) (e0 : Nat) (l0 : Nat) (m0 : Nat) (r0 : Nat) (c0 : Nat) (s0 : Nat) (p0 : Nat) (pc : Int32) (st : Int32) (w : Nat) : Met l yX3_pc wsX3_pc ({ frames := 1, cells := 0, slots := 0, locals := 20 }) (roP D cA [.ref h0] [(h0, .inr (3, [.ref p1, .ref p2, .ref e0, .ref l0, .ref m0])), (m0, .inr (1, [.ref r0, .ref c0, .ref s0, .ref p0, .int pc, .int st, .int (nI w)]))]) (QcRead (if st = (-1) then (-1) else pc)) 0 0 (fun _ => False) := by
  refine Met.ofW (cc := cX3_pc) (maxL := 1) (ret := (some .int)) (by decide) rfl ?_
  intro p e s m args below meth c s₁ B hml hv
  obtain ⟨rfl, hP, hK, hN⟩ := hv
  have hx := B.exec
  have hb := B.bytes
  have hr := B.returns
  have hts := atoms_spec (ws := wsX3_pc) B.pre
  have hown : s.vm.findClass RX3 = some m.cls := findClass_of_methodNamed B.named
  have hlocks := B.notSynchronized
  have hl := lv_entry ([.ref h0]) (n := 1) (Nat.le_of_ble_eq_true rfl)
  rw [lg_entry_eq]
  generalize (lg_sl ([.ref h0]) ++ List.replicate (1 - (lg_sl ([.ref h0])).length) Slot.unset).toArray = ls at hl ⊢
  have hl : lv_has ls 1 [(0, .ref h0)] := hl
  refine lv_aload_n hx hb dX3_pc_0 rfl (lv_at hl 0 rfl) ?_
  refine va_get (D := D) (ci := 3) (v := .ref m0) (C := RX3) (T := TX3) (N := 5) hx hb hts iw_X3_pc_X3 hown hK hP 0 rfl rfl 4 (by decide) (hts (.fieldLink RX3 35 "JumpGuard" "machine" "LJumpGuard$Machine;") (List.mem_of_getElem? (l := wsX3_pc) (i := 1) rfl)) (fun _ h9 => h9) rfl dX3_pc_1 ?_
  refine jr_i (va_runV (As := []) (rest := []) ⟨hx, hb, hml, hown, hts⟩ (c_X1_isIdle l D cA m0 r0 c0 s0 p0 pc st w) (cwV 0 hts gX3_pc_X1_isIdle rfl rfl rfl hv_X1_isIdle ⟨Nat.le_of_ble_eq_true rfl, Nat.le_of_ble_eq_true rfl⟩) (roP.V (va_recv hK hP (ci := 1) (q0 := 1) rfl rfl) (jP_sub (w2 := [(m0, .inr (1, [.ref r0, .ref c0, .ref s0, .ref p0, .int pc, .int st, .int (nI w)]))]) hP [1] rfl) hK hN) rfl rfl hl.1 rfl (lv_room (Nat.le_of_ble_eq_true rfl)) dX3_pc_4 ⟨Nat.le_of_ble_eq_true rfl, Nat.le_of_ble_eq_true rfl⟩) ?_
  refine lv_if_eq (tgt := 14) hx hb dX3_pc_7 (by decide) (fun c_7 => ?_) (fun c_7 => ?_)
  · replace c_7 := jB_z.mp c_7
    refine lv_aload_n hx hb dX3_pc_14 rfl (lv_at hl 0 rfl) ?_
    refine va_get (D := D) (ci := 3) (v := .ref m0) (C := RX3) (T := TX3) (N := 5) hx hb hts iw_X3_pc_X3 hown hK hP 0 rfl rfl 4 (by decide) (hts (.fieldLink RX3 35 "JumpGuard" "machine" "LJumpGuard$Machine;") (List.mem_of_getElem? (l := wsX3_pc) (i := 1) rfl)) (fun _ h9 => h9) rfl dX3_pc_15 ?_
    refine va_getN (D := D) (ci := 1) (v := .int pc) (C := RX1) (T := TX1) (N := 7) hx hb hts iw_X3_pc_X1 hown hK hP 1 rfl rfl 4 (by decide) (va_Nw.use rfl hN.2.2.1) (fun _ h9 => h9) rfl dX3_pc_18 ?_
    exact W.iret (v := pc) hx hb hr (fun t9 ht9 hW9 => ⟨jk_ret (show pc = (if st = (-1) then (-1) else pc) from (if_neg c_7).symm), ht9⟩) (fun q h => absurd h List.not_mem_nil) dX3_pc_21
  · replace c_7 := jB_nz.mp c_7
    refine lv_iconst (v := (-1)) hx hb dX3_pc_10 (by decide) ?_
    refine lv_goto (tgt := 21) hx hb dX3_pc_11 (by decide) ?_
    exact W.iret (v := (-1)) hx hb hr (fun t9 ht9 hW9 => ⟨jk_ret (show (-1) = (if st = (-1) then (-1) else pc) from (if_pos c_7).symm), ht9⟩) (fun q h => absurd h List.not_mem_nil) dX3_pc_21
set_option maxHeartbeats 4000000 in
set_option maxRecDepth 100000 in
theorem c_X3_shows (l : Launch) (D : va_G) (cA : ClassId) (h0 : Nat) (p1 : Nat) (p2 : Nat) (e0 : Nat) (l0 : Nat) (m0 : Nat) (r0 : Nat) (c0 : Nat) (s0 : Nat) (p0 : Nat) (pc : Int32) (st : Int32) (w : Nat) : Met l yX3_shows wsX3_shows ({ frames := 1, cells := 0, slots := 0, locals := 20 }) (roP D cA [.ref h0] [(h0, .inr (3, [.ref p1, .ref p2, .ref e0, .ref l0, .ref m0])), (m0, .inr (1, [.ref r0, .ref c0, .ref s0, .ref p0, .int pc, .int st, .int (nI w)]))]) (QcRead (if st = (-1) then 0 else nI w)) 0 0 (fun _ => False) := by
  refine Met.ofW (cc := cX3_shows) (maxL := 1) (ret := (some .int)) (by decide) rfl ?_
  intro p e s m args below meth c s₁ B hml hv
  obtain ⟨rfl, hP, hK, hN⟩ := hv
  have hx := B.exec
  have hb := B.bytes
  have hr := B.returns
  have hts := atoms_spec (ws := wsX3_shows) B.pre
  have hown : s.vm.findClass RX3 = some m.cls := findClass_of_methodNamed B.named
  have hlocks := B.notSynchronized
  have hl := lv_entry ([.ref h0]) (n := 1) (Nat.le_of_ble_eq_true rfl)
  rw [lg_entry_eq]
  generalize (lg_sl ([.ref h0]) ++ List.replicate (1 - (lg_sl ([.ref h0])).length) Slot.unset).toArray = ls at hl ⊢
  have hl : lv_has ls 1 [(0, .ref h0)] := hl
  refine lv_aload_n hx hb dX3_shows_0 rfl (lv_at hl 0 rfl) ?_
  refine va_get (D := D) (ci := 3) (v := .ref m0) (C := RX3) (T := TX3) (N := 5) hx hb hts iw_X3_shows_X3 hown hK hP 0 rfl rfl 4 (by decide) (hts (.fieldLink RX3 35 "JumpGuard" "machine" "LJumpGuard$Machine;") (List.mem_of_getElem? (l := wsX3_shows) (i := 1) rfl)) (fun _ h9 => h9) rfl dX3_shows_1 ?_
  refine jr_i (va_runV (As := []) (rest := []) ⟨hx, hb, hml, hown, hts⟩ (c_X1_isIdle l D cA m0 r0 c0 s0 p0 pc st w) (cwV 0 hts gX3_shows_X1_isIdle rfl rfl rfl hv_X1_isIdle ⟨Nat.le_of_ble_eq_true rfl, Nat.le_of_ble_eq_true rfl⟩) (roP.V (va_recv hK hP (ci := 1) (q0 := 1) rfl rfl) (jP_sub (w2 := [(m0, .inr (1, [.ref r0, .ref c0, .ref s0, .ref p0, .int pc, .int st, .int (nI w)]))]) hP [1] rfl) hK hN) rfl rfl hl.1 rfl (lv_room (Nat.le_of_ble_eq_true rfl)) dX3_shows_4 ⟨Nat.le_of_ble_eq_true rfl, Nat.le_of_ble_eq_true rfl⟩) ?_
  refine lv_if_eq (tgt := 14) hx hb dX3_shows_7 (by decide) (fun c_7 => ?_) (fun c_7 => ?_)
  · replace c_7 := jB_z.mp c_7
    refine lv_aload_n hx hb dX3_shows_14 rfl (lv_at hl 0 rfl) ?_
    refine va_get (D := D) (ci := 3) (v := .ref m0) (C := RX3) (T := TX3) (N := 5) hx hb hts iw_X3_shows_X3 hown hK hP 0 rfl rfl 4 (by decide) (hts (.fieldLink RX3 35 "JumpGuard" "machine" "LJumpGuard$Machine;") (List.mem_of_getElem? (l := wsX3_shows) (i := 1) rfl)) (fun _ h9 => h9) rfl dX3_shows_15 ?_
    refine va_getN (D := D) (ci := 1) (v := .int (nI w)) (C := RX1) (T := TX1) (N := 7) hx hb hts iw_X3_shows_X1 hown hK hP 1 rfl rfl 6 (by decide) (va_Nw.use rfl hN.2.2.2.2.1) (fun _ h9 => h9) rfl dX3_shows_18 ?_
    exact W.iret (v := (nI w)) hx hb hr (fun t9 ht9 hW9 => ⟨jk_ret (show (nI w) = (if st = (-1) then 0 else nI w) from (if_neg c_7).symm), ht9⟩) (fun q h => absurd h List.not_mem_nil) dX3_shows_21
  · replace c_7 := jB_nz.mp c_7
    refine lv_iconst (v := 0) hx hb dX3_shows_10 (by decide) ?_
    refine lv_goto (tgt := 21) hx hb dX3_shows_11 (by decide) ?_
    exact W.iret (v := 0) hx hb hr (fun t9 ht9 hW9 => ⟨jk_ret (show 0 = (if st = (-1) then 0 else nI w) from (if_pos c_7).symm), ht9⟩) (fun q h => absurd h List.not_mem_nil) dX3_shows_21
set_option maxHeartbeats 4000000 in
set_option maxRecDepth 100000 in
theorem c_X3_memory (l : Launch) (D : va_G) (cA : ClassId) (h0 : Nat) (p1 : Nat) (p2 : Nat) (e0 : Nat) (l0 : Nat) (m0 : Nat) (r0 : Nat) (c0 : Nat) (s0 : Nat) (p0 : Nat) (pc : Int32) (st : Int32) (w : Nat) (Cm : Nat → Int32) (x : Int32) : Met l yX3_memory wsX3_memory ({ frames := 2, cells := 0, slots := 0, locals := 41 }) (roP D cA [.ref h0, .int x] [(h0, .inr (3, [.ref p1, .ref p2, .ref e0, .ref l0, .ref m0])), (m0, .inr (1, [.ref r0, .ref c0, .ref s0, .ref p0, .int pc, .int st, .int (nI w)])), (c0, .inl (cA, 16, .inl Cm))]) (QcRead (if st = (-1) then 0 else jAt Cm 16 x)) 0 0 (fun _ => False) := by
  refine Met.ofW (cc := cX3_memory) (maxL := 2) (ret := (some .int)) (by decide) rfl ?_
  intro p e s m args below meth c s₁ B hml hv
  obtain ⟨rfl, hP, hK, hN⟩ := hv
  have hx := B.exec
  have hb := B.bytes
  have hr := B.returns
  have hts := atoms_spec (ws := wsX3_memory) B.pre
  have hown : s.vm.findClass RX3 = some m.cls := findClass_of_methodNamed B.named
  have hlocks := B.notSynchronized
  have hl := lv_entry ([.ref h0, .int x]) (n := 2) (Nat.le_of_ble_eq_true rfl)
  rw [lg_entry_eq]
  generalize (lg_sl ([.ref h0, .int x]) ++ List.replicate (2 - (lg_sl ([.ref h0, .int x])).length) Slot.unset).toArray = ls at hl ⊢
  have hl : lv_has ls 2 [(0, .ref h0), (1, .int x)] := hl
  refine lv_aload_n hx hb dX3_memory_0 rfl (lv_at hl 0 rfl) ?_
  refine va_get (D := D) (ci := 3) (v := .ref m0) (C := RX3) (T := TX3) (N := 5) hx hb hts iw_X3_memory_X3 hown hK hP 0 rfl rfl 4 (by decide) (hts (.fieldLink RX3 35 "JumpGuard" "machine" "LJumpGuard$Machine;") (List.mem_of_getElem? (l := wsX3_memory) (i := 1) rfl)) (fun _ h9 => h9) rfl dX3_memory_1 ?_
  refine jr_i (va_runV (As := []) (rest := []) ⟨hx, hb, hml, hown, hts⟩ (c_X1_isIdle l D cA m0 r0 c0 s0 p0 pc st w) (cwV 0 hts gX3_memory_X1_isIdle rfl rfl rfl hv_X1_isIdle ⟨Nat.le_of_ble_eq_true rfl, Nat.le_of_ble_eq_true rfl⟩) (roP.V (va_recv hK hP (ci := 1) (q0 := 1) rfl rfl) (jP_sub (w2 := [(m0, .inr (1, [.ref r0, .ref c0, .ref s0, .ref p0, .int pc, .int st, .int (nI w)]))]) hP [1] rfl) hK hN) rfl rfl hl.1 rfl (lv_room (Nat.le_of_ble_eq_true rfl)) dX3_memory_4 ⟨Nat.le_of_ble_eq_true rfl, Nat.le_of_ble_eq_true rfl⟩) ?_
  refine lv_if_eq (tgt := 14) hx hb dX3_memory_7 (by decide) (fun c_7 => ?_) (fun c_7 => ?_)
  · replace c_7 := jB_z.mp c_7
    refine lv_aload_n hx hb dX3_memory_14 rfl (lv_at hl 0 rfl) ?_
    refine va_get (D := D) (ci := 3) (v := .ref m0) (C := RX3) (T := TX3) (N := 5) hx hb hts iw_X3_memory_X3 hown hK hP 0 rfl rfl 4 (by decide) (hts (.fieldLink RX3 35 "JumpGuard" "machine" "LJumpGuard$Machine;") (List.mem_of_getElem? (l := wsX3_memory) (i := 1) rfl)) (fun _ h9 => h9) rfl dX3_memory_15 ?_
    refine lv_iload_n hx hb dX3_memory_18 rfl (lv_at hl 1 rfl) ?_
    refine jr_i (va_runV (As := [.int x]) (rest := []) ⟨hx, hb, hml, hown, hts⟩ (c_X1_cellValue l D cA m0 r0 c0 s0 p0 pc st w Cm x) (cwV 1 hts gX3_memory_X1_cellValue rfl rfl rfl hv_X1_cellValue ⟨Nat.le_of_ble_eq_true rfl, Nat.le_of_ble_eq_true rfl⟩) (roP.V (va_recv hK hP (ci := 1) (q0 := 1) rfl rfl) (jP_sub (w2 := [(m0, .inr (1, [.ref r0, .ref c0, .ref s0, .ref p0, .int pc, .int st, .int (nI w)])), (c0, .inl (cA, 16, .inl Cm))]) hP [1, 2] rfl) hK hN) rfl rfl hl.1 rfl (lv_room (Nat.le_of_ble_eq_true rfl)) dX3_memory_19 ⟨Nat.le_of_ble_eq_true rfl, Nat.le_of_ble_eq_true rfl⟩) ?_
    exact W.iret (v := (jAt Cm 16 x)) hx hb hr (fun t9 ht9 hW9 => ⟨jk_ret (show (jAt Cm 16 x) = (if st = (-1) then 0 else jAt Cm 16 x) from (if_neg c_7).symm), ht9⟩) (fun q h => absurd h List.not_mem_nil) dX3_memory_22
  · replace c_7 := jB_nz.mp c_7
    refine lv_iconst (v := 0) hx hb dX3_memory_10 (by decide) ?_
    refine lv_goto (tgt := 22) hx hb dX3_memory_11 (by decide) ?_
    exact W.iret (v := 0) hx hb hr (fun t9 ht9 hW9 => ⟨jk_ret (show 0 = (if st = (-1) then 0 else jAt Cm 16 x) from (if_pos c_7).symm), ht9⟩) (fun q h => absurd h List.not_mem_nil) dX3_memory_22
set_option maxHeartbeats 4000000 in
set_option maxRecDepth 100000 in
theorem c_X3_register (l : Launch) (D : va_G) (cA : ClassId) (h0 : Nat) (p1 : Nat) (p2 : Nat) (e0 : Nat) (l0 : Nat) (m0 : Nat) (r0 : Nat) (c0 : Nat) (s0 : Nat) (p0 : Nat) (pc : Int32) (st : Int32) (w : Nat) (R : Nat → Int32) (x : Int32) : Met l yX3_register wsX3_register ({ frames := 2, cells := 0, slots := 0, locals := 41 }) (roP D cA [.ref h0, .int x] [(h0, .inr (3, [.ref p1, .ref p2, .ref e0, .ref l0, .ref m0])), (m0, .inr (1, [.ref r0, .ref c0, .ref s0, .ref p0, .int pc, .int st, .int (nI w)])), (r0, .inl (cA, 4, .inl R))]) (QcRead (if st = (-1) then 0 else jAt R 4 x)) 0 0 (fun _ => False) := by
  refine Met.ofW (cc := cX3_register) (maxL := 2) (ret := (some .int)) (by decide) rfl ?_
  intro p e s m args below meth c s₁ B hml hv
  obtain ⟨rfl, hP, hK, hN⟩ := hv
  have hx := B.exec
  have hb := B.bytes
  have hr := B.returns
  have hts := atoms_spec (ws := wsX3_register) B.pre
  have hown : s.vm.findClass RX3 = some m.cls := findClass_of_methodNamed B.named
  have hlocks := B.notSynchronized
  have hl := lv_entry ([.ref h0, .int x]) (n := 2) (Nat.le_of_ble_eq_true rfl)
  rw [lg_entry_eq]
  generalize (lg_sl ([.ref h0, .int x]) ++ List.replicate (2 - (lg_sl ([.ref h0, .int x])).length) Slot.unset).toArray = ls at hl ⊢
  have hl : lv_has ls 2 [(0, .ref h0), (1, .int x)] := hl
  refine lv_aload_n hx hb dX3_register_0 rfl (lv_at hl 0 rfl) ?_
  refine va_get (D := D) (ci := 3) (v := .ref m0) (C := RX3) (T := TX3) (N := 5) hx hb hts iw_X3_register_X3 hown hK hP 0 rfl rfl 4 (by decide) (hts (.fieldLink RX3 35 "JumpGuard" "machine" "LJumpGuard$Machine;") (List.mem_of_getElem? (l := wsX3_register) (i := 1) rfl)) (fun _ h9 => h9) rfl dX3_register_1 ?_
  refine jr_i (va_runV (As := []) (rest := []) ⟨hx, hb, hml, hown, hts⟩ (c_X1_isIdle l D cA m0 r0 c0 s0 p0 pc st w) (cwV 0 hts gX3_register_X1_isIdle rfl rfl rfl hv_X1_isIdle ⟨Nat.le_of_ble_eq_true rfl, Nat.le_of_ble_eq_true rfl⟩) (roP.V (va_recv hK hP (ci := 1) (q0 := 1) rfl rfl) (jP_sub (w2 := [(m0, .inr (1, [.ref r0, .ref c0, .ref s0, .ref p0, .int pc, .int st, .int (nI w)]))]) hP [1] rfl) hK hN) rfl rfl hl.1 rfl (lv_room (Nat.le_of_ble_eq_true rfl)) dX3_register_4 ⟨Nat.le_of_ble_eq_true rfl, Nat.le_of_ble_eq_true rfl⟩) ?_
  refine lv_if_eq (tgt := 14) hx hb dX3_register_7 (by decide) (fun c_7 => ?_) (fun c_7 => ?_)
  · replace c_7 := jB_z.mp c_7
    refine lv_aload_n hx hb dX3_register_14 rfl (lv_at hl 0 rfl) ?_
    refine va_get (D := D) (ci := 3) (v := .ref m0) (C := RX3) (T := TX3) (N := 5) hx hb hts iw_X3_register_X3 hown hK hP 0 rfl rfl 4 (by decide) (hts (.fieldLink RX3 35 "JumpGuard" "machine" "LJumpGuard$Machine;") (List.mem_of_getElem? (l := wsX3_register) (i := 1) rfl)) (fun _ h9 => h9) rfl dX3_register_15 ?_
    refine lv_iload_n hx hb dX3_register_18 rfl (lv_at hl 1 rfl) ?_
    refine jr_i (va_runV (As := [.int x]) (rest := []) ⟨hx, hb, hml, hown, hts⟩ (c_X1_registerValue l D cA m0 r0 c0 s0 p0 pc st w R x) (cwV 1 hts gX3_register_X1_registerValue rfl rfl rfl hv_X1_registerValue ⟨Nat.le_of_ble_eq_true rfl, Nat.le_of_ble_eq_true rfl⟩) (roP.V (va_recv hK hP (ci := 1) (q0 := 1) rfl rfl) (jP_sub (w2 := [(m0, .inr (1, [.ref r0, .ref c0, .ref s0, .ref p0, .int pc, .int st, .int (nI w)])), (r0, .inl (cA, 4, .inl R))]) hP [1, 2] rfl) hK hN) rfl rfl hl.1 rfl (lv_room (Nat.le_of_ble_eq_true rfl)) dX3_register_19 ⟨Nat.le_of_ble_eq_true rfl, Nat.le_of_ble_eq_true rfl⟩) ?_
    exact W.iret (v := (jAt R 4 x)) hx hb hr (fun t9 ht9 hW9 => ⟨jk_ret (show (jAt R 4 x) = (if st = (-1) then 0 else jAt R 4 x) from (if_neg c_7).symm), ht9⟩) (fun q h => absurd h List.not_mem_nil) dX3_register_22
  · replace c_7 := jB_nz.mp c_7
    refine lv_iconst (v := 0) hx hb dX3_register_10 (by decide) ?_
    refine lv_goto (tgt := 22) hx hb dX3_register_11 (by decide) ?_
    exact W.iret (v := 0) hx hb hr (fun t9 ht9 hW9 => ⟨jk_ret (show 0 = (if st = (-1) then 0 else jAt R 4 x) from (if_pos c_7).symm), ht9⟩) (fun q h => absurd h List.not_mem_nil) dX3_register_22
set_option maxHeartbeats 4000000 in
set_option maxRecDepth 100000 in
theorem c_X3_shown (l : Launch) (D : va_G) (cA : ClassId) (h0 : Nat) (p1 : Nat) (p2 : Nat) (e0 : Nat) (l0 : Nat) (m0 : Nat) (r0 : Nat) (c0 : Nat) (s0 : Nat) (p0 : Nat) (pc : Int32) (st : Int32) (w : Nat) (Ls : Nat → Int32) (x : Int32) (hw : w < 1000000) : Met l yX3_shown wsX3_shown ({ frames := 1, cells := 0, slots := 0, locals := 21 }) (roP D cA [.ref h0, .int x] [(h0, .inr (3, [.ref p1, .ref p2, .ref e0, .ref l0, .ref m0])), (m0, .inr (1, [.ref r0, .ref c0, .ref s0, .ref p0, .int pc, .int st, .int (nI w)])), (s0, .inl (cA, 8, .inl Ls))]) (QcRead (if st = (-1) then 0 else mShown Ls w x)) 0 0 (fun _ => False) := by
  refine Met.ofW (cc := cX3_shown) (maxL := 2) (ret := (some .int)) (by decide) rfl ?_
  intro p e s m args below meth c s₁ B hml hv
  obtain ⟨rfl, hP, hK, hN⟩ := hv
  have hx := B.exec
  have hb := B.bytes
  have hr := B.returns
  have hts := atoms_spec (ws := wsX3_shown) B.pre
  have hown : s.vm.findClass RX3 = some m.cls := findClass_of_methodNamed B.named
  have hlocks := B.notSynchronized
  have hl := lv_entry ([.ref h0, .int x]) (n := 2) (Nat.le_of_ble_eq_true rfl)
  rw [lg_entry_eq]
  generalize (lg_sl ([.ref h0, .int x]) ++ List.replicate (2 - (lg_sl ([.ref h0, .int x])).length) Slot.unset).toArray = ls at hl ⊢
  have hl : lv_has ls 2 [(0, .ref h0), (1, .int x)] := hl
  refine lv_aload_n hx hb dX3_shown_0 rfl (lv_at hl 0 rfl) ?_
  refine va_get (D := D) (ci := 3) (v := .ref m0) (C := RX3) (T := TX3) (N := 5) hx hb hts iw_X3_shown_X3 hown hK hP 0 rfl rfl 4 (by decide) (hts (.fieldLink RX3 35 "JumpGuard" "machine" "LJumpGuard$Machine;") (List.mem_of_getElem? (l := wsX3_shown) (i := 1) rfl)) (fun _ h9 => h9) rfl dX3_shown_1 ?_
  refine jr_i (va_runV (As := []) (rest := []) ⟨hx, hb, hml, hown, hts⟩ (c_X1_isIdle l D cA m0 r0 c0 s0 p0 pc st w) (cwV 0 hts gX3_shown_X1_isIdle rfl rfl rfl hv_X1_isIdle ⟨Nat.le_of_ble_eq_true rfl, Nat.le_of_ble_eq_true rfl⟩) (roP.V (va_recv hK hP (ci := 1) (q0 := 1) rfl rfl) (jP_sub (w2 := [(m0, .inr (1, [.ref r0, .ref c0, .ref s0, .ref p0, .int pc, .int st, .int (nI w)]))]) hP [1] rfl) hK hN) rfl rfl hl.1 rfl (lv_room (Nat.le_of_ble_eq_true rfl)) dX3_shown_4 ⟨Nat.le_of_ble_eq_true rfl, Nat.le_of_ble_eq_true rfl⟩) ?_
  refine lv_if_eq (tgt := 14) hx hb dX3_shown_7 (by decide) (fun c_7 => ?_) (fun c_7 => ?_)
  · replace c_7 := jB_z.mp c_7
    refine lv_aload_n hx hb dX3_shown_14 rfl (lv_at hl 0 rfl) ?_
    refine va_get (D := D) (ci := 3) (v := .ref m0) (C := RX3) (T := TX3) (N := 5) hx hb hts iw_X3_shown_X3 hown hK hP 0 rfl rfl 4 (by decide) (hts (.fieldLink RX3 35 "JumpGuard" "machine" "LJumpGuard$Machine;") (List.mem_of_getElem? (l := wsX3_shown) (i := 1) rfl)) (fun _ h9 => h9) rfl dX3_shown_15 ?_
    refine lv_iload_n hx hb dX3_shown_18 rfl (lv_at hl 1 rfl) ?_
    refine jr_i (va_runV (As := [.int x]) (rest := []) ⟨hx, hb, hml, hown, hts⟩ (c_X1_shownBefore l D cA m0 r0 c0 s0 p0 pc st w Ls x (by first | assumption | omega)) (cwV 1 hts gX3_shown_X1_shownBefore rfl rfl rfl hv_X1_shownBefore ⟨Nat.le_of_ble_eq_true rfl, Nat.le_of_ble_eq_true rfl⟩) (roP.V (va_recv hK hP (ci := 1) (q0 := 1) rfl rfl) (jP_sub (w2 := [(m0, .inr (1, [.ref r0, .ref c0, .ref s0, .ref p0, .int pc, .int st, .int (nI w)])), (s0, .inl (cA, 8, .inl Ls))]) hP [1, 2] rfl) hK hN) rfl rfl hl.1 rfl (lv_room (Nat.le_of_ble_eq_true rfl)) dX3_shown_19 ⟨Nat.le_of_ble_eq_true rfl, Nat.le_of_ble_eq_true rfl⟩) ?_
    exact W.iret (v := (mShown Ls w x)) hx hb hr (fun t9 ht9 hW9 => ⟨jk_ret (show (mShown Ls w x) = (if st = (-1) then 0 else mShown Ls w x) from (if_neg c_7).symm), ht9⟩) (fun q h => absurd h List.not_mem_nil) dX3_shown_22
  · replace c_7 := jB_nz.mp c_7
    refine lv_iconst (v := 0) hx hb dX3_shown_10 (by decide) ?_
    refine lv_goto (tgt := 22) hx hb dX3_shown_11 (by decide) ?_
    exact W.iret (v := 0) hx hb hr (fun t9 ht9 hW9 => ⟨jk_ret (show 0 = (if st = (-1) then 0 else mShown Ls w x) from (if_pos c_7).symm), ht9⟩) (fun q h => absurd h List.not_mem_nil) dX3_shown_22
set_option maxHeartbeats 4000000 in
set_option maxRecDepth 100000 in
theorem c_X3_overwrite (l : Launch) (D : va_G) (cA : ClassId) (sz : Nat) (h0 : Nat) (p1 : Nat) (p2 : Nat) (e0 : Nat) (l0 : Nat) (m0 : Nat) (r0 : Nat) (c0 : Nat) (s0 : Nat) (p0 : Nat) (pc : Int32) (st : Int32) (w : Nat) (Cm : Nat → Int32) (x : Int32) (v : Int32) : Met l yX3_overwrite wsX3_overwrite ({ frames := 2, cells := 0, slots := 0, locals := 42 }) (rwP D cA [.ref h0, .int x, .int v] sz [(h0, .inr (3, [.ref p1, .ref p2, .ref e0, .ref l0, .ref m0])), (m0, .inr (1, [.ref r0, .ref c0, .ref s0, .ref p0, .int pc, .int st, .int (nI w)])), (c0, .inl (cA, 16, .inl Cm))]) (rwI D (va_A [(h0, .inr (3, [.ref p1, .ref p2, .ref e0, .ref l0, .ref m0])), (m0, .inr (1, [.ref r0, .ref c0, .ref s0, .ref p0, .int pc, .int st, .int (nI w)])), (c0, .inl (cA, 16, .inl Cm))] sz) (jB (¬ st = (-1) ∧ jIn x 16)) [(h0, .inr (3, [.ref p1, .ref p2, .ref e0, .ref l0, .ref m0])), (m0, .inr (1, [.ref r0, .ref c0, .ref s0, .ref p0, .int pc, .int st, .int (nI w)])), (c0, .inl (cA, 16, .inl (if st = (-1) then Cm else jPut Cm 16 x v)))]) 0 0 (va_A [(h0, .inr (3, [.ref p1, .ref p2, .ref e0, .ref l0, .ref m0])), (m0, .inr (1, [.ref r0, .ref c0, .ref s0, .ref p0, .int pc, .int st, .int (nI w)])), (c0, .inl (cA, 16, .inl Cm))] sz) := by
  refine Met.ofW (cc := cX3_overwrite) (maxL := 3) (ret := (some .boolean)) (by decide) rfl ?_
  intro p e s m args below meth c s₁ B hml hv
  obtain ⟨rfl, hsz, hP, hK, hN, hD0⟩ := hv
  have hx := B.exec
  have hb := B.bytes
  have hr := B.returns
  have hts := atoms_spec (ws := wsX3_overwrite) B.pre
  have hown : s.vm.findClass RX3 = some m.cls := findClass_of_methodNamed B.named
  have hlocks := B.notSynchronized
  subst hsz
  have hD := hD0.self (sz := s.heap.size)
  generalize hAe : va_A [(h0, .inr (3, [.ref p1, .ref p2, .ref e0, .ref l0, .ref m0])), (m0, .inr (1, [.ref r0, .ref c0, .ref s0, .ref p0, .int pc, .int st, .int (nI w)])), (c0, .inl (cA, 16, .inl Cm))] s.heap.size = A at hD ⊢
  have hA : ∀ q : Nat, s.heap.size ≤ q → A q := fun q h => by rw [← hAe]; exact Or.inr h
  have hS : va_S A s.heap s.heap [] := va_S.rf
  have hl := lv_entry ([.ref h0, .int x, .int v]) (n := 3) (Nat.le_of_ble_eq_true rfl)
  rw [lg_entry_eq]
  generalize (lg_sl ([.ref h0, .int x, .int v]) ++ List.replicate (3 - (lg_sl ([.ref h0, .int x, .int v])).length) Slot.unset).toArray = ls at hl ⊢
  have hl : lv_has ls 3 [(0, .ref h0), (1, .int x), (2, .int v)] := hl
  refine lv_aload_n hx hb dX3_overwrite_0 rfl (lv_at hl 0 rfl) ?_
  refine va_get (D := D) (ci := 3) (v := .ref m0) (C := RX3) (T := TX3) (N := 5) hx hb hts iw_X3_overwrite_X3 hown hK hP 0 rfl rfl 4 (by decide) (hts (.fieldLink RX3 35 "JumpGuard" "machine" "LJumpGuard$Machine;") (List.mem_of_getElem? (l := wsX3_overwrite) (i := 1) rfl)) (fun _ h9 => h9) rfl dX3_overwrite_1 ?_
  refine jr_i (va_runV (As := []) (rest := []) ⟨hx, hb, hml, hown, hts⟩ (c_X1_isIdle l D cA m0 r0 c0 s0 p0 pc st w) (cwV 0 hts gX3_overwrite_X1_isIdle rfl rfl rfl hv_X1_isIdle ⟨Nat.le_of_ble_eq_true rfl, Nat.le_of_ble_eq_true rfl⟩) (roP.V (va_recv hK hP (ci := 1) (q0 := 1) rfl rfl) (jP_sub (w2 := [(m0, .inr (1, [.ref r0, .ref c0, .ref s0, .ref p0, .int pc, .int st, .int (nI w)]))]) hP [1] rfl) hK hN) rfl rfl hl.1 rfl (lv_room (Nat.le_of_ble_eq_true rfl)) dX3_overwrite_4 ⟨Nat.le_of_ble_eq_true rfl, Nat.le_of_ble_eq_true rfl⟩) ?_
  refine lv_if_ne (tgt := 17) hx hb dX3_overwrite_7 (by decide) (fun c_7 => ?_) (fun c_7 => ?_)
  · replace c_7 := jB_nz.mp c_7
    refine lv_iconst (v := 0) hx hb dX3_overwrite_17 (by decide) ?_
    obtain ⟨hP9, hD9⟩ := jk_end (w2 := [(h0, .inr (3, [.ref p1, .ref p2, .ref e0, .ref l0, .ref m0])), (m0, .inr (1, [.ref r0, .ref c0, .ref s0, .ref p0, .int pc, .int st, .int (nI w)])), (c0, .inl (cA, 16, .inl Cm))]) hP hD [0, 1, 2] (by decide) rfl
    have e9 : ([(h0, .inr (3, [.ref p1, .ref p2, .ref e0, .ref l0, .ref m0])), (m0, .inr (1, [.ref r0, .ref c0, .ref s0, .ref p0, .int pc, .int st, .int (nI w)])), (c0, .inl (cA, 16, .inl Cm))] : va_W) = [(h0, .inr (3, [.ref p1, .ref p2, .ref e0, .ref l0, .ref m0])), (m0, .inr (1, [.ref r0, .ref c0, .ref s0, .ref p0, .int pc, .int st, .int (nI w)])), (c0, .inl (cA, 16, .inl (if st = (-1) then Cm else jPut Cm 16 x v)))] := (by simp only [if_pos c_7])
    rw [e9] at hP9 hD9
    exact W.zret (ty := .boolean) (v := 0) hx hb hr rfl (fun t9 ht9 hW9 => ⟨⟨_, (), rfl, (show 0 = (jB (¬ st = (-1) ∧ jIn x 16)) from (jB_f (by first | exact fun h => h.1 c_7 | exact fun h => c_14 h.2)).symm), by rw [ht9]; exact hP9, hD9⟩, hS.F ht9⟩) hS.2.2 dX3_overwrite_18
  · replace c_7 := jB_z.mp c_7
    refine lv_iload_n hx hb dX3_overwrite_10 rfl (lv_at hl 1 rfl) ?_
    refine jr_i (va_runS (As := [.int x]) (rest := []) ⟨hx, hb, hml, hown, hts⟩ (c_X3_isCell l D cA x) (va_cwS 1 hts gX3_overwrite_X3_isCell rfl rfl rfl hv_X3_isCell.2 ⟨Nat.le_of_ble_eq_true rfl, Nat.le_of_ble_eq_true rfl⟩) (roP.S (av := [.int x]) (jP_sub (w2 := []) hP [] rfl) hK hN) rfl rfl hl.1 rfl (lv_room (Nat.le_of_ble_eq_true rfl)) dX3_overwrite_11 ⟨Nat.le_of_ble_eq_true rfl, Nat.le_of_ble_eq_true rfl⟩) ?_
    refine lv_if_ne (tgt := 19) hx hb dX3_overwrite_14 (by decide) (fun c_14 => ?_) (fun c_14 => ?_)
    · replace c_14 := jB_nz.mp c_14
      refine lv_aload_n hx hb dX3_overwrite_19 rfl (lv_at hl 0 rfl) ?_
      refine va_get (D := D) (ci := 3) (v := .ref m0) (C := RX3) (T := TX3) (N := 5) hx hb hts iw_X3_overwrite_X3 hown hK hP 0 rfl rfl 4 (by decide) (hts (.fieldLink RX3 35 "JumpGuard" "machine" "LJumpGuard$Machine;") (List.mem_of_getElem? (l := wsX3_overwrite) (i := 1) rfl)) (fun _ h9 => h9) rfl dX3_overwrite_20 ?_
      refine lv_iload_n hx hb dX3_overwrite_23 rfl (lv_at hl 1 rfl) ?_
      refine lv_iload_n hx hb dX3_overwrite_24 rfl (lv_at hl 2 rfl) ?_
      refine jw_v (va_runV (As := [.int x, .int v]) (rest := []) ⟨hx, hb, hml, hown, hts⟩ (c_X1_setCell l D cA s.heap.size m0 r0 c0 s0 p0 pc st w Cm x v) (cwV 2 hts gX3_overwrite_X1_setCell rfl rfl rfl hv_X1_setCell ⟨Nat.le_of_ble_eq_true rfl, Nat.le_of_ble_eq_true rfl⟩) (rwP.V (wc := [(m0, .inr (1, [.ref r0, .ref c0, .ref s0, .ref p0, .int pc, .int st, .int (nI w)])), (c0, .inl (cA, 16, .inl Cm))]) (va_recv hK hP (ci := 1) (q0 := 1) rfl rfl) hP hD hK hN [1, 2] (by decide) rfl) rfl rfl hl.1 rfl (lv_room (Nat.le_of_ble_eq_true rfl)) dX3_overwrite_25 ⟨Nat.le_of_ble_eq_true rfl, Nat.le_of_ble_eq_true rfl⟩) hP hD hS hA [1, 2] [0] [0, 1, 2] (wr := [(h0, .inr (3, [.ref p1, .ref p2, .ref e0, .ref l0, .ref m0]))]) (w2 := [(h0, .inr (3, [.ref p1, .ref p2, .ref e0, .ref l0, .ref m0])), (m0, .inr (1, [.ref r0, .ref c0, .ref s0, .ref p0, .int pc, .int st, .int (nI w)])), (c0, .inl (cA, 16, .inl (jPut Cm 16 x v)))]) rfl rfl (by decide) (by decide) (by decide) rfl (fun H locs hP hD hS => ?_)
      refine lv_iconst (v := 1) hx hb dX3_overwrite_28 (by decide) ?_
      obtain ⟨hP9, hD9⟩ := jk_end (w2 := [(h0, .inr (3, [.ref p1, .ref p2, .ref e0, .ref l0, .ref m0])), (m0, .inr (1, [.ref r0, .ref c0, .ref s0, .ref p0, .int pc, .int st, .int (nI w)])), (c0, .inl (cA, 16, .inl (jPut Cm 16 x v)))]) hP hD [0, 1, 2] (by decide) rfl
      have e9 : ([(h0, .inr (3, [.ref p1, .ref p2, .ref e0, .ref l0, .ref m0])), (m0, .inr (1, [.ref r0, .ref c0, .ref s0, .ref p0, .int pc, .int st, .int (nI w)])), (c0, .inl (cA, 16, .inl (jPut Cm 16 x v)))] : va_W) = [(h0, .inr (3, [.ref p1, .ref p2, .ref e0, .ref l0, .ref m0])), (m0, .inr (1, [.ref r0, .ref c0, .ref s0, .ref p0, .int pc, .int st, .int (nI w)])), (c0, .inl (cA, 16, .inl (if st = (-1) then Cm else jPut Cm 16 x v)))] := (by simp only [if_neg c_7])
      rw [e9] at hP9 hD9
      exact W.zret (ty := .boolean) (v := 1) hx hb hr rfl (fun t9 ht9 hW9 => ⟨⟨_, (), rfl, (show 1 = (jB (¬ st = (-1) ∧ jIn x 16)) from (jB_t ⟨c_7, c_14⟩).symm), by rw [ht9]; exact hP9, hD9⟩, hS.F ht9⟩) hS.2.2 dX3_overwrite_29
    · replace c_14 := jB_z.mp c_14
      refine lv_iconst (v := 0) hx hb dX3_overwrite_17 (by decide) ?_
      obtain ⟨hP9, hD9⟩ := jk_end (w2 := [(h0, .inr (3, [.ref p1, .ref p2, .ref e0, .ref l0, .ref m0])), (m0, .inr (1, [.ref r0, .ref c0, .ref s0, .ref p0, .int pc, .int st, .int (nI w)])), (c0, .inl (cA, 16, .inl Cm))]) hP hD [0, 1, 2] (by decide) rfl
      have e9 : ([(h0, .inr (3, [.ref p1, .ref p2, .ref e0, .ref l0, .ref m0])), (m0, .inr (1, [.ref r0, .ref c0, .ref s0, .ref p0, .int pc, .int st, .int (nI w)])), (c0, .inl (cA, 16, .inl Cm))] : va_W) = [(h0, .inr (3, [.ref p1, .ref p2, .ref e0, .ref l0, .ref m0])), (m0, .inr (1, [.ref r0, .ref c0, .ref s0, .ref p0, .int pc, .int st, .int (nI w)])), (c0, .inl (cA, 16, .inl (if st = (-1) then Cm else jPut Cm 16 x v)))] := (by simp only [if_neg c_7, jPut_no c_14])
      rw [e9] at hP9 hD9
      exact W.zret (ty := .boolean) (v := 0) hx hb hr rfl (fun t9 ht9 hW9 => ⟨⟨_, (), rfl, (show 0 = (jB (¬ st = (-1) ∧ jIn x 16)) from (jB_f (by first | exact fun h => h.1 c_7 | exact fun h => c_14 h.2)).symm), by rw [ht9]; exact hP9, hD9⟩, hS.F ht9⟩) hS.2.2 dX3_overwrite_18
set_option maxHeartbeats 4000000 in
set_option maxRecDepth 100000 in
theorem c_X1_begin (l : Launch) (D : va_G) (cA : ClassId) (sz : Nat) (m0 : Nat) (r0 : Nat) (c0 : Nat) (s0 : Nat) (p0 : Nat) (pc : Int32) (st : Int32) (w : Nat) (R : Nat → Int32) (Cm : Nat → Int32) (p9 : Nat) : Met l yX1_begin wsX1_begin ({ frames := 1, cells := 0, slots := 0, locals := 23 }) (rwP D cA [.ref m0, .ref p9] sz [(m0, .inr (1, [.ref r0, .ref c0, .ref s0, .ref p0, .int pc, .int st, .int (nI w)])), (r0, .inl (cA, 4, .inl R)), (c0, .inl (cA, 16, .inl Cm))]) (rwV D (va_A [(m0, .inr (1, [.ref r0, .ref c0, .ref s0, .ref p0, .int pc, .int st, .int (nI w)])), (r0, .inl (cA, 4, .inl R)), (c0, .inl (cA, 16, .inl Cm))] sz) [(m0, .inr (1, [.ref r0, .ref c0, .ref s0, .ref p9, .int 0, .int 0, .int (nI 0)])), (r0, .inl (cA, 4, .inl (jFill R 0 4))), (c0, .inl (cA, 16, .inl (jFill Cm 0 16)))]) 0 0 (va_A [(m0, .inr (1, [.ref r0, .ref c0, .ref s0, .ref p0, .int pc, .int st, .int (nI w)])), (r0, .inl (cA, 4, .inl R)), (c0, .inl (cA, 16, .inl Cm))] sz) := by
  refine Met.ofW (cc := cX1_begin) (maxL := 2) (ret := none) (by decide) rfl ?_
  intro p e s m args below meth c s₁ B hml hv
  obtain ⟨rfl, hsz, hP, hK, hN, hD0⟩ := hv
  have hx := B.exec
  have hb := B.bytes
  have hr := B.returns
  have hts := atoms_spec (ws := wsX1_begin) B.pre
  have hown : s.vm.findClass RX1 = some m.cls := findClass_of_methodNamed B.named
  have hlocks := B.notSynchronized
  subst hsz
  have hD := hD0.self (sz := s.heap.size)
  generalize hAe : va_A [(m0, .inr (1, [.ref r0, .ref c0, .ref s0, .ref p0, .int pc, .int st, .int (nI w)])), (r0, .inl (cA, 4, .inl R)), (c0, .inl (cA, 16, .inl Cm))] s.heap.size = A at hD ⊢
  have hA : ∀ q : Nat, s.heap.size ≤ q → A q := fun q h => by rw [← hAe]; exact Or.inr h
  have hS : va_S A s.heap s.heap [] := va_S.rf
  have hl := lv_entry ([.ref m0, .ref p9]) (n := 2) (Nat.le_of_ble_eq_true rfl)
  rw [lg_entry_eq]
  generalize (lg_sl ([.ref m0, .ref p9]) ++ List.replicate (2 - (lg_sl ([.ref m0, .ref p9])).length) Slot.unset).toArray = ls at hl ⊢
  have hl : lv_has ls 2 [(0, .ref m0), (1, .ref p9)] := hl
  refine lv_aload_n hx hb dX1_begin_0 rfl (lv_at hl 0 rfl) ?_
  refine lv_aload_n hx hb dX1_begin_1 rfl (lv_at hl 1 rfl) ?_
  refine va_put (D := D) (ci := 1) (v := .ref p9) (ty := .object "JumpGuard$Program") (C := RX1) (T := TX1) (N := 7) hx hb hts iw_X1_begin_X1 tyX1 tyX1_ok nmX1 hown hK hP hD hS 0 rfl rfl 3 (by decide) (hts (.fieldLink RX1 26 "JumpGuard$Machine" "program" "LJumpGuard$Program;") (List.mem_of_getElem? (l := wsX1_begin) (i := 1) rfl)) (fun _ h9 => h9) rfl (by decide +kernel) rfl rfl (Nat.le_of_ble_eq_true rfl) dX1_begin_2 (fun H locs hP hD hS => ?_)
  have hP : va_P D vwCl [(m0, .inr (1, [.ref r0, .ref c0, .ref s0, .ref p9, .int pc, .int st, .int (nI w)])), (r0, .inl (cA, 4, .inl R)), (c0, .inl (cA, 16, .inl Cm))] H := hP
  have hD : va_D A [(m0, .inr (1, [.ref r0, .ref c0, .ref s0, .ref p9, .int pc, .int st, .int (nI w)])), (r0, .inl (cA, 4, .inl R)), (c0, .inl (cA, 16, .inl Cm))] := hD
  refine lv_aload_n hx hb dX1_begin_5 rfl (lv_at hl 0 rfl) ?_
  refine va_get (D := D) (ci := 1) (v := .ref r0) (C := RX1) (T := TX1) (N := 7) hx hb hts iw_X1_begin_X1 hown hK hP 0 rfl rfl 0 (by decide) (hts (.fieldLink RX1 9 "JumpGuard$Machine" "registers" "[I") (List.mem_of_getElem? (l := wsX1_begin) (i := 2) rfl)) (fun _ h9 => h9) rfl dX1_begin_6 ?_
  refine lv_iconst (v := 0) hx hb dX1_begin_9 (by decide) ?_
  refine jw_v (va_runS (As := [.ref r0, .int 0]) (rest := []) ⟨hx, hb, hml, hown, hts⟩ (c_J7_fill_53178 l D cA H.size r0 4 R 0 (by first | assumption | omega)) (va_cwS 2 hts gX1_begin_J7_fill_53178 rfl rfl rfl hv_J7_fill_53178.2 ⟨Nat.le_of_ble_eq_true rfl, Nat.le_of_ble_eq_true rfl⟩) (rwP.S (av := [.ref r0, .int 0]) (wc := [(r0, .inl (cA, 4, .inl R))]) hP hD hK hN [1] (by decide) rfl) rfl rfl hl.1 rfl (lv_room (Nat.le_of_ble_eq_true rfl)) dX1_begin_10 ⟨Nat.le_of_ble_eq_true rfl, Nat.le_of_ble_eq_true rfl⟩) hP hD hS hA [1] [0, 2] [0, 2, 1] (wr := [(m0, .inr (1, [.ref r0, .ref c0, .ref s0, .ref p9, .int pc, .int st, .int (nI w)])), (c0, .inl (cA, 16, .inl Cm))]) (w2 := [(m0, .inr (1, [.ref r0, .ref c0, .ref s0, .ref p9, .int pc, .int st, .int (nI w)])), (r0, .inl (cA, 4, .inl (jFill R 0 4))), (c0, .inl (cA, 16, .inl Cm))]) rfl rfl (by decide) (by decide) (by decide) rfl (fun H locs hP hD hS => ?_)
  refine lv_aload_n hx hb dX1_begin_13 rfl (lv_at hl 0 rfl) ?_
  refine va_get (D := D) (ci := 1) (v := .ref c0) (C := RX1) (T := TX1) (N := 7) hx hb hts iw_X1_begin_X1 hown hK hP 0 rfl rfl 1 (by decide) (hts (.fieldLink RX1 15 "JumpGuard$Machine" "cells" "[I") (List.mem_of_getElem? (l := wsX1_begin) (i := 3) rfl)) (fun _ h9 => h9) rfl dX1_begin_14 ?_
  refine lv_iconst (v := 0) hx hb dX1_begin_17 (by decide) ?_
  refine jw_v (va_runS (As := [.ref c0, .int 0]) (rest := []) ⟨hx, hb, hml, hown, hts⟩ (c_J7_fill_53178 l D cA H.size c0 16 Cm 0 (by first | assumption | omega)) (va_cwS 2 hts gX1_begin_J7_fill_53178 rfl rfl rfl hv_J7_fill_53178.2 ⟨Nat.le_of_ble_eq_true rfl, Nat.le_of_ble_eq_true rfl⟩) (rwP.S (av := [.ref c0, .int 0]) (wc := [(c0, .inl (cA, 16, .inl Cm))]) hP hD hK hN [2] (by decide) rfl) rfl rfl hl.1 rfl (lv_room (Nat.le_of_ble_eq_true rfl)) dX1_begin_18 ⟨Nat.le_of_ble_eq_true rfl, Nat.le_of_ble_eq_true rfl⟩) hP hD hS hA [2] [0, 1] [0, 1, 2] (wr := [(m0, .inr (1, [.ref r0, .ref c0, .ref s0, .ref p9, .int pc, .int st, .int (nI w)])), (r0, .inl (cA, 4, .inl (jFill R 0 4)))]) (w2 := [(m0, .inr (1, [.ref r0, .ref c0, .ref s0, .ref p9, .int pc, .int st, .int (nI w)])), (r0, .inl (cA, 4, .inl (jFill R 0 4))), (c0, .inl (cA, 16, .inl (jFill Cm 0 16)))]) rfl rfl (by decide) (by decide) (by decide) rfl (fun H locs hP hD hS => ?_)
  refine lv_aload_n hx hb dX1_begin_21 rfl (lv_at hl 0 rfl) ?_
  refine lv_iconst (v := 0) hx hb dX1_begin_22 (by decide) ?_
  refine va_put (D := D) (ci := 1) (v := .int 0) (ty := .int) (C := RX1) (T := TX1) (N := 7) hx hb hts iw_X1_begin_X1 tyX1 tyX1_ok nmX1 hown hK hP hD hS 0 rfl rfl 4 (by decide) (hts (.fieldLink RX1 40 "JumpGuard$Machine" "counter" "I") (List.mem_of_getElem? (l := wsX1_begin) (i := 4) rfl)) (fun _ h9 => h9) rfl (by decide +kernel) rfl rfl (Nat.le_of_ble_eq_true rfl) dX1_begin_23 (fun H locs hP hD hS => ?_)
  have hP : va_P D vwCl [(m0, .inr (1, [.ref r0, .ref c0, .ref s0, .ref p9, .int 0, .int st, .int (nI w)])), (r0, .inl (cA, 4, .inl (jFill R 0 4))), (c0, .inl (cA, 16, .inl (jFill Cm 0 16)))] H := hP
  have hD : va_D A [(m0, .inr (1, [.ref r0, .ref c0, .ref s0, .ref p9, .int 0, .int st, .int (nI w)])), (r0, .inl (cA, 4, .inl (jFill R 0 4))), (c0, .inl (cA, 16, .inl (jFill Cm 0 16)))] := hD
  refine lv_aload_n hx hb dX1_begin_26 rfl (lv_at hl 0 rfl) ?_
  refine lv_iconst (v := 0) hx hb dX1_begin_27 (by decide) ?_
  refine va_put (D := D) (ci := 1) (v := .int 0) (ty := .int) (C := RX1) (T := TX1) (N := 7) hx hb hts iw_X1_begin_X1 tyX1 tyX1_ok nmX1 hown hK hP hD hS 0 rfl rfl 6 (by decide) (hts (.fieldLink RX1 43 "JumpGuard$Machine" "showCount" "I") (List.mem_of_getElem? (l := wsX1_begin) (i := 5) rfl)) (fun _ h9 => h9) rfl (by decide +kernel) rfl rfl (Nat.le_of_ble_eq_true rfl) dX1_begin_28 (fun H locs hP hD hS => ?_)
  have hP : va_P D vwCl [(m0, .inr (1, [.ref r0, .ref c0, .ref s0, .ref p9, .int 0, .int st, .int 0])), (r0, .inl (cA, 4, .inl (jFill R 0 4))), (c0, .inl (cA, 16, .inl (jFill Cm 0 16)))] H := hP
  have hD : va_D A [(m0, .inr (1, [.ref r0, .ref c0, .ref s0, .ref p9, .int 0, .int st, .int 0])), (r0, .inl (cA, 4, .inl (jFill R 0 4))), (c0, .inl (cA, 16, .inl (jFill Cm 0 16)))] := hD
  refine lv_aload_n hx hb dX1_begin_31 rfl (lv_at hl 0 rfl) ?_
  refine lv_iconst (v := 0) hx hb dX1_begin_32 (by decide) ?_
  refine va_put (D := D) (ci := 1) (v := .int 0) (ty := .int) (C := RX1) (T := TX1) (N := 7) hx hb hts iw_X1_begin_X1 tyX1 tyX1_ok nmX1 hown hK hP hD hS 0 rfl rfl 5 (by decide) (hts (.fieldLink RX1 30 "JumpGuard$Machine" "condition" "I") (List.mem_of_getElem? (l := wsX1_begin) (i := 6) rfl)) (fun _ h9 => h9) rfl (by decide +kernel) rfl rfl (Nat.le_of_ble_eq_true rfl) dX1_begin_33 (fun H locs hP hD hS => ?_)
  have hP : va_P D vwCl [(m0, .inr (1, [.ref r0, .ref c0, .ref s0, .ref p9, .int 0, .int 0, .int 0])), (r0, .inl (cA, 4, .inl (jFill R 0 4))), (c0, .inl (cA, 16, .inl (jFill Cm 0 16)))] H := hP
  have hD : va_D A [(m0, .inr (1, [.ref r0, .ref c0, .ref s0, .ref p9, .int 0, .int 0, .int 0])), (r0, .inl (cA, 4, .inl (jFill R 0 4))), (c0, .inl (cA, 16, .inl (jFill Cm 0 16)))] := hD
  obtain ⟨hP9, hD9⟩ := jk_end (w2 := [(m0, .inr (1, [.ref r0, .ref c0, .ref s0, .ref p9, .int 0, .int 0, .int 0])), (r0, .inl (cA, 4, .inl (jFill R 0 4))), (c0, .inl (cA, 16, .inl (jFill Cm 0 16)))]) hP hD [0, 1, 2] (by decide) rfl
  have e9 : ([(m0, .inr (1, [.ref r0, .ref c0, .ref s0, .ref p9, .int 0, .int 0, .int 0])), (r0, .inl (cA, 4, .inl (jFill R 0 4))), (c0, .inl (cA, 16, .inl (jFill Cm 0 16)))] : va_W) = [(m0, .inr (1, [.ref r0, .ref c0, .ref s0, .ref p9, .int 0, .int 0, .int (nI 0)])), (r0, .inl (cA, 4, .inl (jFill R 0 4))), (c0, .inl (cA, 16, .inl (jFill Cm 0 16)))] := rfl
  rw [e9] at hP9 hD9
  exact W.vret hx hb hr (fun t9 ht9 hW9 => ⟨⟨(), rfl, trivial, by rw [ht9]; exact hP9, hD9⟩, hS.F ht9⟩) hS.2.2 dX1_begin_36
set_option maxHeartbeats 4000000 in
set_option maxRecDepth 100000 in
theorem c_X3_start_no (l : Launch) (D : va_G) (cA : ClassId) (h0 : Nat) (p1 : Nat) (p2 : Nat) (e0 : Nat) (l0 : Nat) (m0 : Nat) (b2 : Nat) (k2 : Nat) (x : Int32) (hk2 : k2 = 0) : Met l yX3_start wsX3_start ({ frames := 2, cells := 0, slots := 0, locals := 44 }) (roP D cA [.ref h0, .int x] [(h0, .inr (3, [.ref p1, .ref p2, .ref e0, .ref l0, .ref m0])), (p2, .inr (2, [.ref b2, .int (nI 72), .int (nI k2)]))]) (QcRead 0) 0 0 (fun _ => False) := by
  refine Met.ofW (cc := cX3_start) (maxL := 2) (ret := (some .boolean)) (by decide) rfl ?_
  intro p e s m args below meth c s₁ B hml hv
  obtain ⟨rfl, hP, hK, hN⟩ := hv
  have hx := B.exec
  have hb := B.bytes
  have hr := B.returns
  have hts := atoms_spec (ws := wsX3_start) B.pre
  have hown : s.vm.findClass RX3 = some m.cls := findClass_of_methodNamed B.named
  have hlocks := B.notSynchronized
  have hl := lv_entry ([.ref h0, .int x]) (n := 2) (Nat.le_of_ble_eq_true rfl)
  rw [lg_entry_eq]
  generalize (lg_sl ([.ref h0, .int x]) ++ List.replicate (2 - (lg_sl ([.ref h0, .int x])).length) Slot.unset).toArray = ls at hl ⊢
  have hl : lv_has ls 2 [(0, .ref h0), (1, .int x)] := hl
  refine lv_aload_n hx hb dX3_start_0 rfl (lv_at hl 0 rfl) ?_
  refine jr_i (va_runV (As := []) (rest := []) ⟨hx, hb, hml, hown, hts⟩ (c_X3_isGuarded l D cA h0 p1 p2 e0 l0 m0 b2 k2 (by omega)) (cwV 0 hts gX3_start_X3_isGuarded rfl rfl rfl hv_X3_isGuarded ⟨Nat.le_of_ble_eq_true rfl, Nat.le_of_ble_eq_true rfl⟩) (roP.V (va_recv hK hP (ci := 3) (q0 := 0) rfl rfl) (jP_sub (w2 := [(h0, .inr (3, [.ref p1, .ref p2, .ref e0, .ref l0, .ref m0])), (p2, .inr (2, [.ref b2, .int (nI 72), .int (nI k2)]))]) hP [0, 1] rfl) hK hN) rfl rfl hl.1 rfl (lv_room (Nat.le_of_ble_eq_true rfl)) dX3_start_1 ⟨Nat.le_of_ble_eq_true rfl, Nat.le_of_ble_eq_true rfl⟩) ?_
  refine lv_if_ne (tgt := 9) hx hb dX3_start_4 (by decide) (fun c_4 => ?_) (fun c_4 => ?_)
  · replace c_4 := jB_nz.mp c_4
    exact absurd c_4 (by omega)
  · replace c_4 := jB_z.mp c_4
    refine lv_iconst (v := 0) hx hb dX3_start_7 (by decide) ?_
    exact W.zret (ty := .boolean) (v := 0) hx hb hr rfl (fun t9 ht9 hW9 => ⟨jk_ret (show 0 = 0 from rfl), ht9⟩) (fun q h => absurd h List.not_mem_nil) dX3_start_8
set_option maxHeartbeats 4000000 in
set_option maxRecDepth 100000 in
theorem c_X3_start_g (l : Launch) (D : va_G) (cA : ClassId) (sz : Nat) (h0 : Nat) (p1 : Nat) (p2 : Nat) (e0 : Nat) (l0 : Nat) (m0 : Nat) (b2 : Nat) (k2 : Nat) (r0 : Nat) (c0 : Nat) (s0 : Nat) (p0 : Nat) (pc : Int32) (st : Int32) (w : Nat) (x : Int32) (R : Nat → Int32) (Cm : Nat → Int32) (hk2 : 0 < k2) (hk72 : k2 ≤ 72) (hx0 : ¬ x = 0) : Met l yX3_start wsX3_start ({ frames := 2, cells := 0, slots := 0, locals := 44 }) (rwP D cA [.ref h0, .int x] sz [(h0, .inr (3, [.ref p1, .ref p2, .ref e0, .ref l0, .ref m0])), (p2, .inr (2, [.ref b2, .int (nI 72), .int (nI k2)])), (m0, .inr (1, [.ref r0, .ref c0, .ref s0, .ref p0, .int pc, .int st, .int (nI w)])), (r0, .inl (cA, 4, .inl R)), (c0, .inl (cA, 16, .inl Cm))]) (rwI D (va_A [(h0, .inr (3, [.ref p1, .ref p2, .ref e0, .ref l0, .ref m0])), (p2, .inr (2, [.ref b2, .int (nI 72), .int (nI k2)])), (m0, .inr (1, [.ref r0, .ref c0, .ref s0, .ref p0, .int pc, .int st, .int (nI w)])), (r0, .inl (cA, 4, .inl R)), (c0, .inl (cA, 16, .inl Cm))] sz) 1 [(h0, .inr (3, [.ref p1, .ref p2, .ref e0, .ref l0, .ref m0])), (p2, .inr (2, [.ref b2, .int (nI 72), .int (nI k2)])), (m0, .inr (1, [.ref r0, .ref c0, .ref s0, .ref p2, .int 0, .int 0, .int (nI 0)])), (r0, .inl (cA, 4, .inl (jFill R 0 4))), (c0, .inl (cA, 16, .inl (jFill Cm 0 16)))]) 0 0 (va_A [(h0, .inr (3, [.ref p1, .ref p2, .ref e0, .ref l0, .ref m0])), (p2, .inr (2, [.ref b2, .int (nI 72), .int (nI k2)])), (m0, .inr (1, [.ref r0, .ref c0, .ref s0, .ref p0, .int pc, .int st, .int (nI w)])), (r0, .inl (cA, 4, .inl R)), (c0, .inl (cA, 16, .inl Cm))] sz) := by
  refine Met.ofW (cc := cX3_start) (maxL := 2) (ret := (some .boolean)) (by decide) rfl ?_
  intro p e s m args below meth c s₁ B hml hv
  obtain ⟨rfl, hsz, hP, hK, hN, hD0⟩ := hv
  have hx := B.exec
  have hb := B.bytes
  have hr := B.returns
  have hts := atoms_spec (ws := wsX3_start) B.pre
  have hown : s.vm.findClass RX3 = some m.cls := findClass_of_methodNamed B.named
  have hlocks := B.notSynchronized
  subst hsz
  have hD := hD0.self (sz := s.heap.size)
  generalize hAe : va_A [(h0, .inr (3, [.ref p1, .ref p2, .ref e0, .ref l0, .ref m0])), (p2, .inr (2, [.ref b2, .int (nI 72), .int (nI k2)])), (m0, .inr (1, [.ref r0, .ref c0, .ref s0, .ref p0, .int pc, .int st, .int (nI w)])), (r0, .inl (cA, 4, .inl R)), (c0, .inl (cA, 16, .inl Cm))] s.heap.size = A at hD ⊢
  have hA : ∀ q : Nat, s.heap.size ≤ q → A q := fun q h => by rw [← hAe]; exact Or.inr h
  have hS : va_S A s.heap s.heap [] := va_S.rf
  have hl := lv_entry ([.ref h0, .int x]) (n := 2) (Nat.le_of_ble_eq_true rfl)
  rw [lg_entry_eq]
  generalize (lg_sl ([.ref h0, .int x]) ++ List.replicate (2 - (lg_sl ([.ref h0, .int x])).length) Slot.unset).toArray = ls at hl ⊢
  have hl : lv_has ls 2 [(0, .ref h0), (1, .int x)] := hl
  have hx9 := hx0
  refine lv_aload_n hx hb dX3_start_0 rfl (lv_at hl 0 rfl) ?_
  refine jr_i (va_runV (As := []) (rest := []) ⟨hx, hb, hml, hown, hts⟩ (c_X3_isGuarded l D cA h0 p1 p2 e0 l0 m0 b2 k2 (by omega)) (cwV 0 hts gX3_start_X3_isGuarded rfl rfl rfl hv_X3_isGuarded ⟨Nat.le_of_ble_eq_true rfl, Nat.le_of_ble_eq_true rfl⟩) (roP.V (va_recv hK hP (ci := 3) (q0 := 0) rfl rfl) (jP_sub (w2 := [(h0, .inr (3, [.ref p1, .ref p2, .ref e0, .ref l0, .ref m0])), (p2, .inr (2, [.ref b2, .int (nI 72), .int (nI k2)]))]) hP [0, 1] rfl) hK hN) rfl rfl hl.1 rfl (lv_room (Nat.le_of_ble_eq_true rfl)) dX3_start_1 ⟨Nat.le_of_ble_eq_true rfl, Nat.le_of_ble_eq_true rfl⟩) ?_
  refine lv_if_ne (tgt := 9) hx hb dX3_start_4 (by decide) (fun c_4 => ?_) (fun c_4 => ?_)
  · replace c_4 := jB_nz.mp c_4
    refine lv_aload_n hx hb dX3_start_9 rfl (lv_at hl 0 rfl) ?_
    refine va_get (D := D) (ci := 3) (v := .ref m0) (C := RX3) (T := TX3) (N := 5) hx hb hts iw_X3_start_X3 hown hK hP 0 rfl rfl 4 (by decide) (hts (.fieldLink RX3 35 "JumpGuard" "machine" "LJumpGuard$Machine;") (List.mem_of_getElem? (l := wsX3_start) (i := 1) rfl)) (fun _ h9 => h9) rfl dX3_start_10 ?_
    refine lv_iload_n hx hb dX3_start_13 rfl (lv_at hl 1 rfl) ?_
    refine lv_if_eq (tgt := 24) hx hb dX3_start_14 (by decide) (fun c_14 => ?_) (fun c_14 => ?_)
    · exact absurd c_14 hx9
    · refine lv_aload_n hx hb dX3_start_17 rfl (lv_at hl 0 rfl) ?_
      refine va_get (D := D) (ci := 3) (v := .ref p2) (C := RX3) (T := TX3) (N := 5) hx hb hts iw_X3_start_X3 hown hK hP 0 rfl rfl 1 (by decide) (hts (.fieldLink RX3 18 "JumpGuard" "guardedProgram" "LJumpGuard$Program;") (List.mem_of_getElem? (l := wsX3_start) (i := 2) rfl)) (fun _ h9 => h9) rfl dX3_start_18 ?_
      refine lv_goto (tgt := 28) hx hb dX3_start_21 (by decide) ?_
      refine jw_v (va_runV (As := [.ref p2]) (rest := []) ⟨hx, hb, hml, hown, hts⟩ (c_X1_begin l D cA s.heap.size m0 r0 c0 s0 p0 pc st w R Cm p2) (cwV 1 hts gX3_start_X1_begin rfl rfl rfl hv_X1_begin ⟨Nat.le_of_ble_eq_true rfl, Nat.le_of_ble_eq_true rfl⟩) (rwP.V (wc := [(m0, .inr (1, [.ref r0, .ref c0, .ref s0, .ref p0, .int pc, .int st, .int (nI w)])), (r0, .inl (cA, 4, .inl R)), (c0, .inl (cA, 16, .inl Cm))]) (va_recv hK hP (ci := 1) (q0 := 2) rfl rfl) hP hD hK hN [2, 3, 4] (by decide) rfl) rfl rfl hl.1 rfl (lv_room (Nat.le_of_ble_eq_true rfl)) dX3_start_28 ⟨Nat.le_of_ble_eq_true rfl, Nat.le_of_ble_eq_true rfl⟩) hP hD hS hA [2, 3, 4] [0, 1] [0, 1, 2, 3, 4] (wr := [(h0, .inr (3, [.ref p1, .ref p2, .ref e0, .ref l0, .ref m0])), (p2, .inr (2, [.ref b2, .int (nI 72), .int (nI k2)]))]) (w2 := [(h0, .inr (3, [.ref p1, .ref p2, .ref e0, .ref l0, .ref m0])), (p2, .inr (2, [.ref b2, .int (nI 72), .int (nI k2)])), (m0, .inr (1, [.ref r0, .ref c0, .ref s0, .ref p2, .int 0, .int 0, .int (nI 0)])), (r0, .inl (cA, 4, .inl (jFill R 0 4))), (c0, .inl (cA, 16, .inl (jFill Cm 0 16)))]) rfl rfl (by decide) (by decide) (by decide) rfl (fun H locs hP hD hS => ?_)
      refine lv_iconst (v := 1) hx hb dX3_start_31 (by decide) ?_
      obtain ⟨hP9, hD9⟩ := jk_end (w2 := [(h0, .inr (3, [.ref p1, .ref p2, .ref e0, .ref l0, .ref m0])), (p2, .inr (2, [.ref b2, .int (nI 72), .int (nI k2)])), (m0, .inr (1, [.ref r0, .ref c0, .ref s0, .ref p2, .int 0, .int 0, .int (nI 0)])), (r0, .inl (cA, 4, .inl (jFill R 0 4))), (c0, .inl (cA, 16, .inl (jFill Cm 0 16)))]) hP hD [0, 1, 2, 3, 4] (by decide) rfl
      exact W.zret (ty := .boolean) (v := 1) hx hb hr rfl (fun t9 ht9 hW9 => ⟨⟨_, (), rfl, (show 1 = 1 from rfl), by rw [ht9]; exact hP9, hD9⟩, hS.F ht9⟩) hS.2.2 dX3_start_32
  · replace c_4 := jB_z.mp c_4
    exact absurd hk2 c_4
set_option maxHeartbeats 4000000 in
set_option maxRecDepth 100000 in
theorem c_X3_start_s (l : Launch) (D : va_G) (cA : ClassId) (sz : Nat) (h0 : Nat) (p1 : Nat) (p2 : Nat) (e0 : Nat) (l0 : Nat) (m0 : Nat) (b2 : Nat) (k2 : Nat) (r0 : Nat) (c0 : Nat) (s0 : Nat) (p0 : Nat) (pc : Int32) (st : Int32) (w : Nat) (x : Int32) (R : Nat → Int32) (Cm : Nat → Int32) (hk2 : 0 < k2) (hk72 : k2 ≤ 72) (hx0 : x = 0) : Met l yX3_start wsX3_start ({ frames := 2, cells := 0, slots := 0, locals := 44 }) (rwP D cA [.ref h0, .int x] sz [(h0, .inr (3, [.ref p1, .ref p2, .ref e0, .ref l0, .ref m0])), (p2, .inr (2, [.ref b2, .int (nI 72), .int (nI k2)])), (m0, .inr (1, [.ref r0, .ref c0, .ref s0, .ref p0, .int pc, .int st, .int (nI w)])), (r0, .inl (cA, 4, .inl R)), (c0, .inl (cA, 16, .inl Cm))]) (rwI D (va_A [(h0, .inr (3, [.ref p1, .ref p2, .ref e0, .ref l0, .ref m0])), (p2, .inr (2, [.ref b2, .int (nI 72), .int (nI k2)])), (m0, .inr (1, [.ref r0, .ref c0, .ref s0, .ref p0, .int pc, .int st, .int (nI w)])), (r0, .inl (cA, 4, .inl R)), (c0, .inl (cA, 16, .inl Cm))] sz) 1 [(h0, .inr (3, [.ref p1, .ref p2, .ref e0, .ref l0, .ref m0])), (p2, .inr (2, [.ref b2, .int (nI 72), .int (nI k2)])), (m0, .inr (1, [.ref r0, .ref c0, .ref s0, .ref p1, .int 0, .int 0, .int (nI 0)])), (r0, .inl (cA, 4, .inl (jFill R 0 4))), (c0, .inl (cA, 16, .inl (jFill Cm 0 16)))]) 0 0 (va_A [(h0, .inr (3, [.ref p1, .ref p2, .ref e0, .ref l0, .ref m0])), (p2, .inr (2, [.ref b2, .int (nI 72), .int (nI k2)])), (m0, .inr (1, [.ref r0, .ref c0, .ref s0, .ref p0, .int pc, .int st, .int (nI w)])), (r0, .inl (cA, 4, .inl R)), (c0, .inl (cA, 16, .inl Cm))] sz) := by
  refine Met.ofW (cc := cX3_start) (maxL := 2) (ret := (some .boolean)) (by decide) rfl ?_
  intro p e s m args below meth c s₁ B hml hv
  obtain ⟨rfl, hsz, hP, hK, hN, hD0⟩ := hv
  have hx := B.exec
  have hb := B.bytes
  have hr := B.returns
  have hts := atoms_spec (ws := wsX3_start) B.pre
  have hown : s.vm.findClass RX3 = some m.cls := findClass_of_methodNamed B.named
  have hlocks := B.notSynchronized
  subst hsz
  have hD := hD0.self (sz := s.heap.size)
  generalize hAe : va_A [(h0, .inr (3, [.ref p1, .ref p2, .ref e0, .ref l0, .ref m0])), (p2, .inr (2, [.ref b2, .int (nI 72), .int (nI k2)])), (m0, .inr (1, [.ref r0, .ref c0, .ref s0, .ref p0, .int pc, .int st, .int (nI w)])), (r0, .inl (cA, 4, .inl R)), (c0, .inl (cA, 16, .inl Cm))] s.heap.size = A at hD ⊢
  have hA : ∀ q : Nat, s.heap.size ≤ q → A q := fun q h => by rw [← hAe]; exact Or.inr h
  have hS : va_S A s.heap s.heap [] := va_S.rf
  have hl := lv_entry ([.ref h0, .int x]) (n := 2) (Nat.le_of_ble_eq_true rfl)
  rw [lg_entry_eq]
  generalize (lg_sl ([.ref h0, .int x]) ++ List.replicate (2 - (lg_sl ([.ref h0, .int x])).length) Slot.unset).toArray = ls at hl ⊢
  have hl : lv_has ls 2 [(0, .ref h0), (1, .int x)] := hl
  have hx9 := hx0
  refine lv_aload_n hx hb dX3_start_0 rfl (lv_at hl 0 rfl) ?_
  refine jr_i (va_runV (As := []) (rest := []) ⟨hx, hb, hml, hown, hts⟩ (c_X3_isGuarded l D cA h0 p1 p2 e0 l0 m0 b2 k2 (by omega)) (cwV 0 hts gX3_start_X3_isGuarded rfl rfl rfl hv_X3_isGuarded ⟨Nat.le_of_ble_eq_true rfl, Nat.le_of_ble_eq_true rfl⟩) (roP.V (va_recv hK hP (ci := 3) (q0 := 0) rfl rfl) (jP_sub (w2 := [(h0, .inr (3, [.ref p1, .ref p2, .ref e0, .ref l0, .ref m0])), (p2, .inr (2, [.ref b2, .int (nI 72), .int (nI k2)]))]) hP [0, 1] rfl) hK hN) rfl rfl hl.1 rfl (lv_room (Nat.le_of_ble_eq_true rfl)) dX3_start_1 ⟨Nat.le_of_ble_eq_true rfl, Nat.le_of_ble_eq_true rfl⟩) ?_
  refine lv_if_ne (tgt := 9) hx hb dX3_start_4 (by decide) (fun c_4 => ?_) (fun c_4 => ?_)
  · replace c_4 := jB_nz.mp c_4
    refine lv_aload_n hx hb dX3_start_9 rfl (lv_at hl 0 rfl) ?_
    refine va_get (D := D) (ci := 3) (v := .ref m0) (C := RX3) (T := TX3) (N := 5) hx hb hts iw_X3_start_X3 hown hK hP 0 rfl rfl 4 (by decide) (hts (.fieldLink RX3 35 "JumpGuard" "machine" "LJumpGuard$Machine;") (List.mem_of_getElem? (l := wsX3_start) (i := 1) rfl)) (fun _ h9 => h9) rfl dX3_start_10 ?_
    refine lv_iload_n hx hb dX3_start_13 rfl (lv_at hl 1 rfl) ?_
    refine lv_if_eq (tgt := 24) hx hb dX3_start_14 (by decide) (fun c_14 => ?_) (fun c_14 => ?_)
    · refine lv_aload_n hx hb dX3_start_24 rfl (lv_at hl 0 rfl) ?_
      refine va_get (D := D) (ci := 3) (v := .ref p1) (C := RX3) (T := TX3) (N := 5) hx hb hts iw_X3_start_X3 hown hK hP 0 rfl rfl 0 (by decide) (hts (.fieldLink RX3 14 "JumpGuard" "sourceProgram" "LJumpGuard$Program;") (List.mem_of_getElem? (l := wsX3_start) (i := 3) rfl)) (fun _ h9 => h9) rfl dX3_start_25 ?_
      refine jw_v (va_runV (As := [.ref p1]) (rest := []) ⟨hx, hb, hml, hown, hts⟩ (c_X1_begin l D cA s.heap.size m0 r0 c0 s0 p0 pc st w R Cm p1) (cwV 1 hts gX3_start_X1_begin rfl rfl rfl hv_X1_begin ⟨Nat.le_of_ble_eq_true rfl, Nat.le_of_ble_eq_true rfl⟩) (rwP.V (wc := [(m0, .inr (1, [.ref r0, .ref c0, .ref s0, .ref p0, .int pc, .int st, .int (nI w)])), (r0, .inl (cA, 4, .inl R)), (c0, .inl (cA, 16, .inl Cm))]) (va_recv hK hP (ci := 1) (q0 := 2) rfl rfl) hP hD hK hN [2, 3, 4] (by decide) rfl) rfl rfl hl.1 rfl (lv_room (Nat.le_of_ble_eq_true rfl)) dX3_start_28 ⟨Nat.le_of_ble_eq_true rfl, Nat.le_of_ble_eq_true rfl⟩) hP hD hS hA [2, 3, 4] [0, 1] [0, 1, 2, 3, 4] (wr := [(h0, .inr (3, [.ref p1, .ref p2, .ref e0, .ref l0, .ref m0])), (p2, .inr (2, [.ref b2, .int (nI 72), .int (nI k2)]))]) (w2 := [(h0, .inr (3, [.ref p1, .ref p2, .ref e0, .ref l0, .ref m0])), (p2, .inr (2, [.ref b2, .int (nI 72), .int (nI k2)])), (m0, .inr (1, [.ref r0, .ref c0, .ref s0, .ref p1, .int 0, .int 0, .int (nI 0)])), (r0, .inl (cA, 4, .inl (jFill R 0 4))), (c0, .inl (cA, 16, .inl (jFill Cm 0 16)))]) rfl rfl (by decide) (by decide) (by decide) rfl (fun H locs hP hD hS => ?_)
      refine lv_iconst (v := 1) hx hb dX3_start_31 (by decide) ?_
      obtain ⟨hP9, hD9⟩ := jk_end (w2 := [(h0, .inr (3, [.ref p1, .ref p2, .ref e0, .ref l0, .ref m0])), (p2, .inr (2, [.ref b2, .int (nI 72), .int (nI k2)])), (m0, .inr (1, [.ref r0, .ref c0, .ref s0, .ref p1, .int 0, .int 0, .int (nI 0)])), (r0, .inl (cA, 4, .inl (jFill R 0 4))), (c0, .inl (cA, 16, .inl (jFill Cm 0 16)))]) hP hD [0, 1, 2, 3, 4] (by decide) rfl
      exact W.zret (ty := .boolean) (v := 1) hx hb hr rfl (fun t9 ht9 hW9 => ⟨⟨_, (), rfl, (show 1 = 1 from rfl), by rw [ht9]; exact hP9, hD9⟩, hS.F ht9⟩) hS.2.2 dX3_start_32
    · exact absurd hx9 c_14
  · replace c_4 := jB_z.mp c_4
    exact absurd hk2 c_4
set_option maxHeartbeats 4000000 in
set_option maxRecDepth 100000 in
theorem c_X1_makeSteps_idle (l : Launch) (D : va_G) (cA : ClassId) (m0 : Nat) (r0 : Nat) (c0 : Nat) (s0 : Nat) (p0 : Nat) (pc : Int32) (st : Int32) (w : Nat) (n9 : Int32) (hst : ¬ st = 0) (hn9 : ¬ n9 < 0) : Met l yX1_makeSteps wsX1_makeSteps ({ frames := 5, cells := 0, slots := 0, locals := 110 }) (roP D cA [.ref m0, .int n9] [(m0, .inr (1, [.ref r0, .ref c0, .ref s0, .ref p0, .int pc, .int st, .int (nI w)]))]) (QcRead 0) 0 0 (fun _ => False) := by
  refine Met.ofW (cc := cX1_makeSteps) (maxL := 3) (ret := (some .int)) (by decide) rfl ?_
  intro p e s m args below meth c s₁ B hml hv
  obtain ⟨rfl, hP, hK, hN⟩ := hv
  have hx := B.exec
  have hb := B.bytes
  have hr := B.returns
  have hts := atoms_spec (ws := wsX1_makeSteps) B.pre
  have hown : s.vm.findClass RX1 = some m.cls := findClass_of_methodNamed B.named
  have hlocks := B.notSynchronized
  have hl := lv_entry ([.ref m0, .int n9]) (n := 3) (Nat.le_of_ble_eq_true rfl)
  rw [lg_entry_eq]
  generalize (lg_sl ([.ref m0, .int n9]) ++ List.replicate (3 - (lg_sl ([.ref m0, .int n9])).length) Slot.unset).toArray = ls at hl ⊢
  have hl : lv_has ls 3 [(0, .ref m0), (1, .int n9)] := hl
  refine lv_iconst (v := 0) hx hb dX1_makeSteps_0 (by decide) ?_
  refine lv_istore_n (lv' := [(2, .int 0), (0, .ref m0), (1, .int n9)]) hx hb dX1_makeSteps_1 rfl hl (by decide) rfl (fun ls hl => ?_)
  refine lv_iload_n hx hb dX1_makeSteps_2 rfl (lv_at hl 0 rfl) ?_
  refine lv_iload_n hx hb dX1_makeSteps_3 rfl (lv_at hl 2 rfl) ?_
  refine lv_icmp_ge (tgt := 24) hx hb dX1_makeSteps_4 (by decide) (fun c_4 => ?_) (fun c_4 => ?_)
  · refine lv_iload_n hx hb dX1_makeSteps_24 rfl (lv_at hl 0 rfl) ?_
    exact W.iret (v := 0) hx hb hr (fun t9 ht9 hW9 => ⟨jk_ret (show 0 = 0 from rfl), ht9⟩) (fun q h => absurd h List.not_mem_nil) dX1_makeSteps_25
  · refine lv_aload_n hx hb dX1_makeSteps_7 rfl (lv_at hl 1 rfl) ?_
    refine va_get (D := D) (ci := 1) (v := .int st) (C := RX1) (T := TX1) (N := 7) hx hb hts iw_X1_makeSteps_X1 hown hK hP 0 rfl rfl 5 (by decide) (hts (.fieldLink RX1 30 "JumpGuard$Machine" "condition" "I") (List.mem_of_getElem? (l := wsX1_makeSteps) (i := 1) rfl)) (fun _ h9 => h9) rfl dX1_makeSteps_8 ?_
    refine lv_if_ne (tgt := 24) hx hb dX1_makeSteps_11 (by decide) (fun c_11 => ?_) (fun c_11 => ?_)
    · refine lv_iload_n hx hb dX1_makeSteps_24 rfl (lv_at hl 0 rfl) ?_
      exact W.iret (v := 0) hx hb hr (fun t9 ht9 hW9 => ⟨jk_ret (show 0 = 0 from rfl), ht9⟩) (fun q h => absurd h List.not_mem_nil) dX1_makeSteps_25
    · exact absurd c_11 hst
set_option maxHeartbeats 4000000 in
set_option maxRecDepth 100000 in
theorem c_X3_run_idle (l : Launch) (D : va_G) (cA : ClassId) (h0 : Nat) (p1 : Nat) (p2 : Nat) (e0 : Nat) (l0 : Nat) (m0 : Nat) (r0 : Nat) (c0 : Nat) (s0 : Nat) (p0 : Nat) (pc : Int32) (st : Int32) (w : Nat) (n9 : Int32) (hst : ¬ st = 0) : Met l yX3_run wsX3_run ({ frames := 6, cells := 0, slots := 0, locals := 132 }) (roP D cA [.ref h0, .int n9] [(h0, .inr (3, [.ref p1, .ref p2, .ref e0, .ref l0, .ref m0])), (m0, .inr (1, [.ref r0, .ref c0, .ref s0, .ref p0, .int pc, .int st, .int (nI w)]))]) (QcRead 0) 0 0 (fun _ => False) := by
  refine Met.ofW (cc := cX3_run) (maxL := 2) (ret := (some .int)) (by decide) rfl ?_
  intro p e s m args below meth c s₁ B hml hv
  obtain ⟨rfl, hP, hK, hN⟩ := hv
  have hx := B.exec
  have hb := B.bytes
  have hr := B.returns
  have hts := atoms_spec (ws := wsX3_run) B.pre
  have hown : s.vm.findClass RX3 = some m.cls := findClass_of_methodNamed B.named
  have hlocks := B.notSynchronized
  have hl := lv_entry ([.ref h0, .int n9]) (n := 2) (Nat.le_of_ble_eq_true rfl)
  rw [lg_entry_eq]
  generalize (lg_sl ([.ref h0, .int n9]) ++ List.replicate (2 - (lg_sl ([.ref h0, .int n9])).length) Slot.unset).toArray = ls at hl ⊢
  have hl : lv_has ls 2 [(0, .ref h0), (1, .int n9)] := hl
  refine lv_iload_n hx hb dX3_run_0 rfl (lv_at hl 1 rfl) ?_
  refine lv_if_lt (tgt := 22) hx hb dX3_run_1 (by decide) (fun c_1 => ?_) (fun c_1 => ?_)
  · refine lv_iconst (v := 0) hx hb dX3_run_22 (by decide) ?_
    exact W.iret (v := 0) hx hb hr (fun t9 ht9 hW9 => ⟨jk_ret (show 0 = 0 from rfl), ht9⟩) (fun q h => absurd h List.not_mem_nil) dX3_run_23
  · refine lv_iload_n hx hb dX3_run_4 rfl (lv_at hl 1 rfl) ?_
    refine lv_sipush (v := 1000) hx hb dX3_run_5 (by decide) ?_
    refine lv_icmp_gt (tgt := 22) hx hb dX3_run_8 (by decide) (fun c_8 => ?_) (fun c_8 => ?_)
    · refine lv_iconst (v := 0) hx hb dX3_run_22 (by decide) ?_
      exact W.iret (v := 0) hx hb hr (fun t9 ht9 hW9 => ⟨jk_ret (show 0 = 0 from rfl), ht9⟩) (fun q h => absurd h List.not_mem_nil) dX3_run_23
    · refine lv_aload_n hx hb dX3_run_11 rfl (lv_at hl 0 rfl) ?_
      refine va_get (D := D) (ci := 3) (v := .ref m0) (C := RX3) (T := TX3) (N := 5) hx hb hts iw_X3_run_X3 hown hK hP 0 rfl rfl 4 (by decide) (hts (.fieldLink RX3 35 "JumpGuard" "machine" "LJumpGuard$Machine;") (List.mem_of_getElem? (l := wsX3_run) (i := 1) rfl)) (fun _ h9 => h9) rfl dX3_run_12 ?_
      refine lv_iload_n hx hb dX3_run_15 rfl (lv_at hl 1 rfl) ?_
      refine jr_i (va_runV (As := [.int n9]) (rest := []) ⟨hx, hb, hml, hown, hts⟩ (c_X1_makeSteps_idle l D cA m0 r0 c0 s0 p0 pc st w n9 hst c_1) (cwV 1 hts gX3_run_X1_makeSteps rfl rfl rfl hv_X1_makeSteps ⟨Nat.le_of_ble_eq_true rfl, Nat.le_of_ble_eq_true rfl⟩) (roP.V (va_recv hK hP (ci := 1) (q0 := 1) rfl rfl) (jP_sub (w2 := [(m0, .inr (1, [.ref r0, .ref c0, .ref s0, .ref p0, .int pc, .int st, .int (nI w)]))]) hP [1] rfl) hK hN) rfl rfl hl.1 rfl (lv_room (Nat.le_of_ble_eq_true rfl)) dX3_run_16 ⟨Nat.le_of_ble_eq_true rfl, Nat.le_of_ble_eq_true rfl⟩) ?_
      refine lv_goto (tgt := 23) hx hb dX3_run_19 (by decide) ?_
      exact W.iret (v := 0) hx hb hr (fun t9 ht9 hW9 => ⟨jk_ret (show 0 = 0 from rfl), ht9⟩) (fun q h => absurd h List.not_mem_nil) dX3_run_23
set_option maxHeartbeats 4000000 in
set_option maxRecDepth 100000 in
theorem c_X3_run_s (l : Launch) (D : va_G) (cA : ClassId) (sz : Nat) (h0 : Nat) (p1 : Nat) (p2 : Nat) (e0 : Nat) (l0 : Nat) (m0 : Nat) (b1 : Nat) (k1 : Nat) (r0 : Nat) (c0 : Nat) (s0 : Nat) (f1 : Nat → Int32) (x : MS) (n9 : Int32) (hwf : mWF f1 k1) (hi : x.2.2.2.2.1 = 0 → x.2.2.2.1 < k1) (hk : k1 ≤ 24) (hw : x.2.2.2.2.2 + 1000 < 1000000) : Met l yX3_run wsX3_run ({ frames := 6, cells := 0, slots := 0, locals := 132 }) (rwP D cA [.ref h0, .int n9] sz [(h0, .inr (3, [.ref p1, .ref p2, .ref e0, .ref l0, .ref m0])), (p1, .inr (2, [.ref b1, .int (nI 24), .int (nI k1)])), (b1, .inl (cA, 72, .inl f1)), (m0, .inr (1, [.ref r0, .ref c0, .ref s0, .ref p1, .int (nI x.2.2.2.1), .int x.2.2.2.2.1, .int (nI x.2.2.2.2.2)])), (r0, .inl (cA, 4, .inl x.1)), (c0, .inl (cA, 16, .inl x.2.1)), (s0, .inl (cA, 8, .inl x.2.2.1))]) (rwI D (va_A [(h0, .inr (3, [.ref p1, .ref p2, .ref e0, .ref l0, .ref m0])), (p1, .inr (2, [.ref b1, .int (nI 24), .int (nI k1)])), (b1, .inl (cA, 72, .inl f1)), (m0, .inr (1, [.ref r0, .ref c0, .ref s0, .ref p1, .int (nI x.2.2.2.1), .int x.2.2.2.2.1, .int (nI x.2.2.2.2.2)])), (r0, .inl (cA, 4, .inl x.1)), (c0, .inl (cA, 16, .inl x.2.1)), (s0, .inl (cA, 8, .inl x.2.2.1))] sz) (nI (mRun f1 k1 (rCnt n9) x).1) [(h0, .inr (3, [.ref p1, .ref p2, .ref e0, .ref l0, .ref m0])), (p1, .inr (2, [.ref b1, .int (nI 24), .int (nI k1)])), (b1, .inl (cA, 72, .inl f1)), (m0, .inr (1, [.ref r0, .ref c0, .ref s0, .ref p1, .int (nI (mRun f1 k1 (rCnt n9) x).2.2.2.2.1), .int ((mRun f1 k1 (rCnt n9) x).2.2.2.2.2.1), .int (nI (mRun f1 k1 (rCnt n9) x).2.2.2.2.2.2)])), (r0, .inl (cA, 4, .inl ((mRun f1 k1 (rCnt n9) x).2.1))), (c0, .inl (cA, 16, .inl ((mRun f1 k1 (rCnt n9) x).2.2.1))), (s0, .inl (cA, 8, .inl ((mRun f1 k1 (rCnt n9) x).2.2.2.1)))]) 0 0 (va_A [(h0, .inr (3, [.ref p1, .ref p2, .ref e0, .ref l0, .ref m0])), (p1, .inr (2, [.ref b1, .int (nI 24), .int (nI k1)])), (b1, .inl (cA, 72, .inl f1)), (m0, .inr (1, [.ref r0, .ref c0, .ref s0, .ref p1, .int (nI x.2.2.2.1), .int x.2.2.2.2.1, .int (nI x.2.2.2.2.2)])), (r0, .inl (cA, 4, .inl x.1)), (c0, .inl (cA, 16, .inl x.2.1)), (s0, .inl (cA, 8, .inl x.2.2.1))] sz) := by
  refine Met.ofW (cc := cX3_run) (maxL := 2) (ret := (some .int)) (by decide) rfl ?_
  intro p e s m args below meth c s₁ B hml hv
  obtain ⟨rfl, hsz, hP, hK, hN, hD0⟩ := hv
  have hx := B.exec
  have hb := B.bytes
  have hr := B.returns
  have hts := atoms_spec (ws := wsX3_run) B.pre
  have hown : s.vm.findClass RX3 = some m.cls := findClass_of_methodNamed B.named
  have hlocks := B.notSynchronized
  subst hsz
  have hD := hD0.self (sz := s.heap.size)
  generalize hAe : va_A [(h0, .inr (3, [.ref p1, .ref p2, .ref e0, .ref l0, .ref m0])), (p1, .inr (2, [.ref b1, .int (nI 24), .int (nI k1)])), (b1, .inl (cA, 72, .inl f1)), (m0, .inr (1, [.ref r0, .ref c0, .ref s0, .ref p1, .int (nI x.2.2.2.1), .int x.2.2.2.2.1, .int (nI x.2.2.2.2.2)])), (r0, .inl (cA, 4, .inl x.1)), (c0, .inl (cA, 16, .inl x.2.1)), (s0, .inl (cA, 8, .inl x.2.2.1))] s.heap.size = A at hD ⊢
  have hA : ∀ q : Nat, s.heap.size ≤ q → A q := fun q h => by rw [← hAe]; exact Or.inr h
  have hS : va_S A s.heap s.heap [] := va_S.rf
  have hl := lv_entry ([.ref h0, .int n9]) (n := 2) (Nat.le_of_ble_eq_true rfl)
  rw [lg_entry_eq]
  generalize (lg_sl ([.ref h0, .int n9]) ++ List.replicate (2 - (lg_sl ([.ref h0, .int n9])).length) Slot.unset).toArray = ls at hl ⊢
  have hl : lv_has ls 2 [(0, .ref h0), (1, .int n9)] := hl
  refine lv_iload_n hx hb dX3_run_0 rfl (lv_at hl 1 rfl) ?_
  refine lv_if_lt (tgt := 22) hx hb dX3_run_1 (by decide) (fun c_1 => ?_) (fun c_1 => ?_)
  · have hr0 : rCnt n9 = 0 := if_neg (fun h => h.1 c_1)
    refine lv_iconst (v := 0) hx hb dX3_run_22 (by decide) ?_
    obtain ⟨hP9, hD9⟩ := jk_end (w2 := [(h0, .inr (3, [.ref p1, .ref p2, .ref e0, .ref l0, .ref m0])), (p1, .inr (2, [.ref b1, .int (nI 24), .int (nI k1)])), (b1, .inl (cA, 72, .inl f1)), (m0, .inr (1, [.ref r0, .ref c0, .ref s0, .ref p1, .int (nI x.2.2.2.1), .int x.2.2.2.2.1, .int (nI x.2.2.2.2.2)])), (r0, .inl (cA, 4, .inl x.1)), (c0, .inl (cA, 16, .inl x.2.1)), (s0, .inl (cA, 8, .inl x.2.2.1))]) hP hD [0, 1, 2, 3, 4, 5, 6] (by decide) rfl
    have e9 : ([(h0, .inr (3, [.ref p1, .ref p2, .ref e0, .ref l0, .ref m0])), (p1, .inr (2, [.ref b1, .int (nI 24), .int (nI k1)])), (b1, .inl (cA, 72, .inl f1)), (m0, .inr (1, [.ref r0, .ref c0, .ref s0, .ref p1, .int (nI x.2.2.2.1), .int x.2.2.2.2.1, .int (nI x.2.2.2.2.2)])), (r0, .inl (cA, 4, .inl x.1)), (c0, .inl (cA, 16, .inl x.2.1)), (s0, .inl (cA, 8, .inl x.2.2.1))] : va_W) = [(h0, .inr (3, [.ref p1, .ref p2, .ref e0, .ref l0, .ref m0])), (p1, .inr (2, [.ref b1, .int (nI 24), .int (nI k1)])), (b1, .inl (cA, 72, .inl f1)), (m0, .inr (1, [.ref r0, .ref c0, .ref s0, .ref p1, .int (nI (mRun f1 k1 (rCnt n9) x).2.2.2.2.1), .int ((mRun f1 k1 (rCnt n9) x).2.2.2.2.2.1), .int (nI (mRun f1 k1 (rCnt n9) x).2.2.2.2.2.2)])), (r0, .inl (cA, 4, .inl ((mRun f1 k1 (rCnt n9) x).2.1))), (c0, .inl (cA, 16, .inl ((mRun f1 k1 (rCnt n9) x).2.2.1))), (s0, .inl (cA, 8, .inl ((mRun f1 k1 (rCnt n9) x).2.2.2.1)))] := (by rw [hr0]; rfl)
    rw [e9] at hP9 hD9
    exact W.iret (v := 0) hx hb hr (fun t9 ht9 hW9 => ⟨⟨_, (), rfl, (show 0 = (nI (mRun f1 k1 (rCnt n9) x).1) from (by rw [hr0]; rfl)), by rw [ht9]; exact hP9, hD9⟩, hS.F ht9⟩) hS.2.2 dX3_run_23
  · refine lv_iload_n hx hb dX3_run_4 rfl (lv_at hl 1 rfl) ?_
    refine lv_sipush (v := 1000) hx hb dX3_run_5 (by decide) ?_
    refine lv_icmp_gt (tgt := 22) hx hb dX3_run_8 (by decide) (fun c_8 => ?_) (fun c_8 => ?_)
    · have hr0 : rCnt n9 = 0 := if_neg (fun h => h.2 c_8)
      refine lv_iconst (v := 0) hx hb dX3_run_22 (by decide) ?_
      obtain ⟨hP9, hD9⟩ := jk_end (w2 := [(h0, .inr (3, [.ref p1, .ref p2, .ref e0, .ref l0, .ref m0])), (p1, .inr (2, [.ref b1, .int (nI 24), .int (nI k1)])), (b1, .inl (cA, 72, .inl f1)), (m0, .inr (1, [.ref r0, .ref c0, .ref s0, .ref p1, .int (nI x.2.2.2.1), .int x.2.2.2.2.1, .int (nI x.2.2.2.2.2)])), (r0, .inl (cA, 4, .inl x.1)), (c0, .inl (cA, 16, .inl x.2.1)), (s0, .inl (cA, 8, .inl x.2.2.1))]) hP hD [0, 1, 2, 3, 4, 5, 6] (by decide) rfl
      have e9 : ([(h0, .inr (3, [.ref p1, .ref p2, .ref e0, .ref l0, .ref m0])), (p1, .inr (2, [.ref b1, .int (nI 24), .int (nI k1)])), (b1, .inl (cA, 72, .inl f1)), (m0, .inr (1, [.ref r0, .ref c0, .ref s0, .ref p1, .int (nI x.2.2.2.1), .int x.2.2.2.2.1, .int (nI x.2.2.2.2.2)])), (r0, .inl (cA, 4, .inl x.1)), (c0, .inl (cA, 16, .inl x.2.1)), (s0, .inl (cA, 8, .inl x.2.2.1))] : va_W) = [(h0, .inr (3, [.ref p1, .ref p2, .ref e0, .ref l0, .ref m0])), (p1, .inr (2, [.ref b1, .int (nI 24), .int (nI k1)])), (b1, .inl (cA, 72, .inl f1)), (m0, .inr (1, [.ref r0, .ref c0, .ref s0, .ref p1, .int (nI (mRun f1 k1 (rCnt n9) x).2.2.2.2.1), .int ((mRun f1 k1 (rCnt n9) x).2.2.2.2.2.1), .int (nI (mRun f1 k1 (rCnt n9) x).2.2.2.2.2.2)])), (r0, .inl (cA, 4, .inl ((mRun f1 k1 (rCnt n9) x).2.1))), (c0, .inl (cA, 16, .inl ((mRun f1 k1 (rCnt n9) x).2.2.1))), (s0, .inl (cA, 8, .inl ((mRun f1 k1 (rCnt n9) x).2.2.2.1)))] := (by rw [hr0]; rfl)
      rw [e9] at hP9 hD9
      exact W.iret (v := 0) hx hb hr (fun t9 ht9 hW9 => ⟨⟨_, (), rfl, (show 0 = (nI (mRun f1 k1 (rCnt n9) x).1) from (by rw [hr0]; rfl)), by rw [ht9]; exact hP9, hD9⟩, hS.F ht9⟩) hS.2.2 dX3_run_23
    · obtain ⟨n8, hn8, rfl⟩ := jN_of (x := n9) (n := 1001) (by decide) (rCnt_in c_1 c_8)
      have hr8 : rCnt (nI n8) = n8 := rCnt_n (by omega)
      refine lv_aload_n hx hb dX3_run_11 rfl (lv_at hl 0 rfl) ?_
      refine va_get (D := D) (ci := 3) (v := .ref m0) (C := RX3) (T := TX3) (N := 5) hx hb hts iw_X3_run_X3 hown hK hP 0 rfl rfl 4 (by decide) (hts (.fieldLink RX3 35 "JumpGuard" "machine" "LJumpGuard$Machine;") (List.mem_of_getElem? (l := wsX3_run) (i := 1) rfl)) (fun _ h9 => h9) rfl dX3_run_12 ?_
      refine lv_iload_n hx hb dX3_run_15 rfl (lv_at hl 1 rfl) ?_
      refine jw_i (va_runV (As := [.int (nI n8)]) (rest := []) ⟨hx, hb, hml, hown, hts⟩ (c_X1_makeSteps l D cA s.heap.size m0 r0 c0 s0 p1 b1 24 k1 72 f1 x n8 hwf hi (by omega) (by omega) (by omega)) (cwV 1 hts gX3_run_X1_makeSteps rfl rfl rfl hv_X1_makeSteps ⟨Nat.le_of_ble_eq_true rfl, Nat.le_of_ble_eq_true rfl⟩) (rwP.V (wc := [(m0, .inr (1, [.ref r0, .ref c0, .ref s0, .ref p1, .int (nI x.2.2.2.1), .int x.2.2.2.2.1, .int (nI x.2.2.2.2.2)])), (r0, .inl (cA, 4, .inl x.1)), (c0, .inl (cA, 16, .inl x.2.1)), (s0, .inl (cA, 8, .inl x.2.2.1)), (p1, .inr (2, [.ref b1, .int (nI 24), .int (nI k1)])), (b1, .inl (cA, 72, .inl f1))]) (va_recv hK hP (ci := 1) (q0 := 3) rfl rfl) hP hD hK hN [3, 4, 5, 6, 1, 2] (by decide) rfl) rfl rfl hl.1 rfl (lv_room (Nat.le_of_ble_eq_true rfl)) dX3_run_16 ⟨Nat.le_of_ble_eq_true rfl, Nat.le_of_ble_eq_true rfl⟩) hP hD hS hA [3, 4, 5, 6, 1, 2] [0] [0, 5, 6, 1, 2, 3, 4] (wr := [(h0, .inr (3, [.ref p1, .ref p2, .ref e0, .ref l0, .ref m0]))]) (w2 := [(h0, .inr (3, [.ref p1, .ref p2, .ref e0, .ref l0, .ref m0])), (p1, .inr (2, [.ref b1, .int (nI 24), .int (nI k1)])), (b1, .inl (cA, 72, .inl f1)), (m0, .inr (1, [.ref r0, .ref c0, .ref s0, .ref p1, .int (nI (mRun f1 k1 n8 x).2.2.2.2.1), .int ((mRun f1 k1 n8 x).2.2.2.2.2.1), .int (nI (mRun f1 k1 n8 x).2.2.2.2.2.2)])), (r0, .inl (cA, 4, .inl ((mRun f1 k1 n8 x).2.1))), (c0, .inl (cA, 16, .inl ((mRun f1 k1 n8 x).2.2.1))), (s0, .inl (cA, 8, .inl ((mRun f1 k1 n8 x).2.2.2.1)))]) rfl rfl (by decide) (by decide) (by decide) rfl (fun H locs hP hD hS => ?_)
      refine lv_goto (tgt := 23) hx hb dX3_run_19 (by decide) ?_
      obtain ⟨hP9, hD9⟩ := jk_end (w2 := [(h0, .inr (3, [.ref p1, .ref p2, .ref e0, .ref l0, .ref m0])), (p1, .inr (2, [.ref b1, .int (nI 24), .int (nI k1)])), (b1, .inl (cA, 72, .inl f1)), (m0, .inr (1, [.ref r0, .ref c0, .ref s0, .ref p1, .int (nI (mRun f1 k1 n8 x).2.2.2.2.1), .int ((mRun f1 k1 n8 x).2.2.2.2.2.1), .int (nI (mRun f1 k1 n8 x).2.2.2.2.2.2)])), (r0, .inl (cA, 4, .inl ((mRun f1 k1 n8 x).2.1))), (c0, .inl (cA, 16, .inl ((mRun f1 k1 n8 x).2.2.1))), (s0, .inl (cA, 8, .inl ((mRun f1 k1 n8 x).2.2.2.1)))]) hP hD [0, 1, 2, 3, 4, 5, 6] (by decide) rfl
      have e9 : ([(h0, .inr (3, [.ref p1, .ref p2, .ref e0, .ref l0, .ref m0])), (p1, .inr (2, [.ref b1, .int (nI 24), .int (nI k1)])), (b1, .inl (cA, 72, .inl f1)), (m0, .inr (1, [.ref r0, .ref c0, .ref s0, .ref p1, .int (nI (mRun f1 k1 n8 x).2.2.2.2.1), .int ((mRun f1 k1 n8 x).2.2.2.2.2.1), .int (nI (mRun f1 k1 n8 x).2.2.2.2.2.2)])), (r0, .inl (cA, 4, .inl ((mRun f1 k1 n8 x).2.1))), (c0, .inl (cA, 16, .inl ((mRun f1 k1 n8 x).2.2.1))), (s0, .inl (cA, 8, .inl ((mRun f1 k1 n8 x).2.2.2.1)))] : va_W) = [(h0, .inr (3, [.ref p1, .ref p2, .ref e0, .ref l0, .ref m0])), (p1, .inr (2, [.ref b1, .int (nI 24), .int (nI k1)])), (b1, .inl (cA, 72, .inl f1)), (m0, .inr (1, [.ref r0, .ref c0, .ref s0, .ref p1, .int (nI (mRun f1 k1 (rCnt (nI n8)) x).2.2.2.2.1), .int ((mRun f1 k1 (rCnt (nI n8)) x).2.2.2.2.2.1), .int (nI (mRun f1 k1 (rCnt (nI n8)) x).2.2.2.2.2.2)])), (r0, .inl (cA, 4, .inl ((mRun f1 k1 (rCnt (nI n8)) x).2.1))), (c0, .inl (cA, 16, .inl ((mRun f1 k1 (rCnt (nI n8)) x).2.2.1))), (s0, .inl (cA, 8, .inl ((mRun f1 k1 (rCnt (nI n8)) x).2.2.2.1)))] := (by rw [hr8])
      rw [e9] at hP9 hD9
      exact W.iret (v := (nI (mRun f1 k1 n8 x).1)) hx hb hr (fun t9 ht9 hW9 => ⟨⟨_, (), rfl, (show (nI (mRun f1 k1 n8 x).1) = (nI (mRun f1 k1 (rCnt (nI n8)) x).1) from (by rw [hr8])), by rw [ht9]; exact hP9, hD9⟩, hS.F ht9⟩) hS.2.2 dX3_run_23
set_option maxHeartbeats 4000000 in
set_option maxRecDepth 100000 in
theorem c_X3_run_g (l : Launch) (D : va_G) (cA : ClassId) (sz : Nat) (h0 : Nat) (p1 : Nat) (p2 : Nat) (e0 : Nat) (l0 : Nat) (m0 : Nat) (b2 : Nat) (k2 : Nat) (r0 : Nat) (c0 : Nat) (s0 : Nat) (f2 : Nat → Int32) (x : MS) (n9 : Int32) (hwf : mWF f2 k2) (hi : x.2.2.2.2.1 = 0 → x.2.2.2.1 < k2) (hk : k2 ≤ 72) (hw : x.2.2.2.2.2 + 1000 < 1000000) : Met l yX3_run wsX3_run ({ frames := 6, cells := 0, slots := 0, locals := 132 }) (rwP D cA [.ref h0, .int n9] sz [(h0, .inr (3, [.ref p1, .ref p2, .ref e0, .ref l0, .ref m0])), (p2, .inr (2, [.ref b2, .int (nI 72), .int (nI k2)])), (b2, .inl (cA, 216, .inl f2)), (m0, .inr (1, [.ref r0, .ref c0, .ref s0, .ref p2, .int (nI x.2.2.2.1), .int x.2.2.2.2.1, .int (nI x.2.2.2.2.2)])), (r0, .inl (cA, 4, .inl x.1)), (c0, .inl (cA, 16, .inl x.2.1)), (s0, .inl (cA, 8, .inl x.2.2.1))]) (rwI D (va_A [(h0, .inr (3, [.ref p1, .ref p2, .ref e0, .ref l0, .ref m0])), (p2, .inr (2, [.ref b2, .int (nI 72), .int (nI k2)])), (b2, .inl (cA, 216, .inl f2)), (m0, .inr (1, [.ref r0, .ref c0, .ref s0, .ref p2, .int (nI x.2.2.2.1), .int x.2.2.2.2.1, .int (nI x.2.2.2.2.2)])), (r0, .inl (cA, 4, .inl x.1)), (c0, .inl (cA, 16, .inl x.2.1)), (s0, .inl (cA, 8, .inl x.2.2.1))] sz) (nI (mRun f2 k2 (rCnt n9) x).1) [(h0, .inr (3, [.ref p1, .ref p2, .ref e0, .ref l0, .ref m0])), (p2, .inr (2, [.ref b2, .int (nI 72), .int (nI k2)])), (b2, .inl (cA, 216, .inl f2)), (m0, .inr (1, [.ref r0, .ref c0, .ref s0, .ref p2, .int (nI (mRun f2 k2 (rCnt n9) x).2.2.2.2.1), .int ((mRun f2 k2 (rCnt n9) x).2.2.2.2.2.1), .int (nI (mRun f2 k2 (rCnt n9) x).2.2.2.2.2.2)])), (r0, .inl (cA, 4, .inl ((mRun f2 k2 (rCnt n9) x).2.1))), (c0, .inl (cA, 16, .inl ((mRun f2 k2 (rCnt n9) x).2.2.1))), (s0, .inl (cA, 8, .inl ((mRun f2 k2 (rCnt n9) x).2.2.2.1)))]) 0 0 (va_A [(h0, .inr (3, [.ref p1, .ref p2, .ref e0, .ref l0, .ref m0])), (p2, .inr (2, [.ref b2, .int (nI 72), .int (nI k2)])), (b2, .inl (cA, 216, .inl f2)), (m0, .inr (1, [.ref r0, .ref c0, .ref s0, .ref p2, .int (nI x.2.2.2.1), .int x.2.2.2.2.1, .int (nI x.2.2.2.2.2)])), (r0, .inl (cA, 4, .inl x.1)), (c0, .inl (cA, 16, .inl x.2.1)), (s0, .inl (cA, 8, .inl x.2.2.1))] sz) := by
  refine Met.ofW (cc := cX3_run) (maxL := 2) (ret := (some .int)) (by decide) rfl ?_
  intro p e s m args below meth c s₁ B hml hv
  obtain ⟨rfl, hsz, hP, hK, hN, hD0⟩ := hv
  have hx := B.exec
  have hb := B.bytes
  have hr := B.returns
  have hts := atoms_spec (ws := wsX3_run) B.pre
  have hown : s.vm.findClass RX3 = some m.cls := findClass_of_methodNamed B.named
  have hlocks := B.notSynchronized
  subst hsz
  have hD := hD0.self (sz := s.heap.size)
  generalize hAe : va_A [(h0, .inr (3, [.ref p1, .ref p2, .ref e0, .ref l0, .ref m0])), (p2, .inr (2, [.ref b2, .int (nI 72), .int (nI k2)])), (b2, .inl (cA, 216, .inl f2)), (m0, .inr (1, [.ref r0, .ref c0, .ref s0, .ref p2, .int (nI x.2.2.2.1), .int x.2.2.2.2.1, .int (nI x.2.2.2.2.2)])), (r0, .inl (cA, 4, .inl x.1)), (c0, .inl (cA, 16, .inl x.2.1)), (s0, .inl (cA, 8, .inl x.2.2.1))] s.heap.size = A at hD ⊢
  have hA : ∀ q : Nat, s.heap.size ≤ q → A q := fun q h => by rw [← hAe]; exact Or.inr h
  have hS : va_S A s.heap s.heap [] := va_S.rf
  have hl := lv_entry ([.ref h0, .int n9]) (n := 2) (Nat.le_of_ble_eq_true rfl)
  rw [lg_entry_eq]
  generalize (lg_sl ([.ref h0, .int n9]) ++ List.replicate (2 - (lg_sl ([.ref h0, .int n9])).length) Slot.unset).toArray = ls at hl ⊢
  have hl : lv_has ls 2 [(0, .ref h0), (1, .int n9)] := hl
  refine lv_iload_n hx hb dX3_run_0 rfl (lv_at hl 1 rfl) ?_
  refine lv_if_lt (tgt := 22) hx hb dX3_run_1 (by decide) (fun c_1 => ?_) (fun c_1 => ?_)
  · have hr0 : rCnt n9 = 0 := if_neg (fun h => h.1 c_1)
    refine lv_iconst (v := 0) hx hb dX3_run_22 (by decide) ?_
    obtain ⟨hP9, hD9⟩ := jk_end (w2 := [(h0, .inr (3, [.ref p1, .ref p2, .ref e0, .ref l0, .ref m0])), (p2, .inr (2, [.ref b2, .int (nI 72), .int (nI k2)])), (b2, .inl (cA, 216, .inl f2)), (m0, .inr (1, [.ref r0, .ref c0, .ref s0, .ref p2, .int (nI x.2.2.2.1), .int x.2.2.2.2.1, .int (nI x.2.2.2.2.2)])), (r0, .inl (cA, 4, .inl x.1)), (c0, .inl (cA, 16, .inl x.2.1)), (s0, .inl (cA, 8, .inl x.2.2.1))]) hP hD [0, 1, 2, 3, 4, 5, 6] (by decide) rfl
    have e9 : ([(h0, .inr (3, [.ref p1, .ref p2, .ref e0, .ref l0, .ref m0])), (p2, .inr (2, [.ref b2, .int (nI 72), .int (nI k2)])), (b2, .inl (cA, 216, .inl f2)), (m0, .inr (1, [.ref r0, .ref c0, .ref s0, .ref p2, .int (nI x.2.2.2.1), .int x.2.2.2.2.1, .int (nI x.2.2.2.2.2)])), (r0, .inl (cA, 4, .inl x.1)), (c0, .inl (cA, 16, .inl x.2.1)), (s0, .inl (cA, 8, .inl x.2.2.1))] : va_W) = [(h0, .inr (3, [.ref p1, .ref p2, .ref e0, .ref l0, .ref m0])), (p2, .inr (2, [.ref b2, .int (nI 72), .int (nI k2)])), (b2, .inl (cA, 216, .inl f2)), (m0, .inr (1, [.ref r0, .ref c0, .ref s0, .ref p2, .int (nI (mRun f2 k2 (rCnt n9) x).2.2.2.2.1), .int ((mRun f2 k2 (rCnt n9) x).2.2.2.2.2.1), .int (nI (mRun f2 k2 (rCnt n9) x).2.2.2.2.2.2)])), (r0, .inl (cA, 4, .inl ((mRun f2 k2 (rCnt n9) x).2.1))), (c0, .inl (cA, 16, .inl ((mRun f2 k2 (rCnt n9) x).2.2.1))), (s0, .inl (cA, 8, .inl ((mRun f2 k2 (rCnt n9) x).2.2.2.1)))] := (by rw [hr0]; rfl)
    rw [e9] at hP9 hD9
    exact W.iret (v := 0) hx hb hr (fun t9 ht9 hW9 => ⟨⟨_, (), rfl, (show 0 = (nI (mRun f2 k2 (rCnt n9) x).1) from (by rw [hr0]; rfl)), by rw [ht9]; exact hP9, hD9⟩, hS.F ht9⟩) hS.2.2 dX3_run_23
  · refine lv_iload_n hx hb dX3_run_4 rfl (lv_at hl 1 rfl) ?_
    refine lv_sipush (v := 1000) hx hb dX3_run_5 (by decide) ?_
    refine lv_icmp_gt (tgt := 22) hx hb dX3_run_8 (by decide) (fun c_8 => ?_) (fun c_8 => ?_)
    · have hr0 : rCnt n9 = 0 := if_neg (fun h => h.2 c_8)
      refine lv_iconst (v := 0) hx hb dX3_run_22 (by decide) ?_
      obtain ⟨hP9, hD9⟩ := jk_end (w2 := [(h0, .inr (3, [.ref p1, .ref p2, .ref e0, .ref l0, .ref m0])), (p2, .inr (2, [.ref b2, .int (nI 72), .int (nI k2)])), (b2, .inl (cA, 216, .inl f2)), (m0, .inr (1, [.ref r0, .ref c0, .ref s0, .ref p2, .int (nI x.2.2.2.1), .int x.2.2.2.2.1, .int (nI x.2.2.2.2.2)])), (r0, .inl (cA, 4, .inl x.1)), (c0, .inl (cA, 16, .inl x.2.1)), (s0, .inl (cA, 8, .inl x.2.2.1))]) hP hD [0, 1, 2, 3, 4, 5, 6] (by decide) rfl
      have e9 : ([(h0, .inr (3, [.ref p1, .ref p2, .ref e0, .ref l0, .ref m0])), (p2, .inr (2, [.ref b2, .int (nI 72), .int (nI k2)])), (b2, .inl (cA, 216, .inl f2)), (m0, .inr (1, [.ref r0, .ref c0, .ref s0, .ref p2, .int (nI x.2.2.2.1), .int x.2.2.2.2.1, .int (nI x.2.2.2.2.2)])), (r0, .inl (cA, 4, .inl x.1)), (c0, .inl (cA, 16, .inl x.2.1)), (s0, .inl (cA, 8, .inl x.2.2.1))] : va_W) = [(h0, .inr (3, [.ref p1, .ref p2, .ref e0, .ref l0, .ref m0])), (p2, .inr (2, [.ref b2, .int (nI 72), .int (nI k2)])), (b2, .inl (cA, 216, .inl f2)), (m0, .inr (1, [.ref r0, .ref c0, .ref s0, .ref p2, .int (nI (mRun f2 k2 (rCnt n9) x).2.2.2.2.1), .int ((mRun f2 k2 (rCnt n9) x).2.2.2.2.2.1), .int (nI (mRun f2 k2 (rCnt n9) x).2.2.2.2.2.2)])), (r0, .inl (cA, 4, .inl ((mRun f2 k2 (rCnt n9) x).2.1))), (c0, .inl (cA, 16, .inl ((mRun f2 k2 (rCnt n9) x).2.2.1))), (s0, .inl (cA, 8, .inl ((mRun f2 k2 (rCnt n9) x).2.2.2.1)))] := (by rw [hr0]; rfl)
      rw [e9] at hP9 hD9
      exact W.iret (v := 0) hx hb hr (fun t9 ht9 hW9 => ⟨⟨_, (), rfl, (show 0 = (nI (mRun f2 k2 (rCnt n9) x).1) from (by rw [hr0]; rfl)), by rw [ht9]; exact hP9, hD9⟩, hS.F ht9⟩) hS.2.2 dX3_run_23
    · obtain ⟨n8, hn8, rfl⟩ := jN_of (x := n9) (n := 1001) (by decide) (rCnt_in c_1 c_8)
      have hr8 : rCnt (nI n8) = n8 := rCnt_n (by omega)
      refine lv_aload_n hx hb dX3_run_11 rfl (lv_at hl 0 rfl) ?_
      refine va_get (D := D) (ci := 3) (v := .ref m0) (C := RX3) (T := TX3) (N := 5) hx hb hts iw_X3_run_X3 hown hK hP 0 rfl rfl 4 (by decide) (hts (.fieldLink RX3 35 "JumpGuard" "machine" "LJumpGuard$Machine;") (List.mem_of_getElem? (l := wsX3_run) (i := 1) rfl)) (fun _ h9 => h9) rfl dX3_run_12 ?_
      refine lv_iload_n hx hb dX3_run_15 rfl (lv_at hl 1 rfl) ?_
      refine jw_i (va_runV (As := [.int (nI n8)]) (rest := []) ⟨hx, hb, hml, hown, hts⟩ (c_X1_makeSteps l D cA s.heap.size m0 r0 c0 s0 p2 b2 72 k2 216 f2 x n8 hwf hi (by omega) (by omega) (by omega)) (cwV 1 hts gX3_run_X1_makeSteps rfl rfl rfl hv_X1_makeSteps ⟨Nat.le_of_ble_eq_true rfl, Nat.le_of_ble_eq_true rfl⟩) (rwP.V (wc := [(m0, .inr (1, [.ref r0, .ref c0, .ref s0, .ref p2, .int (nI x.2.2.2.1), .int x.2.2.2.2.1, .int (nI x.2.2.2.2.2)])), (r0, .inl (cA, 4, .inl x.1)), (c0, .inl (cA, 16, .inl x.2.1)), (s0, .inl (cA, 8, .inl x.2.2.1)), (p2, .inr (2, [.ref b2, .int (nI 72), .int (nI k2)])), (b2, .inl (cA, 216, .inl f2))]) (va_recv hK hP (ci := 1) (q0 := 3) rfl rfl) hP hD hK hN [3, 4, 5, 6, 1, 2] (by decide) rfl) rfl rfl hl.1 rfl (lv_room (Nat.le_of_ble_eq_true rfl)) dX3_run_16 ⟨Nat.le_of_ble_eq_true rfl, Nat.le_of_ble_eq_true rfl⟩) hP hD hS hA [3, 4, 5, 6, 1, 2] [0] [0, 5, 6, 1, 2, 3, 4] (wr := [(h0, .inr (3, [.ref p1, .ref p2, .ref e0, .ref l0, .ref m0]))]) (w2 := [(h0, .inr (3, [.ref p1, .ref p2, .ref e0, .ref l0, .ref m0])), (p2, .inr (2, [.ref b2, .int (nI 72), .int (nI k2)])), (b2, .inl (cA, 216, .inl f2)), (m0, .inr (1, [.ref r0, .ref c0, .ref s0, .ref p2, .int (nI (mRun f2 k2 n8 x).2.2.2.2.1), .int ((mRun f2 k2 n8 x).2.2.2.2.2.1), .int (nI (mRun f2 k2 n8 x).2.2.2.2.2.2)])), (r0, .inl (cA, 4, .inl ((mRun f2 k2 n8 x).2.1))), (c0, .inl (cA, 16, .inl ((mRun f2 k2 n8 x).2.2.1))), (s0, .inl (cA, 8, .inl ((mRun f2 k2 n8 x).2.2.2.1)))]) rfl rfl (by decide) (by decide) (by decide) rfl (fun H locs hP hD hS => ?_)
      refine lv_goto (tgt := 23) hx hb dX3_run_19 (by decide) ?_
      obtain ⟨hP9, hD9⟩ := jk_end (w2 := [(h0, .inr (3, [.ref p1, .ref p2, .ref e0, .ref l0, .ref m0])), (p2, .inr (2, [.ref b2, .int (nI 72), .int (nI k2)])), (b2, .inl (cA, 216, .inl f2)), (m0, .inr (1, [.ref r0, .ref c0, .ref s0, .ref p2, .int (nI (mRun f2 k2 n8 x).2.2.2.2.1), .int ((mRun f2 k2 n8 x).2.2.2.2.2.1), .int (nI (mRun f2 k2 n8 x).2.2.2.2.2.2)])), (r0, .inl (cA, 4, .inl ((mRun f2 k2 n8 x).2.1))), (c0, .inl (cA, 16, .inl ((mRun f2 k2 n8 x).2.2.1))), (s0, .inl (cA, 8, .inl ((mRun f2 k2 n8 x).2.2.2.1)))]) hP hD [0, 1, 2, 3, 4, 5, 6] (by decide) rfl
      have e9 : ([(h0, .inr (3, [.ref p1, .ref p2, .ref e0, .ref l0, .ref m0])), (p2, .inr (2, [.ref b2, .int (nI 72), .int (nI k2)])), (b2, .inl (cA, 216, .inl f2)), (m0, .inr (1, [.ref r0, .ref c0, .ref s0, .ref p2, .int (nI (mRun f2 k2 n8 x).2.2.2.2.1), .int ((mRun f2 k2 n8 x).2.2.2.2.2.1), .int (nI (mRun f2 k2 n8 x).2.2.2.2.2.2)])), (r0, .inl (cA, 4, .inl ((mRun f2 k2 n8 x).2.1))), (c0, .inl (cA, 16, .inl ((mRun f2 k2 n8 x).2.2.1))), (s0, .inl (cA, 8, .inl ((mRun f2 k2 n8 x).2.2.2.1)))] : va_W) = [(h0, .inr (3, [.ref p1, .ref p2, .ref e0, .ref l0, .ref m0])), (p2, .inr (2, [.ref b2, .int (nI 72), .int (nI k2)])), (b2, .inl (cA, 216, .inl f2)), (m0, .inr (1, [.ref r0, .ref c0, .ref s0, .ref p2, .int (nI (mRun f2 k2 (rCnt (nI n8)) x).2.2.2.2.1), .int ((mRun f2 k2 (rCnt (nI n8)) x).2.2.2.2.2.1), .int (nI (mRun f2 k2 (rCnt (nI n8)) x).2.2.2.2.2.2)])), (r0, .inl (cA, 4, .inl ((mRun f2 k2 (rCnt (nI n8)) x).2.1))), (c0, .inl (cA, 16, .inl ((mRun f2 k2 (rCnt (nI n8)) x).2.2.1))), (s0, .inl (cA, 8, .inl ((mRun f2 k2 (rCnt (nI n8)) x).2.2.2.1)))] := (by rw [hr8])
      rw [e9] at hP9 hD9
      exact W.iret (v := (nI (mRun f2 k2 n8 x).1)) hx hb hr (fun t9 ht9 hW9 => ⟨⟨_, (), rfl, (show (nI (mRun f2 k2 n8 x).1) = (nI (mRun f2 k2 (rCnt (nI n8)) x).1) from (by rw [hr8])), by rw [ht9]; exact hP9, hD9⟩, hS.F ht9⟩) hS.2.2 dX3_run_23
