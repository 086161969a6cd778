theorem iw_X0_init_X0 : ∀ w ∈ wsX00, w ∈ wsX0_init := by decide +kernel
theorem iw_X1_init_X1 : ∀ w ∈ wsX10, w ∈ wsX1_init := by decide +kernel
theorem iw_X1_init_X2 : ∀ w ∈ wsX20, w ∈ wsX1_init := by decide +kernel
theorem iw_X2_init_X2 : ∀ w ∈ wsX20, w ∈ wsX2_init := by decide +kernel
theorem iw_X3_init_X0 : ∀ w ∈ wsX00, w ∈ wsX3_init := by decide +kernel
theorem iw_X3_init_X1 : ∀ w ∈ wsX10, w ∈ wsX3_init := by decide +kernel
theorem iw_X3_init_X2 : ∀ w ∈ wsX20, w ∈ wsX3_init := by decide +kernel
theorem iw_X3_init_X3 : ∀ w ∈ wsX30, w ∈ wsX3_init := by decide +kernel
theorem hv_X0_init : yX0_init.cls = RX0 ∧ yX0_init.cls ≠ "java/lang/invoke/MethodHandle" ∧ yX0_init.cls ≠ "java/lang/invoke/VarHandle" ∧ (parseMethodDescriptor yX0_init.desc).map (fun d => d.parameters.length) = some 0 := by decide +kernel
theorem hv_X1_init : yX1_init.cls = RX1 ∧ yX1_init.cls ≠ "java/lang/invoke/MethodHandle" ∧ yX1_init.cls ≠ "java/lang/invoke/VarHandle" ∧ (parseMethodDescriptor yX1_init.desc).map (fun d => d.parameters.length) = some 0 := by decide +kernel
theorem hv_X2_init : yX2_init.cls = RX2 ∧ yX2_init.cls ≠ "java/lang/invoke/MethodHandle" ∧ yX2_init.cls ≠ "java/lang/invoke/VarHandle" ∧ (parseMethodDescriptor yX2_init.desc).map (fun d => d.parameters.length) = some 1 := by decide +kernel
set_option maxHeartbeats 4000000 in
set_option maxRecDepth 100000 in
theorem c_X2_init_24 (l : Launch) (D : va_G) (cA : ClassId) (sz : Nat) (h0 : Nat) : Met l yX2_init wsX2_init ({ frames := 1, cells := 1, slots := 72, locals := 21 }) (rwP D cA [.ref h0, .int 24] sz [(h0, .inr (2, [.null, .int 0, .int 0]))]) (rwE D (va_A [(h0, .inr (2, [.null, .int 0, .int 0]))] sz) (fun u => [(h0, .inr (2, [.ref (u 0), .int (nI 24), .int (nI 0)])), ((u 0), .inl (cA, 72, .inl (fun _ => 0)))])) 1 72 (va_A [(h0, .inr (2, [.null, .int 0, .int 0]))] sz) := by
  refine Met.ofW (cc := cX2_init) (maxL := 2) (ret := none) (by decide) rfl ?_
  intro p e s m args below meth c s₁ B hml hv
  obtain ⟨rfl, hsz, hP, hK, hN, hD0⟩ := hv
  have hx := B.exec
  have hb := B.bytes
  have hr := B.returns
  have hts := atoms_spec (ws := wsX2_init) B.pre
  have hown : s.vm.findClass RX2 = some m.cls := findClass_of_methodNamed B.named
  have hlocks := B.notSynchronized
  have hin : meth.name = "<init>" := (name_of_methodNamed B.named B.method).1
  subst hsz
  have hD := hD0.self (sz := s.heap.size)
  generalize hAe : va_A [(h0, .inr (2, [.null, .int 0, .int 0]))] s.heap.size = A at hD ⊢
  have hA : ∀ q : Nat, s.heap.size ≤ q → A q := fun q h => by rw [← hAe]; exact Or.inr h
  have hS : va_S A s.heap s.heap [] := va_S.rf
  have hl := lv_entry ([.ref h0, .int 24]) (n := 2) (Nat.le_of_ble_eq_true rfl)
  rw [lg_entry_eq]
  generalize (lg_sl ([.ref h0, .int 24]) ++ List.replicate (2 - (lg_sl ([.ref h0, .int 24])).length) Slot.unset).toArray = ls at hl ⊢
  have hl : lv_has ls 2 [(0, .ref h0), (1, .int 24)] := hl
  refine lv_aload_n hx hb dX2_init_0 rfl (lv_at hl 0 rfl) ?_
  refine W.objInit hx hb hown (hts (.methodLink RX2 3 objectInit) (List.mem_of_getElem? (l := wsX2_init) (i := 1) rfl)) (hts (.instanceMethod objectInit) (List.mem_of_getElem? (l := wsX2_init) (i := 2) rfl)) (hts (.code objectInit ⟨#[0xb1]⟩ 1 none) (List.mem_of_getElem? (l := wsX2_init) (i := 3) rfl)) rfl (by rw [hml]; exact hl.1) rfl dX2_init_1 (Nat.le_of_ble_eq_true rfl) (Nat.le_of_ble_eq_true rfl) ?_
  refine W.eq (g2 := F0 m 4 ls []) rfl ?_
  refine lv_aload_n hx hb dX2_init_4 rfl (lv_at hl 0 rfl) ?_
  refine lv_iconst (v := 0) hx hb dX2_init_5 (by decide) ?_
  refine lv_iload_n hx hb dX2_init_6 rfl (lv_at hl 1 rfl) ?_
  refine lv_bipush (v := 72) hx hb dX2_init_7 (by decide) ?_
  refine va_mmin hx hb (by rw [hml]; exact hl.1.symm) hown (hts (.methodLink RX2 9 Lib.Math.min.name) (List.mem_of_getElem? (l := wsX2_init) (i := 4) rfl)) (hts (.static Lib.Math.min.name) (List.mem_of_getElem? (l := wsX2_init) (i := 5) rfl)) (hts (.initialized "java/lang/Math") (List.mem_of_getElem? (l := wsX2_init) (i := 6) rfl)) (hts (.code Lib.Math.min.name Lib.Math.min.code 2 (some .int)) (List.mem_of_getElem? (l := wsX2_init) (i := 7) rfl)) (Nat.le_of_ble_eq_true rfl) (Nat.le_of_ble_eq_true rfl) (Nat.le_of_ble_eq_true rfl) (Nat.le_of_ble_eq_true rfl) dX2_init_9 ?_
  refine jk_top (show (jMin 24 72) = (nI 24) from by decide) ?_
  refine va_mmax hx hb (by rw [hml]; exact hl.1.symm) hown (hts (.methodLink RX2 15 Lib.Math.max.name) (List.mem_of_getElem? (l := wsX2_init) (i := 8) rfl)) (hts (.static Lib.Math.max.name) (List.mem_of_getElem? (l := wsX2_init) (i := 9) rfl)) (hts (.initialized "java/lang/Math") (List.mem_of_getElem? (l := wsX2_init) (i := 6) rfl)) (hts (.code Lib.Math.max.name Lib.Math.max.code 2 (some .int)) (List.mem_of_getElem? (l := wsX2_init) (i := 10) rfl)) (Nat.le_of_ble_eq_true rfl) (Nat.le_of_ble_eq_true rfl) (Nat.le_of_ble_eq_true rfl) (Nat.le_of_ble_eq_true rfl) dX2_init_12 ?_
  refine jk_top (show (jMax 0 (nI 24)) = (nI 24) from by decide) ?_
  refine va_putF (D := D) (ci := 2) (v := .int (nI 24)) (ty := .int) (C := RX2) (T := TX2) (N := 3) hx hb hts iw_X2_init_X2 tyX2 tyX2_ok nmX2 hown hK hP hD hS 0 rfl rfl 1 (by decide) (hts (.fieldLink RX2 18 "JumpGuard$Program" "most" "I") (List.mem_of_getElem? (l := wsX2_init) (i := 11) rfl)) (fun _ h9 => h9) rfl hin rfl (by decide +kernel) rfl rfl (Nat.le_of_ble_eq_true rfl) dX2_init_15 (fun H locs hP hD hS => ?_)
  have hP : va_P D vwCl [(h0, .inr (2, [.null, .int (nI 24), .int 0]))] H := hP
  have hD : va_D A [(h0, .inr (2, [.null, .int (nI 24), .int 0]))] := hD
  refine lv_aload_n hx hb dX2_init_18 rfl (lv_at hl 0 rfl) ?_
  refine lv_aload_n hx hb dX2_init_19 rfl (lv_at hl 0 rfl) ?_
  refine va_get (D := D) (ci := 2) (v := .int (nI 24)) (C := RX2) (T := TX2) (N := 3) hx hb hts iw_X2_init_X2 hown hK hP 0 rfl rfl 1 (by decide) (hts (.fieldLink RX2 18 "JumpGuard$Program" "most" "I") (List.mem_of_getElem? (l := wsX2_init) (i := 11) rfl)) (fun _ h9 => h9) rfl dX2_init_20 ?_
  refine lv_iconst (v := 3) hx hb dX2_init_23 (by decide) ?_
  refine lv_imul hx hb dX2_init_24 ?_
  refine jk_top (show ((nI 24) * 3) = (nI 72) from by decide) ?_
  refine va_newa (atype := .int) (N' := 72) (n := (nI 72)) (ty := .int) (a0 := (72, .inl (fun _ => 0))) hx hb (hts (.arrayClass .int) (List.mem_of_getElem? (l := wsX2_init) (i := 12) rfl)) rfl hK hP hD hS hA (fun _ => rfl) (by decide) (by decide) (by decide) (Nat.le_of_ble_eq_true rfl) (Nat.le_of_ble_eq_true rfl) dX2_init_25 (fun q25 cA9 H hK9 hP hD hS => ?_)
  have eA9 := jK_one hK9
  rw [eA9] at hP hD
  have hP : va_P D vwCl [(h0, .inr (2, [.null, .int (nI 24), .int 0])), (q25, .inl (cA, 72, .inl (fun _ => 0)))] H := hP
  have hD : va_D A [(h0, .inr (2, [.null, .int (nI 24), .int 0])), (q25, .inl (cA, 72, .inl (fun _ => 0)))] := hD
  refine va_putF (D := D) (ci := 2) (v := .ref q25) (ty := .array .int) (C := RX2) (T := TX2) (N := 3) hx hb hts iw_X2_init_X2 tyX2 tyX2_ok nmX2 hown hK hP hD hS 0 rfl rfl 0 (by decide) (hts (.fieldLink RX2 24 "JumpGuard$Program" "numbers" "[I") (List.mem_of_getElem? (l := wsX2_init) (i := 13) rfl)) (fun _ h9 => h9) rfl hin rfl (by decide +kernel) rfl rfl (Nat.le_of_ble_eq_true rfl) dX2_init_27 (fun H locs hP hD hS => ?_)
  have hP : va_P D vwCl [(h0, .inr (2, [.ref q25, .int (nI 24), .int 0])), (q25, .inl (cA, 72, .inl (fun _ => 0)))] H := hP
  have hD : va_D A [(h0, .inr (2, [.ref q25, .int (nI 24), .int 0])), (q25, .inl (cA, 72, .inl (fun _ => 0)))] := hD
  obtain ⟨hP9, hD9⟩ := jk_end (w2 := [(h0, .inr (2, [.ref q25, .int (nI 24), .int 0])), (q25, .inl (cA, 72, .inl (fun _ => 0)))]) hP hD [0, 1] (by decide) rfl
  have e9 : ([(h0, .inr (2, [.ref q25, .int (nI 24), .int 0])), (q25, .inl (cA, 72, .inl (fun _ => 0)))] : va_W) = [(h0, .inr (2, [.ref q25, .int (nI 24), .int (nI 0)])), (q25, .inl (cA, 72, .inl (fun _ => 0)))] := rfl
  rw [e9] at hP9 hD9
  exact W.vret hx hb hr (fun t9 ht9 hW9 => ⟨⟨(fun k => match k with  | _ => q25), rfl, trivial, by rw [ht9]; exact hP9, hD9⟩, hS.F ht9⟩) hS.2.2 dX2_init_30
set_option maxHeartbeats 4000000 in
set_option maxRecDepth 100000 in
theorem c_X2_init_72 (l : Launch) (D : va_G) (cA : ClassId) (sz : Nat) (h0 : Nat) : Met l yX2_init wsX2_init ({ frames := 1, cells := 1, slots := 216, locals := 21 }) (rwP D cA [.ref h0, .int 72] sz [(h0, .inr (2, [.null, .int 0, .int 0]))]) (rwE D (va_A [(h0, .inr (2, [.null, .int 0, .int 0]))] sz) (fun u => [(h0, .inr (2, [.ref (u 0), .int (nI 72), .int (nI 0)])), ((u 0), .inl (cA, 216, .inl (fun _ => 0)))])) 1 216 (va_A [(h0, .inr (2, [.null, .int 0, .int 0]))] sz) := by
  refine Met.ofW (cc := cX2_init) (maxL := 2) (ret := none) (by decide) rfl ?_
  intro p e s m args below meth c s₁ B hml hv
  obtain ⟨rfl, hsz, hP, hK, hN, hD0⟩ := hv
  have hx := B.exec
  have hb := B.bytes
  have hr := B.returns
  have hts := atoms_spec (ws := wsX2_init) B.pre
  have hown : s.vm.findClass RX2 = some m.cls := findClass_of_methodNamed B.named
  have hlocks := B.notSynchronized
  have hin : meth.name = "<init>" := (name_of_methodNamed B.named B.method).1
  subst hsz
  have hD := hD0.self (sz := s.heap.size)
  generalize hAe : va_A [(h0, .inr (2, [.null, .int 0, .int 0]))] s.heap.size = A at hD ⊢
  have hA : ∀ q : Nat, s.heap.size ≤ q → A q := fun q h => by rw [← hAe]; exact Or.inr h
  have hS : va_S A s.heap s.heap [] := va_S.rf
  have hl := lv_entry ([.ref h0, .int 72]) (n := 2) (Nat.le_of_ble_eq_true rfl)
  rw [lg_entry_eq]
  generalize (lg_sl ([.ref h0, .int 72]) ++ List.replicate (2 - (lg_sl ([.ref h0, .int 72])).length) Slot.unset).toArray = ls at hl ⊢
  have hl : lv_has ls 2 [(0, .ref h0), (1, .int 72)] := hl
  refine lv_aload_n hx hb dX2_init_0 rfl (lv_at hl 0 rfl) ?_
  refine W.objInit hx hb hown (hts (.methodLink RX2 3 objectInit) (List.mem_of_getElem? (l := wsX2_init) (i := 1) rfl)) (hts (.instanceMethod objectInit) (List.mem_of_getElem? (l := wsX2_init) (i := 2) rfl)) (hts (.code objectInit ⟨#[0xb1]⟩ 1 none) (List.mem_of_getElem? (l := wsX2_init) (i := 3) rfl)) rfl (by rw [hml]; exact hl.1) rfl dX2_init_1 (Nat.le_of_ble_eq_true rfl) (Nat.le_of_ble_eq_true rfl) ?_
  refine W.eq (g2 := F0 m 4 ls []) rfl ?_
  refine lv_aload_n hx hb dX2_init_4 rfl (lv_at hl 0 rfl) ?_
  refine lv_iconst (v := 0) hx hb dX2_init_5 (by decide) ?_
  refine lv_iload_n hx hb dX2_init_6 rfl (lv_at hl 1 rfl) ?_
  refine lv_bipush (v := 72) hx hb dX2_init_7 (by decide) ?_
  refine va_mmin hx hb (by rw [hml]; exact hl.1.symm) hown (hts (.methodLink RX2 9 Lib.Math.min.name) (List.mem_of_getElem? (l := wsX2_init) (i := 4) rfl)) (hts (.static Lib.Math.min.name) (List.mem_of_getElem? (l := wsX2_init) (i := 5) rfl)) (hts (.initialized "java/lang/Math") (List.mem_of_getElem? (l := wsX2_init) (i := 6) rfl)) (hts (.code Lib.Math.min.name Lib.Math.min.code 2 (some .int)) (List.mem_of_getElem? (l := wsX2_init) (i := 7) rfl)) (Nat.le_of_ble_eq_true rfl) (Nat.le_of_ble_eq_true rfl) (Nat.le_of_ble_eq_true rfl) (Nat.le_of_ble_eq_true rfl) dX2_init_9 ?_
  refine jk_top (show (jMin 72 72) = (nI 72) from by decide) ?_
  refine va_mmax hx hb (by rw [hml]; exact hl.1.symm) hown (hts (.methodLink RX2 15 Lib.Math.max.name) (List.mem_of_getElem? (l := wsX2_init) (i := 8) rfl)) (hts (.static Lib.Math.max.name) (List.mem_of_getElem? (l := wsX2_init) (i := 9) rfl)) (hts (.initialized "java/lang/Math") (List.mem_of_getElem? (l := wsX2_init) (i := 6) rfl)) (hts (.code Lib.Math.max.name Lib.Math.max.code 2 (some .int)) (List.mem_of_getElem? (l := wsX2_init) (i := 10) rfl)) (Nat.le_of_ble_eq_true rfl) (Nat.le_of_ble_eq_true rfl) (Nat.le_of_ble_eq_true rfl) (Nat.le_of_ble_eq_true rfl) dX2_init_12 ?_
  refine jk_top (show (jMax 0 (nI 72)) = (nI 72) from by decide) ?_
  refine va_putF (D := D) (ci := 2) (v := .int (nI 72)) (ty := .int) (C := RX2) (T := TX2) (N := 3) hx hb hts iw_X2_init_X2 tyX2 tyX2_ok nmX2 hown hK hP hD hS 0 rfl rfl 1 (by decide) (hts (.fieldLink RX2 18 "JumpGuard$Program" "most" "I") (List.mem_of_getElem? (l := wsX2_init) (i := 11) rfl)) (fun _ h9 => h9) rfl hin rfl (by decide +kernel) rfl rfl (Nat.le_of_ble_eq_true rfl) dX2_init_15 (fun H locs hP hD hS => ?_)
  have hP : va_P D vwCl [(h0, .inr (2, [.null, .int (nI 72), .int 0]))] H := hP
  have hD : va_D A [(h0, .inr (2, [.null, .int (nI 72), .int 0]))] := hD
  refine lv_aload_n hx hb dX2_init_18 rfl (lv_at hl 0 rfl) ?_
  refine lv_aload_n hx hb dX2_init_19 rfl (lv_at hl 0 rfl) ?_
  refine va_get (D := D) (ci := 2) (v := .int (nI 72)) (C := RX2) (T := TX2) (N := 3) hx hb hts iw_X2_init_X2 hown hK hP 0 rfl rfl 1 (by decide) (hts (.fieldLink RX2 18 "JumpGuard$Program" "most" "I") (List.mem_of_getElem? (l := wsX2_init) (i := 11) rfl)) (fun _ h9 => h9) rfl dX2_init_20 ?_
  refine lv_iconst (v := 3) hx hb dX2_init_23 (by decide) ?_
  refine lv_imul hx hb dX2_init_24 ?_
  refine jk_top (show ((nI 72) * 3) = (nI 216) from by decide) ?_
  refine va_newa (atype := .int) (N' := 216) (n := (nI 216)) (ty := .int) (a0 := (216, .inl (fun _ => 0))) hx hb (hts (.arrayClass .int) (List.mem_of_getElem? (l := wsX2_init) (i := 12) rfl)) rfl hK hP hD hS hA (fun _ => rfl) (by decide) (by decide) (by decide) (Nat.le_of_ble_eq_true rfl) (Nat.le_of_ble_eq_true rfl) dX2_init_25 (fun q25 cA9 H hK9 hP hD hS => ?_)
  have eA9 := jK_one hK9
  rw [eA9] at hP hD
  have hP : va_P D vwCl [(h0, .inr (2, [.null, .int (nI 72), .int 0])), (q25, .inl (cA, 216, .inl (fun _ => 0)))] H := hP
  have hD : va_D A [(h0, .inr (2, [.null, .int (nI 72), .int 0])), (q25, .inl (cA, 216, .inl (fun _ => 0)))] := hD
  refine va_putF (D := D) (ci := 2) (v := .ref q25) (ty := .array .int) (C := RX2) (T := TX2) (N := 3) hx hb hts iw_X2_init_X2 tyX2 tyX2_ok nmX2 hown hK hP hD hS 0 rfl rfl 0 (by decide) (hts (.fieldLink RX2 24 "JumpGuard$Program" "numbers" "[I") (List.mem_of_getElem? (l := wsX2_init) (i := 13) rfl)) (fun _ h9 => h9) rfl hin rfl (by decide +kernel) rfl rfl (Nat.le_of_ble_eq_true rfl) dX2_init_27 (fun H locs hP hD hS => ?_)
  have hP : va_P D vwCl [(h0, .inr (2, [.ref q25, .int (nI 72), .int 0])), (q25, .inl (cA, 216, .inl (fun _ => 0)))] H := hP
  have hD : va_D A [(h0, .inr (2, [.ref q25, .int (nI 72), .int 0])), (q25, .inl (cA, 216, .inl (fun _ => 0)))] := hD
  obtain ⟨hP9, hD9⟩ := jk_end (w2 := [(h0, .inr (2, [.ref q25, .int (nI 72), .int 0])), (q25, .inl (cA, 216, .inl (fun _ => 0)))]) hP hD [0, 1] (by decide) rfl
  have e9 : ([(h0, .inr (2, [.ref q25, .int (nI 72), .int 0])), (q25, .inl (cA, 216, .inl (fun _ => 0)))] : va_W) = [(h0, .inr (2, [.ref q25, .int (nI 72), .int (nI 0)])), (q25, .inl (cA, 216, .inl (fun _ => 0)))] := rfl
  rw [e9] at hP9 hD9
  exact W.vret hx hb hr (fun t9 ht9 hW9 => ⟨⟨(fun k => match k with  | _ => q25), rfl, trivial, by rw [ht9]; exact hP9, hD9⟩, hS.F ht9⟩) hS.2.2 dX2_init_30
set_option maxHeartbeats 4000000 in
set_option maxRecDepth 100000 in
theorem c_X2_init_0 (l : Launch) (D : va_G) (cA : ClassId) (sz : Nat) (h0 : Nat) : Met l yX2_init wsX2_init ({ frames := 1, cells := 1, slots := 0, locals := 21 }) (rwP D cA [.ref h0, .int 0] sz [(h0, .inr (2, [.null, .int 0, .int 0]))]) (rwE D (va_A [(h0, .inr (2, [.null, .int 0, .int 0]))] sz) (fun u => [(h0, .inr (2, [.ref (u 0), .int (nI 0), .int (nI 0)])), ((u 0), .inl (cA, 0, .inl (fun _ => 0)))])) 1 0 (va_A [(h0, .inr (2, [.null, .int 0, .int 0]))] sz) := by
  refine Met.ofW (cc := cX2_init) (maxL := 2) (ret := none) (by decide) rfl ?_
  intro p e s m args below meth c s₁ B hml hv
  obtain ⟨rfl, hsz, hP, hK, hN, hD0⟩ := hv
  have hx := B.exec
  have hb := B.bytes
  have hr := B.returns
  have hts := atoms_spec (ws := wsX2_init) B.pre
  have hown : s.vm.findClass RX2 = some m.cls := findClass_of_methodNamed B.named
  have hlocks := B.notSynchronized
  have hin : meth.name = "<init>" := (name_of_methodNamed B.named B.method).1
  subst hsz
  have hD := hD0.self (sz := s.heap.size)
  generalize hAe : va_A [(h0, .inr (2, [.null, .int 0, .int 0]))] s.heap.size = A at hD ⊢
  have hA : ∀ q : Nat, s.heap.size ≤ q → A q := fun q h => by rw [← hAe]; exact Or.inr h
  have hS : va_S A s.heap s.heap [] := va_S.rf
  have hl := lv_entry ([.ref h0, .int 0]) (n := 2) (Nat.le_of_ble_eq_true rfl)
  rw [lg_entry_eq]
  generalize (lg_sl ([.ref h0, .int 0]) ++ List.replicate (2 - (lg_sl ([.ref h0, .int 0])).length) Slot.unset).toArray = ls at hl ⊢
  have hl : lv_has ls 2 [(0, .ref h0), (1, .int 0)] := hl
  refine lv_aload_n hx hb dX2_init_0 rfl (lv_at hl 0 rfl) ?_
  refine W.objInit hx hb hown (hts (.methodLink RX2 3 objectInit) (List.mem_of_getElem? (l := wsX2_init) (i := 1) rfl)) (hts (.instanceMethod objectInit) (List.mem_of_getElem? (l := wsX2_init) (i := 2) rfl)) (hts (.code objectInit ⟨#[0xb1]⟩ 1 none) (List.mem_of_getElem? (l := wsX2_init) (i := 3) rfl)) rfl (by rw [hml]; exact hl.1) rfl dX2_init_1 (Nat.le_of_ble_eq_true rfl) (Nat.le_of_ble_eq_true rfl) ?_
  refine W.eq (g2 := F0 m 4 ls []) rfl ?_
  refine lv_aload_n hx hb dX2_init_4 rfl (lv_at hl 0 rfl) ?_
  refine lv_iconst (v := 0) hx hb dX2_init_5 (by decide) ?_
  refine lv_iload_n hx hb dX2_init_6 rfl (lv_at hl 1 rfl) ?_
  refine lv_bipush (v := 72) hx hb dX2_init_7 (by decide) ?_
  refine va_mmin hx hb (by rw [hml]; exact hl.1.symm) hown (hts (.methodLink RX2 9 Lib.Math.min.name) (List.mem_of_getElem? (l := wsX2_init) (i := 4) rfl)) (hts (.static Lib.Math.min.name) (List.mem_of_getElem? (l := wsX2_init) (i := 5) rfl)) (hts (.initialized "java/lang/Math") (List.mem_of_getElem? (l := wsX2_init) (i := 6) rfl)) (hts (.code Lib.Math.min.name Lib.Math.min.code 2 (some .int)) (List.mem_of_getElem? (l := wsX2_init) (i := 7) rfl)) (Nat.le_of_ble_eq_true rfl) (Nat.le_of_ble_eq_true rfl) (Nat.le_of_ble_eq_true rfl) (Nat.le_of_ble_eq_true rfl) dX2_init_9 ?_
  refine jk_top (show (jMin 0 72) = (nI 0) from by decide) ?_
  refine va_mmax hx hb (by rw [hml]; exact hl.1.symm) hown (hts (.methodLink RX2 15 Lib.Math.max.name) (List.mem_of_getElem? (l := wsX2_init) (i := 8) rfl)) (hts (.static Lib.Math.max.name) (List.mem_of_getElem? (l := wsX2_init) (i := 9) rfl)) (hts (.initialized "java/lang/Math") (List.mem_of_getElem? (l := wsX2_init) (i := 6) rfl)) (hts (.code Lib.Math.max.name Lib.Math.max.code 2 (some .int)) (List.mem_of_getElem? (l := wsX2_init) (i := 10) rfl)) (Nat.le_of_ble_eq_true rfl) (Nat.le_of_ble_eq_true rfl) (Nat.le_of_ble_eq_true rfl) (Nat.le_of_ble_eq_true rfl) dX2_init_12 ?_
  refine jk_top (show (jMax 0 (nI 0)) = (nI 0) from by decide) ?_
  refine va_putF (D := D) (ci := 2) (v := .int (nI 0)) (ty := .int) (C := RX2) (T := TX2) (N := 3) hx hb hts iw_X2_init_X2 tyX2 tyX2_ok nmX2 hown hK hP hD hS 0 rfl rfl 1 (by decide) (hts (.fieldLink RX2 18 "JumpGuard$Program" "most" "I") (List.mem_of_getElem? (l := wsX2_init) (i := 11) rfl)) (fun _ h9 => h9) rfl hin rfl (by decide +kernel) rfl rfl (Nat.le_of_ble_eq_true rfl) dX2_init_15 (fun H locs hP hD hS => ?_)
  have hP : va_P D vwCl [(h0, .inr (2, [.null, .int (nI 0), .int 0]))] H := hP
  have hD : va_D A [(h0, .inr (2, [.null, .int (nI 0), .int 0]))] := hD
  refine lv_aload_n hx hb dX2_init_18 rfl (lv_at hl 0 rfl) ?_
  refine lv_aload_n hx hb dX2_init_19 rfl (lv_at hl 0 rfl) ?_
  refine va_get (D := D) (ci := 2) (v := .int (nI 0)) (C := RX2) (T := TX2) (N := 3) hx hb hts iw_X2_init_X2 hown hK hP 0 rfl rfl 1 (by decide) (hts (.fieldLink RX2 18 "JumpGuard$Program" "most" "I") (List.mem_of_getElem? (l := wsX2_init) (i := 11) rfl)) (fun _ h9 => h9) rfl dX2_init_20 ?_
  refine lv_iconst (v := 3) hx hb dX2_init_23 (by decide) ?_
  refine lv_imul hx hb dX2_init_24 ?_
  refine jk_top (show ((nI 0) * 3) = (nI 0) from by decide) ?_
  refine va_newa (atype := .int) (N' := 0) (n := (nI 0)) (ty := .int) (a0 := (0, .inl (fun _ => 0))) hx hb (hts (.arrayClass .int) (List.mem_of_getElem? (l := wsX2_init) (i := 12) rfl)) rfl hK hP hD hS hA (fun _ => rfl) (by decide) (by decide) (by decide) (Nat.le_of_ble_eq_true rfl) (Nat.le_of_ble_eq_true rfl) dX2_init_25 (fun q25 cA9 H hK9 hP hD hS => ?_)
  have eA9 := jK_one hK9
  rw [eA9] at hP hD
  have hP : va_P D vwCl [(h0, .inr (2, [.null, .int (nI 0), .int 0])), (q25, .inl (cA, 0, .inl (fun _ => 0)))] H := hP
  have hD : va_D A [(h0, .inr (2, [.null, .int (nI 0), .int 0])), (q25, .inl (cA, 0, .inl (fun _ => 0)))] := hD
  refine va_putF (D := D) (ci := 2) (v := .ref q25) (ty := .array .int) (C := RX2) (T := TX2) (N := 3) hx hb hts iw_X2_init_X2 tyX2 tyX2_ok nmX2 hown hK hP hD hS 0 rfl rfl 0 (by decide) (hts (.fieldLink RX2 24 "JumpGuard$Program" "numbers" "[I") (List.mem_of_getElem? (l := wsX2_init) (i := 13) rfl)) (fun _ h9 => h9) rfl hin rfl (by decide +kernel) rfl rfl (Nat.le_of_ble_eq_true rfl) dX2_init_27 (fun H locs hP hD hS => ?_)
  have hP : va_P D vwCl [(h0, .inr (2, [.ref q25, .int (nI 0), .int 0])), (q25, .inl (cA, 0, .inl (fun _ => 0)))] H := hP
  have hD : va_D A [(h0, .inr (2, [.ref q25, .int (nI 0), .int 0])), (q25, .inl (cA, 0, .inl (fun _ => 0)))] := hD
  obtain ⟨hP9, hD9⟩ := jk_end (w2 := [(h0, .inr (2, [.ref q25, .int (nI 0), .int 0])), (q25, .inl (cA, 0, .inl (fun _ => 0)))]) hP hD [0, 1] (by decide) rfl
  have e9 : ([(h0, .inr (2, [.ref q25, .int (nI 0), .int 0])), (q25, .inl (cA, 0, .inl (fun _ => 0)))] : va_W) = [(h0, .inr (2, [.ref q25, .int (nI 0), .int (nI 0)])), (q25, .inl (cA, 0, .inl (fun _ => 0)))] := rfl
  rw [e9] at hP9 hD9
  exact W.vret hx hb hr (fun t9 ht9 hW9 => ⟨⟨(fun k => match k with  | _ => q25), rfl, trivial, by rw [ht9]; exact hP9, hD9⟩, hS.F ht9⟩) hS.2.2 dX2_init_30
set_option maxHeartbeats 4000000 in
set_option maxRecDepth 100000 in
theorem c_X0_init (l : Launch) (D : va_G) (cA : ClassId) (sz : Nat) (e0 : Nat) : Met l yX0_init wsX0_init ({ frames := 1, cells := 3, slots := 72, locals := 20 }) (rwP D cA [.ref e0] sz [(e0, .inr (0, [.null, .null, .null, .int 0]))]) (rwE D (va_A [(e0, .inr (0, [.null, .null, .null, .int 0]))] sz) (fun u => [(e0, .inr (0, [.ref (u 0), .ref (u 1), .ref (u 2), .int (nI 0)])), ((u 0), .inl (cA, 24, .inl (fun _ => 0))), ((u 1), .inl (cA, 24, .inl (fun _ => 0))), ((u 2), .inl (cA, 24, .inl (fun _ => 0)))])) 3 72 (va_A [(e0, .inr (0, [.null, .null, .null, .int 0]))] sz) := by
  refine Met.ofW (cc := cX0_init) (maxL := 1) (ret := none) (by decide) rfl ?_
  intro p e s m args below meth c s₁ B hml hv
  obtain ⟨rfl, hsz, hP, hK, hN, hD0⟩ := hv
  have hx := B.exec
  have hb := B.bytes
  have hr := B.returns
  have hts := atoms_spec (ws := wsX0_init) B.pre
  have hown : s.vm.findClass RX0 = some m.cls := findClass_of_methodNamed B.named
  have hlocks := B.notSynchronized
  have hin : meth.name = "<init>" := (name_of_methodNamed B.named B.method).1
  subst hsz
  have hD := hD0.self (sz := s.heap.size)
  generalize hAe : va_A [(e0, .inr (0, [.null, .null, .null, .int 0]))] s.heap.size = A at hD ⊢
  have hA : ∀ q : Nat, s.heap.size ≤ q → A q := fun q h => by rw [← hAe]; exact Or.inr h
  have hS : va_S A s.heap s.heap [] := va_S.rf
  have hl := lv_entry ([.ref e0]) (n := 1) (Nat.le_of_ble_eq_true rfl)
  rw [lg_entry_eq]
  generalize (lg_sl ([.ref e0]) ++ List.replicate (1 - (lg_sl ([.ref e0])).length) Slot.unset).toArray = ls at hl ⊢
  have hl : lv_has ls 1 [(0, .ref e0)] := hl
  refine lv_aload_n hx hb dX0_init_0 rfl (lv_at hl 0 rfl) ?_
  refine W.objInit hx hb hown (hts (.methodLink RX0 3 objectInit) (List.mem_of_getElem? (l := wsX0_init) (i := 1) rfl)) (hts (.instanceMethod objectInit) (List.mem_of_getElem? (l := wsX0_init) (i := 2) rfl)) (hts (.code objectInit ⟨#[0xb1]⟩ 1 none) (List.mem_of_getElem? (l := wsX0_init) (i := 3) rfl)) rfl (by rw [hml]; exact hl.1) rfl dX0_init_1 (Nat.le_of_ble_eq_true rfl) (Nat.le_of_ble_eq_true rfl) ?_
  refine W.eq (g2 := F0 m 4 ls []) rfl ?_
  refine lv_aload_n hx hb dX0_init_4 rfl (lv_at hl 0 rfl) ?_
  refine lv_bipush (v := 24) hx hb dX0_init_5 (by decide) ?_
  refine va_newa (atype := .int) (N' := 24) (n := 24) (ty := .int) (a0 := (24, .inl (fun _ => 0))) hx hb (hts (.arrayClass .int) (List.mem_of_getElem? (l := wsX0_init) (i := 4) rfl)) rfl hK hP hD hS hA (fun _ => rfl) (by decide) (by decide) (by decide) (Nat.le_of_ble_eq_true rfl) (Nat.le_of_ble_eq_true rfl) dX0_init_7 (fun q7 cA9 H hK9 hP hD hS => ?_)
  have eA9 := jK_one hK9
  rw [eA9] at hP hD
  have hP : va_P D vwCl [(e0, .inr (0, [.null, .null, .null, .int 0])), (q7, .inl (cA, 24, .inl (fun _ => 0)))] H := hP
  have hD : va_D A [(e0, .inr (0, [.null, .null, .null, .int 0])), (q7, .inl (cA, 24, .inl (fun _ => 0)))] := hD
  refine va_putF (D := D) (ci := 0) (v := .ref q7) (ty := .array .int) (C := RX0) (T := TX0) (N := 4) hx hb hts iw_X0_init_X0 tyX0 tyX0_ok nmX0 hown hK hP hD hS 0 rfl rfl 0 (by decide) (hts (.fieldLink RX0 9 "JumpGuard$Edges" "targets" "[I") (List.mem_of_getElem? (l := wsX0_init) (i := 5) rfl)) (fun _ h9 => h9) rfl hin rfl (by decide +kernel) rfl rfl (Nat.le_of_ble_eq_true rfl) dX0_init_9 (fun H locs hP hD hS => ?_)
  have hP : va_P D vwCl [(e0, .inr (0, [.ref q7, .null, .null, .int 0])), (q7, .inl (cA, 24, .inl (fun _ => 0)))] H := hP
  have hD : va_D A [(e0, .inr (0, [.ref q7, .null, .null, .int 0])), (q7, .inl (cA, 24, .inl (fun _ => 0)))] := hD
  refine lv_aload_n hx hb dX0_init_12 rfl (lv_at hl 0 rfl) ?_
  refine lv_bipush (v := 24) hx hb dX0_init_13 (by decide) ?_
  refine va_newa (atype := .int) (N' := 24) (n := 24) (ty := .int) (a0 := (24, .inl (fun _ => 0))) hx hb (hts (.arrayClass .int) (List.mem_of_getElem? (l := wsX0_init) (i := 4) rfl)) rfl hK hP hD hS hA (fun _ => rfl) (by decide) (by decide) (by decide) (Nat.le_of_ble_eq_true rfl) (Nat.le_of_ble_eq_true rfl) dX0_init_15 (fun q15 cA9 H hK9 hP hD hS => ?_)
  have eA9 := jK_one hK9
  rw [eA9] at hP hD
  have hP : va_P D vwCl [(e0, .inr (0, [.ref q7, .null, .null, .int 0])), (q7, .inl (cA, 24, .inl (fun _ => 0))), (q15, .inl (cA, 24, .inl (fun _ => 0)))] H := hP
  have hD : va_D A [(e0, .inr (0, [.ref q7, .null, .null, .int 0])), (q7, .inl (cA, 24, .inl (fun _ => 0))), (q15, .inl (cA, 24, .inl (fun _ => 0)))] := hD
  refine va_putF (D := D) (ci := 0) (v := .ref q15) (ty := .array .int) (C := RX0) (T := TX0) (N := 4) hx hb hts iw_X0_init_X0 tyX0 tyX0_ok nmX0 hown hK hP hD hS 0 rfl rfl 1 (by decide) (hts (.fieldLink RX0 15 "JumpGuard$Edges" "targetNumbers" "[I") (List.mem_of_getElem? (l := wsX0_init) (i := 6) rfl)) (fun _ h9 => h9) rfl hin rfl (by decide +kernel) rfl rfl (Nat.le_of_ble_eq_true rfl) dX0_init_17 (fun H locs hP hD hS => ?_)
  have hP : va_P D vwCl [(e0, .inr (0, [.ref q7, .ref q15, .null, .int 0])), (q7, .inl (cA, 24, .inl (fun _ => 0))), (q15, .inl (cA, 24, .inl (fun _ => 0)))] H := hP
  have hD : va_D A [(e0, .inr (0, [.ref q7, .ref q15, .null, .int 0])), (q7, .inl (cA, 24, .inl (fun _ => 0))), (q15, .inl (cA, 24, .inl (fun _ => 0)))] := hD
  refine lv_aload_n hx hb dX0_init_20 rfl (lv_at hl 0 rfl) ?_
  refine lv_bipush (v := 24) hx hb dX0_init_21 (by decide) ?_
  refine va_newa (atype := .int) (N' := 24) (n := 24) (ty := .int) (a0 := (24, .inl (fun _ => 0))) hx hb (hts (.arrayClass .int) (List.mem_of_getElem? (l := wsX0_init) (i := 4) rfl)) rfl hK hP hD hS hA (fun _ => rfl) (by decide) (by decide) (by decide) (Nat.le_of_ble_eq_true rfl) (Nat.le_of_ble_eq_true rfl) dX0_init_23 (fun q23 cA9 H hK9 hP hD hS => ?_)
  have eA9 := jK_one hK9
  rw [eA9] at hP hD
  have hP : va_P D vwCl [(e0, .inr (0, [.ref q7, .ref q15, .null, .int 0])), (q7, .inl (cA, 24, .inl (fun _ => 0))), (q15, .inl (cA, 24, .inl (fun _ => 0))), (q23, .inl (cA, 24, .inl (fun _ => 0)))] H := hP
  have hD : va_D A [(e0, .inr (0, [.ref q7, .ref q15, .null, .int 0])), (q7, .inl (cA, 24, .inl (fun _ => 0))), (q15, .inl (cA, 24, .inl (fun _ => 0))), (q23, .inl (cA, 24, .inl (fun _ => 0)))] := hD
  refine va_putF (D := D) (ci := 0) (v := .ref q23) (ty := .array .int) (C := RX0) (T := TX0) (N := 4) hx hb hts iw_X0_init_X0 tyX0 tyX0_ok nmX0 hown hK hP hD hS 0 rfl rfl 2 (by decide) (hts (.fieldLink RX0 18 "JumpGuard$Edges" "jumpNumbers" "[I") (List.mem_of_getElem? (l := wsX0_init) (i := 7) rfl)) (fun _ h9 => h9) rfl hin rfl (by decide +kernel) rfl rfl (Nat.le_of_ble_eq_true rfl) dX0_init_25 (fun H locs hP hD hS => ?_)
  have hP : va_P D vwCl [(e0, .inr (0, [.ref q7, .ref q15, .ref q23, .int 0])), (q7, .inl (cA, 24, .inl (fun _ => 0))), (q15, .inl (cA, 24, .inl (fun _ => 0))), (q23, .inl (cA, 24, .inl (fun _ => 0)))] H := hP
  have hD : va_D A [(e0, .inr (0, [.ref q7, .ref q15, .ref q23, .int 0])), (q7, .inl (cA, 24, .inl (fun _ => 0))), (q15, .inl (cA, 24, .inl (fun _ => 0))), (q23, .inl (cA, 24, .inl (fun _ => 0)))] := hD
  obtain ⟨hP9, hD9⟩ := jk_end (w2 := [(e0, .inr (0, [.ref q7, .ref q15, .ref q23, .int 0])), (q7, .inl (cA, 24, .inl (fun _ => 0))), (q15, .inl (cA, 24, .inl (fun _ => 0))), (q23, .inl (cA, 24, .inl (fun _ => 0)))]) hP hD [0, 1, 2, 3] (by decide) rfl
  have e9 : ([(e0, .inr (0, [.ref q7, .ref q15, .ref q23, .int 0])), (q7, .inl (cA, 24, .inl (fun _ => 0))), (q15, .inl (cA, 24, .inl (fun _ => 0))), (q23, .inl (cA, 24, .inl (fun _ => 0)))] : va_W) = [(e0, .inr (0, [.ref q7, .ref q15, .ref q23, .int (nI 0)])), (q7, .inl (cA, 24, .inl (fun _ => 0))), (q15, .inl (cA, 24, .inl (fun _ => 0))), (q23, .inl (cA, 24, .inl (fun _ => 0)))] := rfl
  rw [e9] at hP9 hD9
  exact W.vret hx hb hr (fun t9 ht9 hW9 => ⟨⟨(fun k => match k with | 0 => q7 | 1 => q15 | _ => q23), rfl, trivial, by rw [ht9]; exact hP9, hD9⟩, hS.F ht9⟩) hS.2.2 dX0_init_28
set_option maxHeartbeats 4000000 in
set_option maxRecDepth 100000 in
theorem c_X1_init (l : Launch) (D : va_G) (cA : ClassId) (sz : Nat) (m0 : Nat) : Met l yX1_init wsX1_init ({ frames := 2, cells := 5, slots := 31, locals := 42 }) (rwP D cA [.ref m0] sz [(m0, .inr (1, [.null, .null, .null, .null, .int 0, .int 0, .int 0]))]) (rwE D (va_A [(m0, .inr (1, [.null, .null, .null, .null, .int 0, .int 0, .int 0]))] sz) (fun u => [(m0, .inr (1, [.ref (u 0), .ref (u 1), .ref (u 2), .ref (u 3), .int 0, .int (-1), .int (nI 0)])), ((u 0), .inl (cA, 4, .inl (fun _ => 0))), ((u 1), .inl (cA, 16, .inl (fun _ => 0))), ((u 2), .inl (cA, 8, .inl (fun _ => 0)))])) 5 31 (va_A [(m0, .inr (1, [.null, .null, .null, .null, .int 0, .int 0, .int 0]))] sz) := by
  refine Met.ofW (cc := cX1_init) (maxL := 1) (ret := none) (by decide) rfl ?_
  intro p e s m args below meth c s₁ B hml hv
  obtain ⟨rfl, hsz, hP, hK, hN, hD0⟩ := hv
  have hx := B.exec
  have hb := B.bytes
  have hr := B.returns
  have hts := atoms_spec (ws := wsX1_init) B.pre
  have hown : s.vm.findClass RX1 = some m.cls := findClass_of_methodNamed B.named
  have hlocks := B.notSynchronized
  have hin : meth.name = "<init>" := (name_of_methodNamed B.named B.method).1
  subst hsz
  have hD := hD0.self (sz := s.heap.size)
  generalize hAe : va_A [(m0, .inr (1, [.null, .null, .null, .null, .int 0, .int 0, .int 0]))] s.heap.size = A at hD ⊢
  have hA : ∀ q : Nat, s.heap.size ≤ q → A q := fun q h => by rw [← hAe]; exact Or.inr h
  have hS : va_S A s.heap s.heap [] := va_S.rf
  have hl := lv_entry ([.ref m0]) (n := 1) (Nat.le_of_ble_eq_true rfl)
  rw [lg_entry_eq]
  generalize (lg_sl ([.ref m0]) ++ List.replicate (1 - (lg_sl ([.ref m0])).length) Slot.unset).toArray = ls at hl ⊢
  have hl : lv_has ls 1 [(0, .ref m0)] := hl
  refine lv_aload_n hx hb dX1_init_0 rfl (lv_at hl 0 rfl) ?_
  refine W.objInit hx hb hown (hts (.methodLink RX1 3 objectInit) (List.mem_of_getElem? (l := wsX1_init) (i := 1) rfl)) (hts (.instanceMethod objectInit) (List.mem_of_getElem? (l := wsX1_init) (i := 2) rfl)) (hts (.code objectInit ⟨#[0xb1]⟩ 1 none) (List.mem_of_getElem? (l := wsX1_init) (i := 3) rfl)) rfl (by rw [hml]; exact hl.1) rfl dX1_init_1 (Nat.le_of_ble_eq_true rfl) (Nat.le_of_ble_eq_true rfl) ?_
  refine W.eq (g2 := F0 m 4 ls []) rfl ?_
  refine lv_aload_n hx hb dX1_init_4 rfl (lv_at hl 0 rfl) ?_
  refine lv_iconst (v := 4) hx hb dX1_init_5 (by decide) ?_
  refine va_newa (atype := .int) (N' := 4) (n := 4) (ty := .int) (a0 := (4, .inl (fun _ => 0))) hx hb (hts (.arrayClass .int) (List.mem_of_getElem? (l := wsX1_init) (i := 4) rfl)) rfl hK hP hD hS hA (fun _ => rfl) (by decide) (by decide) (by decide) (Nat.le_of_ble_eq_true rfl) (Nat.le_of_ble_eq_true rfl) dX1_init_6 (fun q6 cA9 H hK9 hP hD hS => ?_)
  have eA9 := jK_one hK9
  rw [eA9] at hP hD
  have hP : va_P D vwCl [(m0, .inr (1, [.null, .null, .null, .null, .int 0, .int 0, .int 0])), (q6, .inl (cA, 4, .inl (fun _ => 0)))] H := hP
  have hD : va_D A [(m0, .inr (1, [.null, .null, .null, .null, .int 0, .int 0, .int 0])), (q6, .inl (cA, 4, .inl (fun _ => 0)))] := hD
  refine va_putF (D := D) (ci := 1) (v := .ref q6) (ty := .array .int) (C := RX1) (T := TX1) (N := 7) hx hb hts iw_X1_init_X1 tyX1 tyX1_ok nmX1 hown hK hP hD hS 0 rfl rfl 0 (by decide) (hts (.fieldLink RX1 9 "JumpGuard$Machine" "registers" "[I") (List.mem_of_getElem? (l := wsX1_init) (i := 5) rfl)) (fun _ h9 => h9) rfl hin rfl (by decide +kernel) rfl rfl (Nat.le_of_ble_eq_true rfl) dX1_init_8 (fun H locs hP hD hS => ?_)
  have hP : va_P D vwCl [(m0, .inr (1, [.ref q6, .null, .null, .null, .int 0, .int 0, .int 0])), (q6, .inl (cA, 4, .inl (fun _ => 0)))] H := hP
  have hD : va_D A [(m0, .inr (1, [.ref q6, .null, .null, .null, .int 0, .int 0, .int 0])), (q6, .inl (cA, 4, .inl (fun _ => 0)))] := hD
  refine lv_aload_n hx hb dX1_init_11 rfl (lv_at hl 0 rfl) ?_
  refine lv_bipush (v := 16) hx hb dX1_init_12 (by decide) ?_
  refine va_newa (atype := .int) (N' := 16) (n := 16) (ty := .int) (a0 := (16, .inl (fun _ => 0))) hx hb (hts (.arrayClass .int) (List.mem_of_getElem? (l := wsX1_init) (i := 4) rfl)) rfl hK hP hD hS hA (fun _ => rfl) (by decide) (by decide) (by decide) (Nat.le_of_ble_eq_true rfl) (Nat.le_of_ble_eq_true rfl) dX1_init_14 (fun q14 cA9 H hK9 hP hD hS => ?_)
  have eA9 := jK_one hK9
  rw [eA9] at hP hD
  have hP : va_P D vwCl [(m0, .inr (1, [.ref q6, .null, .null, .null, .int 0, .int 0, .int 0])), (q6, .inl (cA, 4, .inl (fun _ => 0))), (q14, .inl (cA, 16, .inl (fun _ => 0)))] H := hP
  have hD : va_D A [(m0, .inr (1, [.ref q6, .null, .null, .null, .int 0, .int 0, .int 0])), (q6, .inl (cA, 4, .inl (fun _ => 0))), (q14, .inl (cA, 16, .inl (fun _ => 0)))] := hD
  refine va_putF (D := D) (ci := 1) (v := .ref q14) (ty := .array .int) (C := RX1) (T := TX1) (N := 7) hx hb hts iw_X1_init_X1 tyX1 tyX1_ok nmX1 hown hK hP hD hS 0 rfl rfl 1 (by decide) (hts (.fieldLink RX1 15 "JumpGuard$Machine" "cells" "[I") (List.mem_of_getElem? (l := wsX1_init) (i := 6) rfl)) (fun _ h9 => h9) rfl hin rfl (by decide +kernel) rfl rfl (Nat.le_of_ble_eq_true rfl) dX1_init_16 (fun H locs hP hD hS => ?_)
  have hP : va_P D vwCl [(m0, .inr (1, [.ref q6, .ref q14, .null, .null, .int 0, .int 0, .int 0])), (q6, .inl (cA, 4, .inl (fun _ => 0))), (q14, .inl (cA, 16, .inl (fun _ => 0)))] H := hP
  have hD : va_D A [(m0, .inr (1, [.ref q6, .ref q14, .null, .null, .int 0, .int 0, .int 0])), (q6, .inl (cA, 4, .inl (fun _ => 0))), (q14, .inl (cA, 16, .inl (fun _ => 0)))] := hD
  refine lv_aload_n hx hb dX1_init_19 rfl (lv_at hl 0 rfl) ?_
  refine lv_bipush (v := 8) hx hb dX1_init_20 (by decide) ?_
  refine va_newa (atype := .int) (N' := 8) (n := 8) (ty := .int) (a0 := (8, .inl (fun _ => 0))) hx hb (hts (.arrayClass .int) (List.mem_of_getElem? (l := wsX1_init) (i := 4) rfl)) rfl hK hP hD hS hA (fun _ => rfl) (by decide) (by decide) (by decide) (Nat.le_of_ble_eq_true rfl) (Nat.le_of_ble_eq_true rfl) dX1_init_22 (fun q22 cA9 H hK9 hP hD hS => ?_)
  have eA9 := jK_one hK9
  rw [eA9] at hP hD
  have hP : va_P D vwCl [(m0, .inr (1, [.ref q6, .ref q14, .null, .null, .int 0, .int 0, .int 0])), (q6, .inl (cA, 4, .inl (fun _ => 0))), (q14, .inl (cA, 16, .inl (fun _ => 0))), (q22, .inl (cA, 8, .inl (fun _ => 0)))] H := hP
  have hD : va_D A [(m0, .inr (1, [.ref q6, .ref q14, .null, .null, .int 0, .int 0, .int 0])), (q6, .inl (cA, 4, .inl (fun _ => 0))), (q14, .inl (cA, 16, .inl (fun _ => 0))), (q22, .inl (cA, 8, .inl (fun _ => 0)))] := hD
  refine va_putF (D := D) (ci := 1) (v := .ref q22) (ty := .array .int) (C := RX1) (T := TX1) (N := 7) hx hb hts iw_X1_init_X1 tyX1 tyX1_ok nmX1 hown hK hP hD hS 0 rfl rfl 2 (by decide) (hts (.fieldLink RX1 18 "JumpGuard$Machine" "lastShown" "[I") (List.mem_of_getElem? (l := wsX1_init) (i := 7) rfl)) (fun _ h9 => h9) rfl hin rfl (by decide +kernel) rfl rfl (Nat.le_of_ble_eq_true rfl) dX1_init_24 (fun H locs hP hD hS => ?_)
  have hP : va_P D vwCl [(m0, .inr (1, [.ref q6, .ref q14, .ref q22, .null, .int 0, .int 0, .int 0])), (q6, .inl (cA, 4, .inl (fun _ => 0))), (q14, .inl (cA, 16, .inl (fun _ => 0))), (q22, .inl (cA, 8, .inl (fun _ => 0)))] H := hP
  have hD : va_D A [(m0, .inr (1, [.ref q6, .ref q14, .ref q22, .null, .int 0, .int 0, .int 0])), (q6, .inl (cA, 4, .inl (fun _ => 0))), (q14, .inl (cA, 16, .inl (fun _ => 0))), (q22, .inl (cA, 8, .inl (fun _ => 0)))] := hD
  refine lv_aload_n hx hb dX1_init_27 rfl (lv_at hl 0 rfl) ?_
  refine va_new (ci := 2) (fs := [.null, .int 0, .int 0]) (C := RX2) (T := TX2) (N := 3) hx hb hts iw_X1_init_X2 tyX2 tyX2_ok hown (hts (.classLink RX1 21 RX2) (List.mem_of_getElem? (l := wsX1_init) (i := 8) rfl)) (hts (.instantiable RX2 3) (List.mem_of_getElem? (l := wsX1_init) (i := 9) rfl)) (hts (.initialized RX2) (List.mem_of_getElem? (l := wsX1_init) (i := 10) rfl)) hK hP hD hS hA rfl (fun j hj => by rcases (show j = 0 ∨ j = 1 ∨ j = 2 by omega) with rfl | rfl | rfl <;> rfl) (Nat.le_of_ble_eq_true rfl) (Nat.le_of_ble_eq_true rfl) dX1_init_28 (fun q28 H hP hD hS => ?_)
  have hP : va_P D vwCl [(m0, .inr (1, [.ref q6, .ref q14, .ref q22, .null, .int 0, .int 0, .int 0])), (q6, .inl (cA, 4, .inl (fun _ => 0))), (q14, .inl (cA, 16, .inl (fun _ => 0))), (q22, .inl (cA, 8, .inl (fun _ => 0))), (q28, .inr (2, [.null, .int 0, .int 0]))] H := hP
  have hD : va_D A [(m0, .inr (1, [.ref q6, .ref q14, .ref q22, .null, .int 0, .int 0, .int 0])), (q6, .inl (cA, 4, .inl (fun _ => 0))), (q14, .inl (cA, 16, .inl (fun _ => 0))), (q22, .inl (cA, 8, .inl (fun _ => 0))), (q28, .inr (2, [.null, .int 0, .int 0]))] := hD
  refine lv_dup hx hb dX1_init_31 rfl ?_
  refine lv_iconst (v := 0) hx hb dX1_init_32 (by decide) ?_
  refine jw_e (va_runI (As := [.int 0]) (rest := [.ref q28, .ref m0]) ⟨hx, hb, hml, hown, hts⟩ (c_X2_init_0 l D cA H.size q28) (cwI 1 hts gX1_init_X2_init rfl rfl rfl (hts (.initialized RX2) (List.mem_of_getElem? (l := wsX1_init) (i := 10) rfl)) (hts (.methodLink RX1 23 yX2_init) (List.mem_of_getElem? (l := wsX1_init) (i := 13) rfl)) (hts (.instanceMethod yX2_init) (List.mem_of_getElem? (l := wsX1_init) (i := 14) rfl)) rfl hv_X2_init.2 ⟨Nat.le_of_ble_eq_true rfl, Nat.le_of_ble_eq_true rfl⟩) (rwP.S (av := [.ref q28, .int 0]) (wc := [(q28, .inr (2, [.null, .int 0, .int 0]))]) hP hD hK hN [4] (by decide) rfl) rfl rfl hl.1 rfl (lv_room (Nat.le_of_ble_eq_true rfl)) dX1_init_33 ⟨Nat.le_of_ble_eq_true rfl, Nat.le_of_ble_eq_true rfl⟩) hP hD hS hA [4] [0, 1, 2, 3] [0, 1, 2, 3, 4, 5] (wr := [(m0, .inr (1, [.ref q6, .ref q14, .ref q22, .null, .int 0, .int 0, .int 0])), (q6, .inl (cA, 4, .inl (fun _ => 0))), (q14, .inl (cA, 16, .inl (fun _ => 0))), (q22, .inl (cA, 8, .inl (fun _ => 0)))]) (w4 := fun u => [(m0, .inr (1, [.ref q6, .ref q14, .ref q22, .null, .int 0, .int 0, .int 0])), (q6, .inl (cA, 4, .inl (fun _ => 0))), (q14, .inl (cA, 16, .inl (fun _ => 0))), (q22, .inl (cA, 8, .inl (fun _ => 0))), (q28, .inr (2, [.ref (u 0), .int (nI 0), .int (nI 0)])), ((u 0), .inl (cA, 0, .inl (fun _ => 0)))]) rfl rfl (by decide) (by decide) (by decide) (fun _ => rfl) (fun u33 H locs hP hD hS => ?_)
  have hP : va_P D vwCl [(m0, .inr (1, [.ref q6, .ref q14, .ref q22, .null, .int 0, .int 0, .int 0])), (q6, .inl (cA, 4, .inl (fun _ => 0))), (q14, .inl (cA, 16, .inl (fun _ => 0))), (q22, .inl (cA, 8, .inl (fun _ => 0))), (q28, .inr (2, [.ref (u33 0), .int (nI 0), .int (nI 0)])), ((u33 0), .inl (cA, 0, .inl (fun _ => 0)))] H := hP
  have hD : va_D A [(m0, .inr (1, [.ref q6, .ref q14, .ref q22, .null, .int 0, .int 0, .int 0])), (q6, .inl (cA, 4, .inl (fun _ => 0))), (q14, .inl (cA, 16, .inl (fun _ => 0))), (q22, .inl (cA, 8, .inl (fun _ => 0))), (q28, .inr (2, [.ref (u33 0), .int (nI 0), .int (nI 0)])), ((u33 0), .inl (cA, 0, .inl (fun _ => 0)))] := hD
  refine va_put (D := D) (ci := 1) (v := .ref q28) (ty := .object "JumpGuard$Program") (C := RX1) (T := TX1) (N := 7) hx hb hts iw_X1_init_X1 tyX1 tyX1_ok nmX1 hown hK hP hD hS 0 rfl rfl 3 (by decide) (hts (.fieldLink RX1 26 "JumpGuard$Machine" "program" "LJumpGuard$Program;") (List.mem_of_getElem? (l := wsX1_init) (i := 11) rfl)) (fun _ h9 => h9) rfl (by decide +kernel) rfl rfl (Nat.le_of_ble_eq_true rfl) dX1_init_36 (fun H locs hP hD hS => ?_)
  have hP : va_P D vwCl [(m0, .inr (1, [.ref q6, .ref q14, .ref q22, .ref q28, .int 0, .int 0, .int 0])), (q6, .inl (cA, 4, .inl (fun _ => 0))), (q14, .inl (cA, 16, .inl (fun _ => 0))), (q22, .inl (cA, 8, .inl (fun _ => 0))), (q28, .inr (2, [.ref (u33 0), .int (nI 0), .int (nI 0)])), ((u33 0), .inl (cA, 0, .inl (fun _ => 0)))] H := hP
  have hD : va_D A [(m0, .inr (1, [.ref q6, .ref q14, .ref q22, .ref q28, .int 0, .int 0, .int 0])), (q6, .inl (cA, 4, .inl (fun _ => 0))), (q14, .inl (cA, 16, .inl (fun _ => 0))), (q22, .inl (cA, 8, .inl (fun _ => 0))), (q28, .inr (2, [.ref (u33 0), .int (nI 0), .int (nI 0)])), ((u33 0), .inl (cA, 0, .inl (fun _ => 0)))] := hD
  refine lv_aload_n hx hb dX1_init_39 rfl (lv_at hl 0 rfl) ?_
  refine lv_iconst (v := (-1)) hx hb dX1_init_40 (by decide) ?_
  refine va_put (D := D) (ci := 1) (v := .int (-1)) (ty := .int) (C := RX1) (T := TX1) (N := 7) hx hb hts iw_X1_init_X1 tyX1 tyX1_ok nmX1 hown hK hP hD hS 0 rfl rfl 5 (by decide) (hts (.fieldLink RX1 30 "JumpGuard$Machine" "condition" "I") (List.mem_of_getElem? (l := wsX1_init) (i := 12) rfl)) (fun _ h9 => h9) rfl (by decide +kernel) rfl rfl (Nat.le_of_ble_eq_true rfl) dX1_init_41 (fun H locs hP hD hS => ?_)
  have hP : va_P D vwCl [(m0, .inr (1, [.ref q6, .ref q14, .ref q22, .ref q28, .int 0, .int (-1), .int 0])), (q6, .inl (cA, 4, .inl (fun _ => 0))), (q14, .inl (cA, 16, .inl (fun _ => 0))), (q22, .inl (cA, 8, .inl (fun _ => 0))), (q28, .inr (2, [.ref (u33 0), .int (nI 0), .int (nI 0)])), ((u33 0), .inl (cA, 0, .inl (fun _ => 0)))] H := hP
  have hD : va_D A [(m0, .inr (1, [.ref q6, .ref q14, .ref q22, .ref q28, .int 0, .int (-1), .int 0])), (q6, .inl (cA, 4, .inl (fun _ => 0))), (q14, .inl (cA, 16, .inl (fun _ => 0))), (q22, .inl (cA, 8, .inl (fun _ => 0))), (q28, .inr (2, [.ref (u33 0), .int (nI 0), .int (nI 0)])), ((u33 0), .inl (cA, 0, .inl (fun _ => 0)))] := hD
  obtain ⟨hP9, hD9⟩ := jk_end (w2 := [(m0, .inr (1, [.ref q6, .ref q14, .ref q22, .ref q28, .int 0, .int (-1), .int 0])), (q6, .inl (cA, 4, .inl (fun _ => 0))), (q14, .inl (cA, 16, .inl (fun _ => 0))), (q22, .inl (cA, 8, .inl (fun _ => 0)))]) hP hD [0, 1, 2, 3] (by decide) rfl
  have e9 : ([(m0, .inr (1, [.ref q6, .ref q14, .ref q22, .ref q28, .int 0, .int (-1), .int 0])), (q6, .inl (cA, 4, .inl (fun _ => 0))), (q14, .inl (cA, 16, .inl (fun _ => 0))), (q22, .inl (cA, 8, .inl (fun _ => 0)))] : va_W) = [(m0, .inr (1, [.ref q6, .ref q14, .ref q22, .ref q28, .int 0, .int (-1), .int (nI 0)])), (q6, .inl (cA, 4, .inl (fun _ => 0))), (q14, .inl (cA, 16, .inl (fun _ => 0))), (q22, .inl (cA, 8, .inl (fun _ => 0)))] := rfl
  rw [e9] at hP9 hD9
  exact W.vret hx hb hr (fun t9 ht9 hW9 => ⟨⟨(fun k => match k with | 0 => q6 | 1 => q14 | 2 => q22 | _ => q28), rfl, trivial, by rw [ht9]; exact hP9, hD9⟩, hS.F ht9⟩) hS.2.2 dX1_init_44
set_option maxHeartbeats 4000000 in
set_option maxRecDepth 100000 in
theorem c_X3_init (l : Launch) (D : va_G) (cA : ClassId) (sz : Nat) (h0 : Nat) : Met l yX3_init wsX3_init ({ frames := 3, cells := 15, slots := 432, locals := 62 }) (rwP D cA [.ref h0] sz [(h0, .inr (3, [.null, .null, .null, .null, .null]))]) (rwE D (va_A [(h0, .inr (3, [.null, .null, .null, .null, .null]))] sz) (fun u => [(h0, .inr (3, [.ref (u 0), .ref (u 2), .ref (u 4), .ref (u 8), .ref (u 9)])), ((u 0), .inr (2, [.ref (u 1), .int (nI 24), .int (nI 0)])), ((u 1), .inl (cA, 72, .inl (fun _ => 0))), ((u 2), .inr (2, [.ref (u 3), .int (nI 72), .int (nI 0)])), ((u 3), .inl (cA, 216, .inl (fun _ => 0))), ((u 4), .inr (0, [.ref (u 5), .ref (u 6), .ref (u 7), .int (nI 0)])), ((u 5), .inl (cA, 24, .inl (fun _ => 0))), ((u 6), .inl (cA, 24, .inl (fun _ => 0))), ((u 7), .inl (cA, 24, .inl (fun _ => 0))), ((u 8), .inl (cA, 24, .inl (fun _ => 0))), ((u 9), .inr (1, [.ref (u 10), .ref (u 11), .ref (u 12), .ref (u 13), .int 0, .int (-1), .int (nI 0)])), ((u 10), .inl (cA, 4, .inl (fun _ => 0))), ((u 11), .inl (cA, 16, .inl (fun _ => 0))), ((u 12), .inl (cA, 8, .inl (fun _ => 0)))])) 15 432 (va_A [(h0, .inr (3, [.null, .null, .null, .null, .null]))] sz) := by
  refine Met.ofW (cc := cX3_init) (maxL := 1) (ret := none) (by decide) rfl ?_
  intro p e s m args below meth c s₁ B hml hv
  obtain ⟨rfl, hsz, hP, hK, hN, hD0⟩ := hv
  have hx := B.exec
  have hb := B.bytes
  have hr := B.returns
  have hts := atoms_spec (ws := wsX3_init) B.pre
  have hown : s.vm.findClass RX3 = some m.cls := findClass_of_methodNamed B.named
  have hlocks := B.notSynchronized
  have hin : meth.name = "<init>" := (name_of_methodNamed B.named B.method).1
  subst hsz
  have hD := hD0.self (sz := s.heap.size)
  generalize hAe : va_A [(h0, .inr (3, [.null, .null, .null, .null, .null]))] s.heap.size = A at hD ⊢
  have hA : ∀ q : Nat, s.heap.size ≤ q → A q := fun q h => by rw [← hAe]; exact Or.inr h
  have hS : va_S A s.heap s.heap [] := va_S.rf
  have hl := lv_entry ([.ref h0]) (n := 1) (Nat.le_of_ble_eq_true rfl)
  rw [lg_entry_eq]
  generalize (lg_sl ([.ref h0]) ++ List.replicate (1 - (lg_sl ([.ref h0])).length) Slot.unset).toArray = ls at hl ⊢
  have hl : lv_has ls 1 [(0, .ref h0)] := hl
  refine lv_aload_n hx hb dX3_init_0 rfl (lv_at hl 0 rfl) ?_
  refine W.objInit hx hb hown (hts (.methodLink RX3 1 objectInit) (List.mem_of_getElem? (l := wsX3_init) (i := 1) rfl)) (hts (.instanceMethod objectInit) (List.mem_of_getElem? (l := wsX3_init) (i := 2) rfl)) (hts (.code objectInit ⟨#[0xb1]⟩ 1 none) (List.mem_of_getElem? (l := wsX3_init) (i := 3) rfl)) rfl (by rw [hml]; exact hl.1) rfl dX3_init_1 (Nat.le_of_ble_eq_true rfl) (Nat.le_of_ble_eq_true rfl) ?_
  refine W.eq (g2 := F0 m 4 ls []) rfl ?_
  refine lv_aload_n hx hb dX3_init_4 rfl (lv_at hl 0 rfl) ?_
  refine va_new (ci := 2) (fs := [.null, .int 0, .int 0]) (C := RX2) (T := TX2) (N := 3) hx hb hts iw_X3_init_X2 tyX2 tyX2_ok hown (hts (.classLink RX3 7 RX2) (List.mem_of_getElem? (l := wsX3_init) (i := 4) rfl)) (hts (.instantiable RX2 3) (List.mem_of_getElem? (l := wsX3_init) (i := 5) rfl)) (hts (.initialized RX2) (List.mem_of_getElem? (l := wsX3_init) (i := 6) rfl)) hK hP hD hS hA rfl (fun j hj => by rcases (show j = 0 ∨ j = 1 ∨ j = 2 by omega) with rfl | rfl | rfl <;> rfl) (Nat.le_of_ble_eq_true rfl) (Nat.le_of_ble_eq_true rfl) dX3_init_5 (fun q5 H hP hD hS => ?_)
  have hP : va_P D vwCl [(h0, .inr (3, [.null, .null, .null, .null, .null])), (q5, .inr (2, [.null, .int 0, .int 0]))] H := hP
  have hD : va_D A [(h0, .inr (3, [.null, .null, .null, .null, .null])), (q5, .inr (2, [.null, .int 0, .int 0]))] := hD
  refine lv_dup hx hb dX3_init_8 rfl ?_
  refine lv_bipush (v := 24) hx hb dX3_init_9 (by decide) ?_
  refine jw_e (va_runI (As := [.int 24]) (rest := [.ref q5, .ref h0]) ⟨hx, hb, hml, hown, hts⟩ (c_X2_init_24 l D cA H.size q5) (cwI 1 hts gX3_init_X2_init rfl rfl rfl (hts (.initialized RX2) (List.mem_of_getElem? (l := wsX3_init) (i := 6) rfl)) (hts (.methodLink RX3 11 yX2_init) (List.mem_of_getElem? (l := wsX3_init) (i := 19) rfl)) (hts (.instanceMethod yX2_init) (List.mem_of_getElem? (l := wsX3_init) (i := 20) rfl)) rfl hv_X2_init.2 ⟨Nat.le_of_ble_eq_true rfl, Nat.le_of_ble_eq_true rfl⟩) (rwP.S (av := [.ref q5, .int 24]) (wc := [(q5, .inr (2, [.null, .int 0, .int 0]))]) hP hD hK hN [1] (by decide) rfl) rfl rfl hl.1 rfl (lv_room (Nat.le_of_ble_eq_true rfl)) dX3_init_11 ⟨Nat.le_of_ble_eq_true rfl, Nat.le_of_ble_eq_true rfl⟩) hP hD hS hA [1] [0] [0, 1, 2] (wr := [(h0, .inr (3, [.null, .null, .null, .null, .null]))]) (w4 := fun u => [(h0, .inr (3, [.null, .null, .null, .null, .null])), (q5, .inr (2, [.ref (u 0), .int (nI 24), .int (nI 0)])), ((u 0), .inl (cA, 72, .inl (fun _ => 0)))]) rfl rfl (by decide) (by decide) (by decide) (fun _ => rfl) (fun u11 H locs hP hD hS => ?_)
  have hP : va_P D vwCl [(h0, .inr (3, [.null, .null, .null, .null, .null])), (q5, .inr (2, [.ref (u11 0), .int (nI 24), .int (nI 0)])), ((u11 0), .inl (cA, 72, .inl (fun _ => 0)))] H := hP
  have hD : va_D A [(h0, .inr (3, [.null, .null, .null, .null, .null])), (q5, .inr (2, [.ref (u11 0), .int (nI 24), .int (nI 0)])), ((u11 0), .inl (cA, 72, .inl (fun _ => 0)))] := hD
  refine va_putF (D := D) (ci := 3) (v := .ref q5) (ty := .object "JumpGuard$Program") (C := RX3) (T := TX3) (N := 5) hx hb hts iw_X3_init_X3 tyX3 tyX3_ok nmX3 hown hK hP hD hS 0 rfl rfl 0 (by decide) (hts (.fieldLink RX3 14 "JumpGuard" "sourceProgram" "LJumpGuard$Program;") (List.mem_of_getElem? (l := wsX3_init) (i := 7) rfl)) (fun _ h9 => h9) rfl hin rfl (by decide +kernel) rfl rfl (Nat.le_of_ble_eq_true rfl) dX3_init_14 (fun H locs hP hD hS => ?_)
  have hP : va_P D vwCl [(h0, .inr (3, [.ref q5, .null, .null, .null, .null])), (q5, .inr (2, [.ref (u11 0), .int (nI 24), .int (nI 0)])), ((u11 0), .inl (cA, 72, .inl (fun _ => 0)))] H := hP
  have hD : va_D A [(h0, .inr (3, [.ref q5, .null, .null, .null, .null])), (q5, .inr (2, [.ref (u11 0), .int (nI 24), .int (nI 0)])), ((u11 0), .inl (cA, 72, .inl (fun _ => 0)))] := hD
  refine lv_aload_n hx hb dX3_init_17 rfl (lv_at hl 0 rfl) ?_
  refine va_new (ci := 2) (fs := [.null, .int 0, .int 0]) (C := RX2) (T := TX2) (N := 3) hx hb hts iw_X3_init_X2 tyX2 tyX2_ok hown (hts (.classLink RX3 7 RX2) (List.mem_of_getElem? (l := wsX3_init) (i := 4) rfl)) (hts (.instantiable RX2 3) (List.mem_of_getElem? (l := wsX3_init) (i := 5) rfl)) (hts (.initialized RX2) (List.mem_of_getElem? (l := wsX3_init) (i := 6) rfl)) hK hP hD hS hA rfl (fun j hj => by rcases (show j = 0 ∨ j = 1 ∨ j = 2 by omega) with rfl | rfl | rfl <;> rfl) (Nat.le_of_ble_eq_true rfl) (Nat.le_of_ble_eq_true rfl) dX3_init_18 (fun q18 H hP hD hS => ?_)
  have hP : va_P D vwCl [(h0, .inr (3, [.ref q5, .null, .null, .null, .null])), (q5, .inr (2, [.ref (u11 0), .int (nI 24), .int (nI 0)])), ((u11 0), .inl (cA, 72, .inl (fun _ => 0))), (q18, .inr (2, [.null, .int 0, .int 0]))] H := hP
  have hD : va_D A [(h0, .inr (3, [.ref q5, .null, .null, .null, .null])), (q5, .inr (2, [.ref (u11 0), .int (nI 24), .int (nI 0)])), ((u11 0), .inl (cA, 72, .inl (fun _ => 0))), (q18, .inr (2, [.null, .int 0, .int 0]))] := hD
  refine lv_dup hx hb dX3_init_21 rfl ?_
  refine lv_bipush (v := 72) hx hb dX3_init_22 (by decide) ?_
  refine jw_e (va_runI (As := [.int 72]) (rest := [.ref q18, .ref h0]) ⟨hx, hb, hml, hown, hts⟩ (c_X2_init_72 l D cA H.size q18) (cwI 1 hts gX3_init_X2_init rfl rfl rfl (hts (.initialized RX2) (List.mem_of_getElem? (l := wsX3_init) (i := 6) rfl)) (hts (.methodLink RX3 11 yX2_init) (List.mem_of_getElem? (l := wsX3_init) (i := 19) rfl)) (hts (.instanceMethod yX2_init) (List.mem_of_getElem? (l := wsX3_init) (i := 20) rfl)) rfl hv_X2_init.2 ⟨Nat.le_of_ble_eq_true rfl, Nat.le_of_ble_eq_true rfl⟩) (rwP.S (av := [.ref q18, .int 72]) (wc := [(q18, .inr (2, [.null, .int 0, .int 0]))]) hP hD hK hN [3] (by decide) rfl) rfl rfl hl.1 rfl (lv_room (Nat.le_of_ble_eq_true rfl)) dX3_init_24 ⟨Nat.le_of_ble_eq_true rfl, Nat.le_of_ble_eq_true rfl⟩) hP hD hS hA [3] [0, 1, 2] [0, 1, 2, 3, 4] (wr := [(h0, .inr (3, [.ref q5, .null, .null, .null, .null])), (q5, .inr (2, [.ref (u11 0), .int (nI 24), .int (nI 0)])), ((u11 0), .inl (cA, 72, .inl (fun _ => 0)))]) (w4 := fun u => [(h0, .inr (3, [.ref q5, .null, .null, .null, .null])), (q5, .inr (2, [.ref (u11 0), .int (nI 24), .int (nI 0)])), ((u11 0), .inl (cA, 72, .inl (fun _ => 0))), (q18, .inr (2, [.ref (u 0), .int (nI 72), .int (nI 0)])), ((u 0), .inl (cA, 216, .inl (fun _ => 0)))]) rfl rfl (by decide) (by decide) (by decide) (fun _ => rfl) (fun u24 H locs hP hD hS => ?_)
  have hP : va_P D vwCl [(h0, .inr (3, [.ref q5, .null, .null, .null, .null])), (q5, .inr (2, [.ref (u11 0), .int (nI 24), .int (nI 0)])), ((u11 0), .inl (cA, 72, .inl (fun _ => 0))), (q18, .inr (2, [.ref (u24 0), .int (nI 72), .int (nI 0)])), ((u24 0), .inl (cA, 216, .inl (fun _ => 0)))] H := hP
  have hD : va_D A [(h0, .inr (3, [.ref q5, .null, .null, .null, .null])), (q5, .inr (2, [.ref (u11 0), .int (nI 24), .int (nI 0)])), ((u11 0), .inl (cA, 72, .inl (fun _ => 0))), (q18, .inr (2, [.ref (u24 0), .int (nI 72), .int (nI 0)])), ((u24 0), .inl (cA, 216, .inl (fun _ => 0)))] := hD
  refine va_putF (D := D) (ci := 3) (v := .ref q18) (ty := .object "JumpGuard$Program") (C := RX3) (T := TX3) (N := 5) hx hb hts iw_X3_init_X3 tyX3 tyX3_ok nmX3 hown hK hP hD hS 0 rfl rfl 1 (by decide) (hts (.fieldLink RX3 18 "JumpGuard" "guardedProgram" "LJumpGuard$Program;") (List.mem_of_getElem? (l := wsX3_init) (i := 8) rfl)) (fun _ h9 => h9) rfl hin rfl (by decide +kernel) rfl rfl (Nat.le_of_ble_eq_true rfl) dX3_init_27 (fun H locs hP hD hS => ?_)
  have hP : va_P D vwCl [(h0, .inr (3, [.ref q5, .ref q18, .null, .null, .null])), (q5, .inr (2, [.ref (u11 0), .int (nI 24), .int (nI 0)])), ((u11 0), .inl (cA, 72, .inl (fun _ => 0))), (q18, .inr (2, [.ref (u24 0), .int (nI 72), .int (nI 0)])), ((u24 0), .inl (cA, 216, .inl (fun _ => 0)))] H := hP
  have hD : va_D A [(h0, .inr (3, [.ref q5, .ref q18, .null, .null, .null])), (q5, .inr (2, [.ref (u11 0), .int (nI 24), .int (nI 0)])), ((u11 0), .inl (cA, 72, .inl (fun _ => 0))), (q18, .inr (2, [.ref (u24 0), .int (nI 72), .int (nI 0)])), ((u24 0), .inl (cA, 216, .inl (fun _ => 0)))] := hD
  refine lv_aload_n hx hb dX3_init_30 rfl (lv_at hl 0 rfl) ?_
  refine va_new (ci := 0) (fs := [.null, .null, .null, .int 0]) (C := RX0) (T := TX0) (N := 4) hx hb hts iw_X3_init_X0 tyX0 tyX0_ok hown (hts (.classLink RX3 21 RX0) (List.mem_of_getElem? (l := wsX3_init) (i := 9) rfl)) (hts (.instantiable RX0 4) (List.mem_of_getElem? (l := wsX3_init) (i := 10) rfl)) (hts (.initialized RX0) (List.mem_of_getElem? (l := wsX3_init) (i := 11) rfl)) hK hP hD hS hA rfl (fun j hj => by rcases (show j = 0 ∨ j = 1 ∨ j = 2 ∨ j = 3 by omega) with rfl | rfl | rfl | rfl <;> rfl) (Nat.le_of_ble_eq_true rfl) (Nat.le_of_ble_eq_true rfl) dX3_init_31 (fun q31 H hP hD hS => ?_)
  have hP : va_P D vwCl [(h0, .inr (3, [.ref q5, .ref q18, .null, .null, .null])), (q5, .inr (2, [.ref (u11 0), .int (nI 24), .int (nI 0)])), ((u11 0), .inl (cA, 72, .inl (fun _ => 0))), (q18, .inr (2, [.ref (u24 0), .int (nI 72), .int (nI 0)])), ((u24 0), .inl (cA, 216, .inl (fun _ => 0))), (q31, .inr (0, [.null, .null, .null, .int 0]))] H := hP
  have hD : va_D A [(h0, .inr (3, [.ref q5, .ref q18, .null, .null, .null])), (q5, .inr (2, [.ref (u11 0), .int (nI 24), .int (nI 0)])), ((u11 0), .inl (cA, 72, .inl (fun _ => 0))), (q18, .inr (2, [.ref (u24 0), .int (nI 72), .int (nI 0)])), ((u24 0), .inl (cA, 216, .inl (fun _ => 0))), (q31, .inr (0, [.null, .null, .null, .int 0]))] := hD
  refine lv_dup hx hb dX3_init_34 rfl ?_
  refine jw_e (va_runIN (As := []) (rest := [.ref q31, .ref h0]) ⟨hx, hb, hml, hown, hts⟩ (c_X0_init l D cA H.size q31) ⟨(va_cnB 0 hts gX3_init_X0_init_n23 rfl rfl rfl hN.1 (hts (.initialized RX0) (List.mem_of_getElem? (l := wsX3_init) (i := 11) rfl)) hv_X0_init.2 ⟨Nat.le_of_ble_eq_true rfl, Nat.le_of_ble_eq_true rfl⟩), rfl, (hts (.instanceMethod yX0_init) (List.mem_of_getElem? (l := wsX3_init) (i := 32) rfl))⟩ (rwP.S (av := [.ref q31]) (wc := [(q31, .inr (0, [.null, .null, .null, .int 0]))]) hP hD hK hN [5] (by decide) rfl) rfl rfl hl.1 rfl (lv_room (Nat.le_of_ble_eq_true rfl)) dX3_init_35 ⟨Nat.le_of_ble_eq_true rfl, Nat.le_of_ble_eq_true rfl⟩) hP hD hS hA [5] [0, 1, 2, 3, 4] [0, 1, 2, 3, 4, 5, 6, 7, 8] (wr := [(h0, .inr (3, [.ref q5, .ref q18, .null, .null, .null])), (q5, .inr (2, [.ref (u11 0), .int (nI 24), .int (nI 0)])), ((u11 0), .inl (cA, 72, .inl (fun _ => 0))), (q18, .inr (2, [.ref (u24 0), .int (nI 72), .int (nI 0)])), ((u24 0), .inl (cA, 216, .inl (fun _ => 0)))]) (w4 := fun u => [(h0, .inr (3, [.ref q5, .ref q18, .null, .null, .null])), (q5, .inr (2, [.ref (u11 0), .int (nI 24), .int (nI 0)])), ((u11 0), .inl (cA, 72, .inl (fun _ => 0))), (q18, .inr (2, [.ref (u24 0), .int (nI 72), .int (nI 0)])), ((u24 0), .inl (cA, 216, .inl (fun _ => 0))), (q31, .inr (0, [.ref (u 0), .ref (u 1), .ref (u 2), .int (nI 0)])), ((u 0), .inl (cA, 24, .inl (fun _ => 0))), ((u 1), .inl (cA, 24, .inl (fun _ => 0))), ((u 2), .inl (cA, 24, .inl (fun _ => 0)))]) rfl rfl (by decide) (by decide) (by decide) (fun _ => rfl) (fun u35 H locs hP hD hS => ?_)
  have hP : va_P D vwCl [(h0, .inr (3, [.ref q5, .ref q18, .null, .null, .null])), (q5, .inr (2, [.ref (u11 0), .int (nI 24), .int (nI 0)])), ((u11 0), .inl (cA, 72, .inl (fun _ => 0))), (q18, .inr (2, [.ref (u24 0), .int (nI 72), .int (nI 0)])), ((u24 0), .inl (cA, 216, .inl (fun _ => 0))), (q31, .inr (0, [.ref (u35 0), .ref (u35 1), .ref (u35 2), .int (nI 0)])), ((u35 0), .inl (cA, 24, .inl (fun _ => 0))), ((u35 1), .inl (cA, 24, .inl (fun _ => 0))), ((u35 2), .inl (cA, 24, .inl (fun _ => 0)))] H := hP
  have hD : va_D A [(h0, .inr (3, [.ref q5, .ref q18, .null, .null, .null])), (q5, .inr (2, [.ref (u11 0), .int (nI 24), .int (nI 0)])), ((u11 0), .inl (cA, 72, .inl (fun _ => 0))), (q18, .inr (2, [.ref (u24 0), .int (nI 72), .int (nI 0)])), ((u24 0), .inl (cA, 216, .inl (fun _ => 0))), (q31, .inr (0, [.ref (u35 0), .ref (u35 1), .ref (u35 2), .int (nI 0)])), ((u35 0), .inl (cA, 24, .inl (fun _ => 0))), ((u35 1), .inl (cA, 24, .inl (fun _ => 0))), ((u35 2), .inl (cA, 24, .inl (fun _ => 0)))] := hD
  refine va_putF (D := D) (ci := 3) (v := .ref q31) (ty := .object "JumpGuard$Edges") (C := RX3) (T := TX3) (N := 5) hx hb hts iw_X3_init_X3 tyX3 tyX3_ok nmX3 hown hK hP hD hS 0 rfl rfl 2 (by decide) (hts (.fieldLink RX3 24 "JumpGuard" "edges" "LJumpGuard$Edges;") (List.mem_of_getElem? (l := wsX3_init) (i := 12) rfl)) (fun _ h9 => h9) rfl hin rfl (by decide +kernel) rfl rfl (Nat.le_of_ble_eq_true rfl) dX3_init_38 (fun H locs hP hD hS => ?_)
  have hP : va_P D vwCl [(h0, .inr (3, [.ref q5, .ref q18, .ref q31, .null, .null])), (q5, .inr (2, [.ref (u11 0), .int (nI 24), .int (nI 0)])), ((u11 0), .inl (cA, 72, .inl (fun _ => 0))), (q18, .inr (2, [.ref (u24 0), .int (nI 72), .int (nI 0)])), ((u24 0), .inl (cA, 216, .inl (fun _ => 0))), (q31, .inr (0, [.ref (u35 0), .ref (u35 1), .ref (u35 2), .int (nI 0)])), ((u35 0), .inl (cA, 24, .inl (fun _ => 0))), ((u35 1), .inl (cA, 24, .inl (fun _ => 0))), ((u35 2), .inl (cA, 24, .inl (fun _ => 0)))] H := hP
  have hD : va_D A [(h0, .inr (3, [.ref q5, .ref q18, .ref q31, .null, .null])), (q5, .inr (2, [.ref (u11 0), .int (nI 24), .int (nI 0)])), ((u11 0), .inl (cA, 72, .inl (fun _ => 0))), (q18, .inr (2, [.ref (u24 0), .int (nI 72), .int (nI 0)])), ((u24 0), .inl (cA, 216, .inl (fun _ => 0))), (q31, .inr (0, [.ref (u35 0), .ref (u35 1), .ref (u35 2), .int (nI 0)])), ((u35 0), .inl (cA, 24, .inl (fun _ => 0))), ((u35 1), .inl (cA, 24, .inl (fun _ => 0))), ((u35 2), .inl (cA, 24, .inl (fun _ => 0)))] := hD
  refine lv_aload_n hx hb dX3_init_41 rfl (lv_at hl 0 rfl) ?_
  refine lv_bipush (v := 24) hx hb dX3_init_42 (by decide) ?_
  refine va_newa (atype := .int) (N' := 24) (n := 24) (ty := .int) (a0 := (24, .inl (fun _ => 0))) hx hb (hts (.arrayClass .int) (List.mem_of_getElem? (l := wsX3_init) (i := 13) rfl)) rfl hK hP hD hS hA (fun _ => rfl) (by decide) (by decide) (by decide) (Nat.le_of_ble_eq_true rfl) (Nat.le_of_ble_eq_true rfl) dX3_init_44 (fun q44 cA9 H hK9 hP hD hS => ?_)
  have eA9 := jK_one hK9
  rw [eA9] at hP hD
  have hP : va_P D vwCl [(h0, .inr (3, [.ref q5, .ref q18, .ref q31, .null, .null])), (q5, .inr (2, [.ref (u11 0), .int (nI 24), .int (nI 0)])), ((u11 0), .inl (cA, 72, .inl (fun _ => 0))), (q18, .inr (2, [.ref (u24 0), .int (nI 72), .int (nI 0)])), ((u24 0), .inl (cA, 216, .inl (fun _ => 0))), (q31, .inr (0, [.ref (u35 0), .ref (u35 1), .ref (u35 2), .int (nI 0)])), ((u35 0), .inl (cA, 24, .inl (fun _ => 0))), ((u35 1), .inl (cA, 24, .inl (fun _ => 0))), ((u35 2), .inl (cA, 24, .inl (fun _ => 0))), (q44, .inl (cA, 24, .inl (fun _ => 0)))] H := hP
  have hD : va_D A [(h0, .inr (3, [.ref q5, .ref q18, .ref q31, .null, .null])), (q5, .inr (2, [.ref (u11 0), .int (nI 24), .int (nI 0)])), ((u11 0), .inl (cA, 72, .inl (fun _ => 0))), (q18, .inr (2, [.ref (u24 0), .int (nI 72), .int (nI 0)])), ((u24 0), .inl (cA, 216, .inl (fun _ => 0))), (q31, .inr (0, [.ref (u35 0), .ref (u35 1), .ref (u35 2), .int (nI 0)])), ((u35 0), .inl (cA, 24, .inl (fun _ => 0))), ((u35 1), .inl (cA, 24, .inl (fun _ => 0))), ((u35 2), .inl (cA, 24, .inl (fun _ => 0))), (q44, .inl (cA, 24, .inl (fun _ => 0)))] := hD
  refine va_putF (D := D) (ci := 3) (v := .ref q44) (ty := .array .int) (C := RX3) (T := TX3) (N := 5) hx hb hts iw_X3_init_X3 tyX3 tyX3_ok nmX3 hown hK hP hD hS 0 rfl rfl 3 (by decide) (hts (.fieldLink RX3 28 "JumpGuard" "places" "[I") (List.mem_of_getElem? (l := wsX3_init) (i := 14) rfl)) (fun _ h9 => h9) rfl hin rfl (by decide +kernel) rfl rfl (Nat.le_of_ble_eq_true rfl) dX3_init_46 (fun H locs hP hD hS => ?_)
  have hP : va_P D vwCl [(h0, .inr (3, [.ref q5, .ref q18, .ref q31, .ref q44, .null])), (q5, .inr (2, [.ref (u11 0), .int (nI 24), .int (nI 0)])), ((u11 0), .inl (cA, 72, .inl (fun _ => 0))), (q18, .inr (2, [.ref (u24 0), .int (nI 72), .int (nI 0)])), ((u24 0), .inl (cA, 216, .inl (fun _ => 0))), (q31, .inr (0, [.ref (u35 0), .ref (u35 1), .ref (u35 2), .int (nI 0)])), ((u35 0), .inl (cA, 24, .inl (fun _ => 0))), ((u35 1), .inl (cA, 24, .inl (fun _ => 0))), ((u35 2), .inl (cA, 24, .inl (fun _ => 0))), (q44, .inl (cA, 24, .inl (fun _ => 0)))] H := hP
  have hD : va_D A [(h0, .inr (3, [.ref q5, .ref q18, .ref q31, .ref q44, .null])), (q5, .inr (2, [.ref (u11 0), .int (nI 24), .int (nI 0)])), ((u11 0), .inl (cA, 72, .inl (fun _ => 0))), (q18, .inr (2, [.ref (u24 0), .int (nI 72), .int (nI 0)])), ((u24 0), .inl (cA, 216, .inl (fun _ => 0))), (q31, .inr (0, [.ref (u35 0), .ref (u35 1), .ref (u35 2), .int (nI 0)])), ((u35 0), .inl (cA, 24, .inl (fun _ => 0))), ((u35 1), .inl (cA, 24, .inl (fun _ => 0))), ((u35 2), .inl (cA, 24, .inl (fun _ => 0))), (q44, .inl (cA, 24, .inl (fun _ => 0)))] := hD
  refine lv_aload_n hx hb dX3_init_49 rfl (lv_at hl 0 rfl) ?_
  refine va_new (ci := 1) (fs := [.null, .null, .null, .null, .int 0, .int 0, .int 0]) (C := RX1) (T := TX1) (N := 7) hx hb hts iw_X3_init_X1 tyX1 tyX1_ok hown (hts (.classLink RX3 32 RX1) (List.mem_of_getElem? (l := wsX3_init) (i := 15) rfl)) (hts (.instantiable RX1 7) (List.mem_of_getElem? (l := wsX3_init) (i := 16) rfl)) (hts (.initialized RX1) (List.mem_of_getElem? (l := wsX3_init) (i := 17) rfl)) hK hP hD hS hA rfl (fun j hj => by rcases (show j = 0 ∨ j = 1 ∨ j = 2 ∨ j = 3 ∨ j = 4 ∨ j = 5 ∨ j = 6 by omega) with rfl | rfl | rfl | rfl | rfl | rfl | rfl <;> rfl) (Nat.le_of_ble_eq_true rfl) (Nat.le_of_ble_eq_true rfl) dX3_init_50 (fun q50 H hP hD hS => ?_)
  have hP : va_P D vwCl [(h0, .inr (3, [.ref q5, .ref q18, .ref q31, .ref q44, .null])), (q5, .inr (2, [.ref (u11 0), .int (nI 24), .int (nI 0)])), ((u11 0), .inl (cA, 72, .inl (fun _ => 0))), (q18, .inr (2, [.ref (u24 0), .int (nI 72), .int (nI 0)])), ((u24 0), .inl (cA, 216, .inl (fun _ => 0))), (q31, .inr (0, [.ref (u35 0), .ref (u35 1), .ref (u35 2), .int (nI 0)])), ((u35 0), .inl (cA, 24, .inl (fun _ => 0))), ((u35 1), .inl (cA, 24, .inl (fun _ => 0))), ((u35 2), .inl (cA, 24, .inl (fun _ => 0))), (q44, .inl (cA, 24, .inl (fun _ => 0))), (q50, .inr (1, [.null, .null, .null, .null, .int 0, .int 0, .int 0]))] H := hP
  have hD : va_D A [(h0, .inr (3, [.ref q5, .ref q18, .ref q31, .ref q44, .null])), (q5, .inr (2, [.ref (u11 0), .int (nI 24), .int (nI 0)])), ((u11 0), .inl (cA, 72, .inl (fun _ => 0))), (q18, .inr (2, [.ref (u24 0), .int (nI 72), .int (nI 0)])), ((u24 0), .inl (cA, 216, .inl (fun _ => 0))), (q31, .inr (0, [.ref (u35 0), .ref (u35 1), .ref (u35 2), .int (nI 0)])), ((u35 0), .inl (cA, 24, .inl (fun _ => 0))), ((u35 1), .inl (cA, 24, .inl (fun _ => 0))), ((u35 2), .inl (cA, 24, .inl (fun _ => 0))), (q44, .inl (cA, 24, .inl (fun _ => 0))), (q50, .inr (1, [.null, .null, .null, .null, .int 0, .int 0, .int 0]))] := hD
  refine lv_dup hx hb dX3_init_53 rfl ?_
  refine jw_e (va_runIN (As := []) (rest := [.ref q50, .ref h0]) ⟨hx, hb, hml, hown, hts⟩ (c_X1_init l D cA H.size q50) ⟨(va_cnB 0 hts gX3_init_X1_init_n34 rfl rfl rfl hN.2.1 (hts (.initialized RX1) (List.mem_of_getElem? (l := wsX3_init) (i := 17) rfl)) hv_X1_init.2 ⟨Nat.le_of_ble_eq_true rfl, Nat.le_of_ble_eq_true rfl⟩), rfl, (hts (.instanceMethod yX1_init) (List.mem_of_getElem? (l := wsX3_init) (i := 38) rfl))⟩ (rwP.S (av := [.ref q50]) (wc := [(q50, .inr (1, [.null, .null, .null, .null, .int 0, .int 0, .int 0]))]) hP hD hK hN [10] (by decide) rfl) rfl rfl hl.1 rfl (lv_room (Nat.le_of_ble_eq_true rfl)) dX3_init_54 ⟨Nat.le_of_ble_eq_true rfl, Nat.le_of_ble_eq_true rfl⟩) hP hD hS hA [10] [0, 1, 2, 3, 4, 5, 6, 7, 8, 9] [0, 1, 2, 3, 4, 5, 6, 7, 8, 9, 10, 11, 12, 13] (wr := [(h0, .inr (3, [.ref q5, .ref q18, .ref q31, .ref q44, .null])), (q5, .inr (2, [.ref (u11 0), .int (nI 24), .int (nI 0)])), ((u11 0), .inl (cA, 72, .inl (fun _ => 0))), (q18, .inr (2, [.ref (u24 0), .int (nI 72), .int (nI 0)])), ((u24 0), .inl (cA, 216, .inl (fun _ => 0))), (q31, .inr (0, [.ref (u35 0), .ref (u35 1), .ref (u35 2), .int (nI 0)])), ((u35 0), .inl (cA, 24, .inl (fun _ => 0))), ((u35 1), .inl (cA, 24, .inl (fun _ => 0))), ((u35 2), .inl (cA, 24, .inl (fun _ => 0))), (q44, .inl (cA, 24, .inl (fun _ => 0)))]) (w4 := fun u => [(h0, .inr (3, [.ref q5, .ref q18, .ref q31, .ref q44, .null])), (q5, .inr (2, [.ref (u11 0), .int (nI 24), .int (nI 0)])), ((u11 0), .inl (cA, 72, .inl (fun _ => 0))), (q18, .inr (2, [.ref (u24 0), .int (nI 72), .int (nI 0)])), ((u24 0), .inl (cA, 216, .inl (fun _ => 0))), (q31, .inr (0, [.ref (u35 0), .ref (u35 1), .ref (u35 2), .int (nI 0)])), ((u35 0), .inl (cA, 24, .inl (fun _ => 0))), ((u35 1), .inl (cA, 24, .inl (fun _ => 0))), ((u35 2), .inl (cA, 24, .inl (fun _ => 0))), (q44, .inl (cA, 24, .inl (fun _ => 0))), (q50, .inr (1, [.ref (u 0), .ref (u 1), .ref (u 2), .ref (u 3), .int 0, .int (-1), .int (nI 0)])), ((u 0), .inl (cA, 4, .inl (fun _ => 0))), ((u 1), .inl (cA, 16, .inl (fun _ => 0))), ((u 2), .inl (cA, 8, .inl (fun _ => 0)))]) rfl rfl (by decide) (by decide) (by decide) (fun _ => rfl) (fun u54 H locs hP hD hS => ?_)
  have hP : va_P D vwCl [(h0, .inr (3, [.ref q5, .ref q18, .ref q31, .ref q44, .null])), (q5, .inr (2, [.ref (u11 0), .int (nI 24), .int (nI 0)])), ((u11 0), .inl (cA, 72, .inl (fun _ => 0))), (q18, .inr (2, [.ref (u24 0), .int (nI 72), .int (nI 0)])), ((u24 0), .inl (cA, 216, .inl (fun _ => 0))), (q31, .inr (0, [.ref (u35 0), .ref (u35 1), .ref (u35 2), .int (nI 0)])), ((u35 0), .inl (cA, 24, .inl (fun _ => 0))), ((u35 1), .inl (cA, 24, .inl (fun _ => 0))), ((u35 2), .inl (cA, 24, .inl (fun _ => 0))), (q44, .inl (cA, 24, .inl (fun _ => 0))), (q50, .inr (1, [.ref (u54 0), .ref (u54 1), .ref (u54 2), .ref (u54 3), .int 0, .int (-1), .int (nI 0)])), ((u54 0), .inl (cA, 4, .inl (fun _ => 0))), ((u54 1), .inl (cA, 16, .inl (fun _ => 0))), ((u54 2), .inl (cA, 8, .inl (fun _ => 0)))] H := hP
  have hD : va_D A [(h0, .inr (3, [.ref q5, .ref q18, .ref q31, .ref q44, .null])), (q5, .inr (2, [.ref (u11 0), .int (nI 24), .int (nI 0)])), ((u11 0), .inl (cA, 72, .inl (fun _ => 0))), (q18, .inr (2, [.ref (u24 0), .int (nI 72), .int (nI 0)])), ((u24 0), .inl (cA, 216, .inl (fun _ => 0))), (q31, .inr (0, [.ref (u35 0), .ref (u35 1), .ref (u35 2), .int (nI 0)])), ((u35 0), .inl (cA, 24, .inl (fun _ => 0))), ((u35 1), .inl (cA, 24, .inl (fun _ => 0))), ((u35 2), .inl (cA, 24, .inl (fun _ => 0))), (q44, .inl (cA, 24, .inl (fun _ => 0))), (q50, .inr (1, [.ref (u54 0), .ref (u54 1), .ref (u54 2), .ref (u54 3), .int 0, .int (-1), .int (nI 0)])), ((u54 0), .inl (cA, 4, .inl (fun _ => 0))), ((u54 1), .inl (cA, 16, .inl (fun _ => 0))), ((u54 2), .inl (cA, 8, .inl (fun _ => 0)))] := hD
  refine va_putF (D := D) (ci := 3) (v := .ref q50) (ty := .object "JumpGuard$Machine") (C := RX3) (T := TX3) (N := 5) hx hb hts iw_X3_init_X3 tyX3 tyX3_ok nmX3 hown hK hP hD hS 0 rfl rfl 4 (by decide) (hts (.fieldLink RX3 35 "JumpGuard" "machine" "LJumpGuard$Machine;") (List.mem_of_getElem? (l := wsX3_init) (i := 18) rfl)) (fun _ h9 => h9) rfl hin rfl (by decide +kernel) rfl rfl (Nat.le_of_ble_eq_true rfl) dX3_init_57 (fun H locs hP hD hS => ?_)
  have hP : va_P D vwCl [(h0, .inr (3, [.ref q5, .ref q18, .ref q31, .ref q44, .ref q50])), (q5, .inr (2, [.ref (u11 0), .int (nI 24), .int (nI 0)])), ((u11 0), .inl (cA, 72, .inl (fun _ => 0))), (q18, .inr (2, [.ref (u24 0), .int (nI 72), .int (nI 0)])), ((u24 0), .inl (cA, 216, .inl (fun _ => 0))), (q31, .inr (0, [.ref (u35 0), .ref (u35 1), .ref (u35 2), .int (nI 0)])), ((u35 0), .inl (cA, 24, .inl (fun _ => 0))), ((u35 1), .inl (cA, 24, .inl (fun _ => 0))), ((u35 2), .inl (cA, 24, .inl (fun _ => 0))), (q44, .inl (cA, 24, .inl (fun _ => 0))), (q50, .inr (1, [.ref (u54 0), .ref (u54 1), .ref (u54 2), .ref (u54 3), .int 0, .int (-1), .int (nI 0)])), ((u54 0), .inl (cA, 4, .inl (fun _ => 0))), ((u54 1), .inl (cA, 16, .inl (fun _ => 0))), ((u54 2), .inl (cA, 8, .inl (fun _ => 0)))] H := hP
  have hD : va_D A [(h0, .inr (3, [.ref q5, .ref q18, .ref q31, .ref q44, .ref q50])), (q5, .inr (2, [.ref (u11 0), .int (nI 24), .int (nI 0)])), ((u11 0), .inl (cA, 72, .inl (fun _ => 0))), (q18, .inr (2, [.ref (u24 0), .int (nI 72), .int (nI 0)])), ((u24 0), .inl (cA, 216, .inl (fun _ => 0))), (q31, .inr (0, [.ref (u35 0), .ref (u35 1), .ref (u35 2), .int (nI 0)])), ((u35 0), .inl (cA, 24, .inl (fun _ => 0))), ((u35 1), .inl (cA, 24, .inl (fun _ => 0))), ((u35 2), .inl (cA, 24, .inl (fun _ => 0))), (q44, .inl (cA, 24, .inl (fun _ => 0))), (q50, .inr (1, [.ref (u54 0), .ref (u54 1), .ref (u54 2), .ref (u54 3), .int 0, .int (-1), .int (nI 0)])), ((u54 0), .inl (cA, 4, .inl (fun _ => 0))), ((u54 1), .inl (cA, 16, .inl (fun _ => 0))), ((u54 2), .inl (cA, 8, .inl (fun _ => 0)))] := hD
  obtain ⟨hP9, hD9⟩ := jk_end (w2 := [(h0, .inr (3, [.ref q5, .ref q18, .ref q31, .ref q44, .ref q50])), (q5, .inr (2, [.ref (u11 0), .int (nI 24), .int (nI 0)])), ((u11 0), .inl (cA, 72, .inl (fun _ => 0))), (q18, .inr (2, [.ref (u24 0), .int (nI 72), .int (nI 0)])), ((u24 0), .inl (cA, 216, .inl (fun _ => 0))), (q31, .inr (0, [.ref (u35 0), .ref (u35 1), .ref (u35 2), .int (nI 0)])), ((u35 0), .inl (cA, 24, .inl (fun _ => 0))), ((u35 1), .inl (cA, 24, .inl (fun _ => 0))), ((u35 2), .inl (cA, 24, .inl (fun _ => 0))), (q44, .inl (cA, 24, .inl (fun _ => 0))), (q50, .inr (1, [.ref (u54 0), .ref (u54 1), .ref (u54 2), .ref (u54 3), .int 0, .int (-1), .int (nI 0)])), ((u54 0), .inl (cA, 4, .inl (fun _ => 0))), ((u54 1), .inl (cA, 16, .inl (fun _ => 0))), ((u54 2), .inl (cA, 8, .inl (fun _ => 0)))]) hP hD [0, 1, 2, 3, 4, 5, 6, 7, 8, 9, 10, 11, 12, 13] (by decide) rfl
  exact W.vret hx hb hr (fun t9 ht9 hW9 => ⟨⟨(fun k => match k with | 0 => q5 | 1 => (u11 0) | 2 => q18 | 3 => (u24 0) | 4 => q31 | 5 => (u35 0) | 6 => (u35 1) | 7 => (u35 2) | 8 => q44 | 9 => q50 | 10 => (u54 0) | 11 => (u54 1) | 12 => (u54 2) | _ => (u54 3)), rfl, trivial, by rw [ht9]; exact hP9, hD9⟩, hS.F ht9⟩) hS.2.2 dX3_init_60
