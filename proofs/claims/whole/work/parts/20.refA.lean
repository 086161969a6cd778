/-! ===== the reference: its tests, add, allow, whole, put ===== -/
abbrev wI (x y : Int32) : Prop := ¬ x < 0 ∧ ¬ y < x
theorem wI_c {x : Int32} {n : Nat} (hn : n < 1000) : wI x (nI n) ↔ jIn x (nI (n + 1)) := by
  have e1 := nI_toInt (n := n) (by omega)
  have e2 := nI_toInt (n := n + 1) (by omega)
  unfold wI jIn
  rw [Int32.lt_iff_toInt_lt (x := nI n), Int32.le_iff_toInt_le, e1, e2]
  constructor
  · intro h; exact ⟨h.1, by omega⟩
  · intro h; exact ⟨h.1, by omega⟩
theorem wI_p {x : Int32} {n : Nat} (hn : n < 1000) : wI x (nI n - 1) ↔ jIn x (nI n) := by
  have e1 : (nI n - nI 1).toInt = (n : Int) - 1 := pk_sub_toInt (a := n) (b := 1) (by omega) (by decide)
  have e2 := nI_toInt (n := n) (by omega)
  have e3 : (nI n - 1).toInt = (n : Int) - 1 := e1
  unfold wI jIn
  rw [Int32.lt_iff_toInt_lt (x := nI n - 1), Int32.le_iff_toInt_le, e3, e2]
  constructor
  · intro h; exact ⟨h.1, by omega⟩
  · intro h; exact ⟨h.1, by omega⟩
theorem jIn_out {x : Int32} (h : x.toInt < 0 ∨ (((10 : Nat) : Int) - 1) < x.toInt) : ¬ jIn x 10 := by
  intro q
  obtain ⟨j, hj, e⟩ := jN_of (n := 10) (by decide) q
  rw [e, nI_toInt (by omega)] at h
  omega
def rApp (cd : Nat → Int32) (k : Nat) (x y z : Int32) : Nat → Int32 := upd (upd (upd cd (3 * k) x) (3 * k + 1) y) (3 * k + 2) z
def rPut (cd : Nat → Int32) (k : Nat) (x y z : Int32) : Nat → Int32 := upd (upd (upd cd (72 + 3 * k) x) (73 + 3 * k) y) (74 + 3 * k) z
abbrev rAl (cd : Nat → Int32) (nn : Nat) (ju en : Nat → Int32) (ed : Nat) (x y : Int32) : Prop := jIn x (nI nn) ∧ jIn y (nI nn) ∧ cd (3 * x.toNatClampNeg) = 8 ∧ ed < 48 ∧ ∀ k, k < ed → ¬ (ju k = x ∧ en k = y)
abbrev rHA (cd : Nat → Int32) (nn i : Nat) : Prop := ¬ (cd (3 * i) = 6 ∧ nI nn ≤ cd (3 * i + 1)) ∧ ¬ ((cd (3 * i) = 7 ∨ cd (3 * i) = 9) ∧ nI nn ≤ cd (3 * i + 2))
abbrev rWh (cd : Nat → Int32) (nn : Nat) : Prop := 0 < nn ∧ (cd (3 * nn - 3) = 0 ∨ cd (3 * nn - 3) = 6 ∨ cd (3 * nn - 3) = 8) ∧ ∀ i, i < nn → rHA cd nn i
theorem iw_X4_add_X4 : ∀ w ∈ wsX40, w ∈ wsX4_add := by decide +kernel
theorem iw_X4_allow_X4 : ∀ w ∈ wsX40, w ∈ wsX4_allow := by decide +kernel
theorem iw_X4_init_X4 : ∀ w ∈ wsX40, w ∈ wsX4_init := by decide +kernel
theorem iw_X4_put_X4 : ∀ w ∈ wsX40, w ∈ wsX4_put := by decide +kernel
theorem iw_X4_undo_X4 : ∀ w ∈ wsX40, w ∈ wsX4_undo := by decide +kernel
theorem iw_X4_whole_X4 : ∀ w ∈ wsX40, w ∈ wsX4_whole := by decide +kernel
theorem hv_X4_fits : yX4_fits.cls = RX4 ∧ yX4_fits.cls ≠ "java/lang/invoke/MethodHandle" ∧ yX4_fits.cls ≠ "java/lang/invoke/VarHandle" ∧ (parseMethodDescriptor yX4_fits.desc).map (fun d => d.parameters.length) = some 3 := by decide +kernel
theorem hv_X4_undo : yX4_undo.cls = RX4 ∧ yX4_undo.cls ≠ "java/lang/invoke/MethodHandle" ∧ yX4_undo.cls ≠ "java/lang/invoke/VarHandle" ∧ (parseMethodDescriptor yX4_undo.desc).map (fun d => d.parameters.length) = some 0 := by decide +kernel
theorem hv_X4_within : yX4_within.cls = RX4 ∧ yX4_within.cls ≠ "java/lang/invoke/MethodHandle" ∧ yX4_within.cls ≠ "java/lang/invoke/VarHandle" ∧ (parseMethodDescriptor yX4_within.desc).map (fun d => d.parameters.length) = some 2 := by decide +kernel
set_option maxHeartbeats 4000000 in
set_option maxRecDepth 100000 in
theorem c_X4_init (l : Launch) (D : va_G) (cA : ClassId) (sz : Nat) (h4 : Nat) : Met l yX4_init wsX4_init ({ frames := 1, cells := 9, slots := 484, locals := 20 }) (rwP D cA [.ref h4] sz [(h4, .inr (4, [.null, .int 0, .int 0, .null, .null, .int 0, .null, .null, .null, .null, .null, .null, .int 0, .int 0, .int 0, .int 0, .int 0]))]) (rwE D (va_A [(h4, .inr (4, [.null, .int 0, .int 0, .null, .null, .int 0, .null, .null, .null, .null, .null, .null, .int 0, .int 0, .int 0, .int 0, .int 0]))] sz) (fun u => [(h4, .inr (4, [.ref (u 0), .int (nI 0), .int (nI 0), .ref (u 1), .ref (u 2), .int (nI 0), .ref (u 3), .ref (u 4), .ref (u 5), .ref (u 6), .ref (u 7), .ref (u 8), .int 0, .int (-1), .int (nI 0), .int (nI 0), .int (nI 0)])), ((u 0), .inl (cA, 288, .inl (fun _ => 0))), ((u 1), .inl (cA, 48, .inl (fun _ => 0))), ((u 2), .inl (cA, 48, .inl (fun _ => 0))), ((u 3), .inl (cA, 24, .inl (fun _ => 0))), ((u 4), .inl (cA, 24, .inl (fun _ => 0))), ((u 5), .inl (cA, 24, .inl (fun _ => 0))), ((u 6), .inl (cA, 4, .inl (fun _ => 0))), ((u 7), .inl (cA, 16, .inl (fun _ => 0))), ((u 8), .inl (cA, 8, .inl (fun _ => 0)))])) 9 484 (va_A [(h4, .inr (4, [.null, .int 0, .int 0, .null, .null, .int 0, .null, .null, .null, .null, .null, .null, .int 0, .int 0, .int 0, .int 0, .int 0]))] sz) := by
  refine Met.ofW (cc := cX4_init) (maxL := 1) (ret := none) (by decide) rfl ?_
  intro p e s m args below meth c s₁ B hml hv
  obtain ⟨rfl, hsz, hP, hK, hN, hD0⟩ := hv
  have hx := B.exec
  have hb := B.bytes
  have hr := B.returns
  have hts := atoms_spec (ws := wsX4_init) B.pre
  have hown : s.vm.findClass RX4 = some m.cls := findClass_of_methodNamed B.named
  have hlocks := B.notSynchronized
  have hin : meth.name = "<init>" := (name_of_methodNamed B.named B.method).1
  subst hsz
  have hD := hD0.self (sz := s.heap.size)
  generalize hAe : va_A [(h4, .inr (4, [.null, .int 0, .int 0, .null, .null, .int 0, .null, .null, .null, .null, .null, .null, .int 0, .int 0, .int 0, .int 0, .int 0]))] s.heap.size = A at hD ⊢
  have hA : ∀ q : Nat, s.heap.size ≤ q → A q := fun q h => by rw [← hAe]; exact Or.inr h
  have hS : va_S A s.heap s.heap [] := va_S.rf
  have hl := lv_entry ([.ref h4]) (n := 1) (Nat.le_of_ble_eq_true rfl)
  rw [lg_entry_eq]
  generalize (lg_sl ([.ref h4]) ++ List.replicate (1 - (lg_sl ([.ref h4])).length) Slot.unset).toArray = ls at hl ⊢
  have hl : lv_has ls 1 [(0, .ref h4)] := hl
  refine lv_aload_n hx hb dX4_init_0 rfl (lv_at hl 0 rfl) ?_
  refine W.objInit hx hb hown (hts (.methodLink RX4 1 objectInit) (List.mem_of_getElem? (l := wsX4_init) (i := 1) rfl)) (hts (.instanceMethod objectInit) (List.mem_of_getElem? (l := wsX4_init) (i := 2) rfl)) (hts (.code objectInit ⟨#[0xb1]⟩ 1 none) (List.mem_of_getElem? (l := wsX4_init) (i := 3) rfl)) rfl (by rw [hml]; exact hl.1) rfl dX4_init_1 (Nat.le_of_ble_eq_true rfl) (Nat.le_of_ble_eq_true rfl) ?_
  refine W.eq (g2 := F0 m 4 ls []) rfl ?_
  refine lv_aload_n hx hb dX4_init_4 rfl (lv_at hl 0 rfl) ?_
  refine lv_sipush (v := 288) hx hb dX4_init_5 (by decide) ?_
  refine va_newa (atype := .int) (N' := 288) (n := 288) (ty := .int) (a0 := (288, .inl (fun _ => 0))) hx hb (hts (.arrayClass .int) (List.mem_of_getElem? (l := wsX4_init) (i := 4) rfl)) rfl hK hP hD hS hA (fun _ => rfl) (by decide) (by decide) (by decide) (Nat.le_of_ble_eq_true rfl) (Nat.le_of_ble_eq_true rfl) dX4_init_8 (fun q8 cA9 H hK9 hP hD hS => ?_)
  have eA9 := jK_one hK9
  rw [eA9] at hP hD
  have hP : va_P D vwCl [(h4, .inr (4, [.null, .int 0, .int 0, .null, .null, .int 0, .null, .null, .null, .null, .null, .null, .int 0, .int 0, .int 0, .int 0, .int 0])), (q8, .inl (cA, 288, .inl (fun _ => 0)))] H := hP
  have hD : va_D A [(h4, .inr (4, [.null, .int 0, .int 0, .null, .null, .int 0, .null, .null, .null, .null, .null, .null, .int 0, .int 0, .int 0, .int 0, .int 0])), (q8, .inl (cA, 288, .inl (fun _ => 0)))] := hD
  refine va_putF (D := D) (ci := 4) (v := .ref q8) (ty := .array .int) (C := RX4) (T := TX4) (N := 17) hx hb hts iw_X4_init_X4 tyX4 tyX4_ok nmX4 hown hK hP hD hS 0 rfl rfl 0 (by decide) (hts (.fieldLink RX4 7 "JumpGuardModel" "code" "[I") (List.mem_of_getElem? (l := wsX4_init) (i := 5) rfl)) (fun _ h9 => h9) rfl hin rfl (by decide +kernel) rfl rfl (Nat.le_of_ble_eq_true rfl) dX4_init_10 (fun H locs hP hD hS => ?_)
  have hP : va_P D vwCl [(h4, .inr (4, [.ref q8, .int 0, .int 0, .null, .null, .int 0, .null, .null, .null, .null, .null, .null, .int 0, .int 0, .int 0, .int 0, .int 0])), (q8, .inl (cA, 288, .inl (fun _ => 0)))] H := hP
  have hD : va_D A [(h4, .inr (4, [.ref q8, .int 0, .int 0, .null, .null, .int 0, .null, .null, .null, .null, .null, .null, .int 0, .int 0, .int 0, .int 0, .int 0])), (q8, .inl (cA, 288, .inl (fun _ => 0)))] := hD
  refine lv_aload_n hx hb dX4_init_13 rfl (lv_at hl 0 rfl) ?_
  refine lv_bipush (v := 48) hx hb dX4_init_14 (by decide) ?_
  refine va_newa (atype := .int) (N' := 48) (n := 48) (ty := .int) (a0 := (48, .inl (fun _ => 0))) hx hb (hts (.arrayClass .int) (List.mem_of_getElem? (l := wsX4_init) (i := 4) rfl)) rfl hK hP hD hS hA (fun _ => rfl) (by decide) (by decide) (by decide) (Nat.le_of_ble_eq_true rfl) (Nat.le_of_ble_eq_true rfl) dX4_init_16 (fun q16 cA9 H hK9 hP hD hS => ?_)
  have eA9 := jK_one hK9
  rw [eA9] at hP hD
  have hP : va_P D vwCl [(h4, .inr (4, [.ref q8, .int 0, .int 0, .null, .null, .int 0, .null, .null, .null, .null, .null, .null, .int 0, .int 0, .int 0, .int 0, .int 0])), (q8, .inl (cA, 288, .inl (fun _ => 0))), (q16, .inl (cA, 48, .inl (fun _ => 0)))] H := hP
  have hD : va_D A [(h4, .inr (4, [.ref q8, .int 0, .int 0, .null, .null, .int 0, .null, .null, .null, .null, .null, .null, .int 0, .int 0, .int 0, .int 0, .int 0])), (q8, .inl (cA, 288, .inl (fun _ => 0))), (q16, .inl (cA, 48, .inl (fun _ => 0)))] := hD
  refine va_putF (D := D) (ci := 4) (v := .ref q16) (ty := .array .int) (C := RX4) (T := TX4) (N := 17) hx hb hts iw_X4_init_X4 tyX4 tyX4_ok nmX4 hown hK hP hD hS 0 rfl rfl 3 (by decide) (hts (.fieldLink RX4 13 "JumpGuardModel" "jump" "[I") (List.mem_of_getElem? (l := wsX4_init) (i := 6) rfl)) (fun _ h9 => h9) rfl hin rfl (by decide +kernel) rfl rfl (Nat.le_of_ble_eq_true rfl) dX4_init_18 (fun H locs hP hD hS => ?_)
  have hP : va_P D vwCl [(h4, .inr (4, [.ref q8, .int 0, .int 0, .ref q16, .null, .int 0, .null, .null, .null, .null, .null, .null, .int 0, .int 0, .int 0, .int 0, .int 0])), (q8, .inl (cA, 288, .inl (fun _ => 0))), (q16, .inl (cA, 48, .inl (fun _ => 0)))] H := hP
  have hD : va_D A [(h4, .inr (4, [.ref q8, .int 0, .int 0, .ref q16, .null, .int 0, .null, .null, .null, .null, .null, .null, .int 0, .int 0, .int 0, .int 0, .int 0])), (q8, .inl (cA, 288, .inl (fun _ => 0))), (q16, .inl (cA, 48, .inl (fun _ => 0)))] := hD
  refine lv_aload_n hx hb dX4_init_21 rfl (lv_at hl 0 rfl) ?_
  refine lv_bipush (v := 48) hx hb dX4_init_22 (by decide) ?_
  refine va_newa (atype := .int) (N' := 48) (n := 48) (ty := .int) (a0 := (48, .inl (fun _ => 0))) hx hb (hts (.arrayClass .int) (List.mem_of_getElem? (l := wsX4_init) (i := 4) rfl)) rfl hK hP hD hS hA (fun _ => rfl) (by decide) (by decide) (by decide) (Nat.le_of_ble_eq_true rfl) (Nat.le_of_ble_eq_true rfl) dX4_init_24 (fun q24 cA9 H hK9 hP hD hS => ?_)
  have eA9 := jK_one hK9
  rw [eA9] at hP hD
  have hP : va_P D vwCl [(h4, .inr (4, [.ref q8, .int 0, .int 0, .ref q16, .null, .int 0, .null, .null, .null, .null, .null, .null, .int 0, .int 0, .int 0, .int 0, .int 0])), (q8, .inl (cA, 288, .inl (fun _ => 0))), (q16, .inl (cA, 48, .inl (fun _ => 0))), (q24, .inl (cA, 48, .inl (fun _ => 0)))] H := hP
  have hD : va_D A [(h4, .inr (4, [.ref q8, .int 0, .int 0, .ref q16, .null, .int 0, .null, .null, .null, .null, .null, .null, .int 0, .int 0, .int 0, .int 0, .int 0])), (q8, .inl (cA, 288, .inl (fun _ => 0))), (q16, .inl (cA, 48, .inl (fun _ => 0))), (q24, .inl (cA, 48, .inl (fun _ => 0)))] := hD
  refine va_putF (D := D) (ci := 4) (v := .ref q24) (ty := .array .int) (C := RX4) (T := TX4) (N := 17) hx hb hts iw_X4_init_X4 tyX4 tyX4_ok nmX4 hown hK hP hD hS 0 rfl rfl 4 (by decide) (hts (.fieldLink RX4 16 "JumpGuardModel" "end" "[I") (List.mem_of_getElem? (l := wsX4_init) (i := 7) rfl)) (fun _ h9 => h9) rfl hin rfl (by decide +kernel) rfl rfl (Nat.le_of_ble_eq_true rfl) dX4_init_26 (fun H locs hP hD hS => ?_)
  have hP : va_P D vwCl [(h4, .inr (4, [.ref q8, .int 0, .int 0, .ref q16, .ref q24, .int 0, .null, .null, .null, .null, .null, .null, .int 0, .int 0, .int 0, .int 0, .int 0])), (q8, .inl (cA, 288, .inl (fun _ => 0))), (q16, .inl (cA, 48, .inl (fun _ => 0))), (q24, .inl (cA, 48, .inl (fun _ => 0)))] H := hP
  have hD : va_D A [(h4, .inr (4, [.ref q8, .int 0, .int 0, .ref q16, .ref q24, .int 0, .null, .null, .null, .null, .null, .null, .int 0, .int 0, .int 0, .int 0, .int 0])), (q8, .inl (cA, 288, .inl (fun _ => 0))), (q16, .inl (cA, 48, .inl (fun _ => 0))), (q24, .inl (cA, 48, .inl (fun _ => 0)))] := hD
  refine lv_aload_n hx hb dX4_init_29 rfl (lv_at hl 0 rfl) ?_
  refine lv_bipush (v := 24) hx hb dX4_init_30 (by decide) ?_
  refine va_newa (atype := .int) (N' := 24) (n := 24) (ty := .int) (a0 := (24, .inl (fun _ => 0))) hx hb (hts (.arrayClass .int) (List.mem_of_getElem? (l := wsX4_init) (i := 4) rfl)) rfl hK hP hD hS hA (fun _ => rfl) (by decide) (by decide) (by decide) (Nat.le_of_ble_eq_true rfl) (Nat.le_of_ble_eq_true rfl) dX4_init_32 (fun q32 cA9 H hK9 hP hD hS => ?_)
  have eA9 := jK_one hK9
  rw [eA9] at hP hD
  have hP : va_P D vwCl [(h4, .inr (4, [.ref q8, .int 0, .int 0, .ref q16, .ref q24, .int 0, .null, .null, .null, .null, .null, .null, .int 0, .int 0, .int 0, .int 0, .int 0])), (q8, .inl (cA, 288, .inl (fun _ => 0))), (q16, .inl (cA, 48, .inl (fun _ => 0))), (q24, .inl (cA, 48, .inl (fun _ => 0))), (q32, .inl (cA, 24, .inl (fun _ => 0)))] H := hP
  have hD : va_D A [(h4, .inr (4, [.ref q8, .int 0, .int 0, .ref q16, .ref q24, .int 0, .null, .null, .null, .null, .null, .null, .int 0, .int 0, .int 0, .int 0, .int 0])), (q8, .inl (cA, 288, .inl (fun _ => 0))), (q16, .inl (cA, 48, .inl (fun _ => 0))), (q24, .inl (cA, 48, .inl (fun _ => 0))), (q32, .inl (cA, 24, .inl (fun _ => 0)))] := hD
  refine va_putF (D := D) (ci := 4) (v := .ref q32) (ty := .array .int) (C := RX4) (T := TX4) (N := 17) hx hb hts iw_X4_init_X4 tyX4 tyX4_ok nmX4 hown hK hP hD hS 0 rfl rfl 6 (by decide) (hts (.fieldLink RX4 19 "JumpGuardModel" "ofTarget" "[I") (List.mem_of_getElem? (l := wsX4_init) (i := 8) rfl)) (fun _ h9 => h9) rfl hin rfl (by decide +kernel) rfl rfl (Nat.le_of_ble_eq_true rfl) dX4_init_34 (fun H locs hP hD hS => ?_)
  have hP : va_P D vwCl [(h4, .inr (4, [.ref q8, .int 0, .int 0, .ref q16, .ref q24, .int 0, .ref q32, .null, .null, .null, .null, .null, .int 0, .int 0, .int 0, .int 0, .int 0])), (q8, .inl (cA, 288, .inl (fun _ => 0))), (q16, .inl (cA, 48, .inl (fun _ => 0))), (q24, .inl (cA, 48, .inl (fun _ => 0))), (q32, .inl (cA, 24, .inl (fun _ => 0)))] H := hP
  have hD : va_D A [(h4, .inr (4, [.ref q8, .int 0, .int 0, .ref q16, .ref q24, .int 0, .ref q32, .null, .null, .null, .null, .null, .int 0, .int 0, .int 0, .int 0, .int 0])), (q8, .inl (cA, 288, .inl (fun _ => 0))), (q16, .inl (cA, 48, .inl (fun _ => 0))), (q24, .inl (cA, 48, .inl (fun _ => 0))), (q32, .inl (cA, 24, .inl (fun _ => 0)))] := hD
  refine lv_aload_n hx hb dX4_init_37 rfl (lv_at hl 0 rfl) ?_
  refine lv_bipush (v := 24) hx hb dX4_init_38 (by decide) ?_
  refine va_newa (atype := .int) (N' := 24) (n := 24) (ty := .int) (a0 := (24, .inl (fun _ => 0))) hx hb (hts (.arrayClass .int) (List.mem_of_getElem? (l := wsX4_init) (i := 4) rfl)) rfl hK hP hD hS hA (fun _ => rfl) (by decide) (by decide) (by decide) (Nat.le_of_ble_eq_true rfl) (Nat.le_of_ble_eq_true rfl) dX4_init_40 (fun q40 cA9 H hK9 hP hD hS => ?_)
  have eA9 := jK_one hK9
  rw [eA9] at hP hD
  have hP : va_P D vwCl [(h4, .inr (4, [.ref q8, .int 0, .int 0, .ref q16, .ref q24, .int 0, .ref q32, .null, .null, .null, .null, .null, .int 0, .int 0, .int 0, .int 0, .int 0])), (q8, .inl (cA, 288, .inl (fun _ => 0))), (q16, .inl (cA, 48, .inl (fun _ => 0))), (q24, .inl (cA, 48, .inl (fun _ => 0))), (q32, .inl (cA, 24, .inl (fun _ => 0))), (q40, .inl (cA, 24, .inl (fun _ => 0)))] H := hP
  have hD : va_D A [(h4, .inr (4, [.ref q8, .int 0, .int 0, .ref q16, .ref q24, .int 0, .ref q32, .null, .null, .null, .null, .null, .int 0, .int 0, .int 0, .int 0, .int 0])), (q8, .inl (cA, 288, .inl (fun _ => 0))), (q16, .inl (cA, 48, .inl (fun _ => 0))), (q24, .inl (cA, 48, .inl (fun _ => 0))), (q32, .inl (cA, 24, .inl (fun _ => 0))), (q40, .inl (cA, 24, .inl (fun _ => 0)))] := hD
  refine va_putF (D := D) (ci := 4) (v := .ref q40) (ty := .array .int) (C := RX4) (T := TX4) (N := 17) hx hb hts iw_X4_init_X4 tyX4 tyX4_ok nmX4 hown hK hP hD hS 0 rfl rfl 7 (by decide) (hts (.fieldLink RX4 22 "JumpGuardModel" "ofJump" "[I") (List.mem_of_getElem? (l := wsX4_init) (i := 9) rfl)) (fun _ h9 => h9) rfl hin rfl (by decide +kernel) rfl rfl (Nat.le_of_ble_eq_true rfl) dX4_init_42 (fun H locs hP hD hS => ?_)
  have hP : va_P D vwCl [(h4, .inr (4, [.ref q8, .int 0, .int 0, .ref q16, .ref q24, .int 0, .ref q32, .ref q40, .null, .null, .null, .null, .int 0, .int 0, .int 0, .int 0, .int 0])), (q8, .inl (cA, 288, .inl (fun _ => 0))), (q16, .inl (cA, 48, .inl (fun _ => 0))), (q24, .inl (cA, 48, .inl (fun _ => 0))), (q32, .inl (cA, 24, .inl (fun _ => 0))), (q40, .inl (cA, 24, .inl (fun _ => 0)))] H := hP
  have hD : va_D A [(h4, .inr (4, [.ref q8, .int 0, .int 0, .ref q16, .ref q24, .int 0, .ref q32, .ref q40, .null, .null, .null, .null, .int 0, .int 0, .int 0, .int 0, .int 0])), (q8, .inl (cA, 288, .inl (fun _ => 0))), (q16, .inl (cA, 48, .inl (fun _ => 0))), (q24, .inl (cA, 48, .inl (fun _ => 0))), (q32, .inl (cA, 24, .inl (fun _ => 0))), (q40, .inl (cA, 24, .inl (fun _ => 0)))] := hD
  refine lv_aload_n hx hb dX4_init_45 rfl (lv_at hl 0 rfl) ?_
  refine lv_bipush (v := 24) hx hb dX4_init_46 (by decide) ?_
  refine va_newa (atype := .int) (N' := 24) (n := 24) (ty := .int) (a0 := (24, .inl (fun _ => 0))) hx hb (hts (.arrayClass .int) (List.mem_of_getElem? (l := wsX4_init) (i := 4) rfl)) rfl hK hP hD hS hA (fun _ => rfl) (by decide) (by decide) (by decide) (Nat.le_of_ble_eq_true rfl) (Nat.le_of_ble_eq_true rfl) dX4_init_48 (fun q48 cA9 H hK9 hP hD hS => ?_)
  have eA9 := jK_one hK9
  rw [eA9] at hP hD
  have hP : va_P D vwCl [(h4, .inr (4, [.ref q8, .int 0, .int 0, .ref q16, .ref q24, .int 0, .ref q32, .ref q40, .null, .null, .null, .null, .int 0, .int 0, .int 0, .int 0, .int 0])), (q8, .inl (cA, 288, .inl (fun _ => 0))), (q16, .inl (cA, 48, .inl (fun _ => 0))), (q24, .inl (cA, 48, .inl (fun _ => 0))), (q32, .inl (cA, 24, .inl (fun _ => 0))), (q40, .inl (cA, 24, .inl (fun _ => 0))), (q48, .inl (cA, 24, .inl (fun _ => 0)))] H := hP
  have hD : va_D A [(h4, .inr (4, [.ref q8, .int 0, .int 0, .ref q16, .ref q24, .int 0, .ref q32, .ref q40, .null, .null, .null, .null, .int 0, .int 0, .int 0, .int 0, .int 0])), (q8, .inl (cA, 288, .inl (fun _ => 0))), (q16, .inl (cA, 48, .inl (fun _ => 0))), (q24, .inl (cA, 48, .inl (fun _ => 0))), (q32, .inl (cA, 24, .inl (fun _ => 0))), (q40, .inl (cA, 24, .inl (fun _ => 0))), (q48, .inl (cA, 24, .inl (fun _ => 0)))] := hD
  refine va_putF (D := D) (ci := 4) (v := .ref q48) (ty := .array .int) (C := RX4) (T := TX4) (N := 17) hx hb hts iw_X4_init_X4 tyX4 tyX4_ok nmX4 hown hK hP hD hS 0 rfl rfl 8 (by decide) (hts (.fieldLink RX4 25 "JumpGuardModel" "at" "[I") (List.mem_of_getElem? (l := wsX4_init) (i := 10) rfl)) (fun _ h9 => h9) rfl hin rfl (by decide +kernel) rfl rfl (Nat.le_of_ble_eq_true rfl) dX4_init_50 (fun H locs hP hD hS => ?_)
  have hP : va_P D vwCl [(h4, .inr (4, [.ref q8, .int 0, .int 0, .ref q16, .ref q24, .int 0, .ref q32, .ref q40, .ref q48, .null, .null, .null, .int 0, .int 0, .int 0, .int 0, .int 0])), (q8, .inl (cA, 288, .inl (fun _ => 0))), (q16, .inl (cA, 48, .inl (fun _ => 0))), (q24, .inl (cA, 48, .inl (fun _ => 0))), (q32, .inl (cA, 24, .inl (fun _ => 0))), (q40, .inl (cA, 24, .inl (fun _ => 0))), (q48, .inl (cA, 24, .inl (fun _ => 0)))] H := hP
  have hD : va_D A [(h4, .inr (4, [.ref q8, .int 0, .int 0, .ref q16, .ref q24, .int 0, .ref q32, .ref q40, .ref q48, .null, .null, .null, .int 0, .int 0, .int 0, .int 0, .int 0])), (q8, .inl (cA, 288, .inl (fun _ => 0))), (q16, .inl (cA, 48, .inl (fun _ => 0))), (q24, .inl (cA, 48, .inl (fun _ => 0))), (q32, .inl (cA, 24, .inl (fun _ => 0))), (q40, .inl (cA, 24, .inl (fun _ => 0))), (q48, .inl (cA, 24, .inl (fun _ => 0)))] := hD
  refine lv_aload_n hx hb dX4_init_53 rfl (lv_at hl 0 rfl) ?_
  refine lv_iconst (v := 4) hx hb dX4_init_54 (by decide) ?_
  refine va_newa (atype := .int) (N' := 4) (n := 4) (ty := .int) (a0 := (4, .inl (fun _ => 0))) hx hb (hts (.arrayClass .int) (List.mem_of_getElem? (l := wsX4_init) (i := 4) rfl)) rfl hK hP hD hS hA (fun _ => rfl) (by decide) (by decide) (by decide) (Nat.le_of_ble_eq_true rfl) (Nat.le_of_ble_eq_true rfl) dX4_init_55 (fun q55 cA9 H hK9 hP hD hS => ?_)
  have eA9 := jK_one hK9
  rw [eA9] at hP hD
  have hP : va_P D vwCl [(h4, .inr (4, [.ref q8, .int 0, .int 0, .ref q16, .ref q24, .int 0, .ref q32, .ref q40, .ref q48, .null, .null, .null, .int 0, .int 0, .int 0, .int 0, .int 0])), (q8, .inl (cA, 288, .inl (fun _ => 0))), (q16, .inl (cA, 48, .inl (fun _ => 0))), (q24, .inl (cA, 48, .inl (fun _ => 0))), (q32, .inl (cA, 24, .inl (fun _ => 0))), (q40, .inl (cA, 24, .inl (fun _ => 0))), (q48, .inl (cA, 24, .inl (fun _ => 0))), (q55, .inl (cA, 4, .inl (fun _ => 0)))] H := hP
  have hD : va_D A [(h4, .inr (4, [.ref q8, .int 0, .int 0, .ref q16, .ref q24, .int 0, .ref q32, .ref q40, .ref q48, .null, .null, .null, .int 0, .int 0, .int 0, .int 0, .int 0])), (q8, .inl (cA, 288, .inl (fun _ => 0))), (q16, .inl (cA, 48, .inl (fun _ => 0))), (q24, .inl (cA, 48, .inl (fun _ => 0))), (q32, .inl (cA, 24, .inl (fun _ => 0))), (q40, .inl (cA, 24, .inl (fun _ => 0))), (q48, .inl (cA, 24, .inl (fun _ => 0))), (q55, .inl (cA, 4, .inl (fun _ => 0)))] := hD
  refine va_putF (D := D) (ci := 4) (v := .ref q55) (ty := .array .int) (C := RX4) (T := TX4) (N := 17) hx hb hts iw_X4_init_X4 tyX4 tyX4_ok nmX4 hown hK hP hD hS 0 rfl rfl 9 (by decide) (hts (.fieldLink RX4 28 "JumpGuardModel" "reg" "[I") (List.mem_of_getElem? (l := wsX4_init) (i := 11) rfl)) (fun _ h9 => h9) rfl hin rfl (by decide +kernel) rfl rfl (Nat.le_of_ble_eq_true rfl) dX4_init_57 (fun H locs hP hD hS => ?_)
  have hP : va_P D vwCl [(h4, .inr (4, [.ref q8, .int 0, .int 0, .ref q16, .ref q24, .int 0, .ref q32, .ref q40, .ref q48, .ref q55, .null, .null, .int 0, .int 0, .int 0, .int 0, .int 0])), (q8, .inl (cA, 288, .inl (fun _ => 0))), (q16, .inl (cA, 48, .inl (fun _ => 0))), (q24, .inl (cA, 48, .inl (fun _ => 0))), (q32, .inl (cA, 24, .inl (fun _ => 0))), (q40, .inl (cA, 24, .inl (fun _ => 0))), (q48, .inl (cA, 24, .inl (fun _ => 0))), (q55, .inl (cA, 4, .inl (fun _ => 0)))] H := hP
  have hD : va_D A [(h4, .inr (4, [.ref q8, .int 0, .int 0, .ref q16, .ref q24, .int 0, .ref q32, .ref q40, .ref q48, .ref q55, .null, .null, .int 0, .int 0, .int 0, .int 0, .int 0])), (q8, .inl (cA, 288, .inl (fun _ => 0))), (q16, .inl (cA, 48, .inl (fun _ => 0))), (q24, .inl (cA, 48, .inl (fun _ => 0))), (q32, .inl (cA, 24, .inl (fun _ => 0))), (q40, .inl (cA, 24, .inl (fun _ => 0))), (q48, .inl (cA, 24, .inl (fun _ => 0))), (q55, .inl (cA, 4, .inl (fun _ => 0)))] := hD
  refine lv_aload_n hx hb dX4_init_60 rfl (lv_at hl 0 rfl) ?_
  refine lv_bipush (v := 16) hx hb dX4_init_61 (by decide) ?_
  refine va_newa (atype := .int) (N' := 16) (n := 16) (ty := .int) (a0 := (16, .inl (fun _ => 0))) hx hb (hts (.arrayClass .int) (List.mem_of_getElem? (l := wsX4_init) (i := 4) rfl)) rfl hK hP hD hS hA (fun _ => rfl) (by decide) (by decide) (by decide) (Nat.le_of_ble_eq_true rfl) (Nat.le_of_ble_eq_true rfl) dX4_init_63 (fun q63 cA9 H hK9 hP hD hS => ?_)
  have eA9 := jK_one hK9
  rw [eA9] at hP hD
  have hP : va_P D vwCl [(h4, .inr (4, [.ref q8, .int 0, .int 0, .ref q16, .ref q24, .int 0, .ref q32, .ref q40, .ref q48, .ref q55, .null, .null, .int 0, .int 0, .int 0, .int 0, .int 0])), (q8, .inl (cA, 288, .inl (fun _ => 0))), (q16, .inl (cA, 48, .inl (fun _ => 0))), (q24, .inl (cA, 48, .inl (fun _ => 0))), (q32, .inl (cA, 24, .inl (fun _ => 0))), (q40, .inl (cA, 24, .inl (fun _ => 0))), (q48, .inl (cA, 24, .inl (fun _ => 0))), (q55, .inl (cA, 4, .inl (fun _ => 0))), (q63, .inl (cA, 16, .inl (fun _ => 0)))] H := hP
  have hD : va_D A [(h4, .inr (4, [.ref q8, .int 0, .int 0, .ref q16, .ref q24, .int 0, .ref q32, .ref q40, .ref q48, .ref q55, .null, .null, .int 0, .int 0, .int 0, .int 0, .int 0])), (q8, .inl (cA, 288, .inl (fun _ => 0))), (q16, .inl (cA, 48, .inl (fun _ => 0))), (q24, .inl (cA, 48, .inl (fun _ => 0))), (q32, .inl (cA, 24, .inl (fun _ => 0))), (q40, .inl (cA, 24, .inl (fun _ => 0))), (q48, .inl (cA, 24, .inl (fun _ => 0))), (q55, .inl (cA, 4, .inl (fun _ => 0))), (q63, .inl (cA, 16, .inl (fun _ => 0)))] := hD
  refine va_putF (D := D) (ci := 4) (v := .ref q63) (ty := .array .int) (C := RX4) (T := TX4) (N := 17) hx hb hts iw_X4_init_X4 tyX4 tyX4_ok nmX4 hown hK hP hD hS 0 rfl rfl 10 (by decide) (hts (.fieldLink RX4 31 "JumpGuardModel" "mem" "[I") (List.mem_of_getElem? (l := wsX4_init) (i := 12) rfl)) (fun _ h9 => h9) rfl hin rfl (by decide +kernel) rfl rfl (Nat.le_of_ble_eq_true rfl) dX4_init_65 (fun H locs hP hD hS => ?_)
  have hP : va_P D vwCl [(h4, .inr (4, [.ref q8, .int 0, .int 0, .ref q16, .ref q24, .int 0, .ref q32, .ref q40, .ref q48, .ref q55, .ref q63, .null, .int 0, .int 0, .int 0, .int 0, .int 0])), (q8, .inl (cA, 288, .inl (fun _ => 0))), (q16, .inl (cA, 48, .inl (fun _ => 0))), (q24, .inl (cA, 48, .inl (fun _ => 0))), (q32, .inl (cA, 24, .inl (fun _ => 0))), (q40, .inl (cA, 24, .inl (fun _ => 0))), (q48, .inl (cA, 24, .inl (fun _ => 0))), (q55, .inl (cA, 4, .inl (fun _ => 0))), (q63, .inl (cA, 16, .inl (fun _ => 0)))] H := hP
  have hD : va_D A [(h4, .inr (4, [.ref q8, .int 0, .int 0, .ref q16, .ref q24, .int 0, .ref q32, .ref q40, .ref q48, .ref q55, .ref q63, .null, .int 0, .int 0, .int 0, .int 0, .int 0])), (q8, .inl (cA, 288, .inl (fun _ => 0))), (q16, .inl (cA, 48, .inl (fun _ => 0))), (q24, .inl (cA, 48, .inl (fun _ => 0))), (q32, .inl (cA, 24, .inl (fun _ => 0))), (q40, .inl (cA, 24, .inl (fun _ => 0))), (q48, .inl (cA, 24, .inl (fun _ => 0))), (q55, .inl (cA, 4, .inl (fun _ => 0))), (q63, .inl (cA, 16, .inl (fun _ => 0)))] := hD
  refine lv_aload_n hx hb dX4_init_68 rfl (lv_at hl 0 rfl) ?_
  refine lv_bipush (v := 8) hx hb dX4_init_69 (by decide) ?_
  refine va_newa (atype := .int) (N' := 8) (n := 8) (ty := .int) (a0 := (8, .inl (fun _ => 0))) hx hb (hts (.arrayClass .int) (List.mem_of_getElem? (l := wsX4_init) (i := 4) rfl)) rfl hK hP hD hS hA (fun _ => rfl) (by decide) (by decide) (by decide) (Nat.le_of_ble_eq_true rfl) (Nat.le_of_ble_eq_true rfl) dX4_init_71 (fun q71 cA9 H hK9 hP hD hS => ?_)
  have eA9 := jK_one hK9
  rw [eA9] at hP hD
  have hP : va_P D vwCl [(h4, .inr (4, [.ref q8, .int 0, .int 0, .ref q16, .ref q24, .int 0, .ref q32, .ref q40, .ref q48, .ref q55, .ref q63, .null, .int 0, .int 0, .int 0, .int 0, .int 0])), (q8, .inl (cA, 288, .inl (fun _ => 0))), (q16, .inl (cA, 48, .inl (fun _ => 0))), (q24, .inl (cA, 48, .inl (fun _ => 0))), (q32, .inl (cA, 24, .inl (fun _ => 0))), (q40, .inl (cA, 24, .inl (fun _ => 0))), (q48, .inl (cA, 24, .inl (fun _ => 0))), (q55, .inl (cA, 4, .inl (fun _ => 0))), (q63, .inl (cA, 16, .inl (fun _ => 0))), (q71, .inl (cA, 8, .inl (fun _ => 0)))] H := hP
  have hD : va_D A [(h4, .inr (4, [.ref q8, .int 0, .int 0, .ref q16, .ref q24, .int 0, .ref q32, .ref q40, .ref q48, .ref q55, .ref q63, .null, .int 0, .int 0, .int 0, .int 0, .int 0])), (q8, .inl (cA, 288, .inl (fun _ => 0))), (q16, .inl (cA, 48, .inl (fun _ => 0))), (q24, .inl (cA, 48, .inl (fun _ => 0))), (q32, .inl (cA, 24, .inl (fun _ => 0))), (q40, .inl (cA, 24, .inl (fun _ => 0))), (q48, .inl (cA, 24, .inl (fun _ => 0))), (q55, .inl (cA, 4, .inl (fun _ => 0))), (q63, .inl (cA, 16, .inl (fun _ => 0))), (q71, .inl (cA, 8, .inl (fun _ => 0)))] := hD
  refine va_putF (D := D) (ci := 4) (v := .ref q71) (ty := .array .int) (C := RX4) (T := TX4) (N := 17) hx hb hts iw_X4_init_X4 tyX4 tyX4_ok nmX4 hown hK hP hD hS 0 rfl rfl 11 (by decide) (hts (.fieldLink RX4 34 "JumpGuardModel" "told" "[I") (List.mem_of_getElem? (l := wsX4_init) (i := 13) rfl)) (fun _ h9 => h9) rfl hin rfl (by decide +kernel) rfl rfl (Nat.le_of_ble_eq_true rfl) dX4_init_73 (fun H locs hP hD hS => ?_)
  have hP : va_P D vwCl [(h4, .inr (4, [.ref q8, .int 0, .int 0, .ref q16, .ref q24, .int 0, .ref q32, .ref q40, .ref q48, .ref q55, .ref q63, .ref q71, .int 0, .int 0, .int 0, .int 0, .int 0])), (q8, .inl (cA, 288, .inl (fun _ => 0))), (q16, .inl (cA, 48, .inl (fun _ => 0))), (q24, .inl (cA, 48, .inl (fun _ => 0))), (q32, .inl (cA, 24, .inl (fun _ => 0))), (q40, .inl (cA, 24, .inl (fun _ => 0))), (q48, .inl (cA, 24, .inl (fun _ => 0))), (q55, .inl (cA, 4, .inl (fun _ => 0))), (q63, .inl (cA, 16, .inl (fun _ => 0))), (q71, .inl (cA, 8, .inl (fun _ => 0)))] H := hP
  have hD : va_D A [(h4, .inr (4, [.ref q8, .int 0, .int 0, .ref q16, .ref q24, .int 0, .ref q32, .ref q40, .ref q48, .ref q55, .ref q63, .ref q71, .int 0, .int 0, .int 0, .int 0, .int 0])), (q8, .inl (cA, 288, .inl (fun _ => 0))), (q16, .inl (cA, 48, .inl (fun _ => 0))), (q24, .inl (cA, 48, .inl (fun _ => 0))), (q32, .inl (cA, 24, .inl (fun _ => 0))), (q40, .inl (cA, 24, .inl (fun _ => 0))), (q48, .inl (cA, 24, .inl (fun _ => 0))), (q55, .inl (cA, 4, .inl (fun _ => 0))), (q63, .inl (cA, 16, .inl (fun _ => 0))), (q71, .inl (cA, 8, .inl (fun _ => 0)))] := hD
  refine lv_aload_n hx hb dX4_init_76 rfl (lv_at hl 0 rfl) ?_
  refine lv_iconst (v := (-1)) hx hb dX4_init_77 (by decide) ?_
  refine va_put (D := D) (ci := 4) (v := .int (-1)) (ty := .int) (C := RX4) (T := TX4) (N := 17) hx hb hts iw_X4_init_X4 tyX4 tyX4_ok nmX4 hown hK hP hD hS 0 rfl rfl 13 (by decide) (hts (.fieldLink RX4 37 "JumpGuardModel" "state" "I") (List.mem_of_getElem? (l := wsX4_init) (i := 14) rfl)) (fun _ h9 => h9) rfl (by decide +kernel) rfl rfl (Nat.le_of_ble_eq_true rfl) dX4_init_78 (fun H locs hP hD hS => ?_)
  have hP : va_P D vwCl [(h4, .inr (4, [.ref q8, .int 0, .int 0, .ref q16, .ref q24, .int 0, .ref q32, .ref q40, .ref q48, .ref q55, .ref q63, .ref q71, .int 0, .int (-1), .int 0, .int 0, .int 0])), (q8, .inl (cA, 288, .inl (fun _ => 0))), (q16, .inl (cA, 48, .inl (fun _ => 0))), (q24, .inl (cA, 48, .inl (fun _ => 0))), (q32, .inl (cA, 24, .inl (fun _ => 0))), (q40, .inl (cA, 24, .inl (fun _ => 0))), (q48, .inl (cA, 24, .inl (fun _ => 0))), (q55, .inl (cA, 4, .inl (fun _ => 0))), (q63, .inl (cA, 16, .inl (fun _ => 0))), (q71, .inl (cA, 8, .inl (fun _ => 0)))] H := hP
  have hD : va_D A [(h4, .inr (4, [.ref q8, .int 0, .int 0, .ref q16, .ref q24, .int 0, .ref q32, .ref q40, .ref q48, .ref q55, .ref q63, .ref q71, .int 0, .int (-1), .int 0, .int 0, .int 0])), (q8, .inl (cA, 288, .inl (fun _ => 0))), (q16, .inl (cA, 48, .inl (fun _ => 0))), (q24, .inl (cA, 48, .inl (fun _ => 0))), (q32, .inl (cA, 24, .inl (fun _ => 0))), (q40, .inl (cA, 24, .inl (fun _ => 0))), (q48, .inl (cA, 24, .inl (fun _ => 0))), (q55, .inl (cA, 4, .inl (fun _ => 0))), (q63, .inl (cA, 16, .inl (fun _ => 0))), (q71, .inl (cA, 8, .inl (fun _ => 0)))] := hD
  obtain ⟨hP9, hD9⟩ := jk_end (w2 := [(h4, .inr (4, [.ref q8, .int 0, .int 0, .ref q16, .ref q24, .int 0, .ref q32, .ref q40, .ref q48, .ref q55, .ref q63, .ref q71, .int 0, .int (-1), .int 0, .int 0, .int 0])), (q8, .inl (cA, 288, .inl (fun _ => 0))), (q16, .inl (cA, 48, .inl (fun _ => 0))), (q24, .inl (cA, 48, .inl (fun _ => 0))), (q32, .inl (cA, 24, .inl (fun _ => 0))), (q40, .inl (cA, 24, .inl (fun _ => 0))), (q48, .inl (cA, 24, .inl (fun _ => 0))), (q55, .inl (cA, 4, .inl (fun _ => 0))), (q63, .inl (cA, 16, .inl (fun _ => 0))), (q71, .inl (cA, 8, .inl (fun _ => 0)))]) hP hD [0, 1, 2, 3, 4, 5, 6, 7, 8, 9] (by decide) rfl
  have e9 : ([(h4, .inr (4, [.ref q8, .int 0, .int 0, .ref q16, .ref q24, .int 0, .ref q32, .ref q40, .ref q48, .ref q55, .ref q63, .ref q71, .int 0, .int (-1), .int 0, .int 0, .int 0])), (q8, .inl (cA, 288, .inl (fun _ => 0))), (q16, .inl (cA, 48, .inl (fun _ => 0))), (q24, .inl (cA, 48, .inl (fun _ => 0))), (q32, .inl (cA, 24, .inl (fun _ => 0))), (q40, .inl (cA, 24, .inl (fun _ => 0))), (q48, .inl (cA, 24, .inl (fun _ => 0))), (q55, .inl (cA, 4, .inl (fun _ => 0))), (q63, .inl (cA, 16, .inl (fun _ => 0))), (q71, .inl (cA, 8, .inl (fun _ => 0)))] : va_W) = [(h4, .inr (4, [.ref q8, .int (nI 0), .int (nI 0), .ref q16, .ref q24, .int (nI 0), .ref q32, .ref q40, .ref q48, .ref q55, .ref q63, .ref q71, .int 0, .int (-1), .int (nI 0), .int (nI 0), .int (nI 0)])), (q8, .inl (cA, 288, .inl (fun _ => 0))), (q16, .inl (cA, 48, .inl (fun _ => 0))), (q24, .inl (cA, 48, .inl (fun _ => 0))), (q32, .inl (cA, 24, .inl (fun _ => 0))), (q40, .inl (cA, 24, .inl (fun _ => 0))), (q48, .inl (cA, 24, .inl (fun _ => 0))), (q55, .inl (cA, 4, .inl (fun _ => 0))), (q63, .inl (cA, 16, .inl (fun _ => 0))), (q71, .inl (cA, 8, .inl (fun _ => 0)))] := rfl
  rw [e9] at hP9 hD9
  exact W.vret hx hb hr (fun t9 ht9 hW9 => ⟨⟨(fun k => match k with | 0 => q8 | 1 => q16 | 2 => q24 | 3 => q32 | 4 => q40 | 5 => q48 | 6 => q55 | 7 => q63 | _ => q71), rfl, trivial, by rw [ht9]; exact hP9, hD9⟩, hS.F ht9⟩) hS.2.2 dX4_init_81
set_option maxHeartbeats 4000000 in
set_option maxRecDepth 100000 in
theorem c_X4_within (l : Launch) (D : va_G) (cA : ClassId) (x : Int32) (y : Int32) : Met l yX4_within wsX4_within ({ frames := 0, cells := 0, slots := 0, locals := 0 }) (roP D cA [.int x, .int y] []) (QcRead (jB (wI x y))) 0 0 (fun _ => False) := by
  refine Met.ofW (cc := cX4_within) (maxL := 2) (ret := (some .boolean)) (by decide) rfl ?_
  intro p e s m args below meth c s₁ B hml hv
  obtain ⟨rfl, hP, hK, hN⟩ := hv
  have hx := B.exec
  have hb := B.bytes
  have hr := B.returns
  have hts := atoms_spec (ws := wsX4_within) B.pre
  have hown : s.vm.findClass RX4 = some m.cls := findClass_of_methodNamed B.named
  have hlocks := B.notSynchronized
  have hl := lv_entry ([.int x, .int y]) (n := 2) (Nat.le_of_ble_eq_true rfl)
  rw [lg_entry_eq]
  generalize (lg_sl ([.int x, .int y]) ++ List.replicate (2 - (lg_sl ([.int x, .int y])).length) Slot.unset).toArray = ls at hl ⊢
  have hl : lv_has ls 2 [(0, .int x), (1, .int y)] := hl
  refine lv_iload_n hx hb dX4_within_0 rfl (lv_at hl 0 rfl) ?_
  refine lv_if_lt (tgt := 13) hx hb dX4_within_1 (by decide) (fun c_1 => ?_) (fun c_1 => ?_)
  · refine lv_iconst (v := 0) hx hb dX4_within_13 (by decide) ?_
    exact W.zret (ty := .boolean) (v := 0) hx hb hr rfl (fun t9 ht9 hW9 => ⟨jk_ret (show 0 = (jB (wI x y)) from (by first | exact (jB_t ⟨by assumption, by assumption⟩).symm | exact (jB_f (fun h => h.1 (by assumption))).symm | exact (jB_f (fun h => h.2 (by assumption))).symm)), ht9⟩) (fun q h => absurd h List.not_mem_nil) dX4_within_14
  · refine lv_iload_n hx hb dX4_within_4 rfl (lv_at hl 0 rfl) ?_
    refine lv_iload_n hx hb dX4_within_5 rfl (lv_at hl 1 rfl) ?_
    refine lv_icmp_gt (tgt := 13) hx hb dX4_within_6 (by decide) (fun c_6 => ?_) (fun c_6 => ?_)
    · refine lv_iconst (v := 0) hx hb dX4_within_13 (by decide) ?_
      exact W.zret (ty := .boolean) (v := 0) hx hb hr rfl (fun t9 ht9 hW9 => ⟨jk_ret (show 0 = (jB (wI x y)) from (by first | exact (jB_t ⟨by assumption, by assumption⟩).symm | exact (jB_f (fun h => h.1 (by assumption))).symm | exact (jB_f (fun h => h.2 (by assumption))).symm)), ht9⟩) (fun q h => absurd h List.not_mem_nil) dX4_within_14
    · refine lv_iconst (v := 1) hx hb dX4_within_9 (by decide) ?_
      refine lv_goto (tgt := 14) hx hb dX4_within_10 (by decide) ?_
      exact W.zret (ty := .boolean) (v := 1) hx hb hr rfl (fun t9 ht9 hW9 => ⟨jk_ret (show 1 = (jB (wI x y)) from (by first | exact (jB_t ⟨by assumption, by assumption⟩).symm | exact (jB_f (fun h => h.1 (by assumption))).symm | exact (jB_f (fun h => h.2 (by assumption))).symm)), ht9⟩) (fun q h => absurd h List.not_mem_nil) dX4_within_14
set_option maxHeartbeats 4000000 in
set_option maxRecDepth 100000 in
theorem c_X4_fits (l : Launch) (D : va_G) (cA : ClassId) (x : Int32) (y : Int32) (z : Int32) : Met l yX4_fits wsX4_fits ({ frames := 1, cells := 0, slots := 0, locals := 21 }) (roP D cA [.int x, .int y, .int z] []) (QcRead (jB (sI x y z))) 0 0 (fun _ => False) := by
  refine Met.ofW (cc := cX4_fits) (maxL := 3) (ret := (some .boolean)) (by decide) rfl ?_
  intro p e s m args below meth c s₁ B hml hv
  obtain ⟨rfl, hP, hK, hN⟩ := hv
  have hx := B.exec
  have hb := B.bytes
  have hr := B.returns
  have hts := atoms_spec (ws := wsX4_fits) B.pre
  have hown : s.vm.findClass RX4 = some m.cls := findClass_of_methodNamed B.named
  have hlocks := B.notSynchronized
  have hl := lv_entry ([.int x, .int y, .int z]) (n := 3) (Nat.le_of_ble_eq_true rfl)
  rw [lg_entry_eq]
  generalize (lg_sl ([.int x, .int y, .int z]) ++ List.replicate (3 - (lg_sl ([.int x, .int y, .int z])).length) Slot.unset).toArray = ls at hl ⊢
  have hl : lv_has ls 3 [(0, .int x), (1, .int y), (2, .int z)] := hl
  rcases jk_sw x 10 (by decide) with ⟨j, hj, c_x⟩ | c_x
  · rcases (show j = 0 ∨ j = 1 ∨ j = 2 ∨ j = 3 ∨ j = 4 ∨ j = 5 ∨ j = 6 ∨ j = 7 ∨ j = 8 ∨ j = 9 by omega) with rfl | rfl | rfl | rfl | rfl | rfl | rfl | rfl | rfl | rfl
    · subst c_x
      refine lv_iload_n hx hb dX4_fits_0 rfl (lv_at hl 0 rfl) ?_
      refine lv_bipush (v := 9) hx hb dX4_fits_1 (by decide) ?_
      refine jr_i (va_runS (As := [.int (nI 0), .int 9]) (rest := []) ⟨hx, hb, hml, hown, hts⟩ (c_X4_within l D cA (nI 0) 9) (va_cwS 2 hts gX4_fits_X4_within rfl rfl rfl hv_X4_within.2 ⟨Nat.le_of_ble_eq_true rfl, Nat.le_of_ble_eq_true rfl⟩) (roP.S (av := [.int (nI 0), .int 9]) (jP_sub (w2 := []) hP [] rfl) hK hN) rfl rfl hl.1 rfl (lv_room (Nat.le_of_ble_eq_true rfl)) dX4_fits_3 ⟨Nat.le_of_ble_eq_true rfl, Nat.le_of_ble_eq_true rfl⟩) ?_
      refine jk_top (show (jB (wI (nI 0) 9)) = (jB (jIn (nI 0) 10)) from jB_i (wI_c (n := 9) (by decide))) ?_
      refine lv_if_ne (tgt := 11) hx hb dX4_fits_6 (by decide) (fun c_6 => ?_) (fun c_6 => ?_)
      · replace c_6 := jB_nz.mp c_6
        refine lv_iload_n hx hb dX4_fits_11 rfl (lv_at hl 0 rfl) ?_
        refine lv_if_eq (tgt := 31) hx hb dX4_fits_12 (by decide) (fun c_12 => ?_) (fun c_12 => ?_)
        · refine lv_iload_n hx hb dX4_fits_31 rfl (lv_at hl 0 rfl) ?_
          refine lv_iconst (v := 4) hx hb dX4_fits_32 (by decide) ?_
          refine lv_icmp_ne (tgt := 44) hx hb dX4_fits_33 (by decide) (fun c_33 => ?_) (fun c_33 => ?_)
          · refine lv_iload_n hx hb dX4_fits_44 rfl (lv_at hl 0 rfl) ?_
            refine lv_iconst (v := 2) hx hb dX4_fits_45 (by decide) ?_
            refine lv_icmp_eq (tgt := 54) hx hb dX4_fits_46 (by decide) (fun c_46 => ?_) (fun c_46 => ?_)
            · exact absurd c_46 (by decide)
            · refine lv_iload_n hx hb dX4_fits_49 rfl (lv_at hl 0 rfl) ?_
              refine lv_iconst (v := 3) hx hb dX4_fits_50 (by decide) ?_
              refine lv_icmp_ne (tgt := 65) hx hb dX4_fits_51 (by decide) (fun c_51 => ?_) (fun c_51 => ?_)
              · refine lv_iload_n hx hb dX4_fits_65 rfl (lv_at hl 0 rfl) ?_
                refine lv_bipush (v := 6) hx hb dX4_fits_66 (by decide) ?_
                refine lv_icmp_ne (tgt := 82) hx hb dX4_fits_68 (by decide) (fun c_68 => ?_) (fun c_68 => ?_)
                · refine lv_iload_n hx hb dX4_fits_82 rfl (lv_at hl 0 rfl) ?_
                  refine lv_bipush (v := 7) hx hb dX4_fits_83 (by decide) ?_
                  refine lv_icmp_eq (tgt := 94) hx hb dX4_fits_85 (by decide) (fun c_85 => ?_) (fun c_85 => ?_)
                  · exact absurd c_85 (by decide)
                  · refine lv_iload_n hx hb dX4_fits_88 rfl (lv_at hl 0 rfl) ?_
                    refine lv_bipush (v := 9) hx hb dX4_fits_89 (by decide) ?_
                    refine lv_icmp_ne (tgt := 103) hx hb dX4_fits_91 (by decide) (fun c_91 => ?_) (fun c_91 => ?_)
                    · refine lv_iconst (v := 1) hx hb dX4_fits_103 (by decide) ?_
                      refine lv_goto (tgt := 108) hx hb dX4_fits_104 (by decide) ?_
                      exact W.zret (ty := .boolean) (v := 1) hx hb hr rfl (fun t9 ht9 hW9 => ⟨jk_ret (show 1 = (jB (sI (nI 0) y z)) from (jB_t (sI_0 y z)).symm), ht9⟩) (fun q h => absurd h List.not_mem_nil) dX4_fits_108
                    · exact absurd c_91 (by decide)
                · exact absurd c_68 (by decide)
              · exact absurd c_51 (by decide)
          · exact absurd c_33 (by decide)
        · exact absurd c_12 (by decide)
      · replace c_6 := jB_z.mp c_6
        exact absurd ((jIn_n (n := 10) (by decide)).mpr (by decide)).1 c_6
    · subst c_x
      refine lv_iload_n hx hb dX4_fits_0 rfl (lv_at hl 0 rfl) ?_
      refine lv_bipush (v := 9) hx hb dX4_fits_1 (by decide) ?_
      refine jr_i (va_runS (As := [.int (nI 1), .int 9]) (rest := []) ⟨hx, hb, hml, hown, hts⟩ (c_X4_within l D cA (nI 1) 9) (va_cwS 2 hts gX4_fits_X4_within rfl rfl rfl hv_X4_within.2 ⟨Nat.le_of_ble_eq_true rfl, Nat.le_of_ble_eq_true rfl⟩) (roP.S (av := [.int (nI 1), .int 9]) (jP_sub (w2 := []) hP [] rfl) hK hN) rfl rfl hl.1 rfl (lv_room (Nat.le_of_ble_eq_true rfl)) dX4_fits_3 ⟨Nat.le_of_ble_eq_true rfl, Nat.le_of_ble_eq_true rfl⟩) ?_
      refine jk_top (show (jB (wI (nI 1) 9)) = (jB (jIn (nI 1) 10)) from jB_i (wI_c (n := 9) (by decide))) ?_
      refine lv_if_ne (tgt := 11) hx hb dX4_fits_6 (by decide) (fun c_6 => ?_) (fun c_6 => ?_)
      · replace c_6 := jB_nz.mp c_6
        refine lv_iload_n hx hb dX4_fits_11 rfl (lv_at hl 0 rfl) ?_
        refine lv_if_eq (tgt := 31) hx hb dX4_fits_12 (by decide) (fun c_12 => ?_) (fun c_12 => ?_)
        · exact absurd c_12 (by decide)
        · refine lv_iload_n hx hb dX4_fits_15 rfl (lv_at hl 0 rfl) ?_
          refine lv_bipush (v := 6) hx hb dX4_fits_16 (by decide) ?_
          refine lv_icmp_eq (tgt := 31) hx hb dX4_fits_18 (by decide) (fun c_18 => ?_) (fun c_18 => ?_)
          · exact absurd c_18 (by decide)
          · refine lv_iload_n hx hb dX4_fits_21 rfl (lv_at hl 1 rfl) ?_
            refine lv_iconst (v := 3) hx hb dX4_fits_22 (by decide) ?_
            refine jr_i (va_runS (As := [.int y, .int 3]) (rest := []) ⟨hx, hb, hml, hown, hts⟩ (c_X4_within l D cA y 3) (va_cwS 2 hts gX4_fits_X4_within rfl rfl rfl hv_X4_within.2 ⟨Nat.le_of_ble_eq_true rfl, Nat.le_of_ble_eq_true rfl⟩) (roP.S (av := [.int y, .int 3]) (jP_sub (w2 := []) hP [] rfl) hK hN) rfl rfl hl.1 rfl (lv_room (Nat.le_of_ble_eq_true rfl)) dX4_fits_23 ⟨Nat.le_of_ble_eq_true rfl, Nat.le_of_ble_eq_true rfl⟩) ?_
            refine jk_top (show (jB (wI y 3)) = (jB (jIn y 4)) from jB_i (wI_c (n := 3) (by decide))) ?_
            refine lv_if_ne (tgt := 31) hx hb dX4_fits_26 (by decide) (fun c_26 => ?_) (fun c_26 => ?_)
            · replace c_26 := jB_nz.mp c_26
              refine lv_iload_n hx hb dX4_fits_31 rfl (lv_at hl 0 rfl) ?_
              refine lv_iconst (v := 4) hx hb dX4_fits_32 (by decide) ?_
              refine lv_icmp_ne (tgt := 44) hx hb dX4_fits_33 (by decide) (fun c_33 => ?_) (fun c_33 => ?_)
              · refine lv_iload_n hx hb dX4_fits_44 rfl (lv_at hl 0 rfl) ?_
                refine lv_iconst (v := 2) hx hb dX4_fits_45 (by decide) ?_
                refine lv_icmp_eq (tgt := 54) hx hb dX4_fits_46 (by decide) (fun c_46 => ?_) (fun c_46 => ?_)
                · exact absurd c_46 (by decide)
                · refine lv_iload_n hx hb dX4_fits_49 rfl (lv_at hl 0 rfl) ?_
                  refine lv_iconst (v := 3) hx hb dX4_fits_50 (by decide) ?_
                  refine lv_icmp_ne (tgt := 65) hx hb dX4_fits_51 (by decide) (fun c_51 => ?_) (fun c_51 => ?_)
                  · refine lv_iload_n hx hb dX4_fits_65 rfl (lv_at hl 0 rfl) ?_
                    refine lv_bipush (v := 6) hx hb dX4_fits_66 (by decide) ?_
                    refine lv_icmp_ne (tgt := 82) hx hb dX4_fits_68 (by decide) (fun c_68 => ?_) (fun c_68 => ?_)
                    · refine lv_iload_n hx hb dX4_fits_82 rfl (lv_at hl 0 rfl) ?_
                      refine lv_bipush (v := 7) hx hb dX4_fits_83 (by decide) ?_
                      refine lv_icmp_eq (tgt := 94) hx hb dX4_fits_85 (by decide) (fun c_85 => ?_) (fun c_85 => ?_)
                      · exact absurd c_85 (by decide)
                      · refine lv_iload_n hx hb dX4_fits_88 rfl (lv_at hl 0 rfl) ?_
                        refine lv_bipush (v := 9) hx hb dX4_fits_89 (by decide) ?_
                        refine lv_icmp_ne (tgt := 103) hx hb dX4_fits_91 (by decide) (fun c_91 => ?_) (fun c_91 => ?_)
                        · refine lv_iconst (v := 1) hx hb dX4_fits_103 (by decide) ?_
                          refine lv_goto (tgt := 108) hx hb dX4_fits_104 (by decide) ?_
                          exact W.zret (ty := .boolean) (v := 1) hx hb hr rfl (fun t9 ht9 hW9 => ⟨jk_ret (show 1 = (jB (sI (nI 1) y z)) from (jB_t ((sI_158 (Or.inl rfl)).mpr (by first | assumption | exact ⟨by assumption, by assumption⟩))).symm), ht9⟩) (fun q h => absurd h List.not_mem_nil) dX4_fits_108
                        · exact absurd c_91 (by decide)
                    · exact absurd c_68 (by decide)
                  · exact absurd c_51 (by decide)
              · exact absurd c_33 (by decide)
            · replace c_26 := jB_z.mp c_26
              refine lv_iconst (v := 0) hx hb dX4_fits_29 (by decide) ?_
              exact W.zret (ty := .boolean) (v := 0) hx hb hr rfl (fun t9 ht9 hW9 => ⟨jk_ret (show 0 = (jB (sI (nI 1) y z)) from (jB_f (fun h => by have h := (sI_158 (Or.inl rfl)).mp h; first | exact absurd h (by assumption) | exact absurd h.1 (by assumption) | exact absurd h.2 (by assumption))).symm), ht9⟩) (fun q h => absurd h List.not_mem_nil) dX4_fits_30
      · replace c_6 := jB_z.mp c_6
        exact absurd ((jIn_n (n := 10) (by decide)).mpr (by decide)).1 c_6
    · subst c_x
      refine lv_iload_n hx hb dX4_fits_0 rfl (lv_at hl 0 rfl) ?_
      refine lv_bipush (v := 9) hx hb dX4_fits_1 (by decide) ?_
      refine jr_i (va_runS (As := [.int (nI 2), .int 9]) (rest := []) ⟨hx, hb, hml, hown, hts⟩ (c_X4_within l D cA (nI 2) 9) (va_cwS 2 hts gX4_fits_X4_within rfl rfl rfl hv_X4_within.2 ⟨Nat.le_of_ble_eq_true rfl, Nat.le_of_ble_eq_true rfl⟩) (roP.S (av := [.int (nI 2), .int 9]) (jP_sub (w2 := []) hP [] rfl) hK hN) rfl rfl hl.1 rfl (lv_room (Nat.le_of_ble_eq_true rfl)) dX4_fits_3 ⟨Nat.le_of_ble_eq_true rfl, Nat.le_of_ble_eq_true rfl⟩) ?_
      refine jk_top (show (jB (wI (nI 2) 9)) = (jB (jIn (nI 2) 10)) from jB_i (wI_c (n := 9) (by decide))) ?_
      refine lv_if_ne (tgt := 11) hx hb dX4_fits_6 (by decide) (fun c_6 => ?_) (fun c_6 => ?_)
      · replace c_6 := jB_nz.mp c_6
        refine lv_iload_n hx hb dX4_fits_11 rfl (lv_at hl 0 rfl) ?_
        refine lv_if_eq (tgt := 31) hx hb dX4_fits_12 (by decide) (fun c_12 => ?_) (fun c_12 => ?_)
        · exact absurd c_12 (by decide)
        · refine lv_iload_n hx hb dX4_fits_15 rfl (lv_at hl 0 rfl) ?_
          refine lv_bipush (v := 6) hx hb dX4_fits_16 (by decide) ?_
          refine lv_icmp_eq (tgt := 31) hx hb dX4_fits_18 (by decide) (fun c_18 => ?_) (fun c_18 => ?_)
          · exact absurd c_18 (by decide)
          · refine lv_iload_n hx hb dX4_fits_21 rfl (lv_at hl 1 rfl) ?_
            refine lv_iconst (v := 3) hx hb dX4_fits_22 (by decide) ?_
            refine jr_i (va_runS (As := [.int y, .int 3]) (rest := []) ⟨hx, hb, hml, hown, hts⟩ (c_X4_within l D cA y 3) (va_cwS 2 hts gX4_fits_X4_within rfl rfl rfl hv_X4_within.2 ⟨Nat.le_of_ble_eq_true rfl, Nat.le_of_ble_eq_true rfl⟩) (roP.S (av := [.int y, .int 3]) (jP_sub (w2 := []) hP [] rfl) hK hN) rfl rfl hl.1 rfl (lv_room (Nat.le_of_ble_eq_true rfl)) dX4_fits_23 ⟨Nat.le_of_ble_eq_true rfl, Nat.le_of_ble_eq_true rfl⟩) ?_
            refine jk_top (show (jB (wI y 3)) = (jB (jIn y 4)) from jB_i (wI_c (n := 3) (by decide))) ?_
            refine lv_if_ne (tgt := 31) hx hb dX4_fits_26 (by decide) (fun c_26 => ?_) (fun c_26 => ?_)
            · replace c_26 := jB_nz.mp c_26
              refine lv_iload_n hx hb dX4_fits_31 rfl (lv_at hl 0 rfl) ?_
              refine lv_iconst (v := 4) hx hb dX4_fits_32 (by decide) ?_
              refine lv_icmp_ne (tgt := 44) hx hb dX4_fits_33 (by decide) (fun c_33 => ?_) (fun c_33 => ?_)
              · refine lv_iload_n hx hb dX4_fits_44 rfl (lv_at hl 0 rfl) ?_
                refine lv_iconst (v := 2) hx hb dX4_fits_45 (by decide) ?_
                refine lv_icmp_eq (tgt := 54) hx hb dX4_fits_46 (by decide) (fun c_46 => ?_) (fun c_46 => ?_)
                · refine lv_iload_n hx hb dX4_fits_54 rfl (lv_at hl 2 rfl) ?_
                  refine lv_bipush (v := 15) hx hb dX4_fits_55 (by decide) ?_
                  refine jr_i (va_runS (As := [.int z, .int 15]) (rest := []) ⟨hx, hb, hml, hown, hts⟩ (c_X4_within l D cA z 15) (va_cwS 2 hts gX4_fits_X4_within rfl rfl rfl hv_X4_within.2 ⟨Nat.le_of_ble_eq_true rfl, Nat.le_of_ble_eq_true rfl⟩) (roP.S (av := [.int z, .int 15]) (jP_sub (w2 := []) hP [] rfl) hK hN) rfl rfl hl.1 rfl (lv_room (Nat.le_of_ble_eq_true rfl)) dX4_fits_57 ⟨Nat.le_of_ble_eq_true rfl, Nat.le_of_ble_eq_true rfl⟩) ?_
                  refine jk_top (show (jB (wI z 15)) = (jB (jIn z 16)) from jB_i (wI_c (n := 15) (by decide))) ?_
                  refine lv_if_ne (tgt := 65) hx hb dX4_fits_60 (by decide) (fun c_60 => ?_) (fun c_60 => ?_)
                  · replace c_60 := jB_nz.mp c_60
                    refine lv_iload_n hx hb dX4_fits_65 rfl (lv_at hl 0 rfl) ?_
                    refine lv_bipush (v := 6) hx hb dX4_fits_66 (by decide) ?_
                    refine lv_icmp_ne (tgt := 82) hx hb dX4_fits_68 (by decide) (fun c_68 => ?_) (fun c_68 => ?_)
                    · refine lv_iload_n hx hb dX4_fits_82 rfl (lv_at hl 0 rfl) ?_
                      refine lv_bipush (v := 7) hx hb dX4_fits_83 (by decide) ?_
                      refine lv_icmp_eq (tgt := 94) hx hb dX4_fits_85 (by decide) (fun c_85 => ?_) (fun c_85 => ?_)
                      · exact absurd c_85 (by decide)
                      · refine lv_iload_n hx hb dX4_fits_88 rfl (lv_at hl 0 rfl) ?_
                        refine lv_bipush (v := 9) hx hb dX4_fits_89 (by decide) ?_
                        refine lv_icmp_ne (tgt := 103) hx hb dX4_fits_91 (by decide) (fun c_91 => ?_) (fun c_91 => ?_)
                        · refine lv_iconst (v := 1) hx hb dX4_fits_103 (by decide) ?_
                          refine lv_goto (tgt := 108) hx hb dX4_fits_104 (by decide) ?_
                          exact W.zret (ty := .boolean) (v := 1) hx hb hr rfl (fun t9 ht9 hW9 => ⟨jk_ret (show 1 = (jB (sI (nI 2) y z)) from (jB_t ((sI_23 (Or.inl rfl)).mpr (by first | assumption | exact ⟨by assumption, by assumption⟩))).symm), ht9⟩) (fun q h => absurd h List.not_mem_nil) dX4_fits_108
                        · exact absurd c_91 (by decide)
                    · exact absurd c_68 (by decide)
                  · replace c_60 := jB_z.mp c_60
                    refine lv_iconst (v := 0) hx hb dX4_fits_63 (by decide) ?_
                    exact W.zret (ty := .boolean) (v := 0) hx hb hr rfl (fun t9 ht9 hW9 => ⟨jk_ret (show 0 = (jB (sI (nI 2) y z)) from (jB_f (fun h => by have h := (sI_23 (Or.inl rfl)).mp h; first | exact absurd h (by assumption) | exact absurd h.1 (by assumption) | exact absurd h.2 (by assumption))).symm), ht9⟩) (fun q h => absurd h List.not_mem_nil) dX4_fits_64
                · exact absurd c_46 (by decide)
              · exact absurd c_33 (by decide)
            · replace c_26 := jB_z.mp c_26
              refine lv_iconst (v := 0) hx hb dX4_fits_29 (by decide) ?_
              exact W.zret (ty := .boolean) (v := 0) hx hb hr rfl (fun t9 ht9 hW9 => ⟨jk_ret (show 0 = (jB (sI (nI 2) y z)) from (jB_f (fun h => by have h := (sI_23 (Or.inl rfl)).mp h; first | exact absurd h (by assumption) | exact absurd h.1 (by assumption) | exact absurd h.2 (by assumption))).symm), ht9⟩) (fun q h => absurd h List.not_mem_nil) dX4_fits_30
      · replace c_6 := jB_z.mp c_6
        exact absurd ((jIn_n (n := 10) (by decide)).mpr (by decide)).1 c_6
    · subst c_x
      refine lv_iload_n hx hb dX4_fits_0 rfl (lv_at hl 0 rfl) ?_
      refine lv_bipush (v := 9) hx hb dX4_fits_1 (by decide) ?_
      refine jr_i (va_runS (As := [.int (nI 3), .int 9]) (rest := []) ⟨hx, hb, hml, hown, hts⟩ (c_X4_within l D cA (nI 3) 9) (va_cwS 2 hts gX4_fits_X4_within rfl rfl rfl hv_X4_within.2 ⟨Nat.le_of_ble_eq_true rfl, Nat.le_of_ble_eq_true rfl⟩) (roP.S (av := [.int (nI 3), .int 9]) (jP_sub (w2 := []) hP [] rfl) hK hN) rfl rfl hl.1 rfl (lv_room (Nat.le_of_ble_eq_true rfl)) dX4_fits_3 ⟨Nat.le_of_ble_eq_true rfl, Nat.le_of_ble_eq_true rfl⟩) ?_
      refine jk_top (show (jB (wI (nI 3) 9)) = (jB (jIn (nI 3) 10)) from jB_i (wI_c (n := 9) (by decide))) ?_
      refine lv_if_ne (tgt := 11) hx hb dX4_fits_6 (by decide) (fun c_6 => ?_) (fun c_6 => ?_)
      · replace c_6 := jB_nz.mp c_6
        refine lv_iload_n hx hb dX4_fits_11 rfl (lv_at hl 0 rfl) ?_
        refine lv_if_eq (tgt := 31) hx hb dX4_fits_12 (by decide) (fun c_12 => ?_) (fun c_12 => ?_)
        · exact absurd c_12 (by decide)
        · refine lv_iload_n hx hb dX4_fits_15 rfl (lv_at hl 0 rfl) ?_
          refine lv_bipush (v := 6) hx hb dX4_fits_16 (by decide) ?_
          refine lv_icmp_eq (tgt := 31) hx hb dX4_fits_18 (by decide) (fun c_18 => ?_) (fun c_18 => ?_)
          · exact absurd c_18 (by decide)
          · refine lv_iload_n hx hb dX4_fits_21 rfl (lv_at hl 1 rfl) ?_
            refine lv_iconst (v := 3) hx hb dX4_fits_22 (by decide) ?_
            refine jr_i (va_runS (As := [.int y, .int 3]) (rest := []) ⟨hx, hb, hml, hown, hts⟩ (c_X4_within l D cA y 3) (va_cwS 2 hts gX4_fits_X4_within rfl rfl rfl hv_X4_within.2 ⟨Nat.le_of_ble_eq_true rfl, Nat.le_of_ble_eq_true rfl⟩) (roP.S (av := [.int y, .int 3]) (jP_sub (w2 := []) hP [] rfl) hK hN) rfl rfl hl.1 rfl (lv_room (Nat.le_of_ble_eq_true rfl)) dX4_fits_23 ⟨Nat.le_of_ble_eq_true rfl, Nat.le_of_ble_eq_true rfl⟩) ?_
            refine jk_top (show (jB (wI y 3)) = (jB (jIn y 4)) from jB_i (wI_c (n := 3) (by decide))) ?_
            refine lv_if_ne (tgt := 31) hx hb dX4_fits_26 (by decide) (fun c_26 => ?_) (fun c_26 => ?_)
            · replace c_26 := jB_nz.mp c_26
              refine lv_iload_n hx hb dX4_fits_31 rfl (lv_at hl 0 rfl) ?_
              refine lv_iconst (v := 4) hx hb dX4_fits_32 (by decide) ?_
              refine lv_icmp_ne (tgt := 44) hx hb dX4_fits_33 (by decide) (fun c_33 => ?_) (fun c_33 => ?_)
              · refine lv_iload_n hx hb dX4_fits_44 rfl (lv_at hl 0 rfl) ?_
                refine lv_iconst (v := 2) hx hb dX4_fits_45 (by decide) ?_
                refine lv_icmp_eq (tgt := 54) hx hb dX4_fits_46 (by decide) (fun c_46 => ?_) (fun c_46 => ?_)
                · exact absurd c_46 (by decide)
                · refine lv_iload_n hx hb dX4_fits_49 rfl (lv_at hl 0 rfl) ?_
                  refine lv_iconst (v := 3) hx hb dX4_fits_50 (by decide) ?_
                  refine lv_icmp_ne (tgt := 65) hx hb dX4_fits_51 (by decide) (fun c_51 => ?_) (fun c_51 => ?_)
                  · exact absurd c_51 (by decide)
                  · refine lv_iload_n hx hb dX4_fits_54 rfl (lv_at hl 2 rfl) ?_
                    refine lv_bipush (v := 15) hx hb dX4_fits_55 (by decide) ?_
                    refine jr_i (va_runS (As := [.int z, .int 15]) (rest := []) ⟨hx, hb, hml, hown, hts⟩ (c_X4_within l D cA z 15) (va_cwS 2 hts gX4_fits_X4_within rfl rfl rfl hv_X4_within.2 ⟨Nat.le_of_ble_eq_true rfl, Nat.le_of_ble_eq_true rfl⟩) (roP.S (av := [.int z, .int 15]) (jP_sub (w2 := []) hP [] rfl) hK hN) rfl rfl hl.1 rfl (lv_room (Nat.le_of_ble_eq_true rfl)) dX4_fits_57 ⟨Nat.le_of_ble_eq_true rfl, Nat.le_of_ble_eq_true rfl⟩) ?_
                    refine jk_top (show (jB (wI z 15)) = (jB (jIn z 16)) from jB_i (wI_c (n := 15) (by decide))) ?_
                    refine lv_if_ne (tgt := 65) hx hb dX4_fits_60 (by decide) (fun c_60 => ?_) (fun c_60 => ?_)
                    · replace c_60 := jB_nz.mp c_60
                      refine lv_iload_n hx hb dX4_fits_65 rfl (lv_at hl 0 rfl) ?_
                      refine lv_bipush (v := 6) hx hb dX4_fits_66 (by decide) ?_
                      refine lv_icmp_ne (tgt := 82) hx hb dX4_fits_68 (by decide) (fun c_68 => ?_) (fun c_68 => ?_)
                      · refine lv_iload_n hx hb dX4_fits_82 rfl (lv_at hl 0 rfl) ?_
                        refine lv_bipush (v := 7) hx hb dX4_fits_83 (by decide) ?_
                        refine lv_icmp_eq (tgt := 94) hx hb dX4_fits_85 (by decide) (fun c_85 => ?_) (fun c_85 => ?_)
                        · exact absurd c_85 (by decide)
                        · refine lv_iload_n hx hb dX4_fits_88 rfl (lv_at hl 0 rfl) ?_
                          refine lv_bipush (v := 9) hx hb dX4_fits_89 (by decide) ?_
                          refine lv_icmp_ne (tgt := 103) hx hb dX4_fits_91 (by decide) (fun c_91 => ?_) (fun c_91 => ?_)
                          · refine lv_iconst (v := 1) hx hb dX4_fits_103 (by decide) ?_
                            refine lv_goto (tgt := 108) hx hb dX4_fits_104 (by decide) ?_
                            exact W.zret (ty := .boolean) (v := 1) hx hb hr rfl (fun t9 ht9 hW9 => ⟨jk_ret (show 1 = (jB (sI (nI 3) y z)) from (jB_t ((sI_23 (Or.inr rfl)).mpr (by first | assumption | exact ⟨by assumption, by assumption⟩))).symm), ht9⟩) (fun q h => absurd h List.not_mem_nil) dX4_fits_108
                          · exact absurd c_91 (by decide)
                      · exact absurd c_68 (by decide)
                    · replace c_60 := jB_z.mp c_60
                      refine lv_iconst (v := 0) hx hb dX4_fits_63 (by decide) ?_
                      exact W.zret (ty := .boolean) (v := 0) hx hb hr rfl (fun t9 ht9 hW9 => ⟨jk_ret (show 0 = (jB (sI (nI 3) y z)) from (jB_f (fun h => by have h := (sI_23 (Or.inr rfl)).mp h; first | exact absurd h (by assumption) | exact absurd h.1 (by assumption) | exact absurd h.2 (by assumption))).symm), ht9⟩) (fun q h => absurd h List.not_mem_nil) dX4_fits_64
              · exact absurd c_33 (by decide)
            · replace c_26 := jB_z.mp c_26
              refine lv_iconst (v := 0) hx hb dX4_fits_29 (by decide) ?_
              exact W.zret (ty := .boolean) (v := 0) hx hb hr rfl (fun t9 ht9 hW9 => ⟨jk_ret (show 0 = (jB (sI (nI 3) y z)) from (jB_f (fun h => by have h := (sI_23 (Or.inr rfl)).mp h; first | exact absurd h (by assumption) | exact absurd h.1 (by assumption) | exact absurd h.2 (by assumption))).symm), ht9⟩) (fun q h => absurd h List.not_mem_nil) dX4_fits_30
      · replace c_6 := jB_z.mp c_6
        exact absurd ((jIn_n (n := 10) (by decide)).mpr (by decide)).1 c_6
    · subst c_x
      refine lv_iload_n hx hb dX4_fits_0 rfl (lv_at hl 0 rfl) ?_
      refine lv_bipush (v := 9) hx hb dX4_fits_1 (by decide) ?_
      refine jr_i (va_runS (As := [.int (nI 4), .int 9]) (rest := []) ⟨hx, hb, hml, hown, hts⟩ (c_X4_within l D cA (nI 4) 9) (va_cwS 2 hts gX4_fits_X4_within rfl rfl rfl hv_X4_within.2 ⟨Nat.le_of_ble_eq_true rfl, Nat.le_of_ble_eq_true rfl⟩) (roP.S (av := [.int (nI 4), .int 9]) (jP_sub (w2 := []) hP [] rfl) hK hN) rfl rfl hl.1 rfl (lv_room (Nat.le_of_ble_eq_true rfl)) dX4_fits_3 ⟨Nat.le_of_ble_eq_true rfl, Nat.le_of_ble_eq_true rfl⟩) ?_
      refine jk_top (show (jB (wI (nI 4) 9)) = (jB (jIn (nI 4) 10)) from jB_i (wI_c (n := 9) (by decide))) ?_
      refine lv_if_ne (tgt := 11) hx hb dX4_fits_6 (by decide) (fun c_6 => ?_) (fun c_6 => ?_)
      · replace c_6 := jB_nz.mp c_6
        refine lv_iload_n hx hb dX4_fits_11 rfl (lv_at hl 0 rfl) ?_
        refine lv_if_eq (tgt := 31) hx hb dX4_fits_12 (by decide) (fun c_12 => ?_) (fun c_12 => ?_)
        · exact absurd c_12 (by decide)
        · refine lv_iload_n hx hb dX4_fits_15 rfl (lv_at hl 0 rfl) ?_
          refine lv_bipush (v := 6) hx hb dX4_fits_16 (by decide) ?_
          refine lv_icmp_eq (tgt := 31) hx hb dX4_fits_18 (by decide) (fun c_18 => ?_) (fun c_18 => ?_)
          · exact absurd c_18 (by decide)
          · refine lv_iload_n hx hb dX4_fits_21 rfl (lv_at hl 1 rfl) ?_
            refine lv_iconst (v := 3) hx hb dX4_fits_22 (by decide) ?_
            refine jr_i (va_runS (As := [.int y, .int 3]) (rest := []) ⟨hx, hb, hml, hown, hts⟩ (c_X4_within l D cA y 3) (va_cwS 2 hts gX4_fits_X4_within rfl rfl rfl hv_X4_within.2 ⟨Nat.le_of_ble_eq_true rfl, Nat.le_of_ble_eq_true rfl⟩) (roP.S (av := [.int y, .int 3]) (jP_sub (w2 := []) hP [] rfl) hK hN) rfl rfl hl.1 rfl (lv_room (Nat.le_of_ble_eq_true rfl)) dX4_fits_23 ⟨Nat.le_of_ble_eq_true rfl, Nat.le_of_ble_eq_true rfl⟩) ?_
            refine jk_top (show (jB (wI y 3)) = (jB (jIn y 4)) from jB_i (wI_c (n := 3) (by decide))) ?_
            refine lv_if_ne (tgt := 31) hx hb dX4_fits_26 (by decide) (fun c_26 => ?_) (fun c_26 => ?_)
            · replace c_26 := jB_nz.mp c_26
              refine lv_iload_n hx hb dX4_fits_31 rfl (lv_at hl 0 rfl) ?_
              refine lv_iconst (v := 4) hx hb dX4_fits_32 (by decide) ?_
              refine lv_icmp_ne (tgt := 44) hx hb dX4_fits_33 (by decide) (fun c_33 => ?_) (fun c_33 => ?_)
              · exact absurd c_33 (by decide)
              · refine lv_iload_n hx hb dX4_fits_36 rfl (lv_at hl 2 rfl) ?_
                refine lv_iconst (v := 3) hx hb dX4_fits_37 (by decide) ?_
                refine jr_i (va_runS (As := [.int z, .int 3]) (rest := []) ⟨hx, hb, hml, hown, hts⟩ (c_X4_within l D cA z 3) (va_cwS 2 hts gX4_fits_X4_within rfl rfl rfl hv_X4_within.2 ⟨Nat.le_of_ble_eq_true rfl, Nat.le_of_ble_eq_true rfl⟩) (roP.S (av := [.int z, .int 3]) (jP_sub (w2 := []) hP [] rfl) hK hN) rfl rfl hl.1 rfl (lv_room (Nat.le_of_ble_eq_true rfl)) dX4_fits_38 ⟨Nat.le_of_ble_eq_true rfl, Nat.le_of_ble_eq_true rfl⟩) ?_
                refine jk_top (show (jB (wI z 3)) = (jB (jIn z 4)) from jB_i (wI_c (n := 3) (by decide))) ?_
                refine lv_if_eq (tgt := 63) hx hb dX4_fits_41 (by decide) (fun c_41 => ?_) (fun c_41 => ?_)
                · replace c_41 := jB_z.mp c_41
                  refine lv_iconst (v := 0) hx hb dX4_fits_63 (by decide) ?_
                  exact W.zret (ty := .boolean) (v := 0) hx hb hr rfl (fun t9 ht9 hW9 => ⟨jk_ret (show 0 = (jB (sI (nI 4) y z)) from (jB_f (fun h => by have h := (sI_4 rfl).mp h; first | exact absurd h (by assumption) | exact absurd h.1 (by assumption) | exact absurd h.2 (by assumption))).symm), ht9⟩) (fun q h => absurd h List.not_mem_nil) dX4_fits_64
                · replace c_41 := jB_nz.mp c_41
                  refine lv_iload_n hx hb dX4_fits_44 rfl (lv_at hl 0 rfl) ?_
                  refine lv_iconst (v := 2) hx hb dX4_fits_45 (by decide) ?_
                  refine lv_icmp_eq (tgt := 54) hx hb dX4_fits_46 (by decide) (fun c_46 => ?_) (fun c_46 => ?_)
                  · exact absurd c_46 (by decide)
                  · refine lv_iload_n hx hb dX4_fits_49 rfl (lv_at hl 0 rfl) ?_
                    refine lv_iconst (v := 3) hx hb dX4_fits_50 (by decide) ?_
                    refine lv_icmp_ne (tgt := 65) hx hb dX4_fits_51 (by decide) (fun c_51 => ?_) (fun c_51 => ?_)
                    · refine lv_iload_n hx hb dX4_fits_65 rfl (lv_at hl 0 rfl) ?_
                      refine lv_bipush (v := 6) hx hb dX4_fits_66 (by decide) ?_
                      refine lv_icmp_ne (tgt := 82) hx hb dX4_fits_68 (by decide) (fun c_68 => ?_) (fun c_68 => ?_)
                      · refine lv_iload_n hx hb dX4_fits_82 rfl (lv_at hl 0 rfl) ?_
                        refine lv_bipush (v := 7) hx hb dX4_fits_83 (by decide) ?_
                        refine lv_icmp_eq (tgt := 94) hx hb dX4_fits_85 (by decide) (fun c_85 => ?_) (fun c_85 => ?_)
                        · exact absurd c_85 (by decide)
                        · refine lv_iload_n hx hb dX4_fits_88 rfl (lv_at hl 0 rfl) ?_
                          refine lv_bipush (v := 9) hx hb dX4_fits_89 (by decide) ?_
                          refine lv_icmp_ne (tgt := 103) hx hb dX4_fits_91 (by decide) (fun c_91 => ?_) (fun c_91 => ?_)
                          · refine lv_iconst (v := 1) hx hb dX4_fits_103 (by decide) ?_
                            refine lv_goto (tgt := 108) hx hb dX4_fits_104 (by decide) ?_
                            exact W.zret (ty := .boolean) (v := 1) hx hb hr rfl (fun t9 ht9 hW9 => ⟨jk_ret (show 1 = (jB (sI (nI 4) y z)) from (jB_t ((sI_4 rfl).mpr (by first | assumption | exact ⟨by assumption, by assumption⟩))).symm), ht9⟩) (fun q h => absurd h List.not_mem_nil) dX4_fits_108
                          · exact absurd c_91 (by decide)
                      · exact absurd c_68 (by decide)
                    · exact absurd c_51 (by decide)
            · replace c_26 := jB_z.mp c_26
              refine lv_iconst (v := 0) hx hb dX4_fits_29 (by decide) ?_
              exact W.zret (ty := .boolean) (v := 0) hx hb hr rfl (fun t9 ht9 hW9 => ⟨jk_ret (show 0 = (jB (sI (nI 4) y z)) from (jB_f (fun h => by have h := (sI_4 rfl).mp h; first | exact absurd h (by assumption) | exact absurd h.1 (by assumption) | exact absurd h.2 (by assumption))).symm), ht9⟩) (fun q h => absurd h List.not_mem_nil) dX4_fits_30
      · replace c_6 := jB_z.mp c_6
        exact absurd ((jIn_n (n := 10) (by decide)).mpr (by decide)).1 c_6
    · subst c_x
      refine lv_iload_n hx hb dX4_fits_0 rfl (lv_at hl 0 rfl) ?_
      refine lv_bipush (v := 9) hx hb dX4_fits_1 (by decide) ?_
      refine jr_i (va_runS (As := [.int (nI 5), .int 9]) (rest := []) ⟨hx, hb, hml, hown, hts⟩ (c_X4_within l D cA (nI 5) 9) (va_cwS 2 hts gX4_fits_X4_within rfl rfl rfl hv_X4_within.2 ⟨Nat.le_of_ble_eq_true rfl, Nat.le_of_ble_eq_true rfl⟩) (roP.S (av := [.int (nI 5), .int 9]) (jP_sub (w2 := []) hP [] rfl) hK hN) rfl rfl hl.1 rfl (lv_room (Nat.le_of_ble_eq_true rfl)) dX4_fits_3 ⟨Nat.le_of_ble_eq_true rfl, Nat.le_of_ble_eq_true rfl⟩) ?_
      refine jk_top (show (jB (wI (nI 5) 9)) = (jB (jIn (nI 5) 10)) from jB_i (wI_c (n := 9) (by decide))) ?_
      refine lv_if_ne (tgt := 11) hx hb dX4_fits_6 (by decide) (fun c_6 => ?_) (fun c_6 => ?_)
      · replace c_6 := jB_nz.mp c_6
        refine lv_iload_n hx hb dX4_fits_11 rfl (lv_at hl 0 rfl) ?_
        refine lv_if_eq (tgt := 31) hx hb dX4_fits_12 (by decide) (fun c_12 => ?_) (fun c_12 => ?_)
        · exact absurd c_12 (by decide)
        · refine lv_iload_n hx hb dX4_fits_15 rfl (lv_at hl 0 rfl) ?_
          refine lv_bipush (v := 6) hx hb dX4_fits_16 (by decide) ?_
          refine lv_icmp_eq (tgt := 31) hx hb dX4_fits_18 (by decide) (fun c_18 => ?_) (fun c_18 => ?_)
          · exact absurd c_18 (by decide)
          · refine lv_iload_n hx hb dX4_fits_21 rfl (lv_at hl 1 rfl) ?_
            refine lv_iconst (v := 3) hx hb dX4_fits_22 (by decide) ?_
            refine jr_i (va_runS (As := [.int y, .int 3]) (rest := []) ⟨hx, hb, hml, hown, hts⟩ (c_X4_within l D cA y 3) (va_cwS 2 hts gX4_fits_X4_within rfl rfl rfl hv_X4_within.2 ⟨Nat.le_of_ble_eq_true rfl, Nat.le_of_ble_eq_true rfl⟩) (roP.S (av := [.int y, .int 3]) (jP_sub (w2 := []) hP [] rfl) hK hN) rfl rfl hl.1 rfl (lv_room (Nat.le_of_ble_eq_true rfl)) dX4_fits_23 ⟨Nat.le_of_ble_eq_true rfl, Nat.le_of_ble_eq_true rfl⟩) ?_
            refine jk_top (show (jB (wI y 3)) = (jB (jIn y 4)) from jB_i (wI_c (n := 3) (by decide))) ?_
            refine lv_if_ne (tgt := 31) hx hb dX4_fits_26 (by decide) (fun c_26 => ?_) (fun c_26 => ?_)
            · replace c_26 := jB_nz.mp c_26
              refine lv_iload_n hx hb dX4_fits_31 rfl (lv_at hl 0 rfl) ?_
              refine lv_iconst (v := 4) hx hb dX4_fits_32 (by decide) ?_
              refine lv_icmp_ne (tgt := 44) hx hb dX4_fits_33 (by decide) (fun c_33 => ?_) (fun c_33 => ?_)
              · refine lv_iload_n hx hb dX4_fits_44 rfl (lv_at hl 0 rfl) ?_
                refine lv_iconst (v := 2) hx hb dX4_fits_45 (by decide) ?_
                refine lv_icmp_eq (tgt := 54) hx hb dX4_fits_46 (by decide) (fun c_46 => ?_) (fun c_46 => ?_)
                · exact absurd c_46 (by decide)
                · refine lv_iload_n hx hb dX4_fits_49 rfl (lv_at hl 0 rfl) ?_
                  refine lv_iconst (v := 3) hx hb dX4_fits_50 (by decide) ?_
                  refine lv_icmp_ne (tgt := 65) hx hb dX4_fits_51 (by decide) (fun c_51 => ?_) (fun c_51 => ?_)
                  · refine lv_iload_n hx hb dX4_fits_65 rfl (lv_at hl 0 rfl) ?_
                    refine lv_bipush (v := 6) hx hb dX4_fits_66 (by decide) ?_
                    refine lv_icmp_ne (tgt := 82) hx hb dX4_fits_68 (by decide) (fun c_68 => ?_) (fun c_68 => ?_)
                    · refine lv_iload_n hx hb dX4_fits_82 rfl (lv_at hl 0 rfl) ?_
                      refine lv_bipush (v := 7) hx hb dX4_fits_83 (by decide) ?_
                      refine lv_icmp_eq (tgt := 94) hx hb dX4_fits_85 (by decide) (fun c_85 => ?_) (fun c_85 => ?_)
                      · exact absurd c_85 (by decide)
                      · refine lv_iload_n hx hb dX4_fits_88 rfl (lv_at hl 0 rfl) ?_
                        refine lv_bipush (v := 9) hx hb dX4_fits_89 (by decide) ?_
                        refine lv_icmp_ne (tgt := 103) hx hb dX4_fits_91 (by decide) (fun c_91 => ?_) (fun c_91 => ?_)
                        · refine lv_iconst (v := 1) hx hb dX4_fits_103 (by decide) ?_
                          refine lv_goto (tgt := 108) hx hb dX4_fits_104 (by decide) ?_
                          exact W.zret (ty := .boolean) (v := 1) hx hb hr rfl (fun t9 ht9 hW9 => ⟨jk_ret (show 1 = (jB (sI (nI 5) y z)) from (jB_t ((sI_158 (Or.inr (Or.inl rfl))).mpr (by first | assumption | exact ⟨by assumption, by assumption⟩))).symm), ht9⟩) (fun q h => absurd h List.not_mem_nil) dX4_fits_108
                        · exact absurd c_91 (by decide)
                    · exact absurd c_68 (by decide)
                  · exact absurd c_51 (by decide)
              · exact absurd c_33 (by decide)
            · replace c_26 := jB_z.mp c_26
              refine lv_iconst (v := 0) hx hb dX4_fits_29 (by decide) ?_
              exact W.zret (ty := .boolean) (v := 0) hx hb hr rfl (fun t9 ht9 hW9 => ⟨jk_ret (show 0 = (jB (sI (nI 5) y z)) from (jB_f (fun h => by have h := (sI_158 (Or.inr (Or.inl rfl))).mp h; first | exact absurd h (by assumption) | exact absurd h.1 (by assumption) | exact absurd h.2 (by assumption))).symm), ht9⟩) (fun q h => absurd h List.not_mem_nil) dX4_fits_30
      · replace c_6 := jB_z.mp c_6
        exact absurd ((jIn_n (n := 10) (by decide)).mpr (by decide)).1 c_6
    · subst c_x
      refine lv_iload_n hx hb dX4_fits_0 rfl (lv_at hl 0 rfl) ?_
      refine lv_bipush (v := 9) hx hb dX4_fits_1 (by decide) ?_
      refine jr_i (va_runS (As := [.int (nI 6), .int 9]) (rest := []) ⟨hx, hb, hml, hown, hts⟩ (c_X4_within l D cA (nI 6) 9) (va_cwS 2 hts gX4_fits_X4_within rfl rfl rfl hv_X4_within.2 ⟨Nat.le_of_ble_eq_true rfl, Nat.le_of_ble_eq_true rfl⟩) (roP.S (av := [.int (nI 6), .int 9]) (jP_sub (w2 := []) hP [] rfl) hK hN) rfl rfl hl.1 rfl (lv_room (Nat.le_of_ble_eq_true rfl)) dX4_fits_3 ⟨Nat.le_of_ble_eq_true rfl, Nat.le_of_ble_eq_true rfl⟩) ?_
      refine jk_top (show (jB (wI (nI 6) 9)) = (jB (jIn (nI 6) 10)) from jB_i (wI_c (n := 9) (by decide))) ?_
      refine lv_if_ne (tgt := 11) hx hb dX4_fits_6 (by decide) (fun c_6 => ?_) (fun c_6 => ?_)
      · replace c_6 := jB_nz.mp c_6
        refine lv_iload_n hx hb dX4_fits_11 rfl (lv_at hl 0 rfl) ?_
        refine lv_if_eq (tgt := 31) hx hb dX4_fits_12 (by decide) (fun c_12 => ?_) (fun c_12 => ?_)
        · exact absurd c_12 (by decide)
        · refine lv_iload_n hx hb dX4_fits_15 rfl (lv_at hl 0 rfl) ?_
          refine lv_bipush (v := 6) hx hb dX4_fits_16 (by decide) ?_
          refine lv_icmp_eq (tgt := 31) hx hb dX4_fits_18 (by decide) (fun c_18 => ?_) (fun c_18 => ?_)
          · refine lv_iload_n hx hb dX4_fits_31 rfl (lv_at hl 0 rfl) ?_
            refine lv_iconst (v := 4) hx hb dX4_fits_32 (by decide) ?_
            refine lv_icmp_ne (tgt := 44) hx hb dX4_fits_33 (by decide) (fun c_33 => ?_) (fun c_33 => ?_)
            · refine lv_iload_n hx hb dX4_fits_44 rfl (lv_at hl 0 rfl) ?_
              refine lv_iconst (v := 2) hx hb dX4_fits_45 (by decide) ?_
              refine lv_icmp_eq (tgt := 54) hx hb dX4_fits_46 (by decide) (fun c_46 => ?_) (fun c_46 => ?_)
              · exact absurd c_46 (by decide)
              · refine lv_iload_n hx hb dX4_fits_49 rfl (lv_at hl 0 rfl) ?_
                refine lv_iconst (v := 3) hx hb dX4_fits_50 (by decide) ?_
                refine lv_icmp_ne (tgt := 65) hx hb dX4_fits_51 (by decide) (fun c_51 => ?_) (fun c_51 => ?_)
                · refine lv_iload_n hx hb dX4_fits_65 rfl (lv_at hl 0 rfl) ?_
                  refine lv_bipush (v := 6) hx hb dX4_fits_66 (by decide) ?_
                  refine lv_icmp_ne (tgt := 82) hx hb dX4_fits_68 (by decide) (fun c_68 => ?_) (fun c_68 => ?_)
                  · exact absurd c_68 (by decide)
                  · refine lv_iload_n hx hb dX4_fits_71 rfl (lv_at hl 1 rfl) ?_
                    refine lv_bipush (v := 23) hx hb dX4_fits_72 (by decide) ?_
                    refine jr_i (va_runS (As := [.int y, .int 23]) (rest := []) ⟨hx, hb, hml, hown, hts⟩ (c_X4_within l D cA y 23) (va_cwS 2 hts gX4_fits_X4_within rfl rfl rfl hv_X4_within.2 ⟨Nat.le_of_ble_eq_true rfl, Nat.le_of_ble_eq_true rfl⟩) (roP.S (av := [.int y, .int 23]) (jP_sub (w2 := []) hP [] rfl) hK hN) rfl rfl hl.1 rfl (lv_room (Nat.le_of_ble_eq_true rfl)) dX4_fits_74 ⟨Nat.le_of_ble_eq_true rfl, Nat.le_of_ble_eq_true rfl⟩) ?_
                    refine jk_top (show (jB (wI y 23)) = (jB (jIn y 24)) from jB_i (wI_c (n := 23) (by decide))) ?_
                    refine lv_if_ne (tgt := 82) hx hb dX4_fits_77 (by decide) (fun c_77 => ?_) (fun c_77 => ?_)
                    · replace c_77 := jB_nz.mp c_77
                      refine lv_iload_n hx hb dX4_fits_82 rfl (lv_at hl 0 rfl) ?_
                      refine lv_bipush (v := 7) hx hb dX4_fits_83 (by decide) ?_
                      refine lv_icmp_eq (tgt := 94) hx hb dX4_fits_85 (by decide) (fun c_85 => ?_) (fun c_85 => ?_)
                      · exact absurd c_85 (by decide)
                      · refine lv_iload_n hx hb dX4_fits_88 rfl (lv_at hl 0 rfl) ?_
                        refine lv_bipush (v := 9) hx hb dX4_fits_89 (by decide) ?_
                        refine lv_icmp_ne (tgt := 103) hx hb dX4_fits_91 (by decide) (fun c_91 => ?_) (fun c_91 => ?_)
                        · refine lv_iconst (v := 1) hx hb dX4_fits_103 (by decide) ?_
                          refine lv_goto (tgt := 108) hx hb dX4_fits_104 (by decide) ?_
                          exact W.zret (ty := .boolean) (v := 1) hx hb hr rfl (fun t9 ht9 hW9 => ⟨jk_ret (show 1 = (jB (sI (nI 6) y z)) from (jB_t ((sI_6 rfl).mpr (by first | assumption | exact ⟨by assumption, by assumption⟩))).symm), ht9⟩) (fun q h => absurd h List.not_mem_nil) dX4_fits_108
                        · exact absurd c_91 (by decide)
                    · replace c_77 := jB_z.mp c_77
                      refine lv_iconst (v := 0) hx hb dX4_fits_80 (by decide) ?_
                      exact W.zret (ty := .boolean) (v := 0) hx hb hr rfl (fun t9 ht9 hW9 => ⟨jk_ret (show 0 = (jB (sI (nI 6) y z)) from (jB_f (fun h => by have h := (sI_6 rfl).mp h; first | exact absurd h (by assumption) | exact absurd h.1 (by assumption) | exact absurd h.2 (by assumption))).symm), ht9⟩) (fun q h => absurd h List.not_mem_nil) dX4_fits_81
                · exact absurd c_51 (by decide)
            · exact absurd c_33 (by decide)
          · exact absurd c_18 (by decide)
      · replace c_6 := jB_z.mp c_6
        exact absurd ((jIn_n (n := 10) (by decide)).mpr (by decide)).1 c_6
    · subst c_x
      refine lv_iload_n hx hb dX4_fits_0 rfl (lv_at hl 0 rfl) ?_
      refine lv_bipush (v := 9) hx hb dX4_fits_1 (by decide) ?_
      refine jr_i (va_runS (As := [.int (nI 7), .int 9]) (rest := []) ⟨hx, hb, hml, hown, hts⟩ (c_X4_within l D cA (nI 7) 9) (va_cwS 2 hts gX4_fits_X4_within rfl rfl rfl hv_X4_within.2 ⟨Nat.le_of_ble_eq_true rfl, Nat.le_of_ble_eq_true rfl⟩) (roP.S (av := [.int (nI 7), .int 9]) (jP_sub (w2 := []) hP [] rfl) hK hN) rfl rfl hl.1 rfl (lv_room (Nat.le_of_ble_eq_true rfl)) dX4_fits_3 ⟨Nat.le_of_ble_eq_true rfl, Nat.le_of_ble_eq_true rfl⟩) ?_
      refine jk_top (show (jB (wI (nI 7) 9)) = (jB (jIn (nI 7) 10)) from jB_i (wI_c (n := 9) (by decide))) ?_
      refine lv_if_ne (tgt := 11) hx hb dX4_fits_6 (by decide) (fun c_6 => ?_) (fun c_6 => ?_)
      · replace c_6 := jB_nz.mp c_6
        refine lv_iload_n hx hb dX4_fits_11 rfl (lv_at hl 0 rfl) ?_
        refine lv_if_eq (tgt := 31) hx hb dX4_fits_12 (by decide) (fun c_12 => ?_) (fun c_12 => ?_)
        · exact absurd c_12 (by decide)
        · refine lv_iload_n hx hb dX4_fits_15 rfl (lv_at hl 0 rfl) ?_
          refine lv_bipush (v := 6) hx hb dX4_fits_16 (by decide) ?_
          refine lv_icmp_eq (tgt := 31) hx hb dX4_fits_18 (by decide) (fun c_18 => ?_) (fun c_18 => ?_)
          · exact absurd c_18 (by decide)
          · refine lv_iload_n hx hb dX4_fits_21 rfl (lv_at hl 1 rfl) ?_
            refine lv_iconst (v := 3) hx hb dX4_fits_22 (by decide) ?_
            refine jr_i (va_runS (As := [.int y, .int 3]) (rest := []) ⟨hx, hb, hml, hown, hts⟩ (c_X4_within l D cA y 3) (va_cwS 2 hts gX4_fits_X4_within rfl rfl rfl hv_X4_within.2 ⟨Nat.le_of_ble_eq_true rfl, Nat.le_of_ble_eq_true rfl⟩) (roP.S (av := [.int y, .int 3]) (jP_sub (w2 := []) hP [] rfl) hK hN) rfl rfl hl.1 rfl (lv_room (Nat.le_of_ble_eq_true rfl)) dX4_fits_23 ⟨Nat.le_of_ble_eq_true rfl, Nat.le_of_ble_eq_true rfl⟩) ?_
            refine jk_top (show (jB (wI y 3)) = (jB (jIn y 4)) from jB_i (wI_c (n := 3) (by decide))) ?_
            refine lv_if_ne (tgt := 31) hx hb dX4_fits_26 (by decide) (fun c_26 => ?_) (fun c_26 => ?_)
            · replace c_26 := jB_nz.mp c_26
              refine lv_iload_n hx hb dX4_fits_31 rfl (lv_at hl 0 rfl) ?_
              refine lv_iconst (v := 4) hx hb dX4_fits_32 (by decide) ?_
              refine lv_icmp_ne (tgt := 44) hx hb dX4_fits_33 (by decide) (fun c_33 => ?_) (fun c_33 => ?_)
              · refine lv_iload_n hx hb dX4_fits_44 rfl (lv_at hl 0 rfl) ?_
                refine lv_iconst (v := 2) hx hb dX4_fits_45 (by decide) ?_
                refine lv_icmp_eq (tgt := 54) hx hb dX4_fits_46 (by decide) (fun c_46 => ?_) (fun c_46 => ?_)
                · exact absurd c_46 (by decide)
                · refine lv_iload_n hx hb dX4_fits_49 rfl (lv_at hl 0 rfl) ?_
                  refine lv_iconst (v := 3) hx hb dX4_fits_50 (by decide) ?_
                  refine lv_icmp_ne (tgt := 65) hx hb dX4_fits_51 (by decide) (fun c_51 => ?_) (fun c_51 => ?_)
                  · refine lv_iload_n hx hb dX4_fits_65 rfl (lv_at hl 0 rfl) ?_
                    refine lv_bipush (v := 6) hx hb dX4_fits_66 (by decide) ?_
                    refine lv_icmp_ne (tgt := 82) hx hb dX4_fits_68 (by decide) (fun c_68 => ?_) (fun c_68 => ?_)
                    · refine lv_iload_n hx hb dX4_fits_82 rfl (lv_at hl 0 rfl) ?_
                      refine lv_bipush (v := 7) hx hb dX4_fits_83 (by decide) ?_
                      refine lv_icmp_eq (tgt := 94) hx hb dX4_fits_85 (by decide) (fun c_85 => ?_) (fun c_85 => ?_)
                      · refine lv_iload_n hx hb dX4_fits_94 rfl (lv_at hl 2 rfl) ?_
                        refine lv_bipush (v := 23) hx hb dX4_fits_95 (by decide) ?_
                        refine jr_i (va_runS (As := [.int z, .int 23]) (rest := []) ⟨hx, hb, hml, hown, hts⟩ (c_X4_within l D cA z 23) (va_cwS 2 hts gX4_fits_X4_within rfl rfl rfl hv_X4_within.2 ⟨Nat.le_of_ble_eq_true rfl, Nat.le_of_ble_eq_true rfl⟩) (roP.S (av := [.int z, .int 23]) (jP_sub (w2 := []) hP [] rfl) hK hN) rfl rfl hl.1 rfl (lv_room (Nat.le_of_ble_eq_true rfl)) dX4_fits_97 ⟨Nat.le_of_ble_eq_true rfl, Nat.le_of_ble_eq_true rfl⟩) ?_
                        refine jk_top (show (jB (wI z 23)) = (jB (jIn z 24)) from jB_i (wI_c (n := 23) (by decide))) ?_
                        refine lv_if_eq (tgt := 107) hx hb dX4_fits_100 (by decide) (fun c_100 => ?_) (fun c_100 => ?_)
                        · replace c_100 := jB_z.mp c_100
                          refine lv_iconst (v := 0) hx hb dX4_fits_107 (by decide) ?_
                          exact W.zret (ty := .boolean) (v := 0) hx hb hr rfl (fun t9 ht9 hW9 => ⟨jk_ret (show 0 = (jB (sI (nI 7) y z)) from (jB_f (fun h => by have h := (sI_79 (Or.inl rfl)).mp h; first | exact absurd h (by assumption) | exact absurd h.1 (by assumption) | exact absurd h.2 (by assumption))).symm), ht9⟩) (fun q h => absurd h List.not_mem_nil) dX4_fits_108
                        · replace c_100 := jB_nz.mp c_100
                          refine lv_iconst (v := 1) hx hb dX4_fits_103 (by decide) ?_
                          refine lv_goto (tgt := 108) hx hb dX4_fits_104 (by decide) ?_
                          exact W.zret (ty := .boolean) (v := 1) hx hb hr rfl (fun t9 ht9 hW9 => ⟨jk_ret (show 1 = (jB (sI (nI 7) y z)) from (jB_t ((sI_79 (Or.inl rfl)).mpr (by first | assumption | exact ⟨by assumption, by assumption⟩))).symm), ht9⟩) (fun q h => absurd h List.not_mem_nil) dX4_fits_108
                      · exact absurd c_85 (by decide)
                    · exact absurd c_68 (by decide)
                  · exact absurd c_51 (by decide)
              · exact absurd c_33 (by decide)
            · replace c_26 := jB_z.mp c_26
              refine lv_iconst (v := 0) hx hb dX4_fits_29 (by decide) ?_
              exact W.zret (ty := .boolean) (v := 0) hx hb hr rfl (fun t9 ht9 hW9 => ⟨jk_ret (show 0 = (jB (sI (nI 7) y z)) from (jB_f (fun h => by have h := (sI_79 (Or.inl rfl)).mp h; first | exact absurd h (by assumption) | exact absurd h.1 (by assumption) | exact absurd h.2 (by assumption))).symm), ht9⟩) (fun q h => absurd h List.not_mem_nil) dX4_fits_30
      · replace c_6 := jB_z.mp c_6
        exact absurd ((jIn_n (n := 10) (by decide)).mpr (by decide)).1 c_6
    · subst c_x
      refine lv_iload_n hx hb dX4_fits_0 rfl (lv_at hl 0 rfl) ?_
      refine lv_bipush (v := 9) hx hb dX4_fits_1 (by decide) ?_
      refine jr_i (va_runS (As := [.int (nI 8), .int 9]) (rest := []) ⟨hx, hb, hml, hown, hts⟩ (c_X4_within l D cA (nI 8) 9) (va_cwS 2 hts gX4_fits_X4_within rfl rfl rfl hv_X4_within.2 ⟨Nat.le_of_ble_eq_true rfl, Nat.le_of_ble_eq_true rfl⟩) (roP.S (av := [.int (nI 8), .int 9]) (jP_sub (w2 := []) hP [] rfl) hK hN) rfl rfl hl.1 rfl (lv_room (Nat.le_of_ble_eq_true rfl)) dX4_fits_3 ⟨Nat.le_of_ble_eq_true rfl, Nat.le_of_ble_eq_true rfl⟩) ?_
      refine jk_top (show (jB (wI (nI 8) 9)) = (jB (jIn (nI 8) 10)) from jB_i (wI_c (n := 9) (by decide))) ?_
      refine lv_if_ne (tgt := 11) hx hb dX4_fits_6 (by decide) (fun c_6 => ?_) (fun c_6 => ?_)
      · replace c_6 := jB_nz.mp c_6
        refine lv_iload_n hx hb dX4_fits_11 rfl (lv_at hl 0 rfl) ?_
        refine lv_if_eq (tgt := 31) hx hb dX4_fits_12 (by decide) (fun c_12 => ?_) (fun c_12 => ?_)
        · exact absurd c_12 (by decide)
        · refine lv_iload_n hx hb dX4_fits_15 rfl (lv_at hl 0 rfl) ?_
          refine lv_bipush (v := 6) hx hb dX4_fits_16 (by decide) ?_
          refine lv_icmp_eq (tgt := 31) hx hb dX4_fits_18 (by decide) (fun c_18 => ?_) (fun c_18 => ?_)
          · exact absurd c_18 (by decide)
          · refine lv_iload_n hx hb dX4_fits_21 rfl (lv_at hl 1 rfl) ?_
            refine lv_iconst (v := 3) hx hb dX4_fits_22 (by decide) ?_
            refine jr_i (va_runS (As := [.int y, .int 3]) (rest := []) ⟨hx, hb, hml, hown, hts⟩ (c_X4_within l D cA y 3) (va_cwS 2 hts gX4_fits_X4_within rfl rfl rfl hv_X4_within.2 ⟨Nat.le_of_ble_eq_true rfl, Nat.le_of_ble_eq_true rfl⟩) (roP.S (av := [.int y, .int 3]) (jP_sub (w2 := []) hP [] rfl) hK hN) rfl rfl hl.1 rfl (lv_room (Nat.le_of_ble_eq_true rfl)) dX4_fits_23 ⟨Nat.le_of_ble_eq_true rfl, Nat.le_of_ble_eq_true rfl⟩) ?_
            refine jk_top (show (jB (wI y 3)) = (jB (jIn y 4)) from jB_i (wI_c (n := 3) (by decide))) ?_
            refine lv_if_ne (tgt := 31) hx hb dX4_fits_26 (by decide) (fun c_26 => ?_) (fun c_26 => ?_)
            · replace c_26 := jB_nz.mp c_26
              refine lv_iload_n hx hb dX4_fits_31 rfl (lv_at hl 0 rfl) ?_
              refine lv_iconst (v := 4) hx hb dX4_fits_32 (by decide) ?_
              refine lv_icmp_ne (tgt := 44) hx hb dX4_fits_33 (by decide) (fun c_33 => ?_) (fun c_33 => ?_)
              · refine lv_iload_n hx hb dX4_fits_44 rfl (lv_at hl 0 rfl) ?_
                refine lv_iconst (v := 2) hx hb dX4_fits_45 (by decide) ?_
                refine lv_icmp_eq (tgt := 54) hx hb dX4_fits_46 (by decide) (fun c_46 => ?_) (fun c_46 => ?_)
                · exact absurd c_46 (by decide)
                · refine lv_iload_n hx hb dX4_fits_49 rfl (lv_at hl 0 rfl) ?_
                  refine lv_iconst (v := 3) hx hb dX4_fits_50 (by decide) ?_
                  refine lv_icmp_ne (tgt := 65) hx hb dX4_fits_51 (by decide) (fun c_51 => ?_) (fun c_51 => ?_)
                  · refine lv_iload_n hx hb dX4_fits_65 rfl (lv_at hl 0 rfl) ?_
                    refine lv_bipush (v := 6) hx hb dX4_fits_66 (by decide) ?_
                    refine lv_icmp_ne (tgt := 82) hx hb dX4_fits_68 (by decide) (fun c_68 => ?_) (fun c_68 => ?_)
                    · refine lv_iload_n hx hb dX4_fits_82 rfl (lv_at hl 0 rfl) ?_
                      refine lv_bipush (v := 7) hx hb dX4_fits_83 (by decide) ?_
                      refine lv_icmp_eq (tgt := 94) hx hb dX4_fits_85 (by decide) (fun c_85 => ?_) (fun c_85 => ?_)
                      · exact absurd c_85 (by decide)
                      · refine lv_iload_n hx hb dX4_fits_88 rfl (lv_at hl 0 rfl) ?_
                        refine lv_bipush (v := 9) hx hb dX4_fits_89 (by decide) ?_
                        refine lv_icmp_ne (tgt := 103) hx hb dX4_fits_91 (by decide) (fun c_91 => ?_) (fun c_91 => ?_)
                        · refine lv_iconst (v := 1) hx hb dX4_fits_103 (by decide) ?_
                          refine lv_goto (tgt := 108) hx hb dX4_fits_104 (by decide) ?_
                          exact W.zret (ty := .boolean) (v := 1) hx hb hr rfl (fun t9 ht9 hW9 => ⟨jk_ret (show 1 = (jB (sI (nI 8) y z)) from (jB_t ((sI_158 (Or.inr (Or.inr rfl))).mpr (by first | assumption | exact ⟨by assumption, by assumption⟩))).symm), ht9⟩) (fun q h => absurd h List.not_mem_nil) dX4_fits_108
                        · exact absurd c_91 (by decide)
                    · exact absurd c_68 (by decide)
                  · exact absurd c_51 (by decide)
              · exact absurd c_33 (by decide)
            · replace c_26 := jB_z.mp c_26
              refine lv_iconst (v := 0) hx hb dX4_fits_29 (by decide) ?_
              exact W.zret (ty := .boolean) (v := 0) hx hb hr rfl (fun t9 ht9 hW9 => ⟨jk_ret (show 0 = (jB (sI (nI 8) y z)) from (jB_f (fun h => by have h := (sI_158 (Or.inr (Or.inr rfl))).mp h; first | exact absurd h (by assumption) | exact absurd h.1 (by assumption) | exact absurd h.2 (by assumption))).symm), ht9⟩) (fun q h => absurd h List.not_mem_nil) dX4_fits_30
      · replace c_6 := jB_z.mp c_6
        exact absurd ((jIn_n (n := 10) (by decide)).mpr (by decide)).1 c_6
    · subst c_x
      refine lv_iload_n hx hb dX4_fits_0 rfl (lv_at hl 0 rfl) ?_
      refine lv_bipush (v := 9) hx hb dX4_fits_1 (by decide) ?_
      refine jr_i (va_runS (As := [.int (nI 9), .int 9]) (rest := []) ⟨hx, hb, hml, hown, hts⟩ (c_X4_within l D cA (nI 9) 9) (va_cwS 2 hts gX4_fits_X4_within rfl rfl rfl hv_X4_within.2 ⟨Nat.le_of_ble_eq_true rfl, Nat.le_of_ble_eq_true rfl⟩) (roP.S (av := [.int (nI 9), .int 9]) (jP_sub (w2 := []) hP [] rfl) hK hN) rfl rfl hl.1 rfl (lv_room (Nat.le_of_ble_eq_true rfl)) dX4_fits_3 ⟨Nat.le_of_ble_eq_true rfl, Nat.le_of_ble_eq_true rfl⟩) ?_
      refine jk_top (show (jB (wI (nI 9) 9)) = (jB (jIn (nI 9) 10)) from jB_i (wI_c (n := 9) (by decide))) ?_
      refine lv_if_ne (tgt := 11) hx hb dX4_fits_6 (by decide) (fun c_6 => ?_) (fun c_6 => ?_)
      · replace c_6 := jB_nz.mp c_6
        refine lv_iload_n hx hb dX4_fits_11 rfl (lv_at hl 0 rfl) ?_
        refine lv_if_eq (tgt := 31) hx hb dX4_fits_12 (by decide) (fun c_12 => ?_) (fun c_12 => ?_)
        · exact absurd c_12 (by decide)
        · refine lv_iload_n hx hb dX4_fits_15 rfl (lv_at hl 0 rfl) ?_
          refine lv_bipush (v := 6) hx hb dX4_fits_16 (by decide) ?_
          refine lv_icmp_eq (tgt := 31) hx hb dX4_fits_18 (by decide) (fun c_18 => ?_) (fun c_18 => ?_)
          · exact absurd c_18 (by decide)
          · refine lv_iload_n hx hb dX4_fits_21 rfl (lv_at hl 1 rfl) ?_
            refine lv_iconst (v := 3) hx hb dX4_fits_22 (by decide) ?_
            refine jr_i (va_runS (As := [.int y, .int 3]) (rest := []) ⟨hx, hb, hml, hown, hts⟩ (c_X4_within l D cA y 3) (va_cwS 2 hts gX4_fits_X4_within rfl rfl rfl hv_X4_within.2 ⟨Nat.le_of_ble_eq_true rfl, Nat.le_of_ble_eq_true rfl⟩) (roP.S (av := [.int y, .int 3]) (jP_sub (w2 := []) hP [] rfl) hK hN) rfl rfl hl.1 rfl (lv_room (Nat.le_of_ble_eq_true rfl)) dX4_fits_23 ⟨Nat.le_of_ble_eq_true rfl, Nat.le_of_ble_eq_true rfl⟩) ?_
            refine jk_top (show (jB (wI y 3)) = (jB (jIn y 4)) from jB_i (wI_c (n := 3) (by decide))) ?_
            refine lv_if_ne (tgt := 31) hx hb dX4_fits_26 (by decide) (fun c_26 => ?_) (fun c_26 => ?_)
            · replace c_26 := jB_nz.mp c_26
              refine lv_iload_n hx hb dX4_fits_31 rfl (lv_at hl 0 rfl) ?_
              refine lv_iconst (v := 4) hx hb dX4_fits_32 (by decide) ?_
              refine lv_icmp_ne (tgt := 44) hx hb dX4_fits_33 (by decide) (fun c_33 => ?_) (fun c_33 => ?_)
              · refine lv_iload_n hx hb dX4_fits_44 rfl (lv_at hl 0 rfl) ?_
                refine lv_iconst (v := 2) hx hb dX4_fits_45 (by decide) ?_
                refine lv_icmp_eq (tgt := 54) hx hb dX4_fits_46 (by decide) (fun c_46 => ?_) (fun c_46 => ?_)
                · exact absurd c_46 (by decide)
                · refine lv_iload_n hx hb dX4_fits_49 rfl (lv_at hl 0 rfl) ?_
                  refine lv_iconst (v := 3) hx hb dX4_fits_50 (by decide) ?_
                  refine lv_icmp_ne (tgt := 65) hx hb dX4_fits_51 (by decide) (fun c_51 => ?_) (fun c_51 => ?_)
                  · refine lv_iload_n hx hb dX4_fits_65 rfl (lv_at hl 0 rfl) ?_
                    refine lv_bipush (v := 6) hx hb dX4_fits_66 (by decide) ?_
                    refine lv_icmp_ne (tgt := 82) hx hb dX4_fits_68 (by decide) (fun c_68 => ?_) (fun c_68 => ?_)
                    · refine lv_iload_n hx hb dX4_fits_82 rfl (lv_at hl 0 rfl) ?_
                      refine lv_bipush (v := 7) hx hb dX4_fits_83 (by decide) ?_
                      refine lv_icmp_eq (tgt := 94) hx hb dX4_fits_85 (by decide) (fun c_85 => ?_) (fun c_85 => ?_)
                      · exact absurd c_85 (by decide)
                      · refine lv_iload_n hx hb dX4_fits_88 rfl (lv_at hl 0 rfl) ?_
                        refine lv_bipush (v := 9) hx hb dX4_fits_89 (by decide) ?_
                        refine lv_icmp_ne (tgt := 103) hx hb dX4_fits_91 (by decide) (fun c_91 => ?_) (fun c_91 => ?_)
                        · exact absurd c_91 (by decide)
                        · refine lv_iload_n hx hb dX4_fits_94 rfl (lv_at hl 2 rfl) ?_
                          refine lv_bipush (v := 23) hx hb dX4_fits_95 (by decide) ?_
                          refine jr_i (va_runS (As := [.int z, .int 23]) (rest := []) ⟨hx, hb, hml, hown, hts⟩ (c_X4_within l D cA z 23) (va_cwS 2 hts gX4_fits_X4_within rfl rfl rfl hv_X4_within.2 ⟨Nat.le_of_ble_eq_true rfl, Nat.le_of_ble_eq_true rfl⟩) (roP.S (av := [.int z, .int 23]) (jP_sub (w2 := []) hP [] rfl) hK hN) rfl rfl hl.1 rfl (lv_room (Nat.le_of_ble_eq_true rfl)) dX4_fits_97 ⟨Nat.le_of_ble_eq_true rfl, Nat.le_of_ble_eq_true rfl⟩) ?_
                          refine jk_top (show (jB (wI z 23)) = (jB (jIn z 24)) from jB_i (wI_c (n := 23) (by decide))) ?_
                          refine lv_if_eq (tgt := 107) hx hb dX4_fits_100 (by decide) (fun c_100 => ?_) (fun c_100 => ?_)
                          · replace c_100 := jB_z.mp c_100
                            refine lv_iconst (v := 0) hx hb dX4_fits_107 (by decide) ?_
                            exact W.zret (ty := .boolean) (v := 0) hx hb hr rfl (fun t9 ht9 hW9 => ⟨jk_ret (show 0 = (jB (sI (nI 9) y z)) from (jB_f (fun h => by have h := (sI_79 (Or.inr rfl)).mp h; first | exact absurd h (by assumption) | exact absurd h.1 (by assumption) | exact absurd h.2 (by assumption))).symm), ht9⟩) (fun q h => absurd h List.not_mem_nil) dX4_fits_108
                          · replace c_100 := jB_nz.mp c_100
                            refine lv_iconst (v := 1) hx hb dX4_fits_103 (by decide) ?_
                            refine lv_goto (tgt := 108) hx hb dX4_fits_104 (by decide) ?_
                            exact W.zret (ty := .boolean) (v := 1) hx hb hr rfl (fun t9 ht9 hW9 => ⟨jk_ret (show 1 = (jB (sI (nI 9) y z)) from (jB_t ((sI_79 (Or.inr rfl)).mpr (by first | assumption | exact ⟨by assumption, by assumption⟩))).symm), ht9⟩) (fun q h => absurd h List.not_mem_nil) dX4_fits_108
                    · exact absurd c_68 (by decide)
                  · exact absurd c_51 (by decide)
              · exact absurd c_33 (by decide)
            · replace c_26 := jB_z.mp c_26
              refine lv_iconst (v := 0) hx hb dX4_fits_29 (by decide) ?_
              exact W.zret (ty := .boolean) (v := 0) hx hb hr rfl (fun t9 ht9 hW9 => ⟨jk_ret (show 0 = (jB (sI (nI 9) y z)) from (jB_f (fun h => by have h := (sI_79 (Or.inr rfl)).mp h; first | exact absurd h (by assumption) | exact absurd h.1 (by assumption) | exact absurd h.2 (by assumption))).symm), ht9⟩) (fun q h => absurd h List.not_mem_nil) dX4_fits_30
      · replace c_6 := jB_z.mp c_6
        exact absurd ((jIn_n (n := 10) (by decide)).mpr (by decide)).1 c_6
  · refine lv_iload_n hx hb dX4_fits_0 rfl (lv_at hl 0 rfl) ?_
    refine lv_bipush (v := 9) hx hb dX4_fits_1 (by decide) ?_
    refine jr_i (va_runS (As := [.int x, .int 9]) (rest := []) ⟨hx, hb, hml, hown, hts⟩ (c_X4_within l D cA x 9) (va_cwS 2 hts gX4_fits_X4_within rfl rfl rfl hv_X4_within.2 ⟨Nat.le_of_ble_eq_true rfl, Nat.le_of_ble_eq_true rfl⟩) (roP.S (av := [.int x, .int 9]) (jP_sub (w2 := []) hP [] rfl) hK hN) rfl rfl hl.1 rfl (lv_room (Nat.le_of_ble_eq_true rfl)) dX4_fits_3 ⟨Nat.le_of_ble_eq_true rfl, Nat.le_of_ble_eq_true rfl⟩) ?_
    refine jk_top (show (jB (wI x 9)) = (jB (jIn x 10)) from jB_i (wI_c (n := 9) (by decide))) ?_
    refine lv_if_ne (tgt := 11) hx hb dX4_fits_6 (by decide) (fun c_6 => ?_) (fun c_6 => ?_)
    · replace c_6 := jB_nz.mp c_6
      exact absurd c_6 (jIn_out c_x)
    · replace c_6 := jB_z.mp c_6
      refine lv_iconst (v := 0) hx hb dX4_fits_9 (by decide) ?_
      exact W.zret (ty := .boolean) (v := 0) hx hb hr rfl (fun t9 ht9 hW9 => ⟨jk_ret (show 0 = (jB (sI x y z)) from (jB_f (sI_out c_x)).symm), ht9⟩) (fun q h => absurd h List.not_mem_nil) dX4_fits_10
set_option maxHeartbeats 4000000 in
set_option maxRecDepth 100000 in
theorem c_X4_undo (l : Launch) (D : va_G) (cA : ClassId) (sz : Nat) (h4 : Nat) (zc : Nat) (zj : Nat) (ze : Nat) (zt : Nat) (zo : Nat) (za : Nat) (zr : Nat) (zm : Nat) (zl : Nat) (nn : Nat) (zz : Nat) (ed : Nat) (qc : Int32) (qs : Int32) (qw : Nat) (qb : Nat) (ql : Nat) : Met l yX4_undo wsX4_undo ({ frames := 0, cells := 0, slots := 0, locals := 0 }) (rwP D cA [.ref h4] sz [(h4, .inr (4, [.ref zc, .int (nI nn), .int (nI zz), .ref zj, .ref ze, .int (nI ed), .ref zt, .ref zo, .ref za, .ref zr, .ref zm, .ref zl, .int qc, .int qs, .int (nI qw), .int (nI qb), .int (nI ql)]))]) (rwV D (va_A [(h4, .inr (4, [.ref zc, .int (nI nn), .int (nI zz), .ref zj, .ref ze, .int (nI ed), .ref zt, .ref zo, .ref za, .ref zr, .ref zm, .ref zl, .int qc, .int qs, .int (nI qw), .int (nI qb), .int (nI ql)]))] sz) [(h4, .inr (4, [.ref zc, .int (nI nn), .int (nI 0), .ref zj, .ref ze, .int (nI ed), .ref zt, .ref zo, .ref za, .ref zr, .ref zm, .ref zl, .int qc, .int (-1), .int (nI qw), .int (nI qb), .int (nI ql)]))]) 0 0 (va_A [(h4, .inr (4, [.ref zc, .int (nI nn), .int (nI zz), .ref zj, .ref ze, .int (nI ed), .ref zt, .ref zo, .ref za, .ref zr, .ref zm, .ref zl, .int qc, .int qs, .int (nI qw), .int (nI qb), .int (nI ql)]))] sz) := by
  refine Met.ofW (cc := cX4_undo) (maxL := 1) (ret := none) (by decide) rfl ?_
  intro p e s m args below meth c s₁ B hml hv
  obtain ⟨rfl, hsz, hP, hK, hN, hD0⟩ := hv
  have hx := B.exec
  have hb := B.bytes
  have hr := B.returns
  have hts := atoms_spec (ws := wsX4_undo) B.pre
  have hown : s.vm.findClass RX4 = some m.cls := findClass_of_methodNamed B.named
  have hlocks := B.notSynchronized
  subst hsz
  have hD := hD0.self (sz := s.heap.size)
  generalize hAe : va_A [(h4, .inr (4, [.ref zc, .int (nI nn), .int (nI zz), .ref zj, .ref ze, .int (nI ed), .ref zt, .ref zo, .ref za, .ref zr, .ref zm, .ref zl, .int qc, .int qs, .int (nI qw), .int (nI qb), .int (nI ql)]))] s.heap.size = A at hD ⊢
  have hA : ∀ q : Nat, s.heap.size ≤ q → A q := fun q h => by rw [← hAe]; exact Or.inr h
  have hS : va_S A s.heap s.heap [] := va_S.rf
  have hl := lv_entry ([.ref h4]) (n := 1) (Nat.le_of_ble_eq_true rfl)
  rw [lg_entry_eq]
  generalize (lg_sl ([.ref h4]) ++ List.replicate (1 - (lg_sl ([.ref h4])).length) Slot.unset).toArray = ls at hl ⊢
  have hl : lv_has ls 1 [(0, .ref h4)] := hl
  refine lv_aload_n hx hb dX4_undo_0 rfl (lv_at hl 0 rfl) ?_
  refine lv_iconst (v := 0) hx hb dX4_undo_1 (by decide) ?_
  refine va_put (D := D) (ci := 4) (v := .int 0) (ty := .int) (C := RX4) (T := TX4) (N := 17) hx hb hts iw_X4_undo_X4 tyX4 tyX4_ok nmX4 hown hK hP hD hS 0 rfl rfl 2 (by decide) (hts (.fieldLink RX4 45 "JumpGuardModel" "size" "I") (List.mem_of_getElem? (l := wsX4_undo) (i := 1) rfl)) (fun _ h9 => h9) rfl (by decide +kernel) rfl rfl (Nat.le_of_ble_eq_true rfl) dX4_undo_2 (fun H locs hP hD hS => ?_)
  have hP : va_P D vwCl [(h4, .inr (4, [.ref zc, .int (nI nn), .int 0, .ref zj, .ref ze, .int (nI ed), .ref zt, .ref zo, .ref za, .ref zr, .ref zm, .ref zl, .int qc, .int qs, .int (nI qw), .int (nI qb), .int (nI ql)]))] H := hP
  have hD : va_D A [(h4, .inr (4, [.ref zc, .int (nI nn), .int 0, .ref zj, .ref ze, .int (nI ed), .ref zt, .ref zo, .ref za, .ref zr, .ref zm, .ref zl, .int qc, .int qs, .int (nI qw), .int (nI qb), .int (nI ql)]))] := hD
  refine lv_aload_n hx hb dX4_undo_5 rfl (lv_at hl 0 rfl) ?_
  refine lv_iconst (v := (-1)) hx hb dX4_undo_6 (by decide) ?_
  refine va_put (D := D) (ci := 4) (v := .int (-1)) (ty := .int) (C := RX4) (T := TX4) (N := 17) hx hb hts iw_X4_undo_X4 tyX4 tyX4_ok nmX4 hown hK hP hD hS 0 rfl rfl 13 (by decide) (hts (.fieldLink RX4 37 "JumpGuardModel" "state" "I") (List.mem_of_getElem? (l := wsX4_undo) (i := 2) rfl)) (fun _ h9 => h9) rfl (by decide +kernel) rfl rfl (Nat.le_of_ble_eq_true rfl) dX4_undo_7 (fun H locs hP hD hS => ?_)
  have hP : va_P D vwCl [(h4, .inr (4, [.ref zc, .int (nI nn), .int 0, .ref zj, .ref ze, .int (nI ed), .ref zt, .ref zo, .ref za, .ref zr, .ref zm, .ref zl, .int qc, .int (-1), .int (nI qw), .int (nI qb), .int (nI ql)]))] H := hP
  have hD : va_D A [(h4, .inr (4, [.ref zc, .int (nI nn), .int 0, .ref zj, .ref ze, .int (nI ed), .ref zt, .ref zo, .ref za, .ref zr, .ref zm, .ref zl, .int qc, .int (-1), .int (nI qw), .int (nI qb), .int (nI ql)]))] := hD
  obtain ⟨hP9, hD9⟩ := jk_end (w2 := [(h4, .inr (4, [.ref zc, .int (nI nn), .int 0, .ref zj, .ref ze, .int (nI ed), .ref zt, .ref zo, .ref za, .ref zr, .ref zm, .ref zl, .int qc, .int (-1), .int (nI qw), .int (nI qb), .int (nI ql)]))]) hP hD [0] (by decide) rfl
  have e9 : ([(h4, .inr (4, [.ref zc, .int (nI nn), .int 0, .ref zj, .ref ze, .int (nI ed), .ref zt, .ref zo, .ref za, .ref zr, .ref zm, .ref zl, .int qc, .int (-1), .int (nI qw), .int (nI qb), .int (nI ql)]))] : va_W) = [(h4, .inr (4, [.ref zc, .int (nI nn), .int (nI 0), .ref zj, .ref ze, .int (nI ed), .ref zt, .ref zo, .ref za, .ref zr, .ref zm, .ref zl, .int qc, .int (-1), .int (nI qw), .int (nI qb), .int (nI ql)]))] := rfl
  rw [e9] at hP9 hD9
  exact W.vret hx hb hr (fun t9 ht9 hW9 => ⟨⟨(), rfl, trivial, by rw [ht9]; exact hP9, hD9⟩, hS.F ht9⟩) hS.2.2 dX4_undo_10
set_option maxHeartbeats 4000000 in
set_option maxRecDepth 100000 in
theorem c_X4_add (l : Launch) (D : va_G) (cA : ClassId) (sz : Nat) (h4 : Nat) (zc : Nat) (zj : Nat) (ze : Nat) (zt : Nat) (zo : Nat) (za : Nat) (zr : Nat) (zm : Nat) (zl : Nat) (nn : Nat) (zz : Nat) (ed : Nat) (qc : Int32) (qs : Int32) (qw : Nat) (qb : Nat) (ql : Nat) (cd : Nat → Int32) (x : Int32) (y : Int32) (z : Int32) (hnn : nn ≤ 24) : Met l yX4_add wsX4_add ({ frames := 2, cells := 0, slots := 0, locals := 43 }) (rwP D cA [.ref h4, .int x, .int y, .int z] sz [(h4, .inr (4, [.ref zc, .int (nI nn), .int (nI zz), .ref zj, .ref ze, .int (nI ed), .ref zt, .ref zo, .ref za, .ref zr, .ref zm, .ref zl, .int qc, .int qs, .int (nI qw), .int (nI qb), .int (nI ql)])), (zc, .inl (cA, 288, .inl cd))]) (rwI D (va_A [(h4, .inr (4, [.ref zc, .int (nI nn), .int (nI zz), .ref zj, .ref ze, .int (nI ed), .ref zt, .ref zo, .ref za, .ref zr, .ref zm, .ref zl, .int qc, .int qs, .int (nI qw), .int (nI qb), .int (nI ql)])), (zc, .inl (cA, 288, .inl cd))] sz) (if sI x y z then (if nn < 24 then nI nn else -2) else -1) [(h4, .inr (4, [.ref zc, .int (nI (if aOk nn x y z then nn + 1 else nn)), .int (nI (if aOk nn x y z then 0 else zz)), .ref zj, .ref ze, .int (nI ed), .ref zt, .ref zo, .ref za, .ref zr, .ref zm, .ref zl, .int qc, .int (if aOk nn x y z then (-1) else qs), .int (nI qw), .int (nI qb), .int (nI ql)])), (zc, .inl (cA, 288, .inl (if aOk nn x y z then rApp cd nn x y z else cd)))]) 0 0 (va_A [(h4, .inr (4, [.ref zc, .int (nI nn), .int (nI zz), .ref zj, .ref ze, .int (nI ed), .ref zt, .ref zo, .ref za, .ref zr, .ref zm, .ref zl, .int qc, .int qs, .int (nI qw), .int (nI qb), .int (nI ql)])), (zc, .inl (cA, 288, .inl cd))] sz) := by
  refine Met.ofW (cc := cX4_add) (maxL := 4) (ret := (some .int)) (by decide) rfl ?_
  intro p e s m args below meth c s₁ B hml hv
  obtain ⟨rfl, hsz, hP, hK, hN, hD0⟩ := hv
  have hx := B.exec
  have hb := B.bytes
  have hr := B.returns
  have hts := atoms_spec (ws := wsX4_add) B.pre
  have hown : s.vm.findClass RX4 = some m.cls := findClass_of_methodNamed B.named
  have hlocks := B.notSynchronized
  subst hsz
  have hD := hD0.self (sz := s.heap.size)
  generalize hAe : va_A [(h4, .inr (4, [.ref zc, .int (nI nn), .int (nI zz), .ref zj, .ref ze, .int (nI ed), .ref zt, .ref zo, .ref za, .ref zr, .ref zm, .ref zl, .int qc, .int qs, .int (nI qw), .int (nI qb), .int (nI ql)])), (zc, .inl (cA, 288, .inl cd))] s.heap.size = A at hD ⊢
  have hA : ∀ q : Nat, s.heap.size ≤ q → A q := fun q h => by rw [← hAe]; exact Or.inr h
  have hS : va_S A s.heap s.heap [] := va_S.rf
  have hl := lv_entry ([.ref h4, .int x, .int y, .int z]) (n := 4) (Nat.le_of_ble_eq_true rfl)
  rw [lg_entry_eq]
  generalize (lg_sl ([.ref h4, .int x, .int y, .int z]) ++ List.replicate (4 - (lg_sl ([.ref h4, .int x, .int y, .int z])).length) Slot.unset).toArray = ls at hl ⊢
  have hl : lv_has ls 4 [(0, .ref h4), (1, .int x), (2, .int y), (3, .int z)] := hl
  refine lv_iload_n hx hb dX4_add_0 rfl (lv_at hl 1 rfl) ?_
  refine lv_iload_n hx hb dX4_add_1 rfl (lv_at hl 2 rfl) ?_
  refine lv_iload_n hx hb dX4_add_2 rfl (lv_at hl 3 rfl) ?_
  refine jr_i (va_runS (As := [.int x, .int y, .int z]) (rest := []) ⟨hx, hb, hml, hown, hts⟩ (c_X4_fits l D cA x y z) (va_cwS 3 hts gX4_add_X4_fits rfl rfl rfl hv_X4_fits.2 ⟨Nat.le_of_ble_eq_true rfl, Nat.le_of_ble_eq_true rfl⟩) (roP.S (av := [.int x, .int y, .int z]) (jP_sub (w2 := []) hP [] rfl) hK hN) rfl rfl hl.1 rfl (lv_room (Nat.le_of_ble_eq_true rfl)) dX4_add_3 ⟨Nat.le_of_ble_eq_true rfl, Nat.le_of_ble_eq_true rfl⟩) ?_
  refine lv_if_ne (tgt := 11) hx hb dX4_add_6 (by decide) (fun c_6 => ?_) (fun c_6 => ?_)
  · replace c_6 := jB_nz.mp c_6
    refine lv_aload_n hx hb dX4_add_11 rfl (lv_at hl 0 rfl) ?_
    refine va_get (D := D) (ci := 4) (v := .int (nI nn)) (C := RX4) (T := TX4) (N := 17) hx hb hts iw_X4_add_X4 hown hK hP 0 rfl rfl 1 (by decide) (hts (.fieldLink RX4 52 "JumpGuardModel" "n" "I") (List.mem_of_getElem? (l := wsX4_add) (i := 1) rfl)) (fun _ h9 => h9) rfl dX4_add_12 ?_
    refine lv_bipush (v := 24) hx hb dX4_add_15 (by decide) ?_
    refine lv_icmp_ne (tgt := 23) hx hb dX4_add_17 (by decide) (fun c_17 => ?_) (fun c_17 => ?_)
    · have hlt : nn < 24 := by
        rcases Nat.lt_or_ge nn 24 with q | q
        · exact q
        · exact absurd (show nI nn = 24 by rw [show nn = 24 by omega]; rfl) c_17
      have hyes : aOk nn x y z := ⟨c_6, hlt⟩
      refine lv_aload_n hx hb dX4_add_23 rfl (lv_at hl 0 rfl) ?_
      refine va_get (D := D) (ci := 4) (v := .ref zc) (C := RX4) (T := TX4) (N := 17) hx hb hts iw_X4_add_X4 hown hK hP 0 rfl rfl 0 (by decide) (hts (.fieldLink RX4 7 "JumpGuardModel" "code" "[I") (List.mem_of_getElem? (l := wsX4_add) (i := 2) rfl)) (fun _ h9 => h9) rfl dX4_add_24 ?_
      refine lv_iconst (v := 3) hx hb dX4_add_27 (by decide) ?_
      refine lv_aload_n hx hb dX4_add_28 rfl (lv_at hl 0 rfl) ?_
      refine va_get (D := D) (ci := 4) (v := .int (nI nn)) (C := RX4) (T := TX4) (N := 17) hx hb hts iw_X4_add_X4 hown hK hP 0 rfl rfl 1 (by decide) (hts (.fieldLink RX4 52 "JumpGuardModel" "n" "I") (List.mem_of_getElem? (l := wsX4_add) (i := 1) rfl)) (fun _ h9 => h9) rfl dX4_add_29 ?_
      refine lv_imul hx hb dX4_add_32 ?_
      refine jk_top (show (3 * (nI nn)) = (nI (3 * nn)) from jn_3m nn) ?_
      refine lv_iload_n hx hb dX4_add_33 rfl (lv_at hl 1 rfl) ?_
      refine jk_ast hx hb hK hP hD hS 1 0 rfl rfl (k := (3 * nn)) rfl (by omega) (by omega) dX4_add_34 (fun H locs hP hD hS => ?_)
      have hP : va_P D vwCl [(h4, .inr (4, [.ref zc, .int (nI nn), .int (nI zz), .ref zj, .ref ze, .int (nI ed), .ref zt, .ref zo, .ref za, .ref zr, .ref zm, .ref zl, .int qc, .int qs, .int (nI qw), .int (nI qb), .int (nI ql)])), (zc, .inl (cA, 288, .inl (upd cd (3 * nn) x)))] H := hP
      have hD : va_D A [(h4, .inr (4, [.ref zc, .int (nI nn), .int (nI zz), .ref zj, .ref ze, .int (nI ed), .ref zt, .ref zo, .ref za, .ref zr, .ref zm, .ref zl, .int qc, .int qs, .int (nI qw), .int (nI qb), .int (nI ql)])), (zc, .inl (cA, 288, .inl (upd cd (3 * nn) x)))] := hD
      refine lv_aload_n hx hb dX4_add_35 rfl (lv_at hl 0 rfl) ?_
      refine va_get (D := D) (ci := 4) (v := .ref zc) (C := RX4) (T := TX4) (N := 17) hx hb hts iw_X4_add_X4 hown hK hP 0 rfl rfl 0 (by decide) (hts (.fieldLink RX4 7 "JumpGuardModel" "code" "[I") (List.mem_of_getElem? (l := wsX4_add) (i := 2) rfl)) (fun _ h9 => h9) rfl dX4_add_36 ?_
      refine lv_iconst (v := 3) hx hb dX4_add_39 (by decide) ?_
      refine lv_aload_n hx hb dX4_add_40 rfl (lv_at hl 0 rfl) ?_
      refine va_get (D := D) (ci := 4) (v := .int (nI nn)) (C := RX4) (T := TX4) (N := 17) hx hb hts iw_X4_add_X4 hown hK hP 0 rfl rfl 1 (by decide) (hts (.fieldLink RX4 52 "JumpGuardModel" "n" "I") (List.mem_of_getElem? (l := wsX4_add) (i := 1) rfl)) (fun _ h9 => h9) rfl dX4_add_41 ?_
      refine lv_imul hx hb dX4_add_44 ?_
      refine jk_top (show (3 * (nI nn)) = (nI (3 * nn)) from jn_3m nn) ?_
      refine lv_iconst (v := 1) hx hb dX4_add_45 (by decide) ?_
      refine lv_iadd hx hb dX4_add_46 ?_
      refine jk_top (show ((nI (3 * nn)) + 1) = (nI (3 * nn + 1)) from jn_a1 _) ?_
      refine lv_iload_n hx hb dX4_add_47 rfl (lv_at hl 2 rfl) ?_
      refine jk_ast hx hb hK hP hD hS 1 0 rfl rfl (k := (3 * nn + 1)) rfl (by omega) (by omega) dX4_add_48 (fun H locs hP hD hS => ?_)
      have hP : va_P D vwCl [(h4, .inr (4, [.ref zc, .int (nI nn), .int (nI zz), .ref zj, .ref ze, .int (nI ed), .ref zt, .ref zo, .ref za, .ref zr, .ref zm, .ref zl, .int qc, .int qs, .int (nI qw), .int (nI qb), .int (nI ql)])), (zc, .inl (cA, 288, .inl (upd (upd cd (3 * nn) x) (3 * nn + 1) y)))] H := hP
      have hD : va_D A [(h4, .inr (4, [.ref zc, .int (nI nn), .int (nI zz), .ref zj, .ref ze, .int (nI ed), .ref zt, .ref zo, .ref za, .ref zr, .ref zm, .ref zl, .int qc, .int qs, .int (nI qw), .int (nI qb), .int (nI ql)])), (zc, .inl (cA, 288, .inl (upd (upd cd (3 * nn) x) (3 * nn + 1) y)))] := hD
      refine lv_aload_n hx hb dX4_add_49 rfl (lv_at hl 0 rfl) ?_
      refine va_get (D := D) (ci := 4) (v := .ref zc) (C := RX4) (T := TX4) (N := 17) hx hb hts iw_X4_add_X4 hown hK hP 0 rfl rfl 0 (by decide) (hts (.fieldLink RX4 7 "JumpGuardModel" "code" "[I") (List.mem_of_getElem? (l := wsX4_add) (i := 2) rfl)) (fun _ h9 => h9) rfl dX4_add_50 ?_
      refine lv_iconst (v := 3) hx hb dX4_add_53 (by decide) ?_
      refine lv_aload_n hx hb dX4_add_54 rfl (lv_at hl 0 rfl) ?_
      refine va_get (D := D) (ci := 4) (v := .int (nI nn)) (C := RX4) (T := TX4) (N := 17) hx hb hts iw_X4_add_X4 hown hK hP 0 rfl rfl 1 (by decide) (hts (.fieldLink RX4 52 "JumpGuardModel" "n" "I") (List.mem_of_getElem? (l := wsX4_add) (i := 1) rfl)) (fun _ h9 => h9) rfl dX4_add_55 ?_
      refine lv_imul hx hb dX4_add_58 ?_
      refine jk_top (show (3 * (nI nn)) = (nI (3 * nn)) from jn_3m nn) ?_
      refine lv_iconst (v := 2) hx hb dX4_add_59 (by decide) ?_
      refine lv_iadd hx hb dX4_add_60 ?_
      refine jk_top (show ((nI (3 * nn)) + 2) = (nI (3 * nn + 2)) from jn_a2 _) ?_
      refine lv_iload_n hx hb dX4_add_61 rfl (lv_at hl 3 rfl) ?_
      refine jk_ast hx hb hK hP hD hS 1 0 rfl rfl (k := (3 * nn + 2)) rfl (by omega) (by omega) dX4_add_62 (fun H locs hP hD hS => ?_)
      have hP : va_P D vwCl [(h4, .inr (4, [.ref zc, .int (nI nn), .int (nI zz), .ref zj, .ref ze, .int (nI ed), .ref zt, .ref zo, .ref za, .ref zr, .ref zm, .ref zl, .int qc, .int qs, .int (nI qw), .int (nI qb), .int (nI ql)])), (zc, .inl (cA, 288, .inl (upd (upd (upd cd (3 * nn) x) (3 * nn + 1) y) (3 * nn + 2) z)))] H := hP
      have hD : va_D A [(h4, .inr (4, [.ref zc, .int (nI nn), .int (nI zz), .ref zj, .ref ze, .int (nI ed), .ref zt, .ref zo, .ref za, .ref zr, .ref zm, .ref zl, .int qc, .int qs, .int (nI qw), .int (nI qb), .int (nI ql)])), (zc, .inl (cA, 288, .inl (upd (upd (upd cd (3 * nn) x) (3 * nn + 1) y) (3 * nn + 2) z)))] := hD
      refine lv_aload_n hx hb dX4_add_63 rfl (lv_at hl 0 rfl) ?_
      refine lv_aload_n hx hb dX4_add_64 rfl (lv_at hl 0 rfl) ?_
      refine va_get (D := D) (ci := 4) (v := .int (nI nn)) (C := RX4) (T := TX4) (N := 17) hx hb hts iw_X4_add_X4 hown hK hP 0 rfl rfl 1 (by decide) (hts (.fieldLink RX4 52 "JumpGuardModel" "n" "I") (List.mem_of_getElem? (l := wsX4_add) (i := 1) rfl)) (fun _ h9 => h9) rfl dX4_add_65 ?_
      refine lv_iconst (v := 1) hx hb dX4_add_68 (by decide) ?_
      refine lv_iadd hx hb dX4_add_69 ?_
      refine jk_top (show ((nI nn) + 1) = (nI (nn + 1)) from jn_a1 nn) ?_
      refine va_put (D := D) (ci := 4) (v := .int (nI (nn + 1))) (ty := .int) (C := RX4) (T := TX4) (N := 17) hx hb hts iw_X4_add_X4 tyX4 tyX4_ok nmX4 hown hK hP hD hS 0 rfl rfl 1 (by decide) (hts (.fieldLink RX4 52 "JumpGuardModel" "n" "I") (List.mem_of_getElem? (l := wsX4_add) (i := 1) rfl)) (fun _ h9 => h9) rfl (by decide +kernel) rfl rfl (Nat.le_of_ble_eq_true rfl) dX4_add_70 (fun H locs hP hD hS => ?_)
      have hP : va_P D vwCl [(h4, .inr (4, [.ref zc, .int (nI (nn + 1)), .int (nI zz), .ref zj, .ref ze, .int (nI ed), .ref zt, .ref zo, .ref za, .ref zr, .ref zm, .ref zl, .int qc, .int qs, .int (nI qw), .int (nI qb), .int (nI ql)])), (zc, .inl (cA, 288, .inl (upd (upd (upd cd (3 * nn) x) (3 * nn + 1) y) (3 * nn + 2) z)))] H := hP
      have hD : va_D A [(h4, .inr (4, [.ref zc, .int (nI (nn + 1)), .int (nI zz), .ref zj, .ref ze, .int (nI ed), .ref zt, .ref zo, .ref za, .ref zr, .ref zm, .ref zl, .int qc, .int qs, .int (nI qw), .int (nI qb), .int (nI ql)])), (zc, .inl (cA, 288, .inl (upd (upd (upd cd (3 * nn) x) (3 * nn + 1) y) (3 * nn + 2) z)))] := hD
      refine lv_aload_n hx hb dX4_add_73 rfl (lv_at hl 0 rfl) ?_
      refine jw_v (va_runV (As := []) (rest := []) ⟨hx, hb, hml, hown, hts⟩ (c_X4_undo l D cA H.size h4 zc zj ze zt zo za zr zm zl (nn + 1) zz ed qc qs qw qb ql) (cwV 0 hts gX4_add_X4_undo rfl rfl rfl hv_X4_undo ⟨Nat.le_of_ble_eq_true rfl, Nat.le_of_ble_eq_true rfl⟩) (rwP.V (wc := [(h4, .inr (4, [.ref zc, .int (nI (nn + 1)), .int (nI zz), .ref zj, .ref ze, .int (nI ed), .ref zt, .ref zo, .ref za, .ref zr, .ref zm, .ref zl, .int qc, .int qs, .int (nI qw), .int (nI qb), .int (nI ql)]))]) (va_recv hK hP (ci := 4) (q0 := 0) rfl rfl) hP hD hK hN [0] (by decide) rfl) rfl rfl hl.1 rfl (lv_room (Nat.le_of_ble_eq_true rfl)) dX4_add_74 ⟨Nat.le_of_ble_eq_true rfl, Nat.le_of_ble_eq_true rfl⟩) hP hD hS hA [0] [1] [1, 0] (wr := [(zc, .inl (cA, 288, .inl (upd (upd (upd cd (3 * nn) x) (3 * nn + 1) y) (3 * nn + 2) z)))]) (w2 := [(h4, .inr (4, [.ref zc, .int (nI (nn + 1)), .int (nI 0), .ref zj, .ref ze, .int (nI ed), .ref zt, .ref zo, .ref za, .ref zr, .ref zm, .ref zl, .int qc, .int (-1), .int (nI qw), .int (nI qb), .int (nI ql)])), (zc, .inl (cA, 288, .inl (upd (upd (upd cd (3 * nn) x) (3 * nn + 1) y) (3 * nn + 2) z)))]) rfl rfl (by decide) (by decide) (by decide) rfl (fun H locs hP hD hS => ?_)
      refine lv_aload_n hx hb dX4_add_77 rfl (lv_at hl 0 rfl) ?_
      refine va_get (D := D) (ci := 4) (v := .int (nI (nn + 1))) (C := RX4) (T := TX4) (N := 17) hx hb hts iw_X4_add_X4 hown hK hP 0 rfl rfl 1 (by decide) (hts (.fieldLink RX4 52 "JumpGuardModel" "n" "I") (List.mem_of_getElem? (l := wsX4_add) (i := 1) rfl)) (fun _ h9 => h9) rfl dX4_add_78 ?_
      refine lv_iconst (v := 1) hx hb dX4_add_81 (by decide) ?_
      refine lv_isub hx hb dX4_add_82 ?_
      refine jk_top (show ((nI (nn + 1)) - 1) = (nI nn) from nI_pred nn) ?_
      obtain ⟨hP9, hD9⟩ := jk_end (w2 := [(h4, .inr (4, [.ref zc, .int (nI (nn + 1)), .int (nI 0), .ref zj, .ref ze, .int (nI ed), .ref zt, .ref zo, .ref za, .ref zr, .ref zm, .ref zl, .int qc, .int (-1), .int (nI qw), .int (nI qb), .int (nI ql)])), (zc, .inl (cA, 288, .inl (upd (upd (upd cd (3 * nn) x) (3 * nn + 1) y) (3 * nn + 2) z)))]) hP hD [0, 1] (by decide) rfl
      have e9 : ([(h4, .inr (4, [.ref zc, .int (nI (nn + 1)), .int (nI 0), .ref zj, .ref ze, .int (nI ed), .ref zt, .ref zo, .ref za, .ref zr, .ref zm, .ref zl, .int qc, .int (-1), .int (nI qw), .int (nI qb), .int (nI ql)])), (zc, .inl (cA, 288, .inl (upd (upd (upd cd (3 * nn) x) (3 * nn + 1) y) (3 * nn + 2) z)))] : va_W) = [(h4, .inr (4, [.ref zc, .int (nI (if aOk nn x y z then nn + 1 else nn)), .int (nI (if aOk nn x y z then 0 else zz)), .ref zj, .ref ze, .int (nI ed), .ref zt, .ref zo, .ref za, .ref zr, .ref zm, .ref zl, .int qc, .int (if aOk nn x y z then (-1) else qs), .int (nI qw), .int (nI qb), .int (nI ql)])), (zc, .inl (cA, 288, .inl (if aOk nn x y z then rApp cd nn x y z else cd)))] := (by simp only [if_pos hyes]; rfl)
      rw [e9] at hP9 hD9
      exact W.iret (v := (nI nn)) hx hb hr (fun t9 ht9 hW9 => ⟨⟨_, (), rfl, (show (nI nn) = (if sI x y z then (if nn < 24 then nI nn else -2) else -1) from (by rw [if_pos c_6, if_pos hlt])), by rw [ht9]; exact hP9, hD9⟩, hS.F ht9⟩) hS.2.2 dX4_add_83
    · have hge : ¬ nn < 24 := by have := (nI_eq (b := 24) (by omega) (by decide)).mp c_17; omega
      have hno : ¬ aOk nn x y z := fun h => hge h.2
      refine lv_bipush (v := (-2)) hx hb dX4_add_20 (by decide) ?_
      obtain ⟨hP9, hD9⟩ := jk_end (w2 := [(h4, .inr (4, [.ref zc, .int (nI nn), .int (nI zz), .ref zj, .ref ze, .int (nI ed), .ref zt, .ref zo, .ref za, .ref zr, .ref zm, .ref zl, .int qc, .int qs, .int (nI qw), .int (nI qb), .int (nI ql)])), (zc, .inl (cA, 288, .inl cd))]) hP hD [0, 1] (by decide) rfl
      have e9 : ([(h4, .inr (4, [.ref zc, .int (nI nn), .int (nI zz), .ref zj, .ref ze, .int (nI ed), .ref zt, .ref zo, .ref za, .ref zr, .ref zm, .ref zl, .int qc, .int qs, .int (nI qw), .int (nI qb), .int (nI ql)])), (zc, .inl (cA, 288, .inl cd))] : va_W) = [(h4, .inr (4, [.ref zc, .int (nI (if aOk nn x y z then nn + 1 else nn)), .int (nI (if aOk nn x y z then 0 else zz)), .ref zj, .ref ze, .int (nI ed), .ref zt, .ref zo, .ref za, .ref zr, .ref zm, .ref zl, .int qc, .int (if aOk nn x y z then (-1) else qs), .int (nI qw), .int (nI qb), .int (nI ql)])), (zc, .inl (cA, 288, .inl (if aOk nn x y z then rApp cd nn x y z else cd)))] := (by simp only [if_neg hno])
      rw [e9] at hP9 hD9
      exact W.iret (v := (-2)) hx hb hr (fun t9 ht9 hW9 => ⟨⟨_, (), rfl, (show (-2) = (if sI x y z then (if nn < 24 then nI nn else -2) else -1) from (by rw [if_pos c_6, if_neg hge])), by rw [ht9]; exact hP9, hD9⟩, hS.F ht9⟩) hS.2.2 dX4_add_22
  · replace c_6 := jB_z.mp c_6
    have hno : ¬ aOk nn x y z := fun h => c_6 h.1
    refine lv_iconst (v := (-1)) hx hb dX4_add_9 (by decide) ?_
    obtain ⟨hP9, hD9⟩ := jk_end (w2 := [(h4, .inr (4, [.ref zc, .int (nI nn), .int (nI zz), .ref zj, .ref ze, .int (nI ed), .ref zt, .ref zo, .ref za, .ref zr, .ref zm, .ref zl, .int qc, .int qs, .int (nI qw), .int (nI qb), .int (nI ql)])), (zc, .inl (cA, 288, .inl cd))]) hP hD [0, 1] (by decide) rfl
    have e9 : ([(h4, .inr (4, [.ref zc, .int (nI nn), .int (nI zz), .ref zj, .ref ze, .int (nI ed), .ref zt, .ref zo, .ref za, .ref zr, .ref zm, .ref zl, .int qc, .int qs, .int (nI qw), .int (nI qb), .int (nI ql)])), (zc, .inl (cA, 288, .inl cd))] : va_W) = [(h4, .inr (4, [.ref zc, .int (nI (if aOk nn x y z then nn + 1 else nn)), .int (nI (if aOk nn x y z then 0 else zz)), .ref zj, .ref ze, .int (nI ed), .ref zt, .ref zo, .ref za, .ref zr, .ref zm, .ref zl, .int qc, .int (if aOk nn x y z then (-1) else qs), .int (nI qw), .int (nI qb), .int (nI ql)])), (zc, .inl (cA, 288, .inl (if aOk nn x y z then rApp cd nn x y z else cd)))] := (by simp only [if_neg hno])
    rw [e9] at hP9 hD9
    exact W.iret (v := (-1)) hx hb hr (fun t9 ht9 hW9 => ⟨⟨_, (), rfl, (show (-1) = (if sI x y z then (if nn < 24 then nI nn else -2) else -1) from (if_neg c_6).symm), by rw [ht9]; exact hP9, hD9⟩, hS.F ht9⟩) hS.2.2 dX4_add_10
set_option maxHeartbeats 4000000 in
set_option maxRecDepth 100000 in
theorem c_X4_allow (l : Launch) (D : va_G) (cA : ClassId) (sz : Nat) (h4 : Nat) (zc : Nat) (zj : Nat) (ze : Nat) (zt : Nat) (zo : Nat) (za : Nat) (zr : Nat) (zm : Nat) (zl : Nat) (nn : Nat) (zz : Nat) (ed : Nat) (qc : Int32) (qs : Int32) (qw : Nat) (qb : Nat) (ql : Nat) (cd : Nat → Int32) (ju : Nat → Int32) (en : Nat → Int32) (x : Int32) (y : Int32) (hnn : nn ≤ 24) (hed : ed ≤ 48) : Met l yX4_allow wsX4_allow ({ frames := 1, cells := 0, slots := 0, locals := 21 }) (rwP D cA [.ref h4, .int x, .int y] sz [(h4, .inr (4, [.ref zc, .int (nI nn), .int (nI zz), .ref zj, .ref ze, .int (nI ed), .ref zt, .ref zo, .ref za, .ref zr, .ref zm, .ref zl, .int qc, .int qs, .int (nI qw), .int (nI qb), .int (nI ql)])), (zc, .inl (cA, 288, .inl cd)), (zj, .inl (cA, 48, .inl ju)), (ze, .inl (cA, 48, .inl en))]) (rwI D (va_A [(h4, .inr (4, [.ref zc, .int (nI nn), .int (nI zz), .ref zj, .ref ze, .int (nI ed), .ref zt, .ref zo, .ref za, .ref zr, .ref zm, .ref zl, .int qc, .int qs, .int (nI qw), .int (nI qb), .int (nI ql)])), (zc, .inl (cA, 288, .inl cd)), (zj, .inl (cA, 48, .inl ju)), (ze, .inl (cA, 48, .inl en))] sz) (jB (rAl cd nn ju en ed x y)) [(h4, .inr (4, [.ref zc, .int (nI nn), .int (nI (if rAl cd nn ju en ed x y then 0 else zz)), .ref zj, .ref ze, .int (nI (if rAl cd nn ju en ed x y then ed + 1 else ed)), .ref zt, .ref zo, .ref za, .ref zr, .ref zm, .ref zl, .int qc, .int (if rAl cd nn ju en ed x y then (-1) else qs), .int (nI qw), .int (nI qb), .int (nI ql)])), (zc, .inl (cA, 288, .inl cd)), (zj, .inl (cA, 48, .inl (if rAl cd nn ju en ed x y then upd ju ed x else ju))), (ze, .inl (cA, 48, .inl (if rAl cd nn ju en ed x y then upd en ed y else en)))]) 0 0 (va_A [(h4, .inr (4, [.ref zc, .int (nI nn), .int (nI zz), .ref zj, .ref ze, .int (nI ed), .ref zt, .ref zo, .ref za, .ref zr, .ref zm, .ref zl, .int qc, .int qs, .int (nI qw), .int (nI qb), .int (nI ql)])), (zc, .inl (cA, 288, .inl cd)), (zj, .inl (cA, 48, .inl ju)), (ze, .inl (cA, 48, .inl en))] sz) := by
  refine Met.ofW (cc := cX4_allow) (maxL := 4) (ret := (some .boolean)) (by decide) rfl ?_
  intro p e s m args below meth c s₁ B hml hv
  obtain ⟨rfl, hsz, hP, hK, hN, hD0⟩ := hv
  have hx := B.exec
  have hb := B.bytes
  have hr := B.returns
  have hts := atoms_spec (ws := wsX4_allow) B.pre
  have hown : s.vm.findClass RX4 = some m.cls := findClass_of_methodNamed B.named
  have hlocks := B.notSynchronized
  subst hsz
  have hD := hD0.self (sz := s.heap.size)
  generalize hAe : va_A [(h4, .inr (4, [.ref zc, .int (nI nn), .int (nI zz), .ref zj, .ref ze, .int (nI ed), .ref zt, .ref zo, .ref za, .ref zr, .ref zm, .ref zl, .int qc, .int qs, .int (nI qw), .int (nI qb), .int (nI ql)])), (zc, .inl (cA, 288, .inl cd)), (zj, .inl (cA, 48, .inl ju)), (ze, .inl (cA, 48, .inl en))] s.heap.size = A at hD ⊢
  have hA : ∀ q : Nat, s.heap.size ≤ q → A q := fun q h => by rw [← hAe]; exact Or.inr h
  have hS : va_S A s.heap s.heap [] := va_S.rf
  have hl := lv_entry ([.ref h4, .int x, .int y]) (n := 4) (Nat.le_of_ble_eq_true rfl)
  rw [lg_entry_eq]
  generalize (lg_sl ([.ref h4, .int x, .int y]) ++ List.replicate (4 - (lg_sl ([.ref h4, .int x, .int y])).length) Slot.unset).toArray = ls at hl ⊢
  have hl : lv_has ls 4 [(0, .ref h4), (1, .int x), (2, .int y)] := hl
  refine lv_iload_n hx hb dX4_allow_0 rfl (lv_at hl 1 rfl) ?_
  refine lv_aload_n hx hb dX4_allow_1 rfl (lv_at hl 0 rfl) ?_
  refine va_get (D := D) (ci := 4) (v := .int (nI nn)) (C := RX4) (T := TX4) (N := 17) hx hb hts iw_X4_allow_X4 hown hK hP 0 rfl rfl 1 (by decide) (hts (.fieldLink RX4 52 "JumpGuardModel" "n" "I") (List.mem_of_getElem? (l := wsX4_allow) (i := 1) rfl)) (fun _ h9 => h9) rfl dX4_allow_2 ?_
  refine lv_iconst (v := 1) hx hb dX4_allow_5 (by decide) ?_
  refine lv_isub hx hb dX4_allow_6 ?_
  refine jr_i (va_runS (As := [.int x, .int ((nI nn) - 1)]) (rest := []) ⟨hx, hb, hml, hown, hts⟩ (c_X4_within l D cA x ((nI nn) - 1)) (va_cwS 2 hts gX4_allow_X4_within rfl rfl rfl hv_X4_within.2 ⟨Nat.le_of_ble_eq_true rfl, Nat.le_of_ble_eq_true rfl⟩) (roP.S (av := [.int x, .int ((nI nn) - 1)]) (jP_sub (w2 := []) hP [] rfl) hK hN) rfl rfl hl.1 rfl (lv_room (Nat.le_of_ble_eq_true rfl)) dX4_allow_7 ⟨Nat.le_of_ble_eq_true rfl, Nat.le_of_ble_eq_true rfl⟩) ?_
  refine jk_top (show (jB (wI x ((nI nn) - 1))) = (jB (jIn x (nI nn))) from jB_i (wI_p (by omega))) ?_
  refine lv_if_eq (tgt := 48) hx hb dX4_allow_10 (by decide) (fun c_10 => ?_) (fun c_10 => ?_)
  · replace c_10 := jB_z.mp c_10
    have hno : ¬ rAl cd nn ju en ed x y := fun h => c_10 h.1
    refine lv_iconst (v := 0) hx hb dX4_allow_48 (by decide) ?_
    obtain ⟨hP9, hD9⟩ := jk_end (w2 := [(h4, .inr (4, [.ref zc, .int (nI nn), .int (nI zz), .ref zj, .ref ze, .int (nI ed), .ref zt, .ref zo, .ref za, .ref zr, .ref zm, .ref zl, .int qc, .int qs, .int (nI qw), .int (nI qb), .int (nI ql)])), (zc, .inl (cA, 288, .inl cd)), (zj, .inl (cA, 48, .inl ju)), (ze, .inl (cA, 48, .inl en))]) hP hD [0, 1, 2, 3] (by decide) rfl
    have e9 : ([(h4, .inr (4, [.ref zc, .int (nI nn), .int (nI zz), .ref zj, .ref ze, .int (nI ed), .ref zt, .ref zo, .ref za, .ref zr, .ref zm, .ref zl, .int qc, .int qs, .int (nI qw), .int (nI qb), .int (nI ql)])), (zc, .inl (cA, 288, .inl cd)), (zj, .inl (cA, 48, .inl ju)), (ze, .inl (cA, 48, .inl en))] : va_W) = [(h4, .inr (4, [.ref zc, .int (nI nn), .int (nI (if rAl cd nn ju en ed x y then 0 else zz)), .ref zj, .ref ze, .int (nI (if rAl cd nn ju en ed x y then ed + 1 else ed)), .ref zt, .ref zo, .ref za, .ref zr, .ref zm, .ref zl, .int qc, .int (if rAl cd nn ju en ed x y then (-1) else qs), .int (nI qw), .int (nI qb), .int (nI ql)])), (zc, .inl (cA, 288, .inl cd)), (zj, .inl (cA, 48, .inl (if rAl cd nn ju en ed x y then upd ju ed x else ju))), (ze, .inl (cA, 48, .inl (if rAl cd nn ju en ed x y then upd en ed y else en)))] := (by simp only [if_neg hno])
    rw [e9] at hP9 hD9
    exact W.zret (ty := .boolean) (v := 0) hx hb hr rfl (fun t9 ht9 hW9 => ⟨⟨_, (), rfl, (show 0 = (jB (rAl cd nn ju en ed x y)) from (jB_f hno).symm), by rw [ht9]; exact hP9, hD9⟩, hS.F ht9⟩) hS.2.2 dX4_allow_49
  · replace c_10 := jB_nz.mp c_10
    refine lv_iload_n hx hb dX4_allow_13 rfl (lv_at hl 2 rfl) ?_
    refine lv_aload_n hx hb dX4_allow_14 rfl (lv_at hl 0 rfl) ?_
    refine va_get (D := D) (ci := 4) (v := .int (nI nn)) (C := RX4) (T := TX4) (N := 17) hx hb hts iw_X4_allow_X4 hown hK hP 0 rfl rfl 1 (by decide) (hts (.fieldLink RX4 52 "JumpGuardModel" "n" "I") (List.mem_of_getElem? (l := wsX4_allow) (i := 1) rfl)) (fun _ h9 => h9) rfl dX4_allow_15 ?_
    refine lv_iconst (v := 1) hx hb dX4_allow_18 (by decide) ?_
    refine lv_isub hx hb dX4_allow_19 ?_
    refine jr_i (va_runS (As := [.int y, .int ((nI nn) - 1)]) (rest := []) ⟨hx, hb, hml, hown, hts⟩ (c_X4_within l D cA y ((nI nn) - 1)) (va_cwS 2 hts gX4_allow_X4_within rfl rfl rfl hv_X4_within.2 ⟨Nat.le_of_ble_eq_true rfl, Nat.le_of_ble_eq_true rfl⟩) (roP.S (av := [.int y, .int ((nI nn) - 1)]) (jP_sub (w2 := []) hP [] rfl) hK hN) rfl rfl hl.1 rfl (lv_room (Nat.le_of_ble_eq_true rfl)) dX4_allow_20 ⟨Nat.le_of_ble_eq_true rfl, Nat.le_of_ble_eq_true rfl⟩) ?_
    refine jk_top (show (jB (wI y ((nI nn) - 1))) = (jB (jIn y (nI nn))) from jB_i (wI_p (by omega))) ?_
    refine lv_if_eq (tgt := 48) hx hb dX4_allow_23 (by decide) (fun c_23 => ?_) (fun c_23 => ?_)
    · replace c_23 := jB_z.mp c_23
      have hno : ¬ rAl cd nn ju en ed x y := fun h => c_23 h.2.1
      refine lv_iconst (v := 0) hx hb dX4_allow_48 (by decide) ?_
      obtain ⟨hP9, hD9⟩ := jk_end (w2 := [(h4, .inr (4, [.ref zc, .int (nI nn), .int (nI zz), .ref zj, .ref ze, .int (nI ed), .ref zt, .ref zo, .ref za, .ref zr, .ref zm, .ref zl, .int qc, .int qs, .int (nI qw), .int (nI qb), .int (nI ql)])), (zc, .inl (cA, 288, .inl cd)), (zj, .inl (cA, 48, .inl ju)), (ze, .inl (cA, 48, .inl en))]) hP hD [0, 1, 2, 3] (by decide) rfl
      have e9 : ([(h4, .inr (4, [.ref zc, .int (nI nn), .int (nI zz), .ref zj, .ref ze, .int (nI ed), .ref zt, .ref zo, .ref za, .ref zr, .ref zm, .ref zl, .int qc, .int qs, .int (nI qw), .int (nI qb), .int (nI ql)])), (zc, .inl (cA, 288, .inl cd)), (zj, .inl (cA, 48, .inl ju)), (ze, .inl (cA, 48, .inl en))] : va_W) = [(h4, .inr (4, [.ref zc, .int (nI nn), .int (nI (if rAl cd nn ju en ed x y then 0 else zz)), .ref zj, .ref ze, .int (nI (if rAl cd nn ju en ed x y then ed + 1 else ed)), .ref zt, .ref zo, .ref za, .ref zr, .ref zm, .ref zl, .int qc, .int (if rAl cd nn ju en ed x y then (-1) else qs), .int (nI qw), .int (nI qb), .int (nI ql)])), (zc, .inl (cA, 288, .inl cd)), (zj, .inl (cA, 48, .inl (if rAl cd nn ju en ed x y then upd ju ed x else ju))), (ze, .inl (cA, 48, .inl (if rAl cd nn ju en ed x y then upd en ed y else en)))] := (by simp only [if_neg hno])
      rw [e9] at hP9 hD9
      exact W.zret (ty := .boolean) (v := 0) hx hb hr rfl (fun t9 ht9 hW9 => ⟨⟨_, (), rfl, (show 0 = (jB (rAl cd nn ju en ed x y)) from (jB_f hno).symm), by rw [ht9]; exact hP9, hD9⟩, hS.F ht9⟩) hS.2.2 dX4_allow_49
    · replace c_23 := jB_nz.mp c_23
      obtain ⟨j, hj, rfl⟩ := jN_of (n := nn) (by omega) c_10
      obtain ⟨t, ht, rfl⟩ := jN_of (n := nn) (by omega) c_23
      have ej : (nI j).toNatClampNeg = j := nI_clamp (by omega)
      have et : (nI t).toNatClampNeg = t := nI_clamp (by omega)
      refine lv_aload_n hx hb dX4_allow_26 rfl (lv_at hl 0 rfl) ?_
      refine va_get (D := D) (ci := 4) (v := .ref zc) (C := RX4) (T := TX4) (N := 17) hx hb hts iw_X4_allow_X4 hown hK hP 0 rfl rfl 0 (by decide) (hts (.fieldLink RX4 7 "JumpGuardModel" "code" "[I") (List.mem_of_getElem? (l := wsX4_allow) (i := 2) rfl)) (fun _ h9 => h9) rfl dX4_allow_27 ?_
      refine lv_iconst (v := 3) hx hb dX4_allow_30 (by decide) ?_
      refine lv_iload_n hx hb dX4_allow_31 rfl (lv_at hl 1 rfl) ?_
      refine lv_imul hx hb dX4_allow_32 ?_
      refine jk_top (show (3 * (nI j)) = (nI (3 * j)) from jn_3m j) ?_
      refine jk_ald hx hb hK hP 1 0 rfl rfl (k := (3 * j)) rfl (by omega) (by omega) dX4_allow_33 ?_
      refine lv_bipush (v := 8) hx hb dX4_allow_34 (by decide) ?_
      refine lv_icmp_ne (tgt := 48) hx hb dX4_allow_36 (by decide) (fun c_36 => ?_) (fun c_36 => ?_)
      · have hno : ¬ rAl cd nn ju en ed (nI j) (nI t) := fun h => c_36 (by have h3 := h.2.2.1; rw [ej] at h3; exact h3)
        refine lv_iconst (v := 0) hx hb dX4_allow_48 (by decide) ?_
        obtain ⟨hP9, hD9⟩ := jk_end (w2 := [(h4, .inr (4, [.ref zc, .int (nI nn), .int (nI zz), .ref zj, .ref ze, .int (nI ed), .ref zt, .ref zo, .ref za, .ref zr, .ref zm, .ref zl, .int qc, .int qs, .int (nI qw), .int (nI qb), .int (nI ql)])), (zc, .inl (cA, 288, .inl cd)), (zj, .inl (cA, 48, .inl ju)), (ze, .inl (cA, 48, .inl en))]) hP hD [0, 1, 2, 3] (by decide) rfl
        have e9 : ([(h4, .inr (4, [.ref zc, .int (nI nn), .int (nI zz), .ref zj, .ref ze, .int (nI ed), .ref zt, .ref zo, .ref za, .ref zr, .ref zm, .ref zl, .int qc, .int qs, .int (nI qw), .int (nI qb), .int (nI ql)])), (zc, .inl (cA, 288, .inl cd)), (zj, .inl (cA, 48, .inl ju)), (ze, .inl (cA, 48, .inl en))] : va_W) = [(h4, .inr (4, [.ref zc, .int (nI nn), .int (nI (if rAl cd nn ju en ed (nI j) (nI t) then 0 else zz)), .ref zj, .ref ze, .int (nI (if rAl cd nn ju en ed (nI j) (nI t) then ed + 1 else ed)), .ref zt, .ref zo, .ref za, .ref zr, .ref zm, .ref zl, .int qc, .int (if rAl cd nn ju en ed (nI j) (nI t) then (-1) else qs), .int (nI qw), .int (nI qb), .int (nI ql)])), (zc, .inl (cA, 288, .inl cd)), (zj, .inl (cA, 48, .inl (if rAl cd nn ju en ed (nI j) (nI t) then upd ju ed (nI j) else ju))), (ze, .inl (cA, 48, .inl (if rAl cd nn ju en ed (nI j) (nI t) then upd en ed (nI t) else en)))] := (by simp only [if_neg hno])
        rw [e9] at hP9 hD9
        exact W.zret (ty := .boolean) (v := 0) hx hb hr rfl (fun t9 ht9 hW9 => ⟨⟨_, (), rfl, (show 0 = (jB (rAl cd nn ju en ed (nI j) (nI t))) from (jB_f hno).symm), by rw [ht9]; exact hP9, hD9⟩, hS.F ht9⟩) hS.2.2 dX4_allow_49
      · refine lv_aload_n hx hb dX4_allow_39 rfl (lv_at hl 0 rfl) ?_
        refine va_get (D := D) (ci := 4) (v := .int (nI ed)) (C := RX4) (T := TX4) (N := 17) hx hb hts iw_X4_allow_X4 hown hK hP 0 rfl rfl 5 (by decide) (hts (.fieldLink RX4 58 "JumpGuardModel" "edges" "I") (List.mem_of_getElem? (l := wsX4_allow) (i := 3) rfl)) (fun _ h9 => h9) rfl dX4_allow_40 ?_
        refine lv_bipush (v := 48) hx hb dX4_allow_43 (by decide) ?_
        refine lv_icmp_ne (tgt := 50) hx hb dX4_allow_45 (by decide) (fun c_45 => ?_) (fun c_45 => ?_)
        · have h48 : ed < 48 := by
            rcases Nat.lt_or_ge ed 48 with q | q
            · exact q
            · exact absurd (show nI ed = 48 by rw [show ed = 48 by omega]; rfl) c_45
          refine lv_iconst (v := 0) hx hb dX4_allow_50 (by decide) ?_
          refine lv_istore_n (lv' := [(3, .int 0), (0, .ref h4), (1, .int (nI j)), (2, .int (nI t))]) hx hb dX4_allow_51 rfl hl (by decide) rfl (fun ls hl => ?_)
          have loop52 : ∀ (n : Nat) (i : Nat), (i ≤ ed) → (ed + 1 ≤ i + n) → (∀ k, k < i → ¬ (ju k = nI j ∧ en k = nI t)) → ∀ (H : Heap) (locs : List Loc), va_P D vwCl [(h4, .inr (4, [.ref zc, .int (nI nn), .int (nI zz), .ref zj, .ref ze, .int (nI ed), .ref zt, .ref zo, .ref za, .ref zr, .ref zm, .ref zl, .int qc, .int qs, .int (nI qw), .int (nI qb), .int (nI ql)])), (zc, .inl (cA, 288, .inl cd)), (zj, .inl (cA, 48, .inl ju)), (ze, .inl (cA, 48, .inl en))] H → va_D A [(h4, .inr (4, [.ref zc, .int (nI nn), .int (nI zz), .ref zj, .ref ze, .int (nI ed), .ref zt, .ref zo, .ref za, .ref zr, .ref zm, .ref zl, .int qc, .int qs, .int (nI qw), .int (nI qb), .int (nI ql)])), (zc, .inl (cA, 288, .inl cd)), (zj, .inl (cA, 48, .inl ju)), (ze, .inl (cA, 48, .inl en))] → va_S A s.heap H locs → ∀ (ls : Array Slot), lv_has ls 4 [(0, .ref h4), (1, .int (nI j)), (2, .int (nI t)), (3, .int (nI i))] → W p l e (headSpec wsX4_allow ({ frames := 1, cells := 0, slots := 0, locals := 21 })).room s m ([.ref h4, .int (nI j), .int (nI t)] : List Value).toArray below meth c H locs 0 0 (MQ below (rwI D A (jB (rAl cd nn ju en ed (nI j) (nI t))) [(h4, .inr (4, [.ref zc, .int (nI nn), .int (nI (if rAl cd nn ju en ed (nI j) (nI t) then 0 else zz)), .ref zj, .ref ze, .int (nI (if rAl cd nn ju en ed (nI j) (nI t) then ed + 1 else ed)), .ref zt, .ref zo, .ref za, .ref zr, .ref zm, .ref zl, .int qc, .int (if rAl cd nn ju en ed (nI j) (nI t) then (-1) else qs), .int (nI qw), .int (nI qb), .int (nI ql)])), (zc, .inl (cA, 288, .inl cd)), (zj, .inl (cA, 48, .inl (if rAl cd nn ju en ed (nI j) (nI t) then upd ju ed (nI j) else ju))), (ze, .inl (cA, 48, .inl (if rAl cd nn ju en ed (nI j) (nI t) then upd en ed (nI t) else en)))]) ([.ref h4, .int (nI j), .int (nI t)] : List Value).toArray s 0 0 A) (F0 m 52 ls []) := by
            intro n
            induction n with
            | zero => intro i hi hfu hdone; exact absurd hfu (by omega)
            | succ n ih52 =>
              intro i hi hfu hdone H locs hP hD hS ls hl
              refine lv_iload_n hx hb dX4_allow_52 rfl (lv_at hl 3 rfl) ?_
              refine lv_aload_n hx hb dX4_allow_53 rfl (lv_at hl 0 rfl) ?_
              refine va_get (D := D) (ci := 4) (v := .int (nI ed)) (C := RX4) (T := TX4) (N := 17) hx hb hts iw_X4_allow_X4 hown hK hP 0 rfl rfl 5 (by decide) (hts (.fieldLink RX4 58 "JumpGuardModel" "edges" "I") (List.mem_of_getElem? (l := wsX4_allow) (i := 3) rfl)) (fun _ h9 => h9) rfl dX4_allow_54 ?_
              refine lv_icmp_ge (tgt := 88) hx hb dX4_allow_57 (by decide) (fun c_57 => ?_) (fun c_57 => ?_)
              · have hyes : rAl cd nn ju en ed (nI j) (nI t) := ⟨c_10, c_23, by rw [ej]; exact c_36, h48, fun k hk => hdone k (by
                  rcases Nat.lt_or_ge i ed with q | q
                  · exact absurd c_57 (nI_ge q (by omega))
                  · omega)⟩
                refine lv_aload_n hx hb dX4_allow_88 rfl (lv_at hl 0 rfl) ?_
                refine va_get (D := D) (ci := 4) (v := .ref zj) (C := RX4) (T := TX4) (N := 17) hx hb hts iw_X4_allow_X4 hown hK hP 0 rfl rfl 3 (by decide) (hts (.fieldLink RX4 13 "JumpGuardModel" "jump" "[I") (List.mem_of_getElem? (l := wsX4_allow) (i := 4) rfl)) (fun _ h9 => h9) rfl dX4_allow_89 ?_
                refine lv_aload_n hx hb dX4_allow_92 rfl (lv_at hl 0 rfl) ?_
                refine va_get (D := D) (ci := 4) (v := .int (nI ed)) (C := RX4) (T := TX4) (N := 17) hx hb hts iw_X4_allow_X4 hown hK hP 0 rfl rfl 5 (by decide) (hts (.fieldLink RX4 58 "JumpGuardModel" "edges" "I") (List.mem_of_getElem? (l := wsX4_allow) (i := 3) rfl)) (fun _ h9 => h9) rfl dX4_allow_93 ?_
                refine lv_iload_n hx hb dX4_allow_96 rfl (lv_at hl 1 rfl) ?_
                refine jk_ast hx hb hK hP hD hS 2 0 rfl rfl (k := ed) rfl (by omega) (by omega) dX4_allow_97 (fun H locs hP hD hS => ?_)
                have hP : va_P D vwCl [(h4, .inr (4, [.ref zc, .int (nI nn), .int (nI zz), .ref zj, .ref ze, .int (nI ed), .ref zt, .ref zo, .ref za, .ref zr, .ref zm, .ref zl, .int qc, .int qs, .int (nI qw), .int (nI qb), .int (nI ql)])), (zc, .inl (cA, 288, .inl cd)), (zj, .inl (cA, 48, .inl (upd ju ed (nI j)))), (ze, .inl (cA, 48, .inl en))] H := hP
                have hD : va_D A [(h4, .inr (4, [.ref zc, .int (nI nn), .int (nI zz), .ref zj, .ref ze, .int (nI ed), .ref zt, .ref zo, .ref za, .ref zr, .ref zm, .ref zl, .int qc, .int qs, .int (nI qw), .int (nI qb), .int (nI ql)])), (zc, .inl (cA, 288, .inl cd)), (zj, .inl (cA, 48, .inl (upd ju ed (nI j)))), (ze, .inl (cA, 48, .inl en))] := hD
                refine lv_aload_n hx hb dX4_allow_98 rfl (lv_at hl 0 rfl) ?_
                refine va_get (D := D) (ci := 4) (v := .ref ze) (C := RX4) (T := TX4) (N := 17) hx hb hts iw_X4_allow_X4 hown hK hP 0 rfl rfl 4 (by decide) (hts (.fieldLink RX4 16 "JumpGuardModel" "end" "[I") (List.mem_of_getElem? (l := wsX4_allow) (i := 5) rfl)) (fun _ h9 => h9) rfl dX4_allow_99 ?_
                refine lv_aload_n hx hb dX4_allow_102 rfl (lv_at hl 0 rfl) ?_
                refine va_get (D := D) (ci := 4) (v := .int (nI ed)) (C := RX4) (T := TX4) (N := 17) hx hb hts iw_X4_allow_X4 hown hK hP 0 rfl rfl 5 (by decide) (hts (.fieldLink RX4 58 "JumpGuardModel" "edges" "I") (List.mem_of_getElem? (l := wsX4_allow) (i := 3) rfl)) (fun _ h9 => h9) rfl dX4_allow_103 ?_
                refine lv_iload_n hx hb dX4_allow_106 rfl (lv_at hl 2 rfl) ?_
                refine jk_ast hx hb hK hP hD hS 3 0 rfl rfl (k := ed) rfl (by omega) (by omega) dX4_allow_107 (fun H locs hP hD hS => ?_)
                have hP : va_P D vwCl [(h4, .inr (4, [.ref zc, .int (nI nn), .int (nI zz), .ref zj, .ref ze, .int (nI ed), .ref zt, .ref zo, .ref za, .ref zr, .ref zm, .ref zl, .int qc, .int qs, .int (nI qw), .int (nI qb), .int (nI ql)])), (zc, .inl (cA, 288, .inl cd)), (zj, .inl (cA, 48, .inl (upd ju ed (nI j)))), (ze, .inl (cA, 48, .inl (upd en ed (nI t))))] H := hP
                have hD : va_D A [(h4, .inr (4, [.ref zc, .int (nI nn), .int (nI zz), .ref zj, .ref ze, .int (nI ed), .ref zt, .ref zo, .ref za, .ref zr, .ref zm, .ref zl, .int qc, .int qs, .int (nI qw), .int (nI qb), .int (nI ql)])), (zc, .inl (cA, 288, .inl cd)), (zj, .inl (cA, 48, .inl (upd ju ed (nI j)))), (ze, .inl (cA, 48, .inl (upd en ed (nI t))))] := hD
                refine lv_aload_n hx hb dX4_allow_108 rfl (lv_at hl 0 rfl) ?_
                refine lv_aload_n hx hb dX4_allow_109 rfl (lv_at hl 0 rfl) ?_
                refine va_get (D := D) (ci := 4) (v := .int (nI ed)) (C := RX4) (T := TX4) (N := 17) hx hb hts iw_X4_allow_X4 hown hK hP 0 rfl rfl 5 (by decide) (hts (.fieldLink RX4 58 "JumpGuardModel" "edges" "I") (List.mem_of_getElem? (l := wsX4_allow) (i := 3) rfl)) (fun _ h9 => h9) rfl dX4_allow_110 ?_
                refine lv_iconst (v := 1) hx hb dX4_allow_113 (by decide) ?_
                refine lv_iadd hx hb dX4_allow_114 ?_
                refine jk_top (show ((nI ed) + 1) = (nI (ed + 1)) from jn_a1 ed) ?_
                refine va_put (D := D) (ci := 4) (v := .int (nI (ed + 1))) (ty := .int) (C := RX4) (T := TX4) (N := 17) hx hb hts iw_X4_allow_X4 tyX4 tyX4_ok nmX4 hown hK hP hD hS 0 rfl rfl 5 (by decide) (hts (.fieldLink RX4 58 "JumpGuardModel" "edges" "I") (List.mem_of_getElem? (l := wsX4_allow) (i := 3) rfl)) (fun _ h9 => h9) rfl (by decide +kernel) rfl rfl (Nat.le_of_ble_eq_true rfl) dX4_allow_115 (fun H locs hP hD hS => ?_)
                have hP : va_P D vwCl [(h4, .inr (4, [.ref zc, .int (nI nn), .int (nI zz), .ref zj, .ref ze, .int (nI (ed + 1)), .ref zt, .ref zo, .ref za, .ref zr, .ref zm, .ref zl, .int qc, .int qs, .int (nI qw), .int (nI qb), .int (nI ql)])), (zc, .inl (cA, 288, .inl cd)), (zj, .inl (cA, 48, .inl (upd ju ed (nI j)))), (ze, .inl (cA, 48, .inl (upd en ed (nI t))))] H := hP
                have hD : va_D A [(h4, .inr (4, [.ref zc, .int (nI nn), .int (nI zz), .ref zj, .ref ze, .int (nI (ed + 1)), .ref zt, .ref zo, .ref za, .ref zr, .ref zm, .ref zl, .int qc, .int qs, .int (nI qw), .int (nI qb), .int (nI ql)])), (zc, .inl (cA, 288, .inl cd)), (zj, .inl (cA, 48, .inl (upd ju ed (nI j)))), (ze, .inl (cA, 48, .inl (upd en ed (nI t))))] := hD
                refine lv_aload_n hx hb dX4_allow_118 rfl (lv_at hl 0 rfl) ?_
                refine jw_v (va_runV (As := []) (rest := []) ⟨hx, hb, hml, hown, hts⟩ (c_X4_undo l D cA H.size h4 zc zj ze zt zo za zr zm zl nn zz (ed + 1) qc qs qw qb ql) (cwV 0 hts gX4_allow_X4_undo rfl rfl rfl hv_X4_undo ⟨Nat.le_of_ble_eq_true rfl, Nat.le_of_ble_eq_true rfl⟩) (rwP.V (wc := [(h4, .inr (4, [.ref zc, .int (nI nn), .int (nI zz), .ref zj, .ref ze, .int (nI (ed + 1)), .ref zt, .ref zo, .ref za, .ref zr, .ref zm, .ref zl, .int qc, .int qs, .int (nI qw), .int (nI qb), .int (nI ql)]))]) (va_recv hK hP (ci := 4) (q0 := 0) rfl rfl) hP hD hK hN [0] (by decide) rfl) rfl rfl hl.1 rfl (lv_room (Nat.le_of_ble_eq_true rfl)) dX4_allow_119 ⟨Nat.le_of_ble_eq_true rfl, Nat.le_of_ble_eq_true rfl⟩) hP hD hS hA [0] [1, 2, 3] [3, 0, 1, 2] (wr := [(zc, .inl (cA, 288, .inl cd)), (zj, .inl (cA, 48, .inl (upd ju ed (nI j)))), (ze, .inl (cA, 48, .inl (upd en ed (nI t))))]) (w2 := [(h4, .inr (4, [.ref zc, .int (nI nn), .int (nI 0), .ref zj, .ref ze, .int (nI (ed + 1)), .ref zt, .ref zo, .ref za, .ref zr, .ref zm, .ref zl, .int qc, .int (-1), .int (nI qw), .int (nI qb), .int (nI ql)])), (zc, .inl (cA, 288, .inl cd)), (zj, .inl (cA, 48, .inl (upd ju ed (nI j)))), (ze, .inl (cA, 48, .inl (upd en ed (nI t))))]) rfl rfl (by decide) (by decide) (by decide) rfl (fun H locs hP hD hS => ?_)
                refine lv_iconst (v := 1) hx hb dX4_allow_122 (by decide) ?_
                obtain ⟨hP9, hD9⟩ := jk_end (w2 := [(h4, .inr (4, [.ref zc, .int (nI nn), .int (nI 0), .ref zj, .ref ze, .int (nI (ed + 1)), .ref zt, .ref zo, .ref za, .ref zr, .ref zm, .ref zl, .int qc, .int (-1), .int (nI qw), .int (nI qb), .int (nI ql)])), (zc, .inl (cA, 288, .inl cd)), (zj, .inl (cA, 48, .inl (upd ju ed (nI j)))), (ze, .inl (cA, 48, .inl (upd en ed (nI t))))]) hP hD [0, 1, 2, 3] (by decide) rfl
                have e9 : ([(h4, .inr (4, [.ref zc, .int (nI nn), .int (nI 0), .ref zj, .ref ze, .int (nI (ed + 1)), .ref zt, .ref zo, .ref za, .ref zr, .ref zm, .ref zl, .int qc, .int (-1), .int (nI qw), .int (nI qb), .int (nI ql)])), (zc, .inl (cA, 288, .inl cd)), (zj, .inl (cA, 48, .inl (upd ju ed (nI j)))), (ze, .inl (cA, 48, .inl (upd en ed (nI t))))] : va_W) = [(h4, .inr (4, [.ref zc, .int (nI nn), .int (nI (if rAl cd nn ju en ed (nI j) (nI t) then 0 else zz)), .ref zj, .ref ze, .int (nI (if rAl cd nn ju en ed (nI j) (nI t) then ed + 1 else ed)), .ref zt, .ref zo, .ref za, .ref zr, .ref zm, .ref zl, .int qc, .int (if rAl cd nn ju en ed (nI j) (nI t) then (-1) else qs), .int (nI qw), .int (nI qb), .int (nI ql)])), (zc, .inl (cA, 288, .inl cd)), (zj, .inl (cA, 48, .inl (if rAl cd nn ju en ed (nI j) (nI t) then upd ju ed (nI j) else ju))), (ze, .inl (cA, 48, .inl (if rAl cd nn ju en ed (nI j) (nI t) then upd en ed (nI t) else en)))] := (by simp only [if_pos hyes])
                rw [e9] at hP9 hD9
                exact W.zret (ty := .boolean) (v := 1) hx hb hr rfl (fun t9 ht9 hW9 => ⟨⟨_, (), rfl, (show 1 = (jB (rAl cd nn ju en ed (nI j) (nI t))) from (jB_t hyes).symm), by rw [ht9]; exact hP9, hD9⟩, hS.F ht9⟩) hS.2.2 dX4_allow_123
              · have hi2 : i < ed := by
                  rcases Nat.lt_or_ge i ed with q | q
                  · exact q
                  · exact absurd (nI_le q (by omega)) c_57
                refine lv_aload_n hx hb dX4_allow_60 rfl (lv_at hl 0 rfl) ?_
                refine va_get (D := D) (ci := 4) (v := .ref zj) (C := RX4) (T := TX4) (N := 17) hx hb hts iw_X4_allow_X4 hown hK hP 0 rfl rfl 3 (by decide) (hts (.fieldLink RX4 13 "JumpGuardModel" "jump" "[I") (List.mem_of_getElem? (l := wsX4_allow) (i := 4) rfl)) (fun _ h9 => h9) rfl dX4_allow_61 ?_
                refine lv_iload_n hx hb dX4_allow_64 rfl (lv_at hl 3 rfl) ?_
                refine jk_ald hx hb hK hP 2 0 rfl rfl (k := i) rfl (by omega) (by omega) dX4_allow_65 ?_
                refine lv_iload_n hx hb dX4_allow_66 rfl (lv_at hl 1 rfl) ?_
                refine lv_icmp_ne (tgt := 82) hx hb dX4_allow_67 (by decide) (fun c_67 => ?_) (fun c_67 => ?_)
                · refine lv_iinc (v := (nI (i + 1))) (lv' := [(3, .int (nI (i + 1))), (0, .ref h4), (1, .int (nI j)), (2, .int (nI t))]) hx hb dX4_allow_82 hl (k := 3) rfl (jn_a1 _) (by decide) rfl (fun ls hl => ?_)
                  refine lv_goto (tgt := 52) hx hb dX4_allow_85 (by decide) ?_
                  exact ih52 (i + 1) (by omega) (by omega) (fun k hk => by
  rcases Nat.lt_or_ge k i with q | q
  · exact hdone k q
  · have e : k = i := by omega
    subst e
    first | exact fun h => c_67 h.1 | exact fun h => c_77 h.2) _ _ (jP_sub (w2 := [(h4, .inr (4, [.ref zc, .int (nI nn), .int (nI zz), .ref zj, .ref ze, .int (nI ed), .ref zt, .ref zo, .ref za, .ref zr, .ref zm, .ref zl, .int qc, .int qs, .int (nI qw), .int (nI qb), .int (nI ql)])), (zc, .inl (cA, 288, .inl cd)), (zj, .inl (cA, 48, .inl ju)), (ze, .inl (cA, 48, .inl en))]) hP [0, 1, 2, 3] rfl) (hD.sub (ws' := [(h4, .inr (4, [.ref zc, .int (nI nn), .int (nI zz), .ref zj, .ref ze, .int (nI ed), .ref zt, .ref zo, .ref za, .ref zr, .ref zm, .ref zl, .int qc, .int qs, .int (nI qw), .int (nI qb), .int (nI ql)])), (zc, .inl (cA, 288, .inl cd)), (zj, .inl (cA, 48, .inl ju)), (ze, .inl (cA, 48, .inl en))]) [0, 1, 2, 3] (by decide) rfl) hS ls (lv_sub hl [1, 2, 3, 0] rfl)
                · refine lv_aload_n hx hb dX4_allow_70 rfl (lv_at hl 0 rfl) ?_
                  refine va_get (D := D) (ci := 4) (v := .ref ze) (C := RX4) (T := TX4) (N := 17) hx hb hts iw_X4_allow_X4 hown hK hP 0 rfl rfl 4 (by decide) (hts (.fieldLink RX4 16 "JumpGuardModel" "end" "[I") (List.mem_of_getElem? (l := wsX4_allow) (i := 5) rfl)) (fun _ h9 => h9) rfl dX4_allow_71 ?_
                  refine lv_iload_n hx hb dX4_allow_74 rfl (lv_at hl 3 rfl) ?_
                  refine jk_ald hx hb hK hP 3 0 rfl rfl (k := i) rfl (by omega) (by omega) dX4_allow_75 ?_
                  refine lv_iload_n hx hb dX4_allow_76 rfl (lv_at hl 2 rfl) ?_
                  refine lv_icmp_ne (tgt := 82) hx hb dX4_allow_77 (by decide) (fun c_77 => ?_) (fun c_77 => ?_)
                  · refine lv_iinc (v := (nI (i + 1))) (lv' := [(3, .int (nI (i + 1))), (0, .ref h4), (1, .int (nI j)), (2, .int (nI t))]) hx hb dX4_allow_82 hl (k := 3) rfl (jn_a1 _) (by decide) rfl (fun ls hl => ?_)
                    refine lv_goto (tgt := 52) hx hb dX4_allow_85 (by decide) ?_
                    exact ih52 (i + 1) (by omega) (by omega) (fun k hk => by
  rcases Nat.lt_or_ge k i with q | q
  · exact hdone k q
  · have e : k = i := by omega
    subst e
    first | exact fun h => c_67 h.1 | exact fun h => c_77 h.2) _ _ (jP_sub (w2 := [(h4, .inr (4, [.ref zc, .int (nI nn), .int (nI zz), .ref zj, .ref ze, .int (nI ed), .ref zt, .ref zo, .ref za, .ref zr, .ref zm, .ref zl, .int qc, .int qs, .int (nI qw), .int (nI qb), .int (nI ql)])), (zc, .inl (cA, 288, .inl cd)), (zj, .inl (cA, 48, .inl ju)), (ze, .inl (cA, 48, .inl en))]) hP [0, 1, 2, 3] rfl) (hD.sub (ws' := [(h4, .inr (4, [.ref zc, .int (nI nn), .int (nI zz), .ref zj, .ref ze, .int (nI ed), .ref zt, .ref zo, .ref za, .ref zr, .ref zm, .ref zl, .int qc, .int qs, .int (nI qw), .int (nI qb), .int (nI ql)])), (zc, .inl (cA, 288, .inl cd)), (zj, .inl (cA, 48, .inl ju)), (ze, .inl (cA, 48, .inl en))]) [0, 1, 2, 3] (by decide) rfl) hS ls (lv_sub hl [1, 2, 3, 0] rfl)
                  · have hno : ¬ rAl cd nn ju en ed (nI j) (nI t) := fun h => h.2.2.2.2 i hi2 ⟨c_67, c_77⟩
                    refine lv_iconst (v := 0) hx hb dX4_allow_80 (by decide) ?_
                    obtain ⟨hP9, hD9⟩ := jk_end (w2 := [(h4, .inr (4, [.ref zc, .int (nI nn), .int (nI zz), .ref zj, .ref ze, .int (nI ed), .ref zt, .ref zo, .ref za, .ref zr, .ref zm, .ref zl, .int qc, .int qs, .int (nI qw), .int (nI qb), .int (nI ql)])), (zc, .inl (cA, 288, .inl cd)), (zj, .inl (cA, 48, .inl ju)), (ze, .inl (cA, 48, .inl en))]) hP hD [0, 1, 2, 3] (by decide) rfl
                    have e9 : ([(h4, .inr (4, [.ref zc, .int (nI nn), .int (nI zz), .ref zj, .ref ze, .int (nI ed), .ref zt, .ref zo, .ref za, .ref zr, .ref zm, .ref zl, .int qc, .int qs, .int (nI qw), .int (nI qb), .int (nI ql)])), (zc, .inl (cA, 288, .inl cd)), (zj, .inl (cA, 48, .inl ju)), (ze, .inl (cA, 48, .inl en))] : va_W) = [(h4, .inr (4, [.ref zc, .int (nI nn), .int (nI (if rAl cd nn ju en ed (nI j) (nI t) then 0 else zz)), .ref zj, .ref ze, .int (nI (if rAl cd nn ju en ed (nI j) (nI t) then ed + 1 else ed)), .ref zt, .ref zo, .ref za, .ref zr, .ref zm, .ref zl, .int qc, .int (if rAl cd nn ju en ed (nI j) (nI t) then (-1) else qs), .int (nI qw), .int (nI qb), .int (nI ql)])), (zc, .inl (cA, 288, .inl cd)), (zj, .inl (cA, 48, .inl (if rAl cd nn ju en ed (nI j) (nI t) then upd ju ed (nI j) else ju))), (ze, .inl (cA, 48, .inl (if rAl cd nn ju en ed (nI j) (nI t) then upd en ed (nI t) else en)))] := (by simp only [if_neg hno])
                    rw [e9] at hP9 hD9
                    exact W.zret (ty := .boolean) (v := 0) hx hb hr rfl (fun t9 ht9 hW9 => ⟨⟨_, (), rfl, (show 0 = (jB (rAl cd nn ju en ed (nI j) (nI t))) from (jB_f hno).symm), by rw [ht9]; exact hP9, hD9⟩, hS.F ht9⟩) hS.2.2 dX4_allow_81
          exact loop52 (ed + 1) 0 (by omega) (by omega) (fun k hk => absurd hk (by omega)) _ _ (jP_sub (w2 := [(h4, .inr (4, [.ref zc, .int (nI nn), .int (nI zz), .ref zj, .ref ze, .int (nI ed), .ref zt, .ref zo, .ref za, .ref zr, .ref zm, .ref zl, .int qc, .int qs, .int (nI qw), .int (nI qb), .int (nI ql)])), (zc, .inl (cA, 288, .inl cd)), (zj, .inl (cA, 48, .inl ju)), (ze, .inl (cA, 48, .inl en))]) hP [0, 1, 2, 3] rfl) (hD.sub (ws' := [(h4, .inr (4, [.ref zc, .int (nI nn), .int (nI zz), .ref zj, .ref ze, .int (nI ed), .ref zt, .ref zo, .ref za, .ref zr, .ref zm, .ref zl, .int qc, .int qs, .int (nI qw), .int (nI qb), .int (nI ql)])), (zc, .inl (cA, 288, .inl cd)), (zj, .inl (cA, 48, .inl ju)), (ze, .inl (cA, 48, .inl en))]) [0, 1, 2, 3] (by decide) rfl) hS ls (lv_sub hl [1, 2, 3, 0] rfl)
        · have hno : ¬ rAl cd nn ju en ed (nI j) (nI t) := fun h => by
            have := (nI_eq (b := 48) (by omega) (by decide)).mp c_45
            have := h.2.2.2.1
            omega
          refine lv_iconst (v := 0) hx hb dX4_allow_48 (by decide) ?_
          obtain ⟨hP9, hD9⟩ := jk_end (w2 := [(h4, .inr (4, [.ref zc, .int (nI nn), .int (nI zz), .ref zj, .ref ze, .int (nI ed), .ref zt, .ref zo, .ref za, .ref zr, .ref zm, .ref zl, .int qc, .int qs, .int (nI qw), .int (nI qb), .int (nI ql)])), (zc, .inl (cA, 288, .inl cd)), (zj, .inl (cA, 48, .inl ju)), (ze, .inl (cA, 48, .inl en))]) hP hD [0, 1, 2, 3] (by decide) rfl
          have e9 : ([(h4, .inr (4, [.ref zc, .int (nI nn), .int (nI zz), .ref zj, .ref ze, .int (nI ed), .ref zt, .ref zo, .ref za, .ref zr, .ref zm, .ref zl, .int qc, .int qs, .int (nI qw), .int (nI qb), .int (nI ql)])), (zc, .inl (cA, 288, .inl cd)), (zj, .inl (cA, 48, .inl ju)), (ze, .inl (cA, 48, .inl en))] : va_W) = [(h4, .inr (4, [.ref zc, .int (nI nn), .int (nI (if rAl cd nn ju en ed (nI j) (nI t) then 0 else zz)), .ref zj, .ref ze, .int (nI (if rAl cd nn ju en ed (nI j) (nI t) then ed + 1 else ed)), .ref zt, .ref zo, .ref za, .ref zr, .ref zm, .ref zl, .int qc, .int (if rAl cd nn ju en ed (nI j) (nI t) then (-1) else qs), .int (nI qw), .int (nI qb), .int (nI ql)])), (zc, .inl (cA, 288, .inl cd)), (zj, .inl (cA, 48, .inl (if rAl cd nn ju en ed (nI j) (nI t) then upd ju ed (nI j) else ju))), (ze, .inl (cA, 48, .inl (if rAl cd nn ju en ed (nI j) (nI t) then upd en ed (nI t) else en)))] := (by simp only [if_neg hno])
          rw [e9] at hP9 hD9
          exact W.zret (ty := .boolean) (v := 0) hx hb hr rfl (fun t9 ht9 hW9 => ⟨⟨_, (), rfl, (show 0 = (jB (rAl cd nn ju en ed (nI j) (nI t))) from (jB_f hno).symm), by rw [ht9]; exact hP9, hD9⟩, hS.F ht9⟩) hS.2.2 dX4_allow_49
set_option maxHeartbeats 4000000 in
set_option maxRecDepth 100000 in
theorem c_X4_whole (l : Launch) (D : va_G) (cA : ClassId) (h4 : Nat) (zc : Nat) (zj : Nat) (ze : Nat) (zt : Nat) (zo : Nat) (za : Nat) (zr : Nat) (zm : Nat) (zl : Nat) (nn : Nat) (zz : Nat) (ed : Nat) (qc : Int32) (qs : Int32) (qw : Nat) (qb : Nat) (ql : Nat) (cd : Nat → Int32) (hnn : nn ≤ 24) : Met l yX4_whole wsX4_whole ({ frames := 0, cells := 0, slots := 0, locals := 0 }) (roP D cA [.ref h4] [(h4, .inr (4, [.ref zc, .int (nI nn), .int (nI zz), .ref zj, .ref ze, .int (nI ed), .ref zt, .ref zo, .ref za, .ref zr, .ref zm, .ref zl, .int qc, .int qs, .int (nI qw), .int (nI qb), .int (nI ql)])), (zc, .inl (cA, 288, .inl cd))]) (QcRead (jB (rWh cd nn))) 0 0 (fun _ => False) := by
  refine Met.ofW (cc := cX4_whole) (maxL := 4) (ret := (some .boolean)) (by decide) rfl ?_
  intro p e s m args below meth c s₁ B hml hv
  obtain ⟨rfl, hP, hK, hN⟩ := hv
  have hx := B.exec
  have hb := B.bytes
  have hr := B.returns
  have hts := atoms_spec (ws := wsX4_whole) B.pre
  have hown : s.vm.findClass RX4 = some m.cls := findClass_of_methodNamed B.named
  have hlocks := B.notSynchronized
  have hl := lv_entry ([.ref h4]) (n := 4) (Nat.le_of_ble_eq_true rfl)
  rw [lg_entry_eq]
  generalize (lg_sl ([.ref h4]) ++ List.replicate (4 - (lg_sl ([.ref h4])).length) Slot.unset).toArray = ls at hl ⊢
  have hl : lv_has ls 4 [(0, .ref h4)] := hl
  refine lv_aload_n hx hb dX4_whole_0 rfl (lv_at hl 0 rfl) ?_
  refine va_get (D := D) (ci := 4) (v := .int (nI nn)) (C := RX4) (T := TX4) (N := 17) hx hb hts iw_X4_whole_X4 hown hK hP 0 rfl rfl 1 (by decide) (hts (.fieldLink RX4 52 "JumpGuardModel" "n" "I") (List.mem_of_getElem? (l := wsX4_whole) (i := 1) rfl)) (fun _ h9 => h9) rfl dX4_whole_1 ?_
  refine lv_if_ne (tgt := 9) hx hb dX4_whole_4 (by decide) (fun c_4 => ?_) (fun c_4 => ?_)
  · have h0 : 0 < nn := by
      rcases Nat.eq_zero_or_pos nn with q | q
      · subst q; exact absurd (show nI 0 = 0 from rfl) c_4
      · exact q
    refine lv_aload_n hx hb dX4_whole_9 rfl (lv_at hl 0 rfl) ?_
    refine va_get (D := D) (ci := 4) (v := .ref zc) (C := RX4) (T := TX4) (N := 17) hx hb hts iw_X4_whole_X4 hown hK hP 0 rfl rfl 0 (by decide) (hts (.fieldLink RX4 7 "JumpGuardModel" "code" "[I") (List.mem_of_getElem? (l := wsX4_whole) (i := 2) rfl)) (fun _ h9 => h9) rfl dX4_whole_10 ?_
    refine lv_iconst (v := 3) hx hb dX4_whole_13 (by decide) ?_
    refine lv_aload_n hx hb dX4_whole_14 rfl (lv_at hl 0 rfl) ?_
    refine va_get (D := D) (ci := 4) (v := .int (nI nn)) (C := RX4) (T := TX4) (N := 17) hx hb hts iw_X4_whole_X4 hown hK hP 0 rfl rfl 1 (by decide) (hts (.fieldLink RX4 52 "JumpGuardModel" "n" "I") (List.mem_of_getElem? (l := wsX4_whole) (i := 1) rfl)) (fun _ h9 => h9) rfl dX4_whole_15 ?_
    refine lv_imul hx hb dX4_whole_18 ?_
    refine jk_top (show (3 * (nI nn)) = (nI (3 * nn)) from jn_3m nn) ?_
    refine lv_iconst (v := 3) hx hb dX4_whole_19 (by decide) ?_
    refine lv_isub hx hb dX4_whole_20 ?_
    refine jk_top (show ((nI (3 * nn)) - 3) = (nI (3 * nn - 3)) from pk_sub (a := 3 * nn) (b := 3) (by omega)) ?_
    refine jk_ald hx hb hK hP 1 0 rfl rfl (k := (3 * nn - 3)) rfl (by omega) (by omega) dX4_whole_21 ?_
    refine lv_istore_n (lv' := [(1, .int (cd (3 * nn - 3))), (0, .ref h4)]) hx hb dX4_whole_22 rfl hl (by decide) rfl (fun ls hl => ?_)
    refine lv_iload_n hx hb dX4_whole_23 rfl (lv_at hl 0 rfl) ?_
    refine lv_if_eq (tgt := 41) hx hb dX4_whole_24 (by decide) (fun c_24 => ?_) (fun c_24 => ?_)
    · have hlast : cd (3 * nn - 3) = 0 ∨ cd (3 * nn - 3) = 6 ∨ cd (3 * nn - 3) = 8 := Or.inl c_24
      refine lv_iconst (v := 0) hx hb dX4_whole_41 (by decide) ?_
      refine lv_istore_n (lv' := [(2, .int 0), (1, .int (cd (3 * nn - 3))), (0, .ref h4)]) hx hb dX4_whole_42 rfl hl (by decide) rfl (fun ls hl => ?_)
      have loop43 : ∀ (n : Nat) (i : Nat), (i ≤ nn) → (nn + 1 ≤ i + n) → (∀ j, j < i → rHA cd nn j) → ∀ (ls : Array Slot), lv_has ls 4 [(0, .ref h4), (1, .int (cd (3 * nn - 3))), (2, .int (nI i))] → W p l e (headSpec wsX4_whole ({ frames := 0, cells := 0, slots := 0, locals := 0 })).room s m ([.ref h4] : List Value).toArray below meth c s.heap [] 0 0 (MQ below (QcRead (jB (rWh cd nn))) ([.ref h4] : List Value).toArray s 0 0 (fun _ => False)) (F0 m 43 ls []) := by
        intro n
        induction n with
        | zero => intro i hi hfu hdone; exact absurd hfu (by omega)
        | succ n ih43 =>
          intro i hi hfu hdone  ls hl
          refine lv_iload_n hx hb dX4_whole_43 rfl (lv_at hl 2 rfl) ?_
          refine lv_aload_n hx hb dX4_whole_44 rfl (lv_at hl 0 rfl) ?_
          refine va_get (D := D) (ci := 4) (v := .int (nI nn)) (C := RX4) (T := TX4) (N := 17) hx hb hts iw_X4_whole_X4 hown hK hP 0 rfl rfl 1 (by decide) (hts (.fieldLink RX4 52 "JumpGuardModel" "n" "I") (List.mem_of_getElem? (l := wsX4_whole) (i := 1) rfl)) (fun _ h9 => h9) rfl dX4_whole_45 ?_
          refine lv_icmp_ge (tgt := 120) hx hb dX4_whole_48 (by decide) (fun c_48 => ?_) (fun c_48 => ?_)
          · have hall : ∀ j, j < nn → rHA cd nn j := fun j hj => hdone j (by
              rcases Nat.lt_or_ge i nn with q | q
              · exact absurd c_48 (nI_ge q (by omega))
              · omega)
            refine lv_iconst (v := 1) hx hb dX4_whole_120 (by decide) ?_
            exact W.zret (ty := .boolean) (v := 1) hx hb hr rfl (fun t9 ht9 hW9 => ⟨jk_ret (show 1 = (jB (rWh cd nn)) from (jB_t ⟨h0, hlast, hall⟩).symm), ht9⟩) (fun q h => absurd h List.not_mem_nil) dX4_whole_121
          · have hi2 : i < nn := by
              rcases Nat.lt_or_ge i nn with q | q
              · exact q
              · exact absurd (nI_le q (by omega)) c_48
            refine lv_aload_n hx hb dX4_whole_51 rfl (lv_at hl 0 rfl) ?_
            refine va_get (D := D) (ci := 4) (v := .ref zc) (C := RX4) (T := TX4) (N := 17) hx hb hts iw_X4_whole_X4 hown hK hP 0 rfl rfl 0 (by decide) (hts (.fieldLink RX4 7 "JumpGuardModel" "code" "[I") (List.mem_of_getElem? (l := wsX4_whole) (i := 2) rfl)) (fun _ h9 => h9) rfl dX4_whole_52 ?_
            refine lv_iconst (v := 3) hx hb dX4_whole_55 (by decide) ?_
            refine lv_iload_n hx hb dX4_whole_56 rfl (lv_at hl 2 rfl) ?_
            refine lv_imul hx hb dX4_whole_57 ?_
            refine jk_top (show (3 * (nI i)) = (nI (3 * i)) from jn_3m i) ?_
            refine jk_ald hx hb hK hP 1 0 rfl rfl (k := (3 * i)) rfl (by omega) (by omega) dX4_whole_58 ?_
            refine lv_istore_n (lv' := [(3, .int (cd (3 * i))), (0, .ref h4), (1, .int (cd (3 * nn - 3))), (2, .int (nI i))]) hx hb dX4_whole_59 rfl hl (by decide) rfl (fun ls hl => ?_)
            refine lv_iload_n hx hb dX4_whole_60 rfl (lv_at hl 0 rfl) ?_
            refine lv_bipush (v := 6) hx hb dX4_whole_61 (by decide) ?_
            refine lv_icmp_ne (tgt := 83) hx hb dX4_whole_63 (by decide) (fun c_63 => ?_) (fun c_63 => ?_)
            · refine lv_iload_n hx hb dX4_whole_83 rfl (lv_at hl 0 rfl) ?_
              refine lv_bipush (v := 7) hx hb dX4_whole_84 (by decide) ?_
              refine lv_icmp_eq (tgt := 95) hx hb dX4_whole_86 (by decide) (fun c_86 => ?_) (fun c_86 => ?_)
              · refine lv_aload_n hx hb dX4_whole_95 rfl (lv_at hl 1 rfl) ?_
                refine va_get (D := D) (ci := 4) (v := .ref zc) (C := RX4) (T := TX4) (N := 17) hx hb hts iw_X4_whole_X4 hown hK hP 0 rfl rfl 0 (by decide) (hts (.fieldLink RX4 7 "JumpGuardModel" "code" "[I") (List.mem_of_getElem? (l := wsX4_whole) (i := 2) rfl)) (fun _ h9 => h9) rfl dX4_whole_96 ?_
                refine lv_iconst (v := 3) hx hb dX4_whole_99 (by decide) ?_
                refine lv_iload_n hx hb dX4_whole_100 rfl (lv_at hl 3 rfl) ?_
                refine lv_imul hx hb dX4_whole_101 ?_
                refine jk_top (show (3 * (nI i)) = (nI (3 * i)) from jn_3m i) ?_
                refine lv_iconst (v := 2) hx hb dX4_whole_102 (by decide) ?_
                refine lv_iadd hx hb dX4_whole_103 ?_
                refine jk_top (show ((nI (3 * i)) + 2) = (nI (3 * i + 2)) from jn_a2 _) ?_
                refine jk_ald hx hb hK hP 1 0 rfl rfl (k := (3 * i + 2)) rfl (by omega) (by omega) dX4_whole_104 ?_
                refine lv_aload_n hx hb dX4_whole_105 rfl (lv_at hl 1 rfl) ?_
                refine va_get (D := D) (ci := 4) (v := .int (nI nn)) (C := RX4) (T := TX4) (N := 17) hx hb hts iw_X4_whole_X4 hown hK hP 0 rfl rfl 1 (by decide) (hts (.fieldLink RX4 52 "JumpGuardModel" "n" "I") (List.mem_of_getElem? (l := wsX4_whole) (i := 1) rfl)) (fun _ h9 => h9) rfl dX4_whole_106 ?_
                refine lv_icmp_lt (tgt := 114) hx hb dX4_whole_109 (by decide) (fun c_109 => ?_) (fun c_109 => ?_)
                · refine lv_iinc (v := (nI (i + 1))) (lv' := [(2, .int (nI (i + 1))), (3, .int (cd (3 * i))), (0, .ref h4), (1, .int (cd (3 * nn - 3)))]) hx hb dX4_whole_114 hl (k := 3) rfl (jn_a1 _) (by decide) rfl (fun ls hl => ?_)
                  refine lv_goto (tgt := 43) hx hb dX4_whole_117 (by decide) ?_
                  exact ih43 (i + 1) (by omega) (by omega) (fun j hj => by
  rcases Nat.lt_or_ge j i with q | q
  · exact hdone j q
  · have e : j = i := by omega
    subst e
    refine ⟨fun q => ?_, fun q => ?_⟩
    · first | exact c_63 q.1 | exact c_80 q.2
    · first | exact absurd c_109 (Int32.not_lt.mpr q.2) | exact q.1.elim c_86 c_92) ls (lv_sub hl [2, 3, 0] rfl)
                · have hno : ¬ rWh cd nn := fun h => (h.2.2 i hi2).2 ⟨by first | exact Or.inl c_86 | exact Or.inr c_92, Int32.not_lt.mp c_109⟩
                  refine lv_iconst (v := 0) hx hb dX4_whole_112 (by decide) ?_
                  exact W.zret (ty := .boolean) (v := 0) hx hb hr rfl (fun t9 ht9 hW9 => ⟨jk_ret (show 0 = (jB (rWh cd nn)) from (jB_f hno).symm), ht9⟩) (fun q h => absurd h List.not_mem_nil) dX4_whole_113
              · refine lv_iload_n hx hb dX4_whole_89 rfl (lv_at hl 0 rfl) ?_
                refine lv_bipush (v := 9) hx hb dX4_whole_90 (by decide) ?_
                refine lv_icmp_ne (tgt := 114) hx hb dX4_whole_92 (by decide) (fun c_92 => ?_) (fun c_92 => ?_)
                · refine lv_iinc (v := (nI (i + 1))) (lv' := [(2, .int (nI (i + 1))), (3, .int (cd (3 * i))), (0, .ref h4), (1, .int (cd (3 * nn - 3)))]) hx hb dX4_whole_114 hl (k := 3) rfl (jn_a1 _) (by decide) rfl (fun ls hl => ?_)
                  refine lv_goto (tgt := 43) hx hb dX4_whole_117 (by decide) ?_
                  exact ih43 (i + 1) (by omega) (by omega) (fun j hj => by
  rcases Nat.lt_or_ge j i with q | q
  · exact hdone j q
  · have e : j = i := by omega
    subst e
    refine ⟨fun q => ?_, fun q => ?_⟩
    · first | exact c_63 q.1 | exact c_80 q.2
    · first | exact absurd c_109 (Int32.not_lt.mpr q.2) | exact q.1.elim c_86 c_92) ls (lv_sub hl [2, 3, 0] rfl)
                · refine lv_aload_n hx hb dX4_whole_95 rfl (lv_at hl 1 rfl) ?_
                  refine va_get (D := D) (ci := 4) (v := .ref zc) (C := RX4) (T := TX4) (N := 17) hx hb hts iw_X4_whole_X4 hown hK hP 0 rfl rfl 0 (by decide) (hts (.fieldLink RX4 7 "JumpGuardModel" "code" "[I") (List.mem_of_getElem? (l := wsX4_whole) (i := 2) rfl)) (fun _ h9 => h9) rfl dX4_whole_96 ?_
                  refine lv_iconst (v := 3) hx hb dX4_whole_99 (by decide) ?_
                  refine lv_iload_n hx hb dX4_whole_100 rfl (lv_at hl 3 rfl) ?_
                  refine lv_imul hx hb dX4_whole_101 ?_
                  refine jk_top (show (3 * (nI i)) = (nI (3 * i)) from jn_3m i) ?_
                  refine lv_iconst (v := 2) hx hb dX4_whole_102 (by decide) ?_
                  refine lv_iadd hx hb dX4_whole_103 ?_
                  refine jk_top (show ((nI (3 * i)) + 2) = (nI (3 * i + 2)) from jn_a2 _) ?_
                  refine jk_ald hx hb hK hP 1 0 rfl rfl (k := (3 * i + 2)) rfl (by omega) (by omega) dX4_whole_104 ?_
                  refine lv_aload_n hx hb dX4_whole_105 rfl (lv_at hl 1 rfl) ?_
                  refine va_get (D := D) (ci := 4) (v := .int (nI nn)) (C := RX4) (T := TX4) (N := 17) hx hb hts iw_X4_whole_X4 hown hK hP 0 rfl rfl 1 (by decide) (hts (.fieldLink RX4 52 "JumpGuardModel" "n" "I") (List.mem_of_getElem? (l := wsX4_whole) (i := 1) rfl)) (fun _ h9 => h9) rfl dX4_whole_106 ?_
                  refine lv_icmp_lt (tgt := 114) hx hb dX4_whole_109 (by decide) (fun c_109 => ?_) (fun c_109 => ?_)
                  · refine lv_iinc (v := (nI (i + 1))) (lv' := [(2, .int (nI (i + 1))), (3, .int (cd (3 * i))), (0, .ref h4), (1, .int (cd (3 * nn - 3)))]) hx hb dX4_whole_114 hl (k := 3) rfl (jn_a1 _) (by decide) rfl (fun ls hl => ?_)
                    refine lv_goto (tgt := 43) hx hb dX4_whole_117 (by decide) ?_
                    exact ih43 (i + 1) (by omega) (by omega) (fun j hj => by
  rcases Nat.lt_or_ge j i with q | q
  · exact hdone j q
  · have e : j = i := by omega
    subst e
    refine ⟨fun q => ?_, fun q => ?_⟩
    · first | exact c_63 q.1 | exact c_80 q.2
    · first | exact absurd c_109 (Int32.not_lt.mpr q.2) | exact q.1.elim c_86 c_92) ls (lv_sub hl [2, 3, 0] rfl)
                  · have hno : ¬ rWh cd nn := fun h => (h.2.2 i hi2).2 ⟨by first | exact Or.inl c_86 | exact Or.inr c_92, Int32.not_lt.mp c_109⟩
                    refine lv_iconst (v := 0) hx hb dX4_whole_112 (by decide) ?_
                    exact W.zret (ty := .boolean) (v := 0) hx hb hr rfl (fun t9 ht9 hW9 => ⟨jk_ret (show 0 = (jB (rWh cd nn)) from (jB_f hno).symm), ht9⟩) (fun q h => absurd h List.not_mem_nil) dX4_whole_113
            · refine lv_aload_n hx hb dX4_whole_66 rfl (lv_at hl 1 rfl) ?_
              refine va_get (D := D) (ci := 4) (v := .ref zc) (C := RX4) (T := TX4) (N := 17) hx hb hts iw_X4_whole_X4 hown hK hP 0 rfl rfl 0 (by decide) (hts (.fieldLink RX4 7 "JumpGuardModel" "code" "[I") (List.mem_of_getElem? (l := wsX4_whole) (i := 2) rfl)) (fun _ h9 => h9) rfl dX4_whole_67 ?_
              refine lv_iconst (v := 3) hx hb dX4_whole_70 (by decide) ?_
              refine lv_iload_n hx hb dX4_whole_71 rfl (lv_at hl 3 rfl) ?_
              refine lv_imul hx hb dX4_whole_72 ?_
              refine jk_top (show (3 * (nI i)) = (nI (3 * i)) from jn_3m i) ?_
              refine lv_iconst (v := 1) hx hb dX4_whole_73 (by decide) ?_
              refine lv_iadd hx hb dX4_whole_74 ?_
              refine jk_top (show ((nI (3 * i)) + 1) = (nI (3 * i + 1)) from jn_a1 _) ?_
              refine jk_ald hx hb hK hP 1 0 rfl rfl (k := (3 * i + 1)) rfl (by omega) (by omega) dX4_whole_75 ?_
              refine lv_aload_n hx hb dX4_whole_76 rfl (lv_at hl 1 rfl) ?_
              refine va_get (D := D) (ci := 4) (v := .int (nI nn)) (C := RX4) (T := TX4) (N := 17) hx hb hts iw_X4_whole_X4 hown hK hP 0 rfl rfl 1 (by decide) (hts (.fieldLink RX4 52 "JumpGuardModel" "n" "I") (List.mem_of_getElem? (l := wsX4_whole) (i := 1) rfl)) (fun _ h9 => h9) rfl dX4_whole_77 ?_
              refine lv_icmp_ge (tgt := 112) hx hb dX4_whole_80 (by decide) (fun c_80 => ?_) (fun c_80 => ?_)
              · have hno : ¬ rWh cd nn := fun h => (h.2.2 i hi2).1 ⟨c_63, c_80⟩
                refine lv_iconst (v := 0) hx hb dX4_whole_112 (by decide) ?_
                exact W.zret (ty := .boolean) (v := 0) hx hb hr rfl (fun t9 ht9 hW9 => ⟨jk_ret (show 0 = (jB (rWh cd nn)) from (jB_f hno).symm), ht9⟩) (fun q h => absurd h List.not_mem_nil) dX4_whole_113
              · refine lv_iload_n hx hb dX4_whole_83 rfl (lv_at hl 0 rfl) ?_
                refine lv_bipush (v := 7) hx hb dX4_whole_84 (by decide) ?_
                refine lv_icmp_eq (tgt := 95) hx hb dX4_whole_86 (by decide) (fun c_86 => ?_) (fun c_86 => ?_)
                · refine lv_aload_n hx hb dX4_whole_95 rfl (lv_at hl 1 rfl) ?_
                  refine va_get (D := D) (ci := 4) (v := .ref zc) (C := RX4) (T := TX4) (N := 17) hx hb hts iw_X4_whole_X4 hown hK hP 0 rfl rfl 0 (by decide) (hts (.fieldLink RX4 7 "JumpGuardModel" "code" "[I") (List.mem_of_getElem? (l := wsX4_whole) (i := 2) rfl)) (fun _ h9 => h9) rfl dX4_whole_96 ?_
                  refine lv_iconst (v := 3) hx hb dX4_whole_99 (by decide) ?_
                  refine lv_iload_n hx hb dX4_whole_100 rfl (lv_at hl 3 rfl) ?_
                  refine lv_imul hx hb dX4_whole_101 ?_
                  refine jk_top (show (3 * (nI i)) = (nI (3 * i)) from jn_3m i) ?_
                  refine lv_iconst (v := 2) hx hb dX4_whole_102 (by decide) ?_
                  refine lv_iadd hx hb dX4_whole_103 ?_
                  refine jk_top (show ((nI (3 * i)) + 2) = (nI (3 * i + 2)) from jn_a2 _) ?_
                  refine jk_ald hx hb hK hP 1 0 rfl rfl (k := (3 * i + 2)) rfl (by omega) (by omega) dX4_whole_104 ?_
                  refine lv_aload_n hx hb dX4_whole_105 rfl (lv_at hl 1 rfl) ?_
                  refine va_get (D := D) (ci := 4) (v := .int (nI nn)) (C := RX4) (T := TX4) (N := 17) hx hb hts iw_X4_whole_X4 hown hK hP 0 rfl rfl 1 (by decide) (hts (.fieldLink RX4 52 "JumpGuardModel" "n" "I") (List.mem_of_getElem? (l := wsX4_whole) (i := 1) rfl)) (fun _ h9 => h9) rfl dX4_whole_106 ?_
                  refine lv_icmp_lt (tgt := 114) hx hb dX4_whole_109 (by decide) (fun c_109 => ?_) (fun c_109 => ?_)
                  · refine lv_iinc (v := (nI (i + 1))) (lv' := [(2, .int (nI (i + 1))), (3, .int (cd (3 * i))), (0, .ref h4), (1, .int (cd (3 * nn - 3)))]) hx hb dX4_whole_114 hl (k := 3) rfl (jn_a1 _) (by decide) rfl (fun ls hl => ?_)
                    refine lv_goto (tgt := 43) hx hb dX4_whole_117 (by decide) ?_
                    exact ih43 (i + 1) (by omega) (by omega) (fun j hj => by
  rcases Nat.lt_or_ge j i with q | q
  · exact hdone j q
  · have e : j = i := by omega
    subst e
    refine ⟨fun q => ?_, fun q => ?_⟩
    · first | exact c_63 q.1 | exact c_80 q.2
    · first | exact absurd c_109 (Int32.not_lt.mpr q.2) | exact q.1.elim c_86 c_92) ls (lv_sub hl [2, 3, 0] rfl)
                  · have hno : ¬ rWh cd nn := fun h => (h.2.2 i hi2).2 ⟨by first | exact Or.inl c_86 | exact Or.inr c_92, Int32.not_lt.mp c_109⟩
                    refine lv_iconst (v := 0) hx hb dX4_whole_112 (by decide) ?_
                    exact W.zret (ty := .boolean) (v := 0) hx hb hr rfl (fun t9 ht9 hW9 => ⟨jk_ret (show 0 = (jB (rWh cd nn)) from (jB_f hno).symm), ht9⟩) (fun q h => absurd h List.not_mem_nil) dX4_whole_113
                · refine lv_iload_n hx hb dX4_whole_89 rfl (lv_at hl 0 rfl) ?_
                  refine lv_bipush (v := 9) hx hb dX4_whole_90 (by decide) ?_
                  refine lv_icmp_ne (tgt := 114) hx hb dX4_whole_92 (by decide) (fun c_92 => ?_) (fun c_92 => ?_)
                  · refine lv_iinc (v := (nI (i + 1))) (lv' := [(2, .int (nI (i + 1))), (3, .int (cd (3 * i))), (0, .ref h4), (1, .int (cd (3 * nn - 3)))]) hx hb dX4_whole_114 hl (k := 3) rfl (jn_a1 _) (by decide) rfl (fun ls hl => ?_)
                    refine lv_goto (tgt := 43) hx hb dX4_whole_117 (by decide) ?_
                    exact ih43 (i + 1) (by omega) (by omega) (fun j hj => by
  rcases Nat.lt_or_ge j i with q | q
  · exact hdone j q
  · have e : j = i := by omega
    subst e
    refine ⟨fun q => ?_, fun q => ?_⟩
    · first | exact c_63 q.1 | exact c_80 q.2
    · first | exact absurd c_109 (Int32.not_lt.mpr q.2) | exact q.1.elim c_86 c_92) ls (lv_sub hl [2, 3, 0] rfl)
                  · refine lv_aload_n hx hb dX4_whole_95 rfl (lv_at hl 1 rfl) ?_
                    refine va_get (D := D) (ci := 4) (v := .ref zc) (C := RX4) (T := TX4) (N := 17) hx hb hts iw_X4_whole_X4 hown hK hP 0 rfl rfl 0 (by decide) (hts (.fieldLink RX4 7 "JumpGuardModel" "code" "[I") (List.mem_of_getElem? (l := wsX4_whole) (i := 2) rfl)) (fun _ h9 => h9) rfl dX4_whole_96 ?_
                    refine lv_iconst (v := 3) hx hb dX4_whole_99 (by decide) ?_
                    refine lv_iload_n hx hb dX4_whole_100 rfl (lv_at hl 3 rfl) ?_
                    refine lv_imul hx hb dX4_whole_101 ?_
                    refine jk_top (show (3 * (nI i)) = (nI (3 * i)) from jn_3m i) ?_
                    refine lv_iconst (v := 2) hx hb dX4_whole_102 (by decide) ?_
                    refine lv_iadd hx hb dX4_whole_103 ?_
                    refine jk_top (show ((nI (3 * i)) + 2) = (nI (3 * i + 2)) from jn_a2 _) ?_
                    refine jk_ald hx hb hK hP 1 0 rfl rfl (k := (3 * i + 2)) rfl (by omega) (by omega) dX4_whole_104 ?_
                    refine lv_aload_n hx hb dX4_whole_105 rfl (lv_at hl 1 rfl) ?_
                    refine va_get (D := D) (ci := 4) (v := .int (nI nn)) (C := RX4) (T := TX4) (N := 17) hx hb hts iw_X4_whole_X4 hown hK hP 0 rfl rfl 1 (by decide) (hts (.fieldLink RX4 52 "JumpGuardModel" "n" "I") (List.mem_of_getElem? (l := wsX4_whole) (i := 1) rfl)) (fun _ h9 => h9) rfl dX4_whole_106 ?_
                    refine lv_icmp_lt (tgt := 114) hx hb dX4_whole_109 (by decide) (fun c_109 => ?_) (fun c_109 => ?_)
                    · refine lv_iinc (v := (nI (i + 1))) (lv' := [(2, .int (nI (i + 1))), (3, .int (cd (3 * i))), (0, .ref h4), (1, .int (cd (3 * nn - 3)))]) hx hb dX4_whole_114 hl (k := 3) rfl (jn_a1 _) (by decide) rfl (fun ls hl => ?_)
                      refine lv_goto (tgt := 43) hx hb dX4_whole_117 (by decide) ?_
                      exact ih43 (i + 1) (by omega) (by omega) (fun j hj => by
  rcases Nat.lt_or_ge j i with q | q
  · exact hdone j q
  · have e : j = i := by omega
    subst e
    refine ⟨fun q => ?_, fun q => ?_⟩
    · first | exact c_63 q.1 | exact c_80 q.2
    · first | exact absurd c_109 (Int32.not_lt.mpr q.2) | exact q.1.elim c_86 c_92) ls (lv_sub hl [2, 3, 0] rfl)
                    · have hno : ¬ rWh cd nn := fun h => (h.2.2 i hi2).2 ⟨by first | exact Or.inl c_86 | exact Or.inr c_92, Int32.not_lt.mp c_109⟩
                      refine lv_iconst (v := 0) hx hb dX4_whole_112 (by decide) ?_
                      exact W.zret (ty := .boolean) (v := 0) hx hb hr rfl (fun t9 ht9 hW9 => ⟨jk_ret (show 0 = (jB (rWh cd nn)) from (jB_f hno).symm), ht9⟩) (fun q h => absurd h List.not_mem_nil) dX4_whole_113
      exact loop43 (nn + 1) 0 (by omega) (by omega) (fun j hj => absurd hj (by omega)) ls (lv_sub hl [2, 1, 0] rfl)
    · refine lv_iload_n hx hb dX4_whole_27 rfl (lv_at hl 0 rfl) ?_
      refine lv_bipush (v := 6) hx hb dX4_whole_28 (by decide) ?_
      refine lv_icmp_eq (tgt := 41) hx hb dX4_whole_30 (by decide) (fun c_30 => ?_) (fun c_30 => ?_)
      · have hlast : cd (3 * nn - 3) = 0 ∨ cd (3 * nn - 3) = 6 ∨ cd (3 * nn - 3) = 8 := Or.inr (Or.inl c_30)
        refine lv_iconst (v := 0) hx hb dX4_whole_41 (by decide) ?_
        refine lv_istore_n (lv' := [(2, .int 0), (1, .int (cd (3 * nn - 3))), (0, .ref h4)]) hx hb dX4_whole_42 rfl hl (by decide) rfl (fun ls hl => ?_)
        have loop43 : ∀ (n : Nat) (i : Nat), (i ≤ nn) → (nn + 1 ≤ i + n) → (∀ j, j < i → rHA cd nn j) → ∀ (ls : Array Slot), lv_has ls 4 [(0, .ref h4), (1, .int (cd (3 * nn - 3))), (2, .int (nI i))] → W p l e (headSpec wsX4_whole ({ frames := 0, cells := 0, slots := 0, locals := 0 })).room s m ([.ref h4] : List Value).toArray below meth c s.heap [] 0 0 (MQ below (QcRead (jB (rWh cd nn))) ([.ref h4] : List Value).toArray s 0 0 (fun _ => False)) (F0 m 43 ls []) := by
          intro n
          induction n with
          | zero => intro i hi hfu hdone; exact absurd hfu (by omega)
          | succ n ih43 =>
            intro i hi hfu hdone  ls hl
            refine lv_iload_n hx hb dX4_whole_43 rfl (lv_at hl 2 rfl) ?_
            refine lv_aload_n hx hb dX4_whole_44 rfl (lv_at hl 0 rfl) ?_
            refine va_get (D := D) (ci := 4) (v := .int (nI nn)) (C := RX4) (T := TX4) (N := 17) hx hb hts iw_X4_whole_X4 hown hK hP 0 rfl rfl 1 (by decide) (hts (.fieldLink RX4 52 "JumpGuardModel" "n" "I") (List.mem_of_getElem? (l := wsX4_whole) (i := 1) rfl)) (fun _ h9 => h9) rfl dX4_whole_45 ?_
            refine lv_icmp_ge (tgt := 120) hx hb dX4_whole_48 (by decide) (fun c_48 => ?_) (fun c_48 => ?_)
            · have hall : ∀ j, j < nn → rHA cd nn j := fun j hj => hdone j (by
                rcases Nat.lt_or_ge i nn with q | q
                · exact absurd c_48 (nI_ge q (by omega))
                · omega)
              refine lv_iconst (v := 1) hx hb dX4_whole_120 (by decide) ?_
              exact W.zret (ty := .boolean) (v := 1) hx hb hr rfl (fun t9 ht9 hW9 => ⟨jk_ret (show 1 = (jB (rWh cd nn)) from (jB_t ⟨h0, hlast, hall⟩).symm), ht9⟩) (fun q h => absurd h List.not_mem_nil) dX4_whole_121
            · have hi2 : i < nn := by
                rcases Nat.lt_or_ge i nn with q | q
                · exact q
                · exact absurd (nI_le q (by omega)) c_48
              refine lv_aload_n hx hb dX4_whole_51 rfl (lv_at hl 0 rfl) ?_
              refine va_get (D := D) (ci := 4) (v := .ref zc) (C := RX4) (T := TX4) (N := 17) hx hb hts iw_X4_whole_X4 hown hK hP 0 rfl rfl 0 (by decide) (hts (.fieldLink RX4 7 "JumpGuardModel" "code" "[I") (List.mem_of_getElem? (l := wsX4_whole) (i := 2) rfl)) (fun _ h9 => h9) rfl dX4_whole_52 ?_
              refine lv_iconst (v := 3) hx hb dX4_whole_55 (by decide) ?_
              refine lv_iload_n hx hb dX4_whole_56 rfl (lv_at hl 2 rfl) ?_
              refine lv_imul hx hb dX4_whole_57 ?_
              refine jk_top (show (3 * (nI i)) = (nI (3 * i)) from jn_3m i) ?_
              refine jk_ald hx hb hK hP 1 0 rfl rfl (k := (3 * i)) rfl (by omega) (by omega) dX4_whole_58 ?_
              refine lv_istore_n (lv' := [(3, .int (cd (3 * i))), (0, .ref h4), (1, .int (cd (3 * nn - 3))), (2, .int (nI i))]) hx hb dX4_whole_59 rfl hl (by decide) rfl (fun ls hl => ?_)
              refine lv_iload_n hx hb dX4_whole_60 rfl (lv_at hl 0 rfl) ?_
              refine lv_bipush (v := 6) hx hb dX4_whole_61 (by decide) ?_
              refine lv_icmp_ne (tgt := 83) hx hb dX4_whole_63 (by decide) (fun c_63 => ?_) (fun c_63 => ?_)
              · refine lv_iload_n hx hb dX4_whole_83 rfl (lv_at hl 0 rfl) ?_
                refine lv_bipush (v := 7) hx hb dX4_whole_84 (by decide) ?_
                refine lv_icmp_eq (tgt := 95) hx hb dX4_whole_86 (by decide) (fun c_86 => ?_) (fun c_86 => ?_)
                · refine lv_aload_n hx hb dX4_whole_95 rfl (lv_at hl 1 rfl) ?_
                  refine va_get (D := D) (ci := 4) (v := .ref zc) (C := RX4) (T := TX4) (N := 17) hx hb hts iw_X4_whole_X4 hown hK hP 0 rfl rfl 0 (by decide) (hts (.fieldLink RX4 7 "JumpGuardModel" "code" "[I") (List.mem_of_getElem? (l := wsX4_whole) (i := 2) rfl)) (fun _ h9 => h9) rfl dX4_whole_96 ?_
                  refine lv_iconst (v := 3) hx hb dX4_whole_99 (by decide) ?_
                  refine lv_iload_n hx hb dX4_whole_100 rfl (lv_at hl 3 rfl) ?_
                  refine lv_imul hx hb dX4_whole_101 ?_
                  refine jk_top (show (3 * (nI i)) = (nI (3 * i)) from jn_3m i) ?_
                  refine lv_iconst (v := 2) hx hb dX4_whole_102 (by decide) ?_
                  refine lv_iadd hx hb dX4_whole_103 ?_
                  refine jk_top (show ((nI (3 * i)) + 2) = (nI (3 * i + 2)) from jn_a2 _) ?_
                  refine jk_ald hx hb hK hP 1 0 rfl rfl (k := (3 * i + 2)) rfl (by omega) (by omega) dX4_whole_104 ?_
                  refine lv_aload_n hx hb dX4_whole_105 rfl (lv_at hl 1 rfl) ?_
                  refine va_get (D := D) (ci := 4) (v := .int (nI nn)) (C := RX4) (T := TX4) (N := 17) hx hb hts iw_X4_whole_X4 hown hK hP 0 rfl rfl 1 (by decide) (hts (.fieldLink RX4 52 "JumpGuardModel" "n" "I") (List.mem_of_getElem? (l := wsX4_whole) (i := 1) rfl)) (fun _ h9 => h9) rfl dX4_whole_106 ?_
                  refine lv_icmp_lt (tgt := 114) hx hb dX4_whole_109 (by decide) (fun c_109 => ?_) (fun c_109 => ?_)
                  · refine lv_iinc (v := (nI (i + 1))) (lv' := [(2, .int (nI (i + 1))), (3, .int (cd (3 * i))), (0, .ref h4), (1, .int (cd (3 * nn - 3)))]) hx hb dX4_whole_114 hl (k := 3) rfl (jn_a1 _) (by decide) rfl (fun ls hl => ?_)
                    refine lv_goto (tgt := 43) hx hb dX4_whole_117 (by decide) ?_
                    exact ih43 (i + 1) (by omega) (by omega) (fun j hj => by
  rcases Nat.lt_or_ge j i with q | q
  · exact hdone j q
  · have e : j = i := by omega
    subst e
    refine ⟨fun q => ?_, fun q => ?_⟩
    · first | exact c_63 q.1 | exact c_80 q.2
    · first | exact absurd c_109 (Int32.not_lt.mpr q.2) | exact q.1.elim c_86 c_92) ls (lv_sub hl [2, 3, 0] rfl)
                  · have hno : ¬ rWh cd nn := fun h => (h.2.2 i hi2).2 ⟨by first | exact Or.inl c_86 | exact Or.inr c_92, Int32.not_lt.mp c_109⟩
                    refine lv_iconst (v := 0) hx hb dX4_whole_112 (by decide) ?_
                    exact W.zret (ty := .boolean) (v := 0) hx hb hr rfl (fun t9 ht9 hW9 => ⟨jk_ret (show 0 = (jB (rWh cd nn)) from (jB_f hno).symm), ht9⟩) (fun q h => absurd h List.not_mem_nil) dX4_whole_113
                · refine lv_iload_n hx hb dX4_whole_89 rfl (lv_at hl 0 rfl) ?_
                  refine lv_bipush (v := 9) hx hb dX4_whole_90 (by decide) ?_
                  refine lv_icmp_ne (tgt := 114) hx hb dX4_whole_92 (by decide) (fun c_92 => ?_) (fun c_92 => ?_)
                  · refine lv_iinc (v := (nI (i + 1))) (lv' := [(2, .int (nI (i + 1))), (3, .int (cd (3 * i))), (0, .ref h4), (1, .int (cd (3 * nn - 3)))]) hx hb dX4_whole_114 hl (k := 3) rfl (jn_a1 _) (by decide) rfl (fun ls hl => ?_)
                    refine lv_goto (tgt := 43) hx hb dX4_whole_117 (by decide) ?_
                    exact ih43 (i + 1) (by omega) (by omega) (fun j hj => by
  rcases Nat.lt_or_ge j i with q | q
  · exact hdone j q
  · have e : j = i := by omega
    subst e
    refine ⟨fun q => ?_, fun q => ?_⟩
    · first | exact c_63 q.1 | exact c_80 q.2
    · first | exact absurd c_109 (Int32.not_lt.mpr q.2) | exact q.1.elim c_86 c_92) ls (lv_sub hl [2, 3, 0] rfl)
                  · refine lv_aload_n hx hb dX4_whole_95 rfl (lv_at hl 1 rfl) ?_
                    refine va_get (D := D) (ci := 4) (v := .ref zc) (C := RX4) (T := TX4) (N := 17) hx hb hts iw_X4_whole_X4 hown hK hP 0 rfl rfl 0 (by decide) (hts (.fieldLink RX4 7 "JumpGuardModel" "code" "[I") (List.mem_of_getElem? (l := wsX4_whole) (i := 2) rfl)) (fun _ h9 => h9) rfl dX4_whole_96 ?_
                    refine lv_iconst (v := 3) hx hb dX4_whole_99 (by decide) ?_
                    refine lv_iload_n hx hb dX4_whole_100 rfl (lv_at hl 3 rfl) ?_
                    refine lv_imul hx hb dX4_whole_101 ?_
                    refine jk_top (show (3 * (nI i)) = (nI (3 * i)) from jn_3m i) ?_
                    refine lv_iconst (v := 2) hx hb dX4_whole_102 (by decide) ?_
                    refine lv_iadd hx hb dX4_whole_103 ?_
                    refine jk_top (show ((nI (3 * i)) + 2) = (nI (3 * i + 2)) from jn_a2 _) ?_
                    refine jk_ald hx hb hK hP 1 0 rfl rfl (k := (3 * i + 2)) rfl (by omega) (by omega) dX4_whole_104 ?_
                    refine lv_aload_n hx hb dX4_whole_105 rfl (lv_at hl 1 rfl) ?_
                    refine va_get (D := D) (ci := 4) (v := .int (nI nn)) (C := RX4) (T := TX4) (N := 17) hx hb hts iw_X4_whole_X4 hown hK hP 0 rfl rfl 1 (by decide) (hts (.fieldLink RX4 52 "JumpGuardModel" "n" "I") (List.mem_of_getElem? (l := wsX4_whole) (i := 1) rfl)) (fun _ h9 => h9) rfl dX4_whole_106 ?_
                    refine lv_icmp_lt (tgt := 114) hx hb dX4_whole_109 (by decide) (fun c_109 => ?_) (fun c_109 => ?_)
                    · refine lv_iinc (v := (nI (i + 1))) (lv' := [(2, .int (nI (i + 1))), (3, .int (cd (3 * i))), (0, .ref h4), (1, .int (cd (3 * nn - 3)))]) hx hb dX4_whole_114 hl (k := 3) rfl (jn_a1 _) (by decide) rfl (fun ls hl => ?_)
                      refine lv_goto (tgt := 43) hx hb dX4_whole_117 (by decide) ?_
                      exact ih43 (i + 1) (by omega) (by omega) (fun j hj => by
  rcases Nat.lt_or_ge j i with q | q
  · exact hdone j q
  · have e : j = i := by omega
    subst e
    refine ⟨fun q => ?_, fun q => ?_⟩
    · first | exact c_63 q.1 | exact c_80 q.2
    · first | exact absurd c_109 (Int32.not_lt.mpr q.2) | exact q.1.elim c_86 c_92) ls (lv_sub hl [2, 3, 0] rfl)
                    · have hno : ¬ rWh cd nn := fun h => (h.2.2 i hi2).2 ⟨by first | exact Or.inl c_86 | exact Or.inr c_92, Int32.not_lt.mp c_109⟩
                      refine lv_iconst (v := 0) hx hb dX4_whole_112 (by decide) ?_
                      exact W.zret (ty := .boolean) (v := 0) hx hb hr rfl (fun t9 ht9 hW9 => ⟨jk_ret (show 0 = (jB (rWh cd nn)) from (jB_f hno).symm), ht9⟩) (fun q h => absurd h List.not_mem_nil) dX4_whole_113
              · refine lv_aload_n hx hb dX4_whole_66 rfl (lv_at hl 1 rfl) ?_
                refine va_get (D := D) (ci := 4) (v := .ref zc) (C := RX4) (T := TX4) (N := 17) hx hb hts iw_X4_whole_X4 hown hK hP 0 rfl rfl 0 (by decide) (hts (.fieldLink RX4 7 "JumpGuardModel" "code" "[I") (List.mem_of_getElem? (l := wsX4_whole) (i := 2) rfl)) (fun _ h9 => h9) rfl dX4_whole_67 ?_
                refine lv_iconst (v := 3) hx hb dX4_whole_70 (by decide) ?_
                refine lv_iload_n hx hb dX4_whole_71 rfl (lv_at hl 3 rfl) ?_
                refine lv_imul hx hb dX4_whole_72 ?_
                refine jk_top (show (3 * (nI i)) = (nI (3 * i)) from jn_3m i) ?_
                refine lv_iconst (v := 1) hx hb dX4_whole_73 (by decide) ?_
                refine lv_iadd hx hb dX4_whole_74 ?_
                refine jk_top (show ((nI (3 * i)) + 1) = (nI (3 * i + 1)) from jn_a1 _) ?_
                refine jk_ald hx hb hK hP 1 0 rfl rfl (k := (3 * i + 1)) rfl (by omega) (by omega) dX4_whole_75 ?_
                refine lv_aload_n hx hb dX4_whole_76 rfl (lv_at hl 1 rfl) ?_
                refine va_get (D := D) (ci := 4) (v := .int (nI nn)) (C := RX4) (T := TX4) (N := 17) hx hb hts iw_X4_whole_X4 hown hK hP 0 rfl rfl 1 (by decide) (hts (.fieldLink RX4 52 "JumpGuardModel" "n" "I") (List.mem_of_getElem? (l := wsX4_whole) (i := 1) rfl)) (fun _ h9 => h9) rfl dX4_whole_77 ?_
                refine lv_icmp_ge (tgt := 112) hx hb dX4_whole_80 (by decide) (fun c_80 => ?_) (fun c_80 => ?_)
                · have hno : ¬ rWh cd nn := fun h => (h.2.2 i hi2).1 ⟨c_63, c_80⟩
                  refine lv_iconst (v := 0) hx hb dX4_whole_112 (by decide) ?_
                  exact W.zret (ty := .boolean) (v := 0) hx hb hr rfl (fun t9 ht9 hW9 => ⟨jk_ret (show 0 = (jB (rWh cd nn)) from (jB_f hno).symm), ht9⟩) (fun q h => absurd h List.not_mem_nil) dX4_whole_113
                · refine lv_iload_n hx hb dX4_whole_83 rfl (lv_at hl 0 rfl) ?_
                  refine lv_bipush (v := 7) hx hb dX4_whole_84 (by decide) ?_
                  refine lv_icmp_eq (tgt := 95) hx hb dX4_whole_86 (by decide) (fun c_86 => ?_) (fun c_86 => ?_)
                  · refine lv_aload_n hx hb dX4_whole_95 rfl (lv_at hl 1 rfl) ?_
                    refine va_get (D := D) (ci := 4) (v := .ref zc) (C := RX4) (T := TX4) (N := 17) hx hb hts iw_X4_whole_X4 hown hK hP 0 rfl rfl 0 (by decide) (hts (.fieldLink RX4 7 "JumpGuardModel" "code" "[I") (List.mem_of_getElem? (l := wsX4_whole) (i := 2) rfl)) (fun _ h9 => h9) rfl dX4_whole_96 ?_
                    refine lv_iconst (v := 3) hx hb dX4_whole_99 (by decide) ?_
                    refine lv_iload_n hx hb dX4_whole_100 rfl (lv_at hl 3 rfl) ?_
                    refine lv_imul hx hb dX4_whole_101 ?_
                    refine jk_top (show (3 * (nI i)) = (nI (3 * i)) from jn_3m i) ?_
                    refine lv_iconst (v := 2) hx hb dX4_whole_102 (by decide) ?_
                    refine lv_iadd hx hb dX4_whole_103 ?_
                    refine jk_top (show ((nI (3 * i)) + 2) = (nI (3 * i + 2)) from jn_a2 _) ?_
                    refine jk_ald hx hb hK hP 1 0 rfl rfl (k := (3 * i + 2)) rfl (by omega) (by omega) dX4_whole_104 ?_
                    refine lv_aload_n hx hb dX4_whole_105 rfl (lv_at hl 1 rfl) ?_
                    refine va_get (D := D) (ci := 4) (v := .int (nI nn)) (C := RX4) (T := TX4) (N := 17) hx hb hts iw_X4_whole_X4 hown hK hP 0 rfl rfl 1 (by decide) (hts (.fieldLink RX4 52 "JumpGuardModel" "n" "I") (List.mem_of_getElem? (l := wsX4_whole) (i := 1) rfl)) (fun _ h9 => h9) rfl dX4_whole_106 ?_
                    refine lv_icmp_lt (tgt := 114) hx hb dX4_whole_109 (by decide) (fun c_109 => ?_) (fun c_109 => ?_)
                    · refine lv_iinc (v := (nI (i + 1))) (lv' := [(2, .int (nI (i + 1))), (3, .int (cd (3 * i))), (0, .ref h4), (1, .int (cd (3 * nn - 3)))]) hx hb dX4_whole_114 hl (k := 3) rfl (jn_a1 _) (by decide) rfl (fun ls hl => ?_)
                      refine lv_goto (tgt := 43) hx hb dX4_whole_117 (by decide) ?_
                      exact ih43 (i + 1) (by omega) (by omega) (fun j hj => by
  rcases Nat.lt_or_ge j i with q | q
  · exact hdone j q
  · have e : j = i := by omega
    subst e
    refine ⟨fun q => ?_, fun q => ?_⟩
    · first | exact c_63 q.1 | exact c_80 q.2
    · first | exact absurd c_109 (Int32.not_lt.mpr q.2) | exact q.1.elim c_86 c_92) ls (lv_sub hl [2, 3, 0] rfl)
                    · have hno : ¬ rWh cd nn := fun h => (h.2.2 i hi2).2 ⟨by first | exact Or.inl c_86 | exact Or.inr c_92, Int32.not_lt.mp c_109⟩
                      refine lv_iconst (v := 0) hx hb dX4_whole_112 (by decide) ?_
                      exact W.zret (ty := .boolean) (v := 0) hx hb hr rfl (fun t9 ht9 hW9 => ⟨jk_ret (show 0 = (jB (rWh cd nn)) from (jB_f hno).symm), ht9⟩) (fun q h => absurd h List.not_mem_nil) dX4_whole_113
                  · refine lv_iload_n hx hb dX4_whole_89 rfl (lv_at hl 0 rfl) ?_
                    refine lv_bipush (v := 9) hx hb dX4_whole_90 (by decide) ?_
                    refine lv_icmp_ne (tgt := 114) hx hb dX4_whole_92 (by decide) (fun c_92 => ?_) (fun c_92 => ?_)
                    · refine lv_iinc (v := (nI (i + 1))) (lv' := [(2, .int (nI (i + 1))), (3, .int (cd (3 * i))), (0, .ref h4), (1, .int (cd (3 * nn - 3)))]) hx hb dX4_whole_114 hl (k := 3) rfl (jn_a1 _) (by decide) rfl (fun ls hl => ?_)
                      refine lv_goto (tgt := 43) hx hb dX4_whole_117 (by decide) ?_
                      exact ih43 (i + 1) (by omega) (by omega) (fun j hj => by
  rcases Nat.lt_or_ge j i with q | q
  · exact hdone j q
  · have e : j = i := by omega
    subst e
    refine ⟨fun q => ?_, fun q => ?_⟩
    · first | exact c_63 q.1 | exact c_80 q.2
    · first | exact absurd c_109 (Int32.not_lt.mpr q.2) | exact q.1.elim c_86 c_92) ls (lv_sub hl [2, 3, 0] rfl)
                    · refine lv_aload_n hx hb dX4_whole_95 rfl (lv_at hl 1 rfl) ?_
                      refine va_get (D := D) (ci := 4) (v := .ref zc) (C := RX4) (T := TX4) (N := 17) hx hb hts iw_X4_whole_X4 hown hK hP 0 rfl rfl 0 (by decide) (hts (.fieldLink RX4 7 "JumpGuardModel" "code" "[I") (List.mem_of_getElem? (l := wsX4_whole) (i := 2) rfl)) (fun _ h9 => h9) rfl dX4_whole_96 ?_
                      refine lv_iconst (v := 3) hx hb dX4_whole_99 (by decide) ?_
                      refine lv_iload_n hx hb dX4_whole_100 rfl (lv_at hl 3 rfl) ?_
                      refine lv_imul hx hb dX4_whole_101 ?_
                      refine jk_top (show (3 * (nI i)) = (nI (3 * i)) from jn_3m i) ?_
                      refine lv_iconst (v := 2) hx hb dX4_whole_102 (by decide) ?_
                      refine lv_iadd hx hb dX4_whole_103 ?_
                      refine jk_top (show ((nI (3 * i)) + 2) = (nI (3 * i + 2)) from jn_a2 _) ?_
                      refine jk_ald hx hb hK hP 1 0 rfl rfl (k := (3 * i + 2)) rfl (by omega) (by omega) dX4_whole_104 ?_
                      refine lv_aload_n hx hb dX4_whole_105 rfl (lv_at hl 1 rfl) ?_
                      refine va_get (D := D) (ci := 4) (v := .int (nI nn)) (C := RX4) (T := TX4) (N := 17) hx hb hts iw_X4_whole_X4 hown hK hP 0 rfl rfl 1 (by decide) (hts (.fieldLink RX4 52 "JumpGuardModel" "n" "I") (List.mem_of_getElem? (l := wsX4_whole) (i := 1) rfl)) (fun _ h9 => h9) rfl dX4_whole_106 ?_
                      refine lv_icmp_lt (tgt := 114) hx hb dX4_whole_109 (by decide) (fun c_109 => ?_) (fun c_109 => ?_)
                      · refine lv_iinc (v := (nI (i + 1))) (lv' := [(2, .int (nI (i + 1))), (3, .int (cd (3 * i))), (0, .ref h4), (1, .int (cd (3 * nn - 3)))]) hx hb dX4_whole_114 hl (k := 3) rfl (jn_a1 _) (by decide) rfl (fun ls hl => ?_)
                        refine lv_goto (tgt := 43) hx hb dX4_whole_117 (by decide) ?_
                        exact ih43 (i + 1) (by omega) (by omega) (fun j hj => by
  rcases Nat.lt_or_ge j i with q | q
  · exact hdone j q
  · have e : j = i := by omega
    subst e
    refine ⟨fun q => ?_, fun q => ?_⟩
    · first | exact c_63 q.1 | exact c_80 q.2
    · first | exact absurd c_109 (Int32.not_lt.mpr q.2) | exact q.1.elim c_86 c_92) ls (lv_sub hl [2, 3, 0] rfl)
                      · have hno : ¬ rWh cd nn := fun h => (h.2.2 i hi2).2 ⟨by first | exact Or.inl c_86 | exact Or.inr c_92, Int32.not_lt.mp c_109⟩
                        refine lv_iconst (v := 0) hx hb dX4_whole_112 (by decide) ?_
                        exact W.zret (ty := .boolean) (v := 0) hx hb hr rfl (fun t9 ht9 hW9 => ⟨jk_ret (show 0 = (jB (rWh cd nn)) from (jB_f hno).symm), ht9⟩) (fun q h => absurd h List.not_mem_nil) dX4_whole_113
        exact loop43 (nn + 1) 0 (by omega) (by omega) (fun j hj => absurd hj (by omega)) ls (lv_sub hl [2, 1, 0] rfl)
      · refine lv_iload_n hx hb dX4_whole_33 rfl (lv_at hl 0 rfl) ?_
        refine lv_bipush (v := 8) hx hb dX4_whole_34 (by decide) ?_
        refine lv_icmp_eq (tgt := 41) hx hb dX4_whole_36 (by decide) (fun c_36 => ?_) (fun c_36 => ?_)
        · have hlast : cd (3 * nn - 3) = 0 ∨ cd (3 * nn - 3) = 6 ∨ cd (3 * nn - 3) = 8 := Or.inr (Or.inr c_36)
          refine lv_iconst (v := 0) hx hb dX4_whole_41 (by decide) ?_
          refine lv_istore_n (lv' := [(2, .int 0), (1, .int (cd (3 * nn - 3))), (0, .ref h4)]) hx hb dX4_whole_42 rfl hl (by decide) rfl (fun ls hl => ?_)
          have loop43 : ∀ (n : Nat) (i : Nat), (i ≤ nn) → (nn + 1 ≤ i + n) → (∀ j, j < i → rHA cd nn j) → ∀ (ls : Array Slot), lv_has ls 4 [(0, .ref h4), (1, .int (cd (3 * nn - 3))), (2, .int (nI i))] → W p l e (headSpec wsX4_whole ({ frames := 0, cells := 0, slots := 0, locals := 0 })).room s m ([.ref h4] : List Value).toArray below meth c s.heap [] 0 0 (MQ below (QcRead (jB (rWh cd nn))) ([.ref h4] : List Value).toArray s 0 0 (fun _ => False)) (F0 m 43 ls []) := by
            intro n
            induction n with
            | zero => intro i hi hfu hdone; exact absurd hfu (by omega)
            | succ n ih43 =>
              intro i hi hfu hdone  ls hl
              refine lv_iload_n hx hb dX4_whole_43 rfl (lv_at hl 2 rfl) ?_
              refine lv_aload_n hx hb dX4_whole_44 rfl (lv_at hl 0 rfl) ?_
              refine va_get (D := D) (ci := 4) (v := .int (nI nn)) (C := RX4) (T := TX4) (N := 17) hx hb hts iw_X4_whole_X4 hown hK hP 0 rfl rfl 1 (by decide) (hts (.fieldLink RX4 52 "JumpGuardModel" "n" "I") (List.mem_of_getElem? (l := wsX4_whole) (i := 1) rfl)) (fun _ h9 => h9) rfl dX4_whole_45 ?_
              refine lv_icmp_ge (tgt := 120) hx hb dX4_whole_48 (by decide) (fun c_48 => ?_) (fun c_48 => ?_)
              · have hall : ∀ j, j < nn → rHA cd nn j := fun j hj => hdone j (by
                  rcases Nat.lt_or_ge i nn with q | q
                  · exact absurd c_48 (nI_ge q (by omega))
                  · omega)
                refine lv_iconst (v := 1) hx hb dX4_whole_120 (by decide) ?_
                exact W.zret (ty := .boolean) (v := 1) hx hb hr rfl (fun t9 ht9 hW9 => ⟨jk_ret (show 1 = (jB (rWh cd nn)) from (jB_t ⟨h0, hlast, hall⟩).symm), ht9⟩) (fun q h => absurd h List.not_mem_nil) dX4_whole_121
              · have hi2 : i < nn := by
                  rcases Nat.lt_or_ge i nn with q | q
                  · exact q
                  · exact absurd (nI_le q (by omega)) c_48
                refine lv_aload_n hx hb dX4_whole_51 rfl (lv_at hl 0 rfl) ?_
                refine va_get (D := D) (ci := 4) (v := .ref zc) (C := RX4) (T := TX4) (N := 17) hx hb hts iw_X4_whole_X4 hown hK hP 0 rfl rfl 0 (by decide) (hts (.fieldLink RX4 7 "JumpGuardModel" "code" "[I") (List.mem_of_getElem? (l := wsX4_whole) (i := 2) rfl)) (fun _ h9 => h9) rfl dX4_whole_52 ?_
                refine lv_iconst (v := 3) hx hb dX4_whole_55 (by decide) ?_
                refine lv_iload_n hx hb dX4_whole_56 rfl (lv_at hl 2 rfl) ?_
                refine lv_imul hx hb dX4_whole_57 ?_
                refine jk_top (show (3 * (nI i)) = (nI (3 * i)) from jn_3m i) ?_
                refine jk_ald hx hb hK hP 1 0 rfl rfl (k := (3 * i)) rfl (by omega) (by omega) dX4_whole_58 ?_
                refine lv_istore_n (lv' := [(3, .int (cd (3 * i))), (0, .ref h4), (1, .int (cd (3 * nn - 3))), (2, .int (nI i))]) hx hb dX4_whole_59 rfl hl (by decide) rfl (fun ls hl => ?_)
                refine lv_iload_n hx hb dX4_whole_60 rfl (lv_at hl 0 rfl) ?_
                refine lv_bipush (v := 6) hx hb dX4_whole_61 (by decide) ?_
                refine lv_icmp_ne (tgt := 83) hx hb dX4_whole_63 (by decide) (fun c_63 => ?_) (fun c_63 => ?_)
                · refine lv_iload_n hx hb dX4_whole_83 rfl (lv_at hl 0 rfl) ?_
                  refine lv_bipush (v := 7) hx hb dX4_whole_84 (by decide) ?_
                  refine lv_icmp_eq (tgt := 95) hx hb dX4_whole_86 (by decide) (fun c_86 => ?_) (fun c_86 => ?_)
                  · refine lv_aload_n hx hb dX4_whole_95 rfl (lv_at hl 1 rfl) ?_
                    refine va_get (D := D) (ci := 4) (v := .ref zc) (C := RX4) (T := TX4) (N := 17) hx hb hts iw_X4_whole_X4 hown hK hP 0 rfl rfl 0 (by decide) (hts (.fieldLink RX4 7 "JumpGuardModel" "code" "[I") (List.mem_of_getElem? (l := wsX4_whole) (i := 2) rfl)) (fun _ h9 => h9) rfl dX4_whole_96 ?_
                    refine lv_iconst (v := 3) hx hb dX4_whole_99 (by decide) ?_
                    refine lv_iload_n hx hb dX4_whole_100 rfl (lv_at hl 3 rfl) ?_
                    refine lv_imul hx hb dX4_whole_101 ?_
                    refine jk_top (show (3 * (nI i)) = (nI (3 * i)) from jn_3m i) ?_
                    refine lv_iconst (v := 2) hx hb dX4_whole_102 (by decide) ?_
                    refine lv_iadd hx hb dX4_whole_103 ?_
                    refine jk_top (show ((nI (3 * i)) + 2) = (nI (3 * i + 2)) from jn_a2 _) ?_
                    refine jk_ald hx hb hK hP 1 0 rfl rfl (k := (3 * i + 2)) rfl (by omega) (by omega) dX4_whole_104 ?_
                    refine lv_aload_n hx hb dX4_whole_105 rfl (lv_at hl 1 rfl) ?_
                    refine va_get (D := D) (ci := 4) (v := .int (nI nn)) (C := RX4) (T := TX4) (N := 17) hx hb hts iw_X4_whole_X4 hown hK hP 0 rfl rfl 1 (by decide) (hts (.fieldLink RX4 52 "JumpGuardModel" "n" "I") (List.mem_of_getElem? (l := wsX4_whole) (i := 1) rfl)) (fun _ h9 => h9) rfl dX4_whole_106 ?_
                    refine lv_icmp_lt (tgt := 114) hx hb dX4_whole_109 (by decide) (fun c_109 => ?_) (fun c_109 => ?_)
                    · refine lv_iinc (v := (nI (i + 1))) (lv' := [(2, .int (nI (i + 1))), (3, .int (cd (3 * i))), (0, .ref h4), (1, .int (cd (3 * nn - 3)))]) hx hb dX4_whole_114 hl (k := 3) rfl (jn_a1 _) (by decide) rfl (fun ls hl => ?_)
                      refine lv_goto (tgt := 43) hx hb dX4_whole_117 (by decide) ?_
                      exact ih43 (i + 1) (by omega) (by omega) (fun j hj => by
  rcases Nat.lt_or_ge j i with q | q
  · exact hdone j q
  · have e : j = i := by omega
    subst e
    refine ⟨fun q => ?_, fun q => ?_⟩
    · first | exact c_63 q.1 | exact c_80 q.2
    · first | exact absurd c_109 (Int32.not_lt.mpr q.2) | exact q.1.elim c_86 c_92) ls (lv_sub hl [2, 3, 0] rfl)
                    · have hno : ¬ rWh cd nn := fun h => (h.2.2 i hi2).2 ⟨by first | exact Or.inl c_86 | exact Or.inr c_92, Int32.not_lt.mp c_109⟩
                      refine lv_iconst (v := 0) hx hb dX4_whole_112 (by decide) ?_
                      exact W.zret (ty := .boolean) (v := 0) hx hb hr rfl (fun t9 ht9 hW9 => ⟨jk_ret (show 0 = (jB (rWh cd nn)) from (jB_f hno).symm), ht9⟩) (fun q h => absurd h List.not_mem_nil) dX4_whole_113
                  · refine lv_iload_n hx hb dX4_whole_89 rfl (lv_at hl 0 rfl) ?_
                    refine lv_bipush (v := 9) hx hb dX4_whole_90 (by decide) ?_
                    refine lv_icmp_ne (tgt := 114) hx hb dX4_whole_92 (by decide) (fun c_92 => ?_) (fun c_92 => ?_)
                    · refine lv_iinc (v := (nI (i + 1))) (lv' := [(2, .int (nI (i + 1))), (3, .int (cd (3 * i))), (0, .ref h4), (1, .int (cd (3 * nn - 3)))]) hx hb dX4_whole_114 hl (k := 3) rfl (jn_a1 _) (by decide) rfl (fun ls hl => ?_)
                      refine lv_goto (tgt := 43) hx hb dX4_whole_117 (by decide) ?_
                      exact ih43 (i + 1) (by omega) (by omega) (fun j hj => by
  rcases Nat.lt_or_ge j i with q | q
  · exact hdone j q
  · have e : j = i := by omega
    subst e
    refine ⟨fun q => ?_, fun q => ?_⟩
    · first | exact c_63 q.1 | exact c_80 q.2
    · first | exact absurd c_109 (Int32.not_lt.mpr q.2) | exact q.1.elim c_86 c_92) ls (lv_sub hl [2, 3, 0] rfl)
                    · refine lv_aload_n hx hb dX4_whole_95 rfl (lv_at hl 1 rfl) ?_
                      refine va_get (D := D) (ci := 4) (v := .ref zc) (C := RX4) (T := TX4) (N := 17) hx hb hts iw_X4_whole_X4 hown hK hP 0 rfl rfl 0 (by decide) (hts (.fieldLink RX4 7 "JumpGuardModel" "code" "[I") (List.mem_of_getElem? (l := wsX4_whole) (i := 2) rfl)) (fun _ h9 => h9) rfl dX4_whole_96 ?_
                      refine lv_iconst (v := 3) hx hb dX4_whole_99 (by decide) ?_
                      refine lv_iload_n hx hb dX4_whole_100 rfl (lv_at hl 3 rfl) ?_
                      refine lv_imul hx hb dX4_whole_101 ?_
                      refine jk_top (show (3 * (nI i)) = (nI (3 * i)) from jn_3m i) ?_
                      refine lv_iconst (v := 2) hx hb dX4_whole_102 (by decide) ?_
                      refine lv_iadd hx hb dX4_whole_103 ?_
                      refine jk_top (show ((nI (3 * i)) + 2) = (nI (3 * i + 2)) from jn_a2 _) ?_
                      refine jk_ald hx hb hK hP 1 0 rfl rfl (k := (3 * i + 2)) rfl (by omega) (by omega) dX4_whole_104 ?_
                      refine lv_aload_n hx hb dX4_whole_105 rfl (lv_at hl 1 rfl) ?_
                      refine va_get (D := D) (ci := 4) (v := .int (nI nn)) (C := RX4) (T := TX4) (N := 17) hx hb hts iw_X4_whole_X4 hown hK hP 0 rfl rfl 1 (by decide) (hts (.fieldLink RX4 52 "JumpGuardModel" "n" "I") (List.mem_of_getElem? (l := wsX4_whole) (i := 1) rfl)) (fun _ h9 => h9) rfl dX4_whole_106 ?_
                      refine lv_icmp_lt (tgt := 114) hx hb dX4_whole_109 (by decide) (fun c_109 => ?_) (fun c_109 => ?_)
                      · refine lv_iinc (v := (nI (i + 1))) (lv' := [(2, .int (nI (i + 1))), (3, .int (cd (3 * i))), (0, .ref h4), (1, .int (cd (3 * nn - 3)))]) hx hb dX4_whole_114 hl (k := 3) rfl (jn_a1 _) (by decide) rfl (fun ls hl => ?_)
                        refine lv_goto (tgt := 43) hx hb dX4_whole_117 (by decide) ?_
                        exact ih43 (i + 1) (by omega) (by omega) (fun j hj => by
  rcases Nat.lt_or_ge j i with q | q
  · exact hdone j q
  · have e : j = i := by omega
    subst e
    refine ⟨fun q => ?_, fun q => ?_⟩
    · first | exact c_63 q.1 | exact c_80 q.2
    · first | exact absurd c_109 (Int32.not_lt.mpr q.2) | exact q.1.elim c_86 c_92) ls (lv_sub hl [2, 3, 0] rfl)
                      · have hno : ¬ rWh cd nn := fun h => (h.2.2 i hi2).2 ⟨by first | exact Or.inl c_86 | exact Or.inr c_92, Int32.not_lt.mp c_109⟩
                        refine lv_iconst (v := 0) hx hb dX4_whole_112 (by decide) ?_
                        exact W.zret (ty := .boolean) (v := 0) hx hb hr rfl (fun t9 ht9 hW9 => ⟨jk_ret (show 0 = (jB (rWh cd nn)) from (jB_f hno).symm), ht9⟩) (fun q h => absurd h List.not_mem_nil) dX4_whole_113
                · refine lv_aload_n hx hb dX4_whole_66 rfl (lv_at hl 1 rfl) ?_
                  refine va_get (D := D) (ci := 4) (v := .ref zc) (C := RX4) (T := TX4) (N := 17) hx hb hts iw_X4_whole_X4 hown hK hP 0 rfl rfl 0 (by decide) (hts (.fieldLink RX4 7 "JumpGuardModel" "code" "[I") (List.mem_of_getElem? (l := wsX4_whole) (i := 2) rfl)) (fun _ h9 => h9) rfl dX4_whole_67 ?_
                  refine lv_iconst (v := 3) hx hb dX4_whole_70 (by decide) ?_
                  refine lv_iload_n hx hb dX4_whole_71 rfl (lv_at hl 3 rfl) ?_
                  refine lv_imul hx hb dX4_whole_72 ?_
                  refine jk_top (show (3 * (nI i)) = (nI (3 * i)) from jn_3m i) ?_
                  refine lv_iconst (v := 1) hx hb dX4_whole_73 (by decide) ?_
                  refine lv_iadd hx hb dX4_whole_74 ?_
                  refine jk_top (show ((nI (3 * i)) + 1) = (nI (3 * i + 1)) from jn_a1 _) ?_
                  refine jk_ald hx hb hK hP 1 0 rfl rfl (k := (3 * i + 1)) rfl (by omega) (by omega) dX4_whole_75 ?_
                  refine lv_aload_n hx hb dX4_whole_76 rfl (lv_at hl 1 rfl) ?_
                  refine va_get (D := D) (ci := 4) (v := .int (nI nn)) (C := RX4) (T := TX4) (N := 17) hx hb hts iw_X4_whole_X4 hown hK hP 0 rfl rfl 1 (by decide) (hts (.fieldLink RX4 52 "JumpGuardModel" "n" "I") (List.mem_of_getElem? (l := wsX4_whole) (i := 1) rfl)) (fun _ h9 => h9) rfl dX4_whole_77 ?_
                  refine lv_icmp_ge (tgt := 112) hx hb dX4_whole_80 (by decide) (fun c_80 => ?_) (fun c_80 => ?_)
                  · have hno : ¬ rWh cd nn := fun h => (h.2.2 i hi2).1 ⟨c_63, c_80⟩
                    refine lv_iconst (v := 0) hx hb dX4_whole_112 (by decide) ?_
                    exact W.zret (ty := .boolean) (v := 0) hx hb hr rfl (fun t9 ht9 hW9 => ⟨jk_ret (show 0 = (jB (rWh cd nn)) from (jB_f hno).symm), ht9⟩) (fun q h => absurd h List.not_mem_nil) dX4_whole_113
                  · refine lv_iload_n hx hb dX4_whole_83 rfl (lv_at hl 0 rfl) ?_
                    refine lv_bipush (v := 7) hx hb dX4_whole_84 (by decide) ?_
                    refine lv_icmp_eq (tgt := 95) hx hb dX4_whole_86 (by decide) (fun c_86 => ?_) (fun c_86 => ?_)
                    · refine lv_aload_n hx hb dX4_whole_95 rfl (lv_at hl 1 rfl) ?_
                      refine va_get (D := D) (ci := 4) (v := .ref zc) (C := RX4) (T := TX4) (N := 17) hx hb hts iw_X4_whole_X4 hown hK hP 0 rfl rfl 0 (by decide) (hts (.fieldLink RX4 7 "JumpGuardModel" "code" "[I") (List.mem_of_getElem? (l := wsX4_whole) (i := 2) rfl)) (fun _ h9 => h9) rfl dX4_whole_96 ?_
                      refine lv_iconst (v := 3) hx hb dX4_whole_99 (by decide) ?_
                      refine lv_iload_n hx hb dX4_whole_100 rfl (lv_at hl 3 rfl) ?_
                      refine lv_imul hx hb dX4_whole_101 ?_
                      refine jk_top (show (3 * (nI i)) = (nI (3 * i)) from jn_3m i) ?_
                      refine lv_iconst (v := 2) hx hb dX4_whole_102 (by decide) ?_
                      refine lv_iadd hx hb dX4_whole_103 ?_
                      refine jk_top (show ((nI (3 * i)) + 2) = (nI (3 * i + 2)) from jn_a2 _) ?_
                      refine jk_ald hx hb hK hP 1 0 rfl rfl (k := (3 * i + 2)) rfl (by omega) (by omega) dX4_whole_104 ?_
                      refine lv_aload_n hx hb dX4_whole_105 rfl (lv_at hl 1 rfl) ?_
                      refine va_get (D := D) (ci := 4) (v := .int (nI nn)) (C := RX4) (T := TX4) (N := 17) hx hb hts iw_X4_whole_X4 hown hK hP 0 rfl rfl 1 (by decide) (hts (.fieldLink RX4 52 "JumpGuardModel" "n" "I") (List.mem_of_getElem? (l := wsX4_whole) (i := 1) rfl)) (fun _ h9 => h9) rfl dX4_whole_106 ?_
                      refine lv_icmp_lt (tgt := 114) hx hb dX4_whole_109 (by decide) (fun c_109 => ?_) (fun c_109 => ?_)
                      · refine lv_iinc (v := (nI (i + 1))) (lv' := [(2, .int (nI (i + 1))), (3, .int (cd (3 * i))), (0, .ref h4), (1, .int (cd (3 * nn - 3)))]) hx hb dX4_whole_114 hl (k := 3) rfl (jn_a1 _) (by decide) rfl (fun ls hl => ?_)
                        refine lv_goto (tgt := 43) hx hb dX4_whole_117 (by decide) ?_
                        exact ih43 (i + 1) (by omega) (by omega) (fun j hj => by
  rcases Nat.lt_or_ge j i with q | q
  · exact hdone j q
  · have e : j = i := by omega
    subst e
    refine ⟨fun q => ?_, fun q => ?_⟩
    · first | exact c_63 q.1 | exact c_80 q.2
    · first | exact absurd c_109 (Int32.not_lt.mpr q.2) | exact q.1.elim c_86 c_92) ls (lv_sub hl [2, 3, 0] rfl)
                      · have hno : ¬ rWh cd nn := fun h => (h.2.2 i hi2).2 ⟨by first | exact Or.inl c_86 | exact Or.inr c_92, Int32.not_lt.mp c_109⟩
                        refine lv_iconst (v := 0) hx hb dX4_whole_112 (by decide) ?_
                        exact W.zret (ty := .boolean) (v := 0) hx hb hr rfl (fun t9 ht9 hW9 => ⟨jk_ret (show 0 = (jB (rWh cd nn)) from (jB_f hno).symm), ht9⟩) (fun q h => absurd h List.not_mem_nil) dX4_whole_113
                    · refine lv_iload_n hx hb dX4_whole_89 rfl (lv_at hl 0 rfl) ?_
                      refine lv_bipush (v := 9) hx hb dX4_whole_90 (by decide) ?_
                      refine lv_icmp_ne (tgt := 114) hx hb dX4_whole_92 (by decide) (fun c_92 => ?_) (fun c_92 => ?_)
                      · refine lv_iinc (v := (nI (i + 1))) (lv' := [(2, .int (nI (i + 1))), (3, .int (cd (3 * i))), (0, .ref h4), (1, .int (cd (3 * nn - 3)))]) hx hb dX4_whole_114 hl (k := 3) rfl (jn_a1 _) (by decide) rfl (fun ls hl => ?_)
                        refine lv_goto (tgt := 43) hx hb dX4_whole_117 (by decide) ?_
                        exact ih43 (i + 1) (by omega) (by omega) (fun j hj => by
  rcases Nat.lt_or_ge j i with q | q
  · exact hdone j q
  · have e : j = i := by omega
    subst e
    refine ⟨fun q => ?_, fun q => ?_⟩
    · first | exact c_63 q.1 | exact c_80 q.2
    · first | exact absurd c_109 (Int32.not_lt.mpr q.2) | exact q.1.elim c_86 c_92) ls (lv_sub hl [2, 3, 0] rfl)
                      · refine lv_aload_n hx hb dX4_whole_95 rfl (lv_at hl 1 rfl) ?_
                        refine va_get (D := D) (ci := 4) (v := .ref zc) (C := RX4) (T := TX4) (N := 17) hx hb hts iw_X4_whole_X4 hown hK hP 0 rfl rfl 0 (by decide) (hts (.fieldLink RX4 7 "JumpGuardModel" "code" "[I") (List.mem_of_getElem? (l := wsX4_whole) (i := 2) rfl)) (fun _ h9 => h9) rfl dX4_whole_96 ?_
                        refine lv_iconst (v := 3) hx hb dX4_whole_99 (by decide) ?_
                        refine lv_iload_n hx hb dX4_whole_100 rfl (lv_at hl 3 rfl) ?_
                        refine lv_imul hx hb dX4_whole_101 ?_
                        refine jk_top (show (3 * (nI i)) = (nI (3 * i)) from jn_3m i) ?_
                        refine lv_iconst (v := 2) hx hb dX4_whole_102 (by decide) ?_
                        refine lv_iadd hx hb dX4_whole_103 ?_
                        refine jk_top (show ((nI (3 * i)) + 2) = (nI (3 * i + 2)) from jn_a2 _) ?_
                        refine jk_ald hx hb hK hP 1 0 rfl rfl (k := (3 * i + 2)) rfl (by omega) (by omega) dX4_whole_104 ?_
                        refine lv_aload_n hx hb dX4_whole_105 rfl (lv_at hl 1 rfl) ?_
                        refine va_get (D := D) (ci := 4) (v := .int (nI nn)) (C := RX4) (T := TX4) (N := 17) hx hb hts iw_X4_whole_X4 hown hK hP 0 rfl rfl 1 (by decide) (hts (.fieldLink RX4 52 "JumpGuardModel" "n" "I") (List.mem_of_getElem? (l := wsX4_whole) (i := 1) rfl)) (fun _ h9 => h9) rfl dX4_whole_106 ?_
                        refine lv_icmp_lt (tgt := 114) hx hb dX4_whole_109 (by decide) (fun c_109 => ?_) (fun c_109 => ?_)
                        · refine lv_iinc (v := (nI (i + 1))) (lv' := [(2, .int (nI (i + 1))), (3, .int (cd (3 * i))), (0, .ref h4), (1, .int (cd (3 * nn - 3)))]) hx hb dX4_whole_114 hl (k := 3) rfl (jn_a1 _) (by decide) rfl (fun ls hl => ?_)
                          refine lv_goto (tgt := 43) hx hb dX4_whole_117 (by decide) ?_
                          exact ih43 (i + 1) (by omega) (by omega) (fun j hj => by
  rcases Nat.lt_or_ge j i with q | q
  · exact hdone j q
  · have e : j = i := by omega
    subst e
    refine ⟨fun q => ?_, fun q => ?_⟩
    · first | exact c_63 q.1 | exact c_80 q.2
    · first | exact absurd c_109 (Int32.not_lt.mpr q.2) | exact q.1.elim c_86 c_92) ls (lv_sub hl [2, 3, 0] rfl)
                        · have hno : ¬ rWh cd nn := fun h => (h.2.2 i hi2).2 ⟨by first | exact Or.inl c_86 | exact Or.inr c_92, Int32.not_lt.mp c_109⟩
                          refine lv_iconst (v := 0) hx hb dX4_whole_112 (by decide) ?_
                          exact W.zret (ty := .boolean) (v := 0) hx hb hr rfl (fun t9 ht9 hW9 => ⟨jk_ret (show 0 = (jB (rWh cd nn)) from (jB_f hno).symm), ht9⟩) (fun q h => absurd h List.not_mem_nil) dX4_whole_113
          exact loop43 (nn + 1) 0 (by omega) (by omega) (fun j hj => absurd hj (by omega)) ls (lv_sub hl [2, 1, 0] rfl)
        · have hno : ¬ rWh cd nn := fun h => by
            rcases h.2.1 with q | q | q
            · exact c_24 q
            · exact c_30 q
            · exact c_36 q
          refine lv_iconst (v := 0) hx hb dX4_whole_39 (by decide) ?_
          exact W.zret (ty := .boolean) (v := 0) hx hb hr rfl (fun t9 ht9 hW9 => ⟨jk_ret (show 0 = (jB (rWh cd nn)) from (jB_f hno).symm), ht9⟩) (fun q h => absurd h List.not_mem_nil) dX4_whole_40
  · have h0 : nn = 0 := (nI_eq (b := 0) (by omega) (by decide)).mp c_4
    have hno : ¬ rWh cd nn := fun h => absurd h.1 (by omega)
    refine lv_iconst (v := 0) hx hb dX4_whole_7 (by decide) ?_
    exact W.zret (ty := .boolean) (v := 0) hx hb hr rfl (fun t9 ht9 hW9 => ⟨jk_ret (show 0 = (jB (rWh cd nn)) from (jB_f hno).symm), ht9⟩) (fun q h => absurd h List.not_mem_nil) dX4_whole_8
set_option maxHeartbeats 4000000 in
set_option maxRecDepth 100000 in
theorem c_X4_put (l : Launch) (D : va_G) (cA : ClassId) (sz : Nat) (h4 : Nat) (zc : Nat) (zj : Nat) (ze : Nat) (zt : Nat) (zo : Nat) (za : Nat) (zr : Nat) (zm : Nat) (zl : Nat) (nn : Nat) (zz : Nat) (ed : Nat) (qc : Int32) (qs : Int32) (qw : Nat) (qb : Nat) (ql : Nat) (cd : Nat → Int32) (x : Int32) (y : Int32) (z : Int32) (hz : zz < 72) : Met l yX4_put wsX4_put ({ frames := 0, cells := 0, slots := 0, locals := 0 }) (rwP D cA [.ref h4, .int x, .int y, .int z] sz [(h4, .inr (4, [.ref zc, .int (nI nn), .int (nI zz), .ref zj, .ref ze, .int (nI ed), .ref zt, .ref zo, .ref za, .ref zr, .ref zm, .ref zl, .int qc, .int qs, .int (nI qw), .int (nI qb), .int (nI ql)])), (zc, .inl (cA, 288, .inl cd))]) (rwV D (va_A [(h4, .inr (4, [.ref zc, .int (nI nn), .int (nI zz), .ref zj, .ref ze, .int (nI ed), .ref zt, .ref zo, .ref za, .ref zr, .ref zm, .ref zl, .int qc, .int qs, .int (nI qw), .int (nI qb), .int (nI ql)])), (zc, .inl (cA, 288, .inl cd))] sz) [(h4, .inr (4, [.ref zc, .int (nI nn), .int (nI (zz + 1)), .ref zj, .ref ze, .int (nI ed), .ref zt, .ref zo, .ref za, .ref zr, .ref zm, .ref zl, .int qc, .int qs, .int (nI qw), .int (nI qb), .int (nI ql)])), (zc, .inl (cA, 288, .inl (rPut cd zz x y z)))]) 0 0 (va_A [(h4, .inr (4, [.ref zc, .int (nI nn), .int (nI zz), .ref zj, .ref ze, .int (nI ed), .ref zt, .ref zo, .ref za, .ref zr, .ref zm, .ref zl, .int qc, .int qs, .int (nI qw), .int (nI qb), .int (nI ql)])), (zc, .inl (cA, 288, .inl cd))] sz) := by
  refine Met.ofW (cc := cX4_put) (maxL := 4) (ret := none) (by decide) rfl ?_
  intro p e s m args below meth c s₁ B hml hv
  obtain ⟨rfl, hsz, hP, hK, hN, hD0⟩ := hv
  have hx := B.exec
  have hb := B.bytes
  have hr := B.returns
  have hts := atoms_spec (ws := wsX4_put) B.pre
  have hown : s.vm.findClass RX4 = some m.cls := findClass_of_methodNamed B.named
  have hlocks := B.notSynchronized
  subst hsz
  have hD := hD0.self (sz := s.heap.size)
  generalize hAe : va_A [(h4, .inr (4, [.ref zc, .int (nI nn), .int (nI zz), .ref zj, .ref ze, .int (nI ed), .ref zt, .ref zo, .ref za, .ref zr, .ref zm, .ref zl, .int qc, .int qs, .int (nI qw), .int (nI qb), .int (nI ql)])), (zc, .inl (cA, 288, .inl cd))] s.heap.size = A at hD ⊢
  have hA : ∀ q : Nat, s.heap.size ≤ q → A q := fun q h => by rw [← hAe]; exact Or.inr h
  have hS : va_S A s.heap s.heap [] := va_S.rf
  have hl := lv_entry ([.ref h4, .int x, .int y, .int z]) (n := 4) (Nat.le_of_ble_eq_true rfl)
  rw [lg_entry_eq]
  generalize (lg_sl ([.ref h4, .int x, .int y, .int z]) ++ List.replicate (4 - (lg_sl ([.ref h4, .int x, .int y, .int z])).length) Slot.unset).toArray = ls at hl ⊢
  have hl : lv_has ls 4 [(0, .ref h4), (1, .int x), (2, .int y), (3, .int z)] := hl
  refine lv_aload_n hx hb dX4_put_0 rfl (lv_at hl 0 rfl) ?_
  refine va_get (D := D) (ci := 4) (v := .ref zc) (C := RX4) (T := TX4) (N := 17) hx hb hts iw_X4_put_X4 hown hK hP 0 rfl rfl 0 (by decide) (hts (.fieldLink RX4 7 "JumpGuardModel" "code" "[I") (List.mem_of_getElem? (l := wsX4_put) (i := 1) rfl)) (fun _ h9 => h9) rfl dX4_put_1 ?_
  refine lv_bipush (v := 72) hx hb dX4_put_4 (by decide) ?_
  refine lv_iconst (v := 3) hx hb dX4_put_6 (by decide) ?_
  refine lv_aload_n hx hb dX4_put_7 rfl (lv_at hl 0 rfl) ?_
  refine va_get (D := D) (ci := 4) (v := .int (nI zz)) (C := RX4) (T := TX4) (N := 17) hx hb hts iw_X4_put_X4 hown hK hP 0 rfl rfl 2 (by decide) (hts (.fieldLink RX4 45 "JumpGuardModel" "size" "I") (List.mem_of_getElem? (l := wsX4_put) (i := 2) rfl)) (fun _ h9 => h9) rfl dX4_put_8 ?_
  refine lv_imul hx hb dX4_put_11 ?_
  refine jk_top (show (3 * (nI zz)) = (nI (3 * zz)) from jn_3m zz) ?_
  refine lv_iadd hx hb dX4_put_12 ?_
  refine jk_top (show (72 + (nI (3 * zz))) = (nI (72 + 3 * zz)) from nI_add 72 _) ?_
  refine lv_iload_n hx hb dX4_put_13 rfl (lv_at hl 1 rfl) ?_
  refine jk_ast hx hb hK hP hD hS 1 0 rfl rfl (k := (72 + 3 * zz)) rfl (by omega) (by omega) dX4_put_14 (fun H locs hP hD hS => ?_)
  have hP : va_P D vwCl [(h4, .inr (4, [.ref zc, .int (nI nn), .int (nI zz), .ref zj, .ref ze, .int (nI ed), .ref zt, .ref zo, .ref za, .ref zr, .ref zm, .ref zl, .int qc, .int qs, .int (nI qw), .int (nI qb), .int (nI ql)])), (zc, .inl (cA, 288, .inl (upd cd (72 + 3 * zz) x)))] H := hP
  have hD : va_D A [(h4, .inr (4, [.ref zc, .int (nI nn), .int (nI zz), .ref zj, .ref ze, .int (nI ed), .ref zt, .ref zo, .ref za, .ref zr, .ref zm, .ref zl, .int qc, .int qs, .int (nI qw), .int (nI qb), .int (nI ql)])), (zc, .inl (cA, 288, .inl (upd cd (72 + 3 * zz) x)))] := hD
  refine lv_aload_n hx hb dX4_put_15 rfl (lv_at hl 0 rfl) ?_
  refine va_get (D := D) (ci := 4) (v := .ref zc) (C := RX4) (T := TX4) (N := 17) hx hb hts iw_X4_put_X4 hown hK hP 0 rfl rfl 0 (by decide) (hts (.fieldLink RX4 7 "JumpGuardModel" "code" "[I") (List.mem_of_getElem? (l := wsX4_put) (i := 1) rfl)) (fun _ h9 => h9) rfl dX4_put_16 ?_
  refine lv_bipush (v := 73) hx hb dX4_put_19 (by decide) ?_
  refine lv_iconst (v := 3) hx hb dX4_put_21 (by decide) ?_
  refine lv_aload_n hx hb dX4_put_22 rfl (lv_at hl 0 rfl) ?_
  refine va_get (D := D) (ci := 4) (v := .int (nI zz)) (C := RX4) (T := TX4) (N := 17) hx hb hts iw_X4_put_X4 hown hK hP 0 rfl rfl 2 (by decide) (hts (.fieldLink RX4 45 "JumpGuardModel" "size" "I") (List.mem_of_getElem? (l := wsX4_put) (i := 2) rfl)) (fun _ h9 => h9) rfl dX4_put_23 ?_
  refine lv_imul hx hb dX4_put_26 ?_
  refine jk_top (show (3 * (nI zz)) = (nI (3 * zz)) from jn_3m zz) ?_
  refine lv_iadd hx hb dX4_put_27 ?_
  refine jk_top (show (73 + (nI (3 * zz))) = (nI (73 + 3 * zz)) from nI_add 73 _) ?_
  refine lv_iload_n hx hb dX4_put_28 rfl (lv_at hl 2 rfl) ?_
  refine jk_ast hx hb hK hP hD hS 1 0 rfl rfl (k := (73 + 3 * zz)) rfl (by omega) (by omega) dX4_put_29 (fun H locs hP hD hS => ?_)
  have hP : va_P D vwCl [(h4, .inr (4, [.ref zc, .int (nI nn), .int (nI zz), .ref zj, .ref ze, .int (nI ed), .ref zt, .ref zo, .ref za, .ref zr, .ref zm, .ref zl, .int qc, .int qs, .int (nI qw), .int (nI qb), .int (nI ql)])), (zc, .inl (cA, 288, .inl (upd (upd cd (72 + 3 * zz) x) (73 + 3 * zz) y)))] H := hP
  have hD : va_D A [(h4, .inr (4, [.ref zc, .int (nI nn), .int (nI zz), .ref zj, .ref ze, .int (nI ed), .ref zt, .ref zo, .ref za, .ref zr, .ref zm, .ref zl, .int qc, .int qs, .int (nI qw), .int (nI qb), .int (nI ql)])), (zc, .inl (cA, 288, .inl (upd (upd cd (72 + 3 * zz) x) (73 + 3 * zz) y)))] := hD
  refine lv_aload_n hx hb dX4_put_30 rfl (lv_at hl 0 rfl) ?_
  refine va_get (D := D) (ci := 4) (v := .ref zc) (C := RX4) (T := TX4) (N := 17) hx hb hts iw_X4_put_X4 hown hK hP 0 rfl rfl 0 (by decide) (hts (.fieldLink RX4 7 "JumpGuardModel" "code" "[I") (List.mem_of_getElem? (l := wsX4_put) (i := 1) rfl)) (fun _ h9 => h9) rfl dX4_put_31 ?_
  refine lv_bipush (v := 74) hx hb dX4_put_34 (by decide) ?_
  refine lv_iconst (v := 3) hx hb dX4_put_36 (by decide) ?_
  refine lv_aload_n hx hb dX4_put_37 rfl (lv_at hl 0 rfl) ?_
  refine va_get (D := D) (ci := 4) (v := .int (nI zz)) (C := RX4) (T := TX4) (N := 17) hx hb hts iw_X4_put_X4 hown hK hP 0 rfl rfl 2 (by decide) (hts (.fieldLink RX4 45 "JumpGuardModel" "size" "I") (List.mem_of_getElem? (l := wsX4_put) (i := 2) rfl)) (fun _ h9 => h9) rfl dX4_put_38 ?_
  refine lv_imul hx hb dX4_put_41 ?_
  refine jk_top (show (3 * (nI zz)) = (nI (3 * zz)) from jn_3m zz) ?_
  refine lv_iadd hx hb dX4_put_42 ?_
  refine jk_top (show (74 + (nI (3 * zz))) = (nI (74 + 3 * zz)) from nI_add 74 _) ?_
  refine lv_iload_n hx hb dX4_put_43 rfl (lv_at hl 3 rfl) ?_
  refine jk_ast hx hb hK hP hD hS 1 0 rfl rfl (k := (74 + 3 * zz)) rfl (by omega) (by omega) dX4_put_44 (fun H locs hP hD hS => ?_)
  have hP : va_P D vwCl [(h4, .inr (4, [.ref zc, .int (nI nn), .int (nI zz), .ref zj, .ref ze, .int (nI ed), .ref zt, .ref zo, .ref za, .ref zr, .ref zm, .ref zl, .int qc, .int qs, .int (nI qw), .int (nI qb), .int (nI ql)])), (zc, .inl (cA, 288, .inl (upd (upd (upd cd (72 + 3 * zz) x) (73 + 3 * zz) y) (74 + 3 * zz) z)))] H := hP
  have hD : va_D A [(h4, .inr (4, [.ref zc, .int (nI nn), .int (nI zz), .ref zj, .ref ze, .int (nI ed), .ref zt, .ref zo, .ref za, .ref zr, .ref zm, .ref zl, .int qc, .int qs, .int (nI qw), .int (nI qb), .int (nI ql)])), (zc, .inl (cA, 288, .inl (upd (upd (upd cd (72 + 3 * zz) x) (73 + 3 * zz) y) (74 + 3 * zz) z)))] := hD
  refine lv_aload_n hx hb dX4_put_45 rfl (lv_at hl 0 rfl) ?_
  refine lv_aload_n hx hb dX4_put_46 rfl (lv_at hl 0 rfl) ?_
  refine va_get (D := D) (ci := 4) (v := .int (nI zz)) (C := RX4) (T := TX4) (N := 17) hx hb hts iw_X4_put_X4 hown hK hP 0 rfl rfl 2 (by decide) (hts (.fieldLink RX4 45 "JumpGuardModel" "size" "I") (List.mem_of_getElem? (l := wsX4_put) (i := 2) rfl)) (fun _ h9 => h9) rfl dX4_put_47 ?_
  refine lv_iconst (v := 1) hx hb dX4_put_50 (by decide) ?_
  refine lv_iadd hx hb dX4_put_51 ?_
  refine jk_top (show ((nI zz) + 1) = (nI (zz + 1)) from jn_a1 zz) ?_
  refine va_put (D := D) (ci := 4) (v := .int (nI (zz + 1))) (ty := .int) (C := RX4) (T := TX4) (N := 17) hx hb hts iw_X4_put_X4 tyX4 tyX4_ok nmX4 hown hK hP hD hS 0 rfl rfl 2 (by decide) (hts (.fieldLink RX4 45 "JumpGuardModel" "size" "I") (List.mem_of_getElem? (l := wsX4_put) (i := 2) rfl)) (fun _ h9 => h9) rfl (by decide +kernel) rfl rfl (Nat.le_of_ble_eq_true rfl) dX4_put_52 (fun H locs hP hD hS => ?_)
  have hP : va_P D vwCl [(h4, .inr (4, [.ref zc, .int (nI nn), .int (nI (zz + 1)), .ref zj, .ref ze, .int (nI ed), .ref zt, .ref zo, .ref za, .ref zr, .ref zm, .ref zl, .int qc, .int qs, .int (nI qw), .int (nI qb), .int (nI ql)])), (zc, .inl (cA, 288, .inl (upd (upd (upd cd (72 + 3 * zz) x) (73 + 3 * zz) y) (74 + 3 * zz) z)))] H := hP
  have hD : va_D A [(h4, .inr (4, [.ref zc, .int (nI nn), .int (nI (zz + 1)), .ref zj, .ref ze, .int (nI ed), .ref zt, .ref zo, .ref za, .ref zr, .ref zm, .ref zl, .int qc, .int qs, .int (nI qw), .int (nI qb), .int (nI ql)])), (zc, .inl (cA, 288, .inl (upd (upd (upd cd (72 + 3 * zz) x) (73 + 3 * zz) y) (74 + 3 * zz) z)))] := hD
  obtain ⟨hP9, hD9⟩ := jk_end (w2 := [(h4, .inr (4, [.ref zc, .int (nI nn), .int (nI (zz + 1)), .ref zj, .ref ze, .int (nI ed), .ref zt, .ref zo, .ref za, .ref zr, .ref zm, .ref zl, .int qc, .int qs, .int (nI qw), .int (nI qb), .int (nI ql)])), (zc, .inl (cA, 288, .inl (upd (upd (upd cd (72 + 3 * zz) x) (73 + 3 * zz) y) (74 + 3 * zz) z)))]) hP hD [0, 1] (by decide) rfl
  have e9 : ([(h4, .inr (4, [.ref zc, .int (nI nn), .int (nI (zz + 1)), .ref zj, .ref ze, .int (nI ed), .ref zt, .ref zo, .ref za, .ref zr, .ref zm, .ref zl, .int qc, .int qs, .int (nI qw), .int (nI qb), .int (nI ql)])), (zc, .inl (cA, 288, .inl (upd (upd (upd cd (72 + 3 * zz) x) (73 + 3 * zz) y) (74 + 3 * zz) z)))] : va_W) = [(h4, .inr (4, [.ref zc, .int (nI nn), .int (nI (zz + 1)), .ref zj, .ref ze, .int (nI ed), .ref zt, .ref zo, .ref za, .ref zr, .ref zm, .ref zl, .int qc, .int qs, .int (nI qw), .int (nI qb), .int (nI ql)])), (zc, .inl (cA, 288, .inl (rPut cd zz x y z)))] := rfl
  rw [e9] at hP9 hD9
  exact W.vret hx hb hr (fun t9 ht9 hW9 => ⟨⟨(), rfl, trivial, by rw [ht9]; exact hP9, hD9⟩, hS.F ht9⟩) hS.2.2 dX4_put_55
