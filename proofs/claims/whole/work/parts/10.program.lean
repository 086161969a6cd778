/-! ===== the classes' little tests, and Program ===== -/
def pGet (f : Nat → Int32) (k : Nat) (x y : Int32) : Int32 := if jIn x (nI k) ∧ jIn y 3 then f (x.toNatClampNeg * 3 + y.toNatClampNeg) else -9
theorem pGet_no {f : Nat → Int32} {k : Nat} {x y : Int32} (h : ¬ (jIn x (nI k) ∧ jIn y 3)) : pGet f k x y = -9 := if_neg h
theorem pGet_at {f : Nat → Int32} {k j q : Nat} (hj : j < k) (hq : q < 3) (hk : k < 2 ^ 31) : pGet f k (nI j) (nI q) = f (j * 3 + q) := by
  have h1 : jIn (nI j) (nI k) := ((jIn_n hk).mpr hj).1
  have h2 : jIn (nI q) (nI 3) := ((jIn_n (by decide)).mpr hq).1
  unfold pGet
  rw [if_pos ⟨h1, h2⟩, nI_clamp (by omega), nI_clamp (by omega)]
def pApp (f : Nat → Int32) (k : Nat) (x y z : Int32) : Nat → Int32 := upd (upd (upd f (k * 3) x) (k * 3 + 1) y) (k * 3 + 2) z
theorem iw_X2_append_X2 : ∀ w ∈ wsX20, w ∈ wsX2_append := by decide +kernel
theorem iw_X2_clear_X2 : ∀ w ∈ wsX20, w ∈ wsX2_clear := by decide +kernel
theorem iw_X2_get_X2 : ∀ w ∈ wsX20, w ∈ wsX2_get := by decide +kernel
theorem iw_X2_has_X2 : ∀ w ∈ wsX20, w ∈ wsX2_has := by decide +kernel
theorem iw_X2_isFull_X2 : ∀ w ∈ wsX20, w ∈ wsX2_isFull := by decide +kernel
theorem iw_X2_length_X2 : ∀ w ∈ wsX20, w ∈ wsX2_length := by decide +kernel
theorem hv_X2_has : yX2_has.cls = RX2 ∧ yX2_has.cls ≠ "java/lang/invoke/MethodHandle" ∧ yX2_has.cls ≠ "java/lang/invoke/VarHandle" ∧ (parseMethodDescriptor yX2_has.desc).map (fun d => d.parameters.length) = some 1 := by decide +kernel
theorem hv_X2_isFull : yX2_isFull.cls = RX2 ∧ yX2_isFull.cls ≠ "java/lang/invoke/MethodHandle" ∧ yX2_isFull.cls ≠ "java/lang/invoke/VarHandle" ∧ (parseMethodDescriptor yX2_isFull.desc).map (fun d => d.parameters.length) = some 0 := by decide +kernel
set_option maxHeartbeats 4000000 in
set_option maxRecDepth 100000 in
theorem c_X3_isRegister (l : Launch) (D : va_G) (cA : ClassId) (x : Int32) : Met l yX3_isRegister wsX3_isRegister ({ frames := 0, cells := 0, slots := 0, locals := 0 }) (roP D cA [.int x] []) (QcRead (jB (jIn x 4))) 0 0 (fun _ => False) := by
  refine Met.ofW (cc := cX3_isRegister) (maxL := 1) (ret := (some .boolean)) (by decide) rfl ?_
  intro p e s m args below meth c s₁ B hml hv
  obtain ⟨rfl, hP, hK, hN⟩ := hv
  have hx := B.exec
  have hb := B.bytes
  have hr := B.returns
  have hts := atoms_spec (ws := wsX3_isRegister) B.pre
  have hown : s.vm.findClass RX3 = some m.cls := findClass_of_methodNamed B.named
  have hlocks := B.notSynchronized
  have hl := lv_entry ([.int x]) (n := 1) (Nat.le_of_ble_eq_true rfl)
  rw [lg_entry_eq]
  generalize (lg_sl ([.int x]) ++ List.replicate (1 - (lg_sl ([.int x])).length) Slot.unset).toArray = ls at hl ⊢
  have hl : lv_has ls 1 [(0, .int x)] := hl
  refine lv_iload_n hx hb dX3_isRegister_0 rfl (lv_at hl 0 rfl) ?_
  refine lv_if_lt (tgt := 13) hx hb dX3_isRegister_1 (by decide) (fun c_1 => ?_) (fun c_1 => ?_)
  · refine lv_iconst (v := 0) hx hb dX3_isRegister_13 (by decide) ?_
    exact W.zret (ty := .boolean) (v := 0) hx hb hr rfl (fun t9 ht9 hW9 => ⟨jk_ret (show 0 = (jB (jIn x 4)) from (by first | exact (jB_t ⟨by assumption, by assumption⟩).symm | exact (jB_f (fun h => h.1 (by assumption))).symm | exact (jB_f (fun h => h.2 (by assumption))).symm)), ht9⟩) (fun q h => absurd h List.not_mem_nil) dX3_isRegister_14
  · refine lv_iload_n hx hb dX3_isRegister_4 rfl (lv_at hl 0 rfl) ?_
    refine lv_iconst (v := 4) hx hb dX3_isRegister_5 (by decide) ?_
    refine lv_icmp_ge (tgt := 13) hx hb dX3_isRegister_6 (by decide) (fun c_6 => ?_) (fun c_6 => ?_)
    · refine lv_iconst (v := 0) hx hb dX3_isRegister_13 (by decide) ?_
      exact W.zret (ty := .boolean) (v := 0) hx hb hr rfl (fun t9 ht9 hW9 => ⟨jk_ret (show 0 = (jB (jIn x 4)) from (by first | exact (jB_t ⟨by assumption, by assumption⟩).symm | exact (jB_f (fun h => h.1 (by assumption))).symm | exact (jB_f (fun h => h.2 (by assumption))).symm)), ht9⟩) (fun q h => absurd h List.not_mem_nil) dX3_isRegister_14
    · refine lv_iconst (v := 1) hx hb dX3_isRegister_9 (by decide) ?_
      refine lv_goto (tgt := 14) hx hb dX3_isRegister_10 (by decide) ?_
      exact W.zret (ty := .boolean) (v := 1) hx hb hr rfl (fun t9 ht9 hW9 => ⟨jk_ret (show 1 = (jB (jIn x 4)) from (by first | exact (jB_t ⟨by assumption, by assumption⟩).symm | exact (jB_f (fun h => h.1 (by assumption))).symm | exact (jB_f (fun h => h.2 (by assumption))).symm)), ht9⟩) (fun q h => absurd h List.not_mem_nil) dX3_isRegister_14
set_option maxHeartbeats 4000000 in
set_option maxRecDepth 100000 in
theorem c_X3_isCell (l : Launch) (D : va_G) (cA : ClassId) (x : Int32) : Met l yX3_isCell wsX3_isCell ({ frames := 0, cells := 0, slots := 0, locals := 0 }) (roP D cA [.int x] []) (QcRead (jB (jIn x 16))) 0 0 (fun _ => False) := by
  refine Met.ofW (cc := cX3_isCell) (maxL := 1) (ret := (some .boolean)) (by decide) rfl ?_
  intro p e s m args below meth c s₁ B hml hv
  obtain ⟨rfl, hP, hK, hN⟩ := hv
  have hx := B.exec
  have hb := B.bytes
  have hr := B.returns
  have hts := atoms_spec (ws := wsX3_isCell) B.pre
  have hown : s.vm.findClass RX3 = some m.cls := findClass_of_methodNamed B.named
  have hlocks := B.notSynchronized
  have hl := lv_entry ([.int x]) (n := 1) (Nat.le_of_ble_eq_true rfl)
  rw [lg_entry_eq]
  generalize (lg_sl ([.int x]) ++ List.replicate (1 - (lg_sl ([.int x])).length) Slot.unset).toArray = ls at hl ⊢
  have hl : lv_has ls 1 [(0, .int x)] := hl
  refine lv_iload_n hx hb dX3_isCell_0 rfl (lv_at hl 0 rfl) ?_
  refine lv_if_lt (tgt := 14) hx hb dX3_isCell_1 (by decide) (fun c_1 => ?_) (fun c_1 => ?_)
  · refine lv_iconst (v := 0) hx hb dX3_isCell_14 (by decide) ?_
    exact W.zret (ty := .boolean) (v := 0) hx hb hr rfl (fun t9 ht9 hW9 => ⟨jk_ret (show 0 = (jB (jIn x 16)) from (by first | exact (jB_t ⟨by assumption, by assumption⟩).symm | exact (jB_f (fun h => h.1 (by assumption))).symm | exact (jB_f (fun h => h.2 (by assumption))).symm)), ht9⟩) (fun q h => absurd h List.not_mem_nil) dX3_isCell_15
  · refine lv_iload_n hx hb dX3_isCell_4 rfl (lv_at hl 0 rfl) ?_
    refine lv_bipush (v := 16) hx hb dX3_isCell_5 (by decide) ?_
    refine lv_icmp_ge (tgt := 14) hx hb dX3_isCell_7 (by decide) (fun c_7 => ?_) (fun c_7 => ?_)
    · refine lv_iconst (v := 0) hx hb dX3_isCell_14 (by decide) ?_
      exact W.zret (ty := .boolean) (v := 0) hx hb hr rfl (fun t9 ht9 hW9 => ⟨jk_ret (show 0 = (jB (jIn x 16)) from (by first | exact (jB_t ⟨by assumption, by assumption⟩).symm | exact (jB_f (fun h => h.1 (by assumption))).symm | exact (jB_f (fun h => h.2 (by assumption))).symm)), ht9⟩) (fun q h => absurd h List.not_mem_nil) dX3_isCell_15
    · refine lv_iconst (v := 1) hx hb dX3_isCell_10 (by decide) ?_
      refine lv_goto (tgt := 15) hx hb dX3_isCell_11 (by decide) ?_
      exact W.zret (ty := .boolean) (v := 1) hx hb hr rfl (fun t9 ht9 hW9 => ⟨jk_ret (show 1 = (jB (jIn x 16)) from (by first | exact (jB_t ⟨by assumption, by assumption⟩).symm | exact (jB_f (fun h => h.1 (by assumption))).symm | exact (jB_f (fun h => h.2 (by assumption))).symm)), ht9⟩) (fun q h => absurd h List.not_mem_nil) dX3_isCell_15
set_option maxHeartbeats 4000000 in
set_option maxRecDepth 100000 in
theorem c_X3_isAddress (l : Launch) (D : va_G) (cA : ClassId) (x : Int32) : Met l yX3_isAddress wsX3_isAddress ({ frames := 0, cells := 0, slots := 0, locals := 0 }) (roP D cA [.int x] []) (QcRead (jB (jIn x 24))) 0 0 (fun _ => False) := by
  refine Met.ofW (cc := cX3_isAddress) (maxL := 1) (ret := (some .boolean)) (by decide) rfl ?_
  intro p e s m args below meth c s₁ B hml hv
  obtain ⟨rfl, hP, hK, hN⟩ := hv
  have hx := B.exec
  have hb := B.bytes
  have hr := B.returns
  have hts := atoms_spec (ws := wsX3_isAddress) B.pre
  have hown : s.vm.findClass RX3 = some m.cls := findClass_of_methodNamed B.named
  have hlocks := B.notSynchronized
  have hl := lv_entry ([.int x]) (n := 1) (Nat.le_of_ble_eq_true rfl)
  rw [lg_entry_eq]
  generalize (lg_sl ([.int x]) ++ List.replicate (1 - (lg_sl ([.int x])).length) Slot.unset).toArray = ls at hl ⊢
  have hl : lv_has ls 1 [(0, .int x)] := hl
  refine lv_iload_n hx hb dX3_isAddress_0 rfl (lv_at hl 0 rfl) ?_
  refine lv_if_lt (tgt := 14) hx hb dX3_isAddress_1 (by decide) (fun c_1 => ?_) (fun c_1 => ?_)
  · refine lv_iconst (v := 0) hx hb dX3_isAddress_14 (by decide) ?_
    exact W.zret (ty := .boolean) (v := 0) hx hb hr rfl (fun t9 ht9 hW9 => ⟨jk_ret (show 0 = (jB (jIn x 24)) from (by first | exact (jB_t ⟨by assumption, by assumption⟩).symm | exact (jB_f (fun h => h.1 (by assumption))).symm | exact (jB_f (fun h => h.2 (by assumption))).symm)), ht9⟩) (fun q h => absurd h List.not_mem_nil) dX3_isAddress_15
  · refine lv_iload_n hx hb dX3_isAddress_4 rfl (lv_at hl 0 rfl) ?_
    refine lv_bipush (v := 24) hx hb dX3_isAddress_5 (by decide) ?_
    refine lv_icmp_ge (tgt := 14) hx hb dX3_isAddress_7 (by decide) (fun c_7 => ?_) (fun c_7 => ?_)
    · refine lv_iconst (v := 0) hx hb dX3_isAddress_14 (by decide) ?_
      exact W.zret (ty := .boolean) (v := 0) hx hb hr rfl (fun t9 ht9 hW9 => ⟨jk_ret (show 0 = (jB (jIn x 24)) from (by first | exact (jB_t ⟨by assumption, by assumption⟩).symm | exact (jB_f (fun h => h.1 (by assumption))).symm | exact (jB_f (fun h => h.2 (by assumption))).symm)), ht9⟩) (fun q h => absurd h List.not_mem_nil) dX3_isAddress_15
    · refine lv_iconst (v := 1) hx hb dX3_isAddress_10 (by decide) ?_
      refine lv_goto (tgt := 15) hx hb dX3_isAddress_11 (by decide) ?_
      exact W.zret (ty := .boolean) (v := 1) hx hb hr rfl (fun t9 ht9 hW9 => ⟨jk_ret (show 1 = (jB (jIn x 24)) from (by first | exact (jB_t ⟨by assumption, by assumption⟩).symm | exact (jB_f (fun h => h.1 (by assumption))).symm | exact (jB_f (fun h => h.2 (by assumption))).symm)), ht9⟩) (fun q h => absurd h List.not_mem_nil) dX3_isAddress_15
set_option maxHeartbeats 4000000 in
set_option maxRecDepth 100000 in
theorem c_X3_holdsAddressInB (l : Launch) (D : va_G) (cA : ClassId) (x : Int32) : Met l yX3_holdsAddressInB wsX3_holdsAddressInB ({ frames := 0, cells := 0, slots := 0, locals := 0 }) (roP D cA [.int x] []) (QcRead (jB (x = 7 ∨ x = 9))) 0 0 (fun _ => False) := by
  refine Met.ofW (cc := cX3_holdsAddressInB) (maxL := 1) (ret := (some .boolean)) (by decide) rfl ?_
  intro p e s m args below meth c s₁ B hml hv
  obtain ⟨rfl, hP, hK, hN⟩ := hv
  have hx := B.exec
  have hb := B.bytes
  have hr := B.returns
  have hts := atoms_spec (ws := wsX3_holdsAddressInB) B.pre
  have hown : s.vm.findClass RX3 = some m.cls := findClass_of_methodNamed B.named
  have hlocks := B.notSynchronized
  have hl := lv_entry ([.int x]) (n := 1) (Nat.le_of_ble_eq_true rfl)
  rw [lg_entry_eq]
  generalize (lg_sl ([.int x]) ++ List.replicate (1 - (lg_sl ([.int x])).length) Slot.unset).toArray = ls at hl ⊢
  have hl : lv_has ls 1 [(0, .int x)] := hl
  refine lv_iload_n hx hb dX3_holdsAddressInB_0 rfl (lv_at hl 0 rfl) ?_
  refine lv_bipush (v := 7) hx hb dX3_holdsAddressInB_1 (by decide) ?_
  refine lv_icmp_eq (tgt := 12) hx hb dX3_holdsAddressInB_3 (by decide) (fun c_3 => ?_) (fun c_3 => ?_)
  · refine lv_iconst (v := 1) hx hb dX3_holdsAddressInB_12 (by decide) ?_
    refine lv_goto (tgt := 17) hx hb dX3_holdsAddressInB_13 (by decide) ?_
    exact W.zret (ty := .boolean) (v := 1) hx hb hr rfl (fun t9 ht9 hW9 => ⟨jk_ret (show 1 = (jB (x = 7 ∨ x = 9)) from (by first | exact (jB_t (Or.inl (by assumption))).symm | exact (jB_t (Or.inr (by assumption))).symm | exact (jB_f (fun h => h.elim (by assumption) (by assumption))).symm)), ht9⟩) (fun q h => absurd h List.not_mem_nil) dX3_holdsAddressInB_17
  · refine lv_iload_n hx hb dX3_holdsAddressInB_6 rfl (lv_at hl 0 rfl) ?_
    refine lv_bipush (v := 9) hx hb dX3_holdsAddressInB_7 (by decide) ?_
    refine lv_icmp_ne (tgt := 16) hx hb dX3_holdsAddressInB_9 (by decide) (fun c_9 => ?_) (fun c_9 => ?_)
    · refine lv_iconst (v := 0) hx hb dX3_holdsAddressInB_16 (by decide) ?_
      exact W.zret (ty := .boolean) (v := 0) hx hb hr rfl (fun t9 ht9 hW9 => ⟨jk_ret (show 0 = (jB (x = 7 ∨ x = 9)) from (by first | exact (jB_t (Or.inl (by assumption))).symm | exact (jB_t (Or.inr (by assumption))).symm | exact (jB_f (fun h => h.elim (by assumption) (by assumption))).symm)), ht9⟩) (fun q h => absurd h List.not_mem_nil) dX3_holdsAddressInB_17
    · refine lv_iconst (v := 1) hx hb dX3_holdsAddressInB_12 (by decide) ?_
      refine lv_goto (tgt := 17) hx hb dX3_holdsAddressInB_13 (by decide) ?_
      exact W.zret (ty := .boolean) (v := 1) hx hb hr rfl (fun t9 ht9 hW9 => ⟨jk_ret (show 1 = (jB (x = 7 ∨ x = 9)) from (by first | exact (jB_t (Or.inl (by assumption))).symm | exact (jB_t (Or.inr (by assumption))).symm | exact (jB_f (fun h => h.elim (by assumption) (by assumption))).symm)), ht9⟩) (fun q h => absurd h List.not_mem_nil) dX3_holdsAddressInB_17
set_option maxHeartbeats 4000000 in
set_option maxRecDepth 100000 in
theorem c_X2_length (l : Launch) (D : va_G) (cA : ClassId) (h0 : Nat) (a0 : Nat) (mo : Nat) (k : Nat) : Met l yX2_length wsX2_length ({ frames := 0, cells := 0, slots := 0, locals := 0 }) (roP D cA [.ref h0] [(h0, .inr (2, [.ref a0, .int (nI mo), .int (nI k)]))]) (QcRead (nI k)) 0 0 (fun _ => False) := by
  refine Met.ofW (cc := cX2_length) (maxL := 1) (ret := (some .int)) (by decide) rfl ?_
  intro p e s m args below meth c s₁ B hml hv
  obtain ⟨rfl, hP, hK, hN⟩ := hv
  have hx := B.exec
  have hb := B.bytes
  have hr := B.returns
  have hts := atoms_spec (ws := wsX2_length) B.pre
  have hown : s.vm.findClass RX2 = some m.cls := findClass_of_methodNamed B.named
  have hlocks := B.notSynchronized
  have hl := lv_entry ([.ref h0]) (n := 1) (Nat.le_of_ble_eq_true rfl)
  rw [lg_entry_eq]
  generalize (lg_sl ([.ref h0]) ++ List.replicate (1 - (lg_sl ([.ref h0])).length) Slot.unset).toArray = ls at hl ⊢
  have hl : lv_has ls 1 [(0, .ref h0)] := hl
  refine lv_aload_n hx hb dX2_length_0 rfl (lv_at hl 0 rfl) ?_
  refine va_get (D := D) (ci := 2) (v := .int (nI k)) (C := RX2) (T := TX2) (N := 3) hx hb hts iw_X2_length_X2 hown hK hP 0 rfl rfl 2 (by decide) (hts (.fieldLink RX2 28 "JumpGuard$Program" "count" "I") (List.mem_of_getElem? (l := wsX2_length) (i := 1) rfl)) (fun _ h9 => h9) rfl dX2_length_1 ?_
  exact W.iret (v := (nI k)) hx hb hr (fun t9 ht9 hW9 => ⟨jk_ret (show (nI k) = (nI k) from rfl), ht9⟩) (fun q h => absurd h List.not_mem_nil) dX2_length_4
set_option maxHeartbeats 4000000 in
set_option maxRecDepth 100000 in
theorem c_X2_isFull (l : Launch) (D : va_G) (cA : ClassId) (h0 : Nat) (a0 : Nat) (mo : Nat) (k : Nat) : Met l yX2_isFull wsX2_isFull ({ frames := 0, cells := 0, slots := 0, locals := 0 }) (roP D cA [.ref h0] [(h0, .inr (2, [.ref a0, .int (nI mo), .int (nI k)]))]) (QcRead (jB (nI mo ≤ nI k))) 0 0 (fun _ => False) := by
  refine Met.ofW (cc := cX2_isFull) (maxL := 1) (ret := (some .boolean)) (by decide) rfl ?_
  intro p e s m args below meth c s₁ B hml hv
  obtain ⟨rfl, hP, hK, hN⟩ := hv
  have hx := B.exec
  have hb := B.bytes
  have hr := B.returns
  have hts := atoms_spec (ws := wsX2_isFull) B.pre
  have hown : s.vm.findClass RX2 = some m.cls := findClass_of_methodNamed B.named
  have hlocks := B.notSynchronized
  have hl := lv_entry ([.ref h0]) (n := 1) (Nat.le_of_ble_eq_true rfl)
  rw [lg_entry_eq]
  generalize (lg_sl ([.ref h0]) ++ List.replicate (1 - (lg_sl ([.ref h0])).length) Slot.unset).toArray = ls at hl ⊢
  have hl : lv_has ls 1 [(0, .ref h0)] := hl
  refine lv_aload_n hx hb dX2_isFull_0 rfl (lv_at hl 0 rfl) ?_
  refine va_get (D := D) (ci := 2) (v := .int (nI k)) (C := RX2) (T := TX2) (N := 3) hx hb hts iw_X2_isFull_X2 hown hK hP 0 rfl rfl 2 (by decide) (hts (.fieldLink RX2 28 "JumpGuard$Program" "count" "I") (List.mem_of_getElem? (l := wsX2_isFull) (i := 1) rfl)) (fun _ h9 => h9) rfl dX2_isFull_1 ?_
  refine lv_aload_n hx hb dX2_isFull_4 rfl (lv_at hl 0 rfl) ?_
  refine va_get (D := D) (ci := 2) (v := .int (nI mo)) (C := RX2) (T := TX2) (N := 3) hx hb hts iw_X2_isFull_X2 hown hK hP 0 rfl rfl 1 (by decide) (hts (.fieldLink RX2 18 "JumpGuard$Program" "most" "I") (List.mem_of_getElem? (l := wsX2_isFull) (i := 2) rfl)) (fun _ h9 => h9) rfl dX2_isFull_5 ?_
  refine lv_icmp_lt (tgt := 15) hx hb dX2_isFull_8 (by decide) (fun c_8 => ?_) (fun c_8 => ?_)
  · refine lv_iconst (v := 0) hx hb dX2_isFull_15 (by decide) ?_
    exact W.zret (ty := .boolean) (v := 0) hx hb hr rfl (fun t9 ht9 hW9 => ⟨jk_ret (show 0 = (jB (nI mo ≤ nI k)) from (by first | exact (jB_t (Int32.not_lt.mp (by assumption))).symm | exact (jB_f (fun h => absurd h (Int32.not_le.mpr (by assumption)))).symm)), ht9⟩) (fun q h => absurd h List.not_mem_nil) dX2_isFull_16
  · refine lv_iconst (v := 1) hx hb dX2_isFull_11 (by decide) ?_
    refine lv_goto (tgt := 16) hx hb dX2_isFull_12 (by decide) ?_
    exact W.zret (ty := .boolean) (v := 1) hx hb hr rfl (fun t9 ht9 hW9 => ⟨jk_ret (show 1 = (jB (nI mo ≤ nI k)) from (by first | exact (jB_t (Int32.not_lt.mp (by assumption))).symm | exact (jB_f (fun h => absurd h (Int32.not_le.mpr (by assumption)))).symm)), ht9⟩) (fun q h => absurd h List.not_mem_nil) dX2_isFull_16
set_option maxHeartbeats 4000000 in
set_option maxRecDepth 100000 in
theorem c_X2_has (l : Launch) (D : va_G) (cA : ClassId) (h0 : Nat) (a0 : Nat) (mo : Nat) (k : Nat) (x : Int32) : Met l yX2_has wsX2_has ({ frames := 0, cells := 0, slots := 0, locals := 0 }) (roP D cA [.ref h0, .int x] [(h0, .inr (2, [.ref a0, .int (nI mo), .int (nI k)]))]) (QcRead (jB (jIn x (nI k)))) 0 0 (fun _ => False) := by
  refine Met.ofW (cc := cX2_has) (maxL := 2) (ret := (some .boolean)) (by decide) rfl ?_
  intro p e s m args below meth c s₁ B hml hv
  obtain ⟨rfl, hP, hK, hN⟩ := hv
  have hx := B.exec
  have hb := B.bytes
  have hr := B.returns
  have hts := atoms_spec (ws := wsX2_has) B.pre
  have hown : s.vm.findClass RX2 = some m.cls := findClass_of_methodNamed B.named
  have hlocks := B.notSynchronized
  have hl := lv_entry ([.ref h0, .int x]) (n := 2) (Nat.le_of_ble_eq_true rfl)
  rw [lg_entry_eq]
  generalize (lg_sl ([.ref h0, .int x]) ++ List.replicate (2 - (lg_sl ([.ref h0, .int x])).length) Slot.unset).toArray = ls at hl ⊢
  have hl : lv_has ls 2 [(0, .ref h0), (1, .int x)] := hl
  refine lv_iload_n hx hb dX2_has_0 rfl (lv_at hl 1 rfl) ?_
  refine lv_if_lt (tgt := 16) hx hb dX2_has_1 (by decide) (fun c_1 => ?_) (fun c_1 => ?_)
  · refine lv_iconst (v := 0) hx hb dX2_has_16 (by decide) ?_
    exact W.zret (ty := .boolean) (v := 0) hx hb hr rfl (fun t9 ht9 hW9 => ⟨jk_ret (show 0 = (jB (jIn x (nI k))) from (by first | exact (jB_t ⟨by assumption, by assumption⟩).symm | exact (jB_f (fun h => h.1 (by assumption))).symm | exact (jB_f (fun h => h.2 (by assumption))).symm)), ht9⟩) (fun q h => absurd h List.not_mem_nil) dX2_has_17
  · refine lv_iload_n hx hb dX2_has_4 rfl (lv_at hl 1 rfl) ?_
    refine lv_aload_n hx hb dX2_has_5 rfl (lv_at hl 0 rfl) ?_
    refine va_get (D := D) (ci := 2) (v := .int (nI k)) (C := RX2) (T := TX2) (N := 3) hx hb hts iw_X2_has_X2 hown hK hP 0 rfl rfl 2 (by decide) (hts (.fieldLink RX2 28 "JumpGuard$Program" "count" "I") (List.mem_of_getElem? (l := wsX2_has) (i := 1) rfl)) (fun _ h9 => h9) rfl dX2_has_6 ?_
    refine lv_icmp_ge (tgt := 16) hx hb dX2_has_9 (by decide) (fun c_9 => ?_) (fun c_9 => ?_)
    · refine lv_iconst (v := 0) hx hb dX2_has_16 (by decide) ?_
      exact W.zret (ty := .boolean) (v := 0) hx hb hr rfl (fun t9 ht9 hW9 => ⟨jk_ret (show 0 = (jB (jIn x (nI k))) from (by first | exact (jB_t ⟨by assumption, by assumption⟩).symm | exact (jB_f (fun h => h.1 (by assumption))).symm | exact (jB_f (fun h => h.2 (by assumption))).symm)), ht9⟩) (fun q h => absurd h List.not_mem_nil) dX2_has_17
    · refine lv_iconst (v := 1) hx hb dX2_has_12 (by decide) ?_
      refine lv_goto (tgt := 17) hx hb dX2_has_13 (by decide) ?_
      exact W.zret (ty := .boolean) (v := 1) hx hb hr rfl (fun t9 ht9 hW9 => ⟨jk_ret (show 1 = (jB (jIn x (nI k))) from (by first | exact (jB_t ⟨by assumption, by assumption⟩).symm | exact (jB_f (fun h => h.1 (by assumption))).symm | exact (jB_f (fun h => h.2 (by assumption))).symm)), ht9⟩) (fun q h => absurd h List.not_mem_nil) dX2_has_17
set_option maxHeartbeats 4000000 in
set_option maxRecDepth 100000 in
theorem c_X2_get (l : Launch) (D : va_G) (cA : ClassId) (h0 : Nat) (a0 : Nat) (mo : Nat) (k : Nat) (N : Nat) (f : Nat → Int32) (x : Int32) (y : Int32) (hk : k * 3 ≤ N) (hN3 : N ≤ 216) : Met l yX2_get wsX2_get ({ frames := 1, cells := 0, slots := 0, locals := 21 }) (roP D cA [.ref h0, .int x, .int y] [(h0, .inr (2, [.ref a0, .int (nI mo), .int (nI k)])), (a0, .inl (cA, N, .inl f))]) (QcRead (pGet f k x y)) 0 0 (fun _ => False) := by
  refine Met.ofW (cc := cX2_get) (maxL := 3) (ret := (some .int)) (by decide) rfl ?_
  intro p e s m args below meth c s₁ B hml hv
  obtain ⟨rfl, hP, hK, hN⟩ := hv
  have hx := B.exec
  have hb := B.bytes
  have hr := B.returns
  have hts := atoms_spec (ws := wsX2_get) B.pre
  have hown : s.vm.findClass RX2 = some m.cls := findClass_of_methodNamed B.named
  have hlocks := B.notSynchronized
  have hl := lv_entry ([.ref h0, .int x, .int y]) (n := 3) (Nat.le_of_ble_eq_true rfl)
  rw [lg_entry_eq]
  generalize (lg_sl ([.ref h0, .int x, .int y]) ++ List.replicate (3 - (lg_sl ([.ref h0, .int x, .int y])).length) Slot.unset).toArray = ls at hl ⊢
  have hl : lv_has ls 3 [(0, .ref h0), (1, .int x), (2, .int y)] := hl
  refine lv_aload_n hx hb dX2_get_0 rfl (lv_at hl 0 rfl) ?_
  refine lv_iload_n hx hb dX2_get_1 rfl (lv_at hl 1 rfl) ?_
  refine jr_i (va_runV (As := [.int x]) (rest := []) ⟨hx, hb, hml, hown, hts⟩ (c_X2_has l D cA h0 a0 mo k x) (cwV 1 hts gX2_get_X2_has rfl rfl rfl hv_X2_has ⟨Nat.le_of_ble_eq_true rfl, Nat.le_of_ble_eq_true rfl⟩) (roP.V (va_recv hK hP (ci := 2) (q0 := 0) rfl rfl) (jP_sub (w2 := [(h0, .inr (2, [.ref a0, .int (nI mo), .int (nI k)]))]) hP [0] rfl) hK hN) rfl rfl hl.1 rfl (lv_room (Nat.le_of_ble_eq_true rfl)) dX2_get_2 ⟨Nat.le_of_ble_eq_true rfl, Nat.le_of_ble_eq_true rfl⟩) ?_
  refine lv_if_eq (tgt := 17) hx hb dX2_get_5 (by decide) (fun c_5 => ?_) (fun c_5 => ?_)
  · replace c_5 := jB_z.mp c_5
    refine lv_bipush (v := (-9)) hx hb dX2_get_17 (by decide) ?_
    exact W.iret (v := (-9)) hx hb hr (fun t9 ht9 hW9 => ⟨jk_ret (show (-9) = (pGet f k x y) from (pGet_no (by first | exact fun h => c_5 h.1 | exact fun h => h.2.1 c_9 | exact fun h => h.2.2 (Int32.not_lt.mp c_14))).symm), ht9⟩) (fun q h => absurd h List.not_mem_nil) dX2_get_19
  · replace c_5 := jB_nz.mp c_5
    refine lv_iload_n hx hb dX2_get_8 rfl (lv_at hl 2 rfl) ?_
    refine lv_if_lt (tgt := 17) hx hb dX2_get_9 (by decide) (fun c_9 => ?_) (fun c_9 => ?_)
    · refine lv_bipush (v := (-9)) hx hb dX2_get_17 (by decide) ?_
      exact W.iret (v := (-9)) hx hb hr (fun t9 ht9 hW9 => ⟨jk_ret (show (-9) = (pGet f k x y) from (pGet_no (by first | exact fun h => c_5 h.1 | exact fun h => h.2.1 c_9 | exact fun h => h.2.2 (Int32.not_lt.mp c_14))).symm), ht9⟩) (fun q h => absurd h List.not_mem_nil) dX2_get_19
    · refine lv_iload_n hx hb dX2_get_12 rfl (lv_at hl 2 rfl) ?_
      refine lv_iconst (v := 3) hx hb dX2_get_13 (by decide) ?_
      refine lv_icmp_lt (tgt := 20) hx hb dX2_get_14 (by decide) (fun c_14 => ?_) (fun c_14 => ?_)
      · obtain ⟨j, hj, rfl⟩ := jN_of (n := k) (by omega) c_5
        obtain ⟨q, hq, rfl⟩ := jN_of (x := y) (n := 3) (by decide) ⟨c_9, fun h => absurd c_14 (Int32.not_lt.mpr h)⟩
        refine lv_aload_n hx hb dX2_get_20 rfl (lv_at hl 0 rfl) ?_
        refine va_get (D := D) (ci := 2) (v := .ref a0) (C := RX2) (T := TX2) (N := 3) hx hb hts iw_X2_get_X2 hown hK hP 0 rfl rfl 0 (by decide) (hts (.fieldLink RX2 24 "JumpGuard$Program" "numbers" "[I") (List.mem_of_getElem? (l := wsX2_get) (i := 1) rfl)) (fun _ h9 => h9) rfl dX2_get_21 ?_
        refine lv_iload_n hx hb dX2_get_24 rfl (lv_at hl 1 rfl) ?_
        refine lv_iconst (v := 3) hx hb dX2_get_25 (by decide) ?_
        refine lv_imul hx hb dX2_get_26 ?_
        refine lv_iload_n hx hb dX2_get_27 rfl (lv_at hl 2 rfl) ?_
        refine lv_iadd hx hb dX2_get_28 ?_
        refine jk_top (show (((nI j) * 3) + (nI q)) = (nI (j * 3 + q)) from by rw [jn_m3, nI_add]) ?_
        refine jk_ald hx hb hK hP 1 0 rfl rfl (k := (j * 3 + q)) rfl (by omega) (by omega) dX2_get_29 ?_
        exact W.iret (v := (f (j * 3 + q))) hx hb hr (fun t9 ht9 hW9 => ⟨jk_ret (show (f (j * 3 + q)) = (pGet f k (nI j) (nI q)) from (pGet_at hj hq (by omega)).symm), ht9⟩) (fun q h => absurd h List.not_mem_nil) dX2_get_30
      · refine lv_bipush (v := (-9)) hx hb dX2_get_17 (by decide) ?_
        exact W.iret (v := (-9)) hx hb hr (fun t9 ht9 hW9 => ⟨jk_ret (show (-9) = (pGet f k x y) from (pGet_no (by first | exact fun h => c_5 h.1 | exact fun h => h.2.1 c_9 | exact fun h => h.2.2 (Int32.not_lt.mp c_14))).symm), ht9⟩) (fun q h => absurd h List.not_mem_nil) dX2_get_19
set_option maxHeartbeats 4000000 in
set_option maxRecDepth 100000 in
theorem c_X2_append (l : Launch) (D : va_G) (cA : ClassId) (sz : Nat) (h0 : Nat) (a0 : Nat) (mo : Nat) (k : Nat) (N : Nat) (f : Nat → Int32) (x : Int32) (y : Int32) (z : Int32) (hk : k < mo) (hm : mo * 3 ≤ N) (hN3 : N ≤ 216) : Met l yX2_append wsX2_append ({ frames := 1, cells := 0, slots := 0, locals := 20 }) (rwP D cA [.ref h0, .int x, .int y, .int z] sz [(h0, .inr (2, [.ref a0, .int (nI mo), .int (nI k)])), (a0, .inl (cA, N, .inl f))]) (rwV D (va_A [(h0, .inr (2, [.ref a0, .int (nI mo), .int (nI k)])), (a0, .inl (cA, N, .inl f))] sz) [(h0, .inr (2, [.ref a0, .int (nI mo), .int (nI (k + 1))])), (a0, .inl (cA, N, .inl (pApp f k x y z)))]) 0 0 (va_A [(h0, .inr (2, [.ref a0, .int (nI mo), .int (nI k)])), (a0, .inl (cA, N, .inl f))] sz) := by
  refine Met.ofW (cc := cX2_append) (maxL := 4) (ret := none) (by decide) rfl ?_
  intro p e s m args below meth c s₁ B hml hv
  obtain ⟨rfl, hsz, hP, hK, hN, hD0⟩ := hv
  have hx := B.exec
  have hb := B.bytes
  have hr := B.returns
  have hts := atoms_spec (ws := wsX2_append) B.pre
  have hown : s.vm.findClass RX2 = some m.cls := findClass_of_methodNamed B.named
  have hlocks := B.notSynchronized
  subst hsz
  have hD := hD0.self (sz := s.heap.size)
  generalize hAe : va_A [(h0, .inr (2, [.ref a0, .int (nI mo), .int (nI k)])), (a0, .inl (cA, N, .inl f))] s.heap.size = A at hD ⊢
  have hA : ∀ q : Nat, s.heap.size ≤ q → A q := fun q h => by rw [← hAe]; exact Or.inr h
  have hS : va_S A s.heap s.heap [] := va_S.rf
  have hl := lv_entry ([.ref h0, .int x, .int y, .int z]) (n := 4) (Nat.le_of_ble_eq_true rfl)
  rw [lg_entry_eq]
  generalize (lg_sl ([.ref h0, .int x, .int y, .int z]) ++ List.replicate (4 - (lg_sl ([.ref h0, .int x, .int y, .int z])).length) Slot.unset).toArray = ls at hl ⊢
  have hl : lv_has ls 4 [(0, .ref h0), (1, .int x), (2, .int y), (3, .int z)] := hl
  refine lv_aload_n hx hb dX2_append_0 rfl (lv_at hl 0 rfl) ?_
  refine jr_i (va_runV (As := []) (rest := []) ⟨hx, hb, hml, hown, hts⟩ (c_X2_isFull l D cA h0 a0 mo k) (cwV 0 hts gX2_append_X2_isFull rfl rfl rfl hv_X2_isFull ⟨Nat.le_of_ble_eq_true rfl, Nat.le_of_ble_eq_true rfl⟩) (roP.V (va_recv hK hP (ci := 2) (q0 := 0) rfl rfl) (jP_sub (w2 := [(h0, .inr (2, [.ref a0, .int (nI mo), .int (nI k)]))]) hP [0] rfl) hK hN) rfl rfl hl.1 rfl (lv_room (Nat.le_of_ble_eq_true rfl)) dX2_append_1 ⟨Nat.le_of_ble_eq_true rfl, Nat.le_of_ble_eq_true rfl⟩) ?_
  refine lv_if_eq (tgt := 8) hx hb dX2_append_4 (by decide) (fun c_4 => ?_) (fun c_4 => ?_)
  · replace c_4 := jB_z.mp c_4
    refine lv_aload_n hx hb dX2_append_8 rfl (lv_at hl 0 rfl) ?_
    refine va_get (D := D) (ci := 2) (v := .ref a0) (C := RX2) (T := TX2) (N := 3) hx hb hts iw_X2_append_X2 hown hK hP 0 rfl rfl 0 (by decide) (hts (.fieldLink RX2 24 "JumpGuard$Program" "numbers" "[I") (List.mem_of_getElem? (l := wsX2_append) (i := 1) rfl)) (fun _ h9 => h9) rfl dX2_append_9 ?_
    refine lv_aload_n hx hb dX2_append_12 rfl (lv_at hl 0 rfl) ?_
    refine va_get (D := D) (ci := 2) (v := .int (nI k)) (C := RX2) (T := TX2) (N := 3) hx hb hts iw_X2_append_X2 hown hK hP 0 rfl rfl 2 (by decide) (hts (.fieldLink RX2 28 "JumpGuard$Program" "count" "I") (List.mem_of_getElem? (l := wsX2_append) (i := 2) rfl)) (fun _ h9 => h9) rfl dX2_append_13 ?_
    refine lv_iconst (v := 3) hx hb dX2_append_16 (by decide) ?_
    refine lv_imul hx hb dX2_append_17 ?_
    refine lv_iconst (v := 0) hx hb dX2_append_18 (by decide) ?_
    refine lv_iadd hx hb dX2_append_19 ?_
    refine jk_top (show (((nI k) * 3) + 0) = (nI (k * 3)) from by rw [jn_m3, jn_a0]) ?_
    refine lv_iload_n hx hb dX2_append_20 rfl (lv_at hl 1 rfl) ?_
    refine jk_ast hx hb hK hP hD hS 1 0 rfl rfl (k := (k * 3)) rfl (by omega) (by omega) dX2_append_21 (fun H locs hP hD hS => ?_)
    have hP : va_P D vwCl [(h0, .inr (2, [.ref a0, .int (nI mo), .int (nI k)])), (a0, .inl (cA, N, .inl (upd f (k * 3) x)))] H := hP
    have hD : va_D A [(h0, .inr (2, [.ref a0, .int (nI mo), .int (nI k)])), (a0, .inl (cA, N, .inl (upd f (k * 3) x)))] := hD
    refine lv_aload_n hx hb dX2_append_22 rfl (lv_at hl 0 rfl) ?_
    refine va_get (D := D) (ci := 2) (v := .ref a0) (C := RX2) (T := TX2) (N := 3) hx hb hts iw_X2_append_X2 hown hK hP 0 rfl rfl 0 (by decide) (hts (.fieldLink RX2 24 "JumpGuard$Program" "numbers" "[I") (List.mem_of_getElem? (l := wsX2_append) (i := 1) rfl)) (fun _ h9 => h9) rfl dX2_append_23 ?_
    refine lv_aload_n hx hb dX2_append_26 rfl (lv_at hl 0 rfl) ?_
    refine va_get (D := D) (ci := 2) (v := .int (nI k)) (C := RX2) (T := TX2) (N := 3) hx hb hts iw_X2_append_X2 hown hK hP 0 rfl rfl 2 (by decide) (hts (.fieldLink RX2 28 "JumpGuard$Program" "count" "I") (List.mem_of_getElem? (l := wsX2_append) (i := 2) rfl)) (fun _ h9 => h9) rfl dX2_append_27 ?_
    refine lv_iconst (v := 3) hx hb dX2_append_30 (by decide) ?_
    refine lv_imul hx hb dX2_append_31 ?_
    refine lv_iconst (v := 1) hx hb dX2_append_32 (by decide) ?_
    refine lv_iadd hx hb dX2_append_33 ?_
    refine jk_top (show (((nI k) * 3) + 1) = (nI (k * 3 + 1)) from by rw [jn_m3, jn_a1]) ?_
    refine lv_iload_n hx hb dX2_append_34 rfl (lv_at hl 2 rfl) ?_
    refine jk_ast hx hb hK hP hD hS 1 0 rfl rfl (k := (k * 3 + 1)) rfl (by omega) (by omega) dX2_append_35 (fun H locs hP hD hS => ?_)
    have hP : va_P D vwCl [(h0, .inr (2, [.ref a0, .int (nI mo), .int (nI k)])), (a0, .inl (cA, N, .inl (upd (upd f (k * 3) x) (k * 3 + 1) y)))] H := hP
    have hD : va_D A [(h0, .inr (2, [.ref a0, .int (nI mo), .int (nI k)])), (a0, .inl (cA, N, .inl (upd (upd f (k * 3) x) (k * 3 + 1) y)))] := hD
    refine lv_aload_n hx hb dX2_append_36 rfl (lv_at hl 0 rfl) ?_
    refine va_get (D := D) (ci := 2) (v := .ref a0) (C := RX2) (T := TX2) (N := 3) hx hb hts iw_X2_append_X2 hown hK hP 0 rfl rfl 0 (by decide) (hts (.fieldLink RX2 24 "JumpGuard$Program" "numbers" "[I") (List.mem_of_getElem? (l := wsX2_append) (i := 1) rfl)) (fun _ h9 => h9) rfl dX2_append_37 ?_
    refine lv_aload_n hx hb dX2_append_40 rfl (lv_at hl 0 rfl) ?_
    refine va_get (D := D) (ci := 2) (v := .int (nI k)) (C := RX2) (T := TX2) (N := 3) hx hb hts iw_X2_append_X2 hown hK hP 0 rfl rfl 2 (by decide) (hts (.fieldLink RX2 28 "JumpGuard$Program" "count" "I") (List.mem_of_getElem? (l := wsX2_append) (i := 2) rfl)) (fun _ h9 => h9) rfl dX2_append_41 ?_
    refine lv_iconst (v := 3) hx hb dX2_append_44 (by decide) ?_
    refine lv_imul hx hb dX2_append_45 ?_
    refine lv_iconst (v := 2) hx hb dX2_append_46 (by decide) ?_
    refine lv_iadd hx hb dX2_append_47 ?_
    refine jk_top (show (((nI k) * 3) + 2) = (nI (k * 3 + 2)) from by rw [jn_m3, jn_a2]) ?_
    refine lv_iload_n hx hb dX2_append_48 rfl (lv_at hl 3 rfl) ?_
    refine jk_ast hx hb hK hP hD hS 1 0 rfl rfl (k := (k * 3 + 2)) rfl (by omega) (by omega) dX2_append_49 (fun H locs hP hD hS => ?_)
    have hP : va_P D vwCl [(h0, .inr (2, [.ref a0, .int (nI mo), .int (nI k)])), (a0, .inl (cA, N, .inl (upd (upd (upd f (k * 3) x) (k * 3 + 1) y) (k * 3 + 2) z)))] H := hP
    have hD : va_D A [(h0, .inr (2, [.ref a0, .int (nI mo), .int (nI k)])), (a0, .inl (cA, N, .inl (upd (upd (upd f (k * 3) x) (k * 3 + 1) y) (k * 3 + 2) z)))] := hD
    refine lv_aload_n hx hb dX2_append_50 rfl (lv_at hl 0 rfl) ?_
    refine lv_dup hx hb dX2_append_51 rfl ?_
    refine va_get (D := D) (ci := 2) (v := .int (nI k)) (C := RX2) (T := TX2) (N := 3) hx hb hts iw_X2_append_X2 hown hK hP 0 rfl rfl 2 (by decide) (hts (.fieldLink RX2 28 "JumpGuard$Program" "count" "I") (List.mem_of_getElem? (l := wsX2_append) (i := 2) rfl)) (fun _ h9 => h9) rfl dX2_append_52 ?_
    refine lv_iconst (v := 1) hx hb dX2_append_55 (by decide) ?_
    refine lv_iadd hx hb dX2_append_56 ?_
    refine jk_top (show ((nI k) + 1) = (nI (k + 1)) from jn_a1 k) ?_
    refine va_put (D := D) (ci := 2) (v := .int (nI (k + 1))) (ty := .int) (C := RX2) (T := TX2) (N := 3) hx hb hts iw_X2_append_X2 tyX2 tyX2_ok nmX2 hown hK hP hD hS 0 rfl rfl 2 (by decide) (hts (.fieldLink RX2 28 "JumpGuard$Program" "count" "I") (List.mem_of_getElem? (l := wsX2_append) (i := 2) rfl)) (fun _ h9 => h9) rfl (by decide +kernel) rfl rfl (Nat.le_of_ble_eq_true rfl) dX2_append_57 (fun H locs hP hD hS => ?_)
    have hP : va_P D vwCl [(h0, .inr (2, [.ref a0, .int (nI mo), .int (nI (k + 1))])), (a0, .inl (cA, N, .inl (upd (upd (upd f (k * 3) x) (k * 3 + 1) y) (k * 3 + 2) z)))] H := hP
    have hD : va_D A [(h0, .inr (2, [.ref a0, .int (nI mo), .int (nI (k + 1))])), (a0, .inl (cA, N, .inl (upd (upd (upd f (k * 3) x) (k * 3 + 1) y) (k * 3 + 2) z)))] := hD
    obtain ⟨hP9, hD9⟩ := jk_end (w2 := [(h0, .inr (2, [.ref a0, .int (nI mo), .int (nI (k + 1))])), (a0, .inl (cA, N, .inl (upd (upd (upd f (k * 3) x) (k * 3 + 1) y) (k * 3 + 2) z)))]) hP hD [0, 1] (by decide) rfl
    have e9 : ([(h0, .inr (2, [.ref a0, .int (nI mo), .int (nI (k + 1))])), (a0, .inl (cA, N, .inl (upd (upd (upd f (k * 3) x) (k * 3 + 1) y) (k * 3 + 2) z)))] : va_W) = [(h0, .inr (2, [.ref a0, .int (nI mo), .int (nI (k + 1))])), (a0, .inl (cA, N, .inl (pApp f k x y z)))] := rfl
    rw [e9] at hP9 hD9
    exact W.vret hx hb hr (fun t9 ht9 hW9 => ⟨⟨(), rfl, trivial, by rw [ht9]; exact hP9, hD9⟩, hS.F ht9⟩) hS.2.2 dX2_append_60
  · replace c_4 := jB_nz.mp c_4
    exact absurd c_4 (nI_ge hk (by omega))
set_option maxHeartbeats 4000000 in
set_option maxRecDepth 100000 in
theorem c_X2_clear (l : Launch) (D : va_G) (cA : ClassId) (sz : Nat) (h0 : Nat) (a0 : Nat) (mo : Nat) (k : Nat) : Met l yX2_clear wsX2_clear ({ frames := 0, cells := 0, slots := 0, locals := 0 }) (rwP D cA [.ref h0] sz [(h0, .inr (2, [.ref a0, .int (nI mo), .int (nI k)]))]) (rwV D (va_A [(h0, .inr (2, [.ref a0, .int (nI mo), .int (nI k)]))] sz) [(h0, .inr (2, [.ref a0, .int (nI mo), .int (nI 0)]))]) 0 0 (va_A [(h0, .inr (2, [.ref a0, .int (nI mo), .int (nI k)]))] sz) := by
  refine Met.ofW (cc := cX2_clear) (maxL := 1) (ret := none) (by decide) rfl ?_
  intro p e s m args below meth c s₁ B hml hv
  obtain ⟨rfl, hsz, hP, hK, hN, hD0⟩ := hv
  have hx := B.exec
  have hb := B.bytes
  have hr := B.returns
  have hts := atoms_spec (ws := wsX2_clear) B.pre
  have hown : s.vm.findClass RX2 = some m.cls := findClass_of_methodNamed B.named
  have hlocks := B.notSynchronized
  subst hsz
  have hD := hD0.self (sz := s.heap.size)
  generalize hAe : va_A [(h0, .inr (2, [.ref a0, .int (nI mo), .int (nI k)]))] s.heap.size = A at hD ⊢
  have hA : ∀ q : Nat, s.heap.size ≤ q → A q := fun q h => by rw [← hAe]; exact Or.inr h
  have hS : va_S A s.heap s.heap [] := va_S.rf
  have hl := lv_entry ([.ref h0]) (n := 1) (Nat.le_of_ble_eq_true rfl)
  rw [lg_entry_eq]
  generalize (lg_sl ([.ref h0]) ++ List.replicate (1 - (lg_sl ([.ref h0])).length) Slot.unset).toArray = ls at hl ⊢
  have hl : lv_has ls 1 [(0, .ref h0)] := hl
  refine lv_aload_n hx hb dX2_clear_0 rfl (lv_at hl 0 rfl) ?_
  refine lv_iconst (v := 0) hx hb dX2_clear_1 (by decide) ?_
  refine va_put (D := D) (ci := 2) (v := .int 0) (ty := .int) (C := RX2) (T := TX2) (N := 3) hx hb hts iw_X2_clear_X2 tyX2 tyX2_ok nmX2 hown hK hP hD hS 0 rfl rfl 2 (by decide) (hts (.fieldLink RX2 28 "JumpGuard$Program" "count" "I") (List.mem_of_getElem? (l := wsX2_clear) (i := 1) rfl)) (fun _ h9 => h9) rfl (by decide +kernel) rfl rfl (Nat.le_of_ble_eq_true rfl) dX2_clear_2 (fun H locs hP hD hS => ?_)
  have hP : va_P D vwCl [(h0, .inr (2, [.ref a0, .int (nI mo), .int 0]))] H := hP
  have hD : va_D A [(h0, .inr (2, [.ref a0, .int (nI mo), .int 0]))] := hD
  obtain ⟨hP9, hD9⟩ := jk_end (w2 := [(h0, .inr (2, [.ref a0, .int (nI mo), .int 0]))]) hP hD [0] (by decide) rfl
  have e9 : ([(h0, .inr (2, [.ref a0, .int (nI mo), .int 0]))] : va_W) = [(h0, .inr (2, [.ref a0, .int (nI mo), .int (nI 0)]))] := rfl
  rw [e9] at hP9 hD9
  exact W.vret hx hb hr (fun t9 ht9 hW9 => ⟨⟨(), rfl, trivial, by rw [ht9]; exact hP9, hD9⟩, hS.F ht9⟩) hS.2.2 dX2_clear_5
