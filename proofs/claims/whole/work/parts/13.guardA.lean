/-! ===== JumpGuard: its own little methods ===== -/
abbrev sI (o a b : Int32) : Prop := o = 0 ∨ ((o = 1 ∨ o = 5 ∨ o = 8) ∧ jIn a 4) ∨ ((o = 2 ∨ o = 3) ∧ jIn a 4 ∧ jIn b 16) ∨ (o = 4 ∧ jIn a 4 ∧ jIn b 4) ∨ (o = 6 ∧ jIn a 24) ∨ ((o = 7 ∨ o = 9) ∧ jIn a 4 ∧ jIn b 24)
theorem sI_0 (a b : Int32) : sI (nI 0) a b := Or.inl rfl
theorem sI_158 {o a b : Int32} (h : o = 1 ∨ o = 5 ∨ o = 8) : sI o a b ↔ jIn a 4 := by
  constructor
  · intro q
    rcases q with q | q | q | q | q | q
    · rcases h with h | h | h <;> (rw [h] at q; exact absurd q (by decide))
    · exact q.2
    · exact q.2.1
    · exact q.2.1
    · rcases h with h | h | h <;> (rw [h] at q; exact absurd q.1 (by decide))
    · exact q.2.1
  · intro q; exact Or.inr (Or.inl ⟨h, q⟩)
theorem sI_23 {o a b : Int32} (h : o = 2 ∨ o = 3) : sI o a b ↔ jIn a 4 ∧ jIn b 16 := by
  constructor
  · intro q
    rcases q with q | q | q | q | q | q
    · rcases h with h | h <;> (rw [h] at q; exact absurd q (by decide))
    · rcases h with h | h <;> (rw [h] at q; exact absurd q.1 (by decide))
    · exact q.2
    · rcases h with h | h <;> (rw [h] at q; exact absurd q.1 (by decide))
    · rcases h with h | h <;> (rw [h] at q; exact absurd q.1 (by decide))
    · rcases h with h | h <;> (rw [h] at q; exact absurd q.1 (by decide))
  · intro q; exact Or.inr (Or.inr (Or.inl ⟨h, q⟩))
theorem sI_4 {o a b : Int32} (h : o = 4) : sI o a b ↔ jIn a 4 ∧ jIn b 4 := by
  subst h
  constructor
  · intro q
    rcases q with q | q | q | q | q | q
    · exact absurd q (by decide)
    · exact absurd q.1 (by decide)
    · exact absurd q.1 (by decide)
    · exact q.2
    · exact absurd q.1 (by decide)
    · exact absurd q.1 (by decide)
  · intro q; exact Or.inr (Or.inr (Or.inr (Or.inl ⟨rfl, q⟩)))
theorem sI_6 {o a b : Int32} (h : o = 6) : sI o a b ↔ jIn a 24 := by
  subst h
  constructor
  · intro q
    rcases q with q | q | q | q | q | q
    · exact absurd q (by decide)
    · exact absurd q.1 (by decide)
    · exact absurd q.1 (by decide)
    · exact absurd q.1 (by decide)
    · exact q.2
    · exact absurd q.1 (by decide)
  · intro q; exact Or.inr (Or.inr (Or.inr (Or.inr (Or.inl ⟨rfl, q⟩))))
theorem sI_79 {o a b : Int32} (h : o = 7 ∨ o = 9) : sI o a b ↔ jIn a 4 ∧ jIn b 24 := by
  constructor
  · intro q
    rcases q with q | q | q | q | q | q
    · rcases h with h | h <;> (rw [h] at q; exact absurd q (by decide))
    · rcases h with h | h <;> (rw [h] at q; exact absurd q.1 (by decide))
    · rcases h with h | h <;> (rw [h] at q; exact absurd q.1 (by decide))
    · rcases h with h | h <;> (rw [h] at q; exact absurd q.1 (by decide))
    · rcases h with h | h <;> (rw [h] at q; exact absurd q.1 (by decide))
    · exact q.2
  · intro q; exact Or.inr (Or.inr (Or.inr (Or.inr (Or.inr ⟨h, q⟩))))
theorem sI_out {o a b : Int32} (h : o.toInt < 0 ∨ (((10 : Nat) : Int) - 1) < o.toInt) : ¬ sI o a b := by
  have e : ∀ n : Nat, n < 10 → ¬ o = nI n := by
    intro n hn q
    rw [q, nI_toInt (by omega)] at h
    omega
  intro q
  rcases q with q | q | q | q | q | q
  · exact e 0 (by omega) q
  · rcases q.1 with q | q | q
    · exact e 1 (by omega) q
    · exact e 5 (by omega) q
    · exact e 8 (by omega) q
  · rcases q.1 with q | q
    · exact e 2 (by omega) q
    · exact e 3 (by omega) q
  · exact e 4 (by omega) q.1
  · exact e 6 (by omega) q.1
  · rcases q.1 with q | q
    · exact e 7 (by omega) q
    · exact e 9 (by omega) q
abbrev hA (f : Nat → Int32) (k i : Nat) : Prop := (f (i * 3) = 6 → jIn (f (i * 3 + 1)) (nI k)) ∧ ((f (i * 3) = 7 ∨ f (i * 3) = 9) → jIn (f (i * 3 + 2)) (nI k))
theorem hA_6 {f : Nat → Int32} {k i : Nat} (h : f (i * 3) = 6) : jIn (f (i * 3 + 1)) (nI k) ↔ hA f k i := by
  constructor
  · intro q
    refine ⟨fun _ => q, fun e => ?_⟩
    rw [h] at e
    exact absurd e (by decide)
  · intro q; exact q.1 h
theorem hA_79 {f : Nat → Int32} {k i : Nat} (h6 : ¬ f (i * 3) = 6) (h : f (i * 3) = 7 ∨ f (i * 3) = 9) : jIn (f (i * 3 + 2)) (nI k) ↔ hA f k i := ⟨fun q => ⟨fun e => absurd e h6, fun _ => q⟩, fun q => q.2 h⟩
def lst (f : Nat → Int32) (k : Nat) : Int32 := pGet f k (nI k - 1) 0
abbrev clO (f : Nat → Int32) (k : Nat) : Prop := (lst f k = 0 ∨ lst f k = 6 ∨ lst f k = 8) ∧ ∀ i, i < k → hA f k i
def plN (f tn : Nat → Int32) : Nat → Nat
  | 0 => 0
  | i + 1 => plN f tn i + 1 + (if tn i = 0 then 0 else 1) + (if f (i * 3) = 8 then 1 else 0)
theorem plN_le (f tn : Nat → Int32) (i : Nat) : plN f tn i ≤ 3 * i := by
  induction i with
  | zero => exact Nat.le_refl 0
  | succ i ih =>
    show plN f tn i + 1 + (if tn i = 0 then 0 else 1) + (if f (i * 3) = 8 then 1 else 0) ≤ 3 * (i + 1)
    split <;> split <;> omega
def plP (f tn P : Nat → Int32) (n : Nat) : Nat → Int32 := fun i => if i < n then nI (plN f tn i) else P i
theorem plP_0 (f tn P : Nat → Int32) : P = plP f tn P 0 := by
  funext i; unfold plP; rw [if_neg (by omega)]
theorem plP_s (f tn P : Nat → Int32) (n : Nat) : upd (plP f tn P n) n (nI (plN f tn n)) = plP f tn P (n + 1) := by
  funext i; unfold upd plP
  by_cases h : i = n
  · rw [if_pos h, if_pos (by omega), h]
  · rw [if_neg h]
    by_cases h2 : i < n
    · rw [if_pos h2, if_pos (by omega)]
    · rw [if_neg h2, if_neg (by omega)]
def pPl (P : Nat → Int32) (x : Int32) : Int32 := if jIn x 24 then P x.toNatClampNeg else -1
theorem pPl_no {P : Nat → Int32} {x : Int32} (h : ¬ jIn x 24) : pPl P x = -1 := if_neg h
theorem pPl_n {P : Nat → Int32} {j : Nat} (h : j < 24) : pPl P (nI j) = P j := by
  have hh : jIn (nI j) 24 := ((jIn_n (n := 24) (by decide)).mpr h).1
  unfold pPl
  rw [if_pos hh, nI_clamp (by omega)]
theorem gua_pos {k : Nat} (h : ¬ nI k ≤ 0) : 0 < k := by
  rcases Nat.eq_zero_or_pos k with q | q
  · subst q; exact absurd (by decide) h
  · exact q
abbrev GS : Type := Nat × (Nat → Int32)
def gA1 (tn : Nat → Int32) (i : Nat) (g : GS) : GS := if tn i = 0 then g else (g.1 + 1, pApp g.2 g.1 10 (tn i) 0)
def gA2 (f jn : Nat → Int32) (i : Nat) (g : GS) : GS := if f (i * 3) = 8 then (g.1 + 1, pApp g.2 g.1 11 (f (i * 3 + 1)) (jn i)) else g
def gX (f P : Nat → Int32) (i : Nat) : Int32 := if f (i * 3) = 6 then pPl P (f (i * 3 + 1)) else f (i * 3 + 1)
def gY (f P : Nat → Int32) (i : Nat) : Int32 := if f (i * 3) = 7 ∨ f (i * 3) = 9 then pPl P (f (i * 3 + 2)) else f (i * 3 + 2)
def gA3 (f P : Nat → Int32) (i : Nat) (g : GS) : GS := (g.1 + 1, pApp g.2 g.1 (f (i * 3)) (gX f P i) (gY f P i))
def gA (f tn jn P : Nat → Int32) (i : Nat) (g : GS) : GS := gA3 f P i (gA2 f jn i (gA1 tn i g))
def gN (f tn jn P f2 : Nat → Int32) : Nat → GS
  | 0 => (0, f2)
  | i + 1 => gA f tn jn P i (gN f tn jn P f2 i)
theorem gA_1 (f tn jn P : Nat → Int32) (i : Nat) (g : GS) : (gA f tn jn P i g).1 = g.1 + 1 + (if tn i = 0 then 0 else 1) + (if f (i * 3) = 8 then 1 else 0) := by
  unfold gA gA3 gA2 gA1
  by_cases h1 : tn i = 0
  · by_cases h2 : f (i * 3) = 8
    · simp only [if_pos h1, if_pos h2]; try omega
    · simp only [if_pos h1, if_neg h2]; try omega
  · by_cases h2 : f (i * 3) = 8
    · simp only [if_neg h1, if_pos h2]; try omega
    · simp only [if_neg h1, if_neg h2]; try omega
theorem gN_1 (f tn jn P f2 : Nat → Int32) (i : Nat) : (gN f tn jn P f2 i).1 = plN f tn i := by
  induction i with
  | zero => rfl
  | succ i ih =>
    show (gA f tn jn P i (gN f tn jn P f2 i)).1 = plN f tn i + 1 + (if tn i = 0 then 0 else 1) + (if f (i * 3) = 8 then 1 else 0)
    rw [gA_1, ih]
theorem iw_X3_appendGuarded_X3 : ∀ w ∈ wsX30, w ∈ wsX3_appendGuarded := by decide +kernel
theorem iw_X3_dropGuarded_X3 : ∀ w ∈ wsX30, w ∈ wsX3_dropGuarded := by decide +kernel
theorem iw_X3_hasItsAddress_X3 : ∀ w ∈ wsX30, w ∈ wsX3_hasItsAddress := by decide +kernel
theorem iw_X3_isClosed_X3 : ∀ w ∈ wsX30, w ∈ wsX3_isClosed := by decide +kernel
theorem iw_X3_isGuarded_X3 : ∀ w ∈ wsX30, w ∈ wsX3_isGuarded := by decide +kernel
theorem iw_X3_placeOf_X3 : ∀ w ∈ wsX30, w ∈ wsX3_placeOf := by decide +kernel
theorem iw_X3_setPlaces_X3 : ∀ w ∈ wsX30, w ∈ wsX3_setPlaces := by decide +kernel
theorem hv_X1_stop : yX1_stop.cls = RX1 ∧ yX1_stop.cls ≠ "java/lang/invoke/MethodHandle" ∧ yX1_stop.cls ≠ "java/lang/invoke/VarHandle" ∧ (parseMethodDescriptor yX1_stop.desc).map (fun d => d.parameters.length) = some 0 := by decide +kernel
theorem hv_X2_append : yX2_append.cls = RX2 ∧ yX2_append.cls ≠ "java/lang/invoke/MethodHandle" ∧ yX2_append.cls ≠ "java/lang/invoke/VarHandle" ∧ (parseMethodDescriptor yX2_append.desc).map (fun d => d.parameters.length) = some 3 := by decide +kernel
theorem hv_X2_clear : yX2_clear.cls = RX2 ∧ yX2_clear.cls ≠ "java/lang/invoke/MethodHandle" ∧ yX2_clear.cls ≠ "java/lang/invoke/VarHandle" ∧ (parseMethodDescriptor yX2_clear.desc).map (fun d => d.parameters.length) = some 0 := by decide +kernel
theorem hv_X2_length : yX2_length.cls = RX2 ∧ yX2_length.cls ≠ "java/lang/invoke/MethodHandle" ∧ yX2_length.cls ≠ "java/lang/invoke/VarHandle" ∧ (parseMethodDescriptor yX2_length.desc).map (fun d => d.parameters.length) = some 0 := by decide +kernel
theorem hv_X3_hasItsAddress : yX3_hasItsAddress.cls = RX3 ∧ yX3_hasItsAddress.cls ≠ "java/lang/invoke/MethodHandle" ∧ yX3_hasItsAddress.cls ≠ "java/lang/invoke/VarHandle" ∧ (parseMethodDescriptor yX3_hasItsAddress.desc).map (fun d => d.parameters.length) = some 1 := by decide +kernel
theorem hv_X3_holdsAddressInB : yX3_holdsAddressInB.cls = RX3 ∧ yX3_holdsAddressInB.cls ≠ "java/lang/invoke/MethodHandle" ∧ yX3_holdsAddressInB.cls ≠ "java/lang/invoke/VarHandle" ∧ (parseMethodDescriptor yX3_holdsAddressInB.desc).map (fun d => d.parameters.length) = some 1 := by decide +kernel
theorem hv_X3_placeOf : yX3_placeOf.cls = RX3 ∧ yX3_placeOf.cls ≠ "java/lang/invoke/MethodHandle" ∧ yX3_placeOf.cls ≠ "java/lang/invoke/VarHandle" ∧ (parseMethodDescriptor yX3_placeOf.desc).map (fun d => d.parameters.length) = some 1 := by decide +kernel
set_option maxHeartbeats 4000000 in
set_option maxRecDepth 100000 in
theorem c_X3_isSourceInstruction (l : Launch) (D : va_G) (cA : ClassId) (x : Int32) (y : Int32) (z : Int32) : Met l yX3_isSourceInstruction wsX3_isSourceInstruction ({ frames := 1, cells := 0, slots := 0, locals := 20 }) (roP D cA [.int x, .int y, .int z] []) (QcRead (jB (sI x y z))) 0 0 (fun _ => False) := by
  refine Met.ofW (cc := cX3_isSourceInstruction) (maxL := 3) (ret := (some .boolean)) (by decide) rfl ?_
  intro p e s m args below meth c s₁ B hml hv
  obtain ⟨rfl, hP, hK, hN⟩ := hv
  have hx := B.exec
  have hb := B.bytes
  have hr := B.returns
  have hts := atoms_spec (ws := wsX3_isSourceInstruction) B.pre
  have hown : s.vm.findClass RX3 = some m.cls := findClass_of_methodNamed B.named
  have hlocks := B.notSynchronized
  have hl := lv_entry ([.int x, .int y, .int z]) (n := 3) (Nat.le_of_ble_eq_true rfl)
  rw [lg_entry_eq]
  generalize (lg_sl ([.int x, .int y, .int z]) ++ List.replicate (3 - (lg_sl ([.int x, .int y, .int z])).length) Slot.unset).toArray = ls at hl ⊢
  have hl : lv_has ls 3 [(0, .int x), (1, .int y), (2, .int z)] := hl
  refine lv_iload_n hx hb dX3_isSourceInstruction_0 rfl (lv_at hl 0 rfl) ?_
  rcases jk_sw x 10 (by decide) with ⟨j, hj, c_1⟩ | c_1
  · rcases (show j = 0 ∨ j = 1 ∨ j = 2 ∨ j = 3 ∨ j = 4 ∨ j = 5 ∨ j = 6 ∨ j = 7 ∨ j = 8 ∨ j = 9 by omega) with rfl | rfl | rfl | rfl | rfl | rfl | rfl | rfl | rfl | rfl
    · refine lv_tableIn (off := 55) (tgt := 56) hx hb dX3_isSourceInstruction_1 (by rw [c_1]; decide) (by rw [c_1]; decide) (by rw [c_1]; rfl) (by decide) ?_
      refine lv_iconst (v := 1) hx hb dX3_isSourceInstruction_56 (by decide) ?_
      exact W.zret (ty := .boolean) (v := 1) hx hb hr rfl (fun t9 ht9 hW9 => ⟨jk_ret (show 1 = (jB (sI x y z)) from (jB_t (by rw [c_1]; exact sI_0 y z)).symm), ht9⟩) (fun q h => absurd h List.not_mem_nil) dX3_isSourceInstruction_57
    · refine lv_tableIn (off := 57) (tgt := 58) hx hb dX3_isSourceInstruction_1 (by rw [c_1]; decide) (by rw [c_1]; decide) (by rw [c_1]; rfl) (by decide) ?_
      refine lv_iload_n hx hb dX3_isSourceInstruction_58 rfl (lv_at hl 1 rfl) ?_
      refine jr_i (va_runS (As := [.int y]) (rest := []) ⟨hx, hb, hml, hown, hts⟩ (c_X3_isRegister l D cA y) (va_cwS 1 hts gX3_isSourceInstruction_X3_isRegister rfl rfl rfl hv_X3_isRegister.2 ⟨Nat.le_of_ble_eq_true rfl, Nat.le_of_ble_eq_true rfl⟩) (roP.S (av := [.int y]) (jP_sub (w2 := []) hP [] rfl) hK hN) rfl rfl hl.1 rfl (lv_room (Nat.le_of_ble_eq_true rfl)) dX3_isSourceInstruction_59 ⟨Nat.le_of_ble_eq_true rfl, Nat.le_of_ble_eq_true rfl⟩) ?_
      exact W.zret (ty := .boolean) (v := (jB (jIn y 4))) hx hb hr jB_nar (fun t9 ht9 hW9 => ⟨jk_ret (show (jB (jIn y 4)) = (jB (sI x y z)) from jB_i (sI_158 (Or.inl c_1)).symm), ht9⟩) (fun q h => absurd h List.not_mem_nil) dX3_isSourceInstruction_62
    · refine lv_tableIn (off := 62) (tgt := 63) hx hb dX3_isSourceInstruction_1 (by rw [c_1]; decide) (by rw [c_1]; decide) (by rw [c_1]; rfl) (by decide) ?_
      refine lv_iload_n hx hb dX3_isSourceInstruction_63 rfl (lv_at hl 1 rfl) ?_
      refine jr_i (va_runS (As := [.int y]) (rest := []) ⟨hx, hb, hml, hown, hts⟩ (c_X3_isRegister l D cA y) (va_cwS 1 hts gX3_isSourceInstruction_X3_isRegister rfl rfl rfl hv_X3_isRegister.2 ⟨Nat.le_of_ble_eq_true rfl, Nat.le_of_ble_eq_true rfl⟩) (roP.S (av := [.int y]) (jP_sub (w2 := []) hP [] rfl) hK hN) rfl rfl hl.1 rfl (lv_room (Nat.le_of_ble_eq_true rfl)) dX3_isSourceInstruction_64 ⟨Nat.le_of_ble_eq_true rfl, Nat.le_of_ble_eq_true rfl⟩) ?_
      refine lv_if_eq (tgt := 81) hx hb dX3_isSourceInstruction_67 (by decide) (fun c_67 => ?_) (fun c_67 => ?_)
      · replace c_67 := jB_z.mp c_67
        refine lv_iconst (v := 0) hx hb dX3_isSourceInstruction_81 (by decide) ?_
        exact W.zret (ty := .boolean) (v := 0) hx hb hr rfl (fun t9 ht9 hW9 => ⟨jk_ret (show 0 = (jB (sI x y z)) from (jB_f (fun h => by have h := (sI_23 (Or.inl c_1)).mp h; first | exact absurd h.1 (by assumption) | exact absurd h.2 (by assumption))).symm), ht9⟩) (fun q h => absurd h List.not_mem_nil) dX3_isSourceInstruction_82
      · replace c_67 := jB_nz.mp c_67
        refine lv_iload_n hx hb dX3_isSourceInstruction_70 rfl (lv_at hl 2 rfl) ?_
        refine jr_i (va_runS (As := [.int z]) (rest := []) ⟨hx, hb, hml, hown, hts⟩ (c_X3_isCell l D cA z) (va_cwS 1 hts gX3_isSourceInstruction_X3_isCell rfl rfl rfl hv_X3_isCell.2 ⟨Nat.le_of_ble_eq_true rfl, Nat.le_of_ble_eq_true rfl⟩) (roP.S (av := [.int z]) (jP_sub (w2 := []) hP [] rfl) hK hN) rfl rfl hl.1 rfl (lv_room (Nat.le_of_ble_eq_true rfl)) dX3_isSourceInstruction_71 ⟨Nat.le_of_ble_eq_true rfl, Nat.le_of_ble_eq_true rfl⟩) ?_
        refine lv_if_eq (tgt := 81) hx hb dX3_isSourceInstruction_74 (by decide) (fun c_74 => ?_) (fun c_74 => ?_)
        · replace c_74 := jB_z.mp c_74
          refine lv_iconst (v := 0) hx hb dX3_isSourceInstruction_81 (by decide) ?_
          exact W.zret (ty := .boolean) (v := 0) hx hb hr rfl (fun t9 ht9 hW9 => ⟨jk_ret (show 0 = (jB (sI x y z)) from (jB_f (fun h => by have h := (sI_23 (Or.inl c_1)).mp h; first | exact absurd h.1 (by assumption) | exact absurd h.2 (by assumption))).symm), ht9⟩) (fun q h => absurd h List.not_mem_nil) dX3_isSourceInstruction_82
        · replace c_74 := jB_nz.mp c_74
          refine lv_iconst (v := 1) hx hb dX3_isSourceInstruction_77 (by decide) ?_
          refine lv_goto (tgt := 82) hx hb dX3_isSourceInstruction_78 (by decide) ?_
          exact W.zret (ty := .boolean) (v := 1) hx hb hr rfl (fun t9 ht9 hW9 => ⟨jk_ret (show 1 = (jB (sI x y z)) from (jB_t ((sI_23 (Or.inl c_1)).mpr ⟨by assumption, by assumption⟩)).symm), ht9⟩) (fun q h => absurd h List.not_mem_nil) dX3_isSourceInstruction_82
    · refine lv_tableIn (off := 62) (tgt := 63) hx hb dX3_isSourceInstruction_1 (by rw [c_1]; decide) (by rw [c_1]; decide) (by rw [c_1]; rfl) (by decide) ?_
      refine lv_iload_n hx hb dX3_isSourceInstruction_63 rfl (lv_at hl 1 rfl) ?_
      refine jr_i (va_runS (As := [.int y]) (rest := []) ⟨hx, hb, hml, hown, hts⟩ (c_X3_isRegister l D cA y) (va_cwS 1 hts gX3_isSourceInstruction_X3_isRegister rfl rfl rfl hv_X3_isRegister.2 ⟨Nat.le_of_ble_eq_true rfl, Nat.le_of_ble_eq_true rfl⟩) (roP.S (av := [.int y]) (jP_sub (w2 := []) hP [] rfl) hK hN) rfl rfl hl.1 rfl (lv_room (Nat.le_of_ble_eq_true rfl)) dX3_isSourceInstruction_64 ⟨Nat.le_of_ble_eq_true rfl, Nat.le_of_ble_eq_true rfl⟩) ?_
      refine lv_if_eq (tgt := 81) hx hb dX3_isSourceInstruction_67 (by decide) (fun c_67 => ?_) (fun c_67 => ?_)
      · replace c_67 := jB_z.mp c_67
        refine lv_iconst (v := 0) hx hb dX3_isSourceInstruction_81 (by decide) ?_
        exact W.zret (ty := .boolean) (v := 0) hx hb hr rfl (fun t9 ht9 hW9 => ⟨jk_ret (show 0 = (jB (sI x y z)) from (jB_f (fun h => by have h := (sI_23 (Or.inr c_1)).mp h; first | exact absurd h.1 (by assumption) | exact absurd h.2 (by assumption))).symm), ht9⟩) (fun q h => absurd h List.not_mem_nil) dX3_isSourceInstruction_82
      · replace c_67 := jB_nz.mp c_67
        refine lv_iload_n hx hb dX3_isSourceInstruction_70 rfl (lv_at hl 2 rfl) ?_
        refine jr_i (va_runS (As := [.int z]) (rest := []) ⟨hx, hb, hml, hown, hts⟩ (c_X3_isCell l D cA z) (va_cwS 1 hts gX3_isSourceInstruction_X3_isCell rfl rfl rfl hv_X3_isCell.2 ⟨Nat.le_of_ble_eq_true rfl, Nat.le_of_ble_eq_true rfl⟩) (roP.S (av := [.int z]) (jP_sub (w2 := []) hP [] rfl) hK hN) rfl rfl hl.1 rfl (lv_room (Nat.le_of_ble_eq_true rfl)) dX3_isSourceInstruction_71 ⟨Nat.le_of_ble_eq_true rfl, Nat.le_of_ble_eq_true rfl⟩) ?_
        refine lv_if_eq (tgt := 81) hx hb dX3_isSourceInstruction_74 (by decide) (fun c_74 => ?_) (fun c_74 => ?_)
        · replace c_74 := jB_z.mp c_74
          refine lv_iconst (v := 0) hx hb dX3_isSourceInstruction_81 (by decide) ?_
          exact W.zret (ty := .boolean) (v := 0) hx hb hr rfl (fun t9 ht9 hW9 => ⟨jk_ret (show 0 = (jB (sI x y z)) from (jB_f (fun h => by have h := (sI_23 (Or.inr c_1)).mp h; first | exact absurd h.1 (by assumption) | exact absurd h.2 (by assumption))).symm), ht9⟩) (fun q h => absurd h List.not_mem_nil) dX3_isSourceInstruction_82
        · replace c_74 := jB_nz.mp c_74
          refine lv_iconst (v := 1) hx hb dX3_isSourceInstruction_77 (by decide) ?_
          refine lv_goto (tgt := 82) hx hb dX3_isSourceInstruction_78 (by decide) ?_
          exact W.zret (ty := .boolean) (v := 1) hx hb hr rfl (fun t9 ht9 hW9 => ⟨jk_ret (show 1 = (jB (sI x y z)) from (jB_t ((sI_23 (Or.inr c_1)).mpr ⟨by assumption, by assumption⟩)).symm), ht9⟩) (fun q h => absurd h List.not_mem_nil) dX3_isSourceInstruction_82
    · refine lv_tableIn (off := 82) (tgt := 83) hx hb dX3_isSourceInstruction_1 (by rw [c_1]; decide) (by rw [c_1]; decide) (by rw [c_1]; rfl) (by decide) ?_
      refine lv_iload_n hx hb dX3_isSourceInstruction_83 rfl (lv_at hl 1 rfl) ?_
      refine jr_i (va_runS (As := [.int y]) (rest := []) ⟨hx, hb, hml, hown, hts⟩ (c_X3_isRegister l D cA y) (va_cwS 1 hts gX3_isSourceInstruction_X3_isRegister rfl rfl rfl hv_X3_isRegister.2 ⟨Nat.le_of_ble_eq_true rfl, Nat.le_of_ble_eq_true rfl⟩) (roP.S (av := [.int y]) (jP_sub (w2 := []) hP [] rfl) hK hN) rfl rfl hl.1 rfl (lv_room (Nat.le_of_ble_eq_true rfl)) dX3_isSourceInstruction_84 ⟨Nat.le_of_ble_eq_true rfl, Nat.le_of_ble_eq_true rfl⟩) ?_
      refine lv_if_eq (tgt := 101) hx hb dX3_isSourceInstruction_87 (by decide) (fun c_87 => ?_) (fun c_87 => ?_)
      · replace c_87 := jB_z.mp c_87
        refine lv_iconst (v := 0) hx hb dX3_isSourceInstruction_101 (by decide) ?_
        exact W.zret (ty := .boolean) (v := 0) hx hb hr rfl (fun t9 ht9 hW9 => ⟨jk_ret (show 0 = (jB (sI x y z)) from (jB_f (fun h => by have h := (sI_4 c_1).mp h; first | exact absurd h.1 (by assumption) | exact absurd h.2 (by assumption))).symm), ht9⟩) (fun q h => absurd h List.not_mem_nil) dX3_isSourceInstruction_102
      · replace c_87 := jB_nz.mp c_87
        refine lv_iload_n hx hb dX3_isSourceInstruction_90 rfl (lv_at hl 2 rfl) ?_
        refine jr_i (va_runS (As := [.int z]) (rest := []) ⟨hx, hb, hml, hown, hts⟩ (c_X3_isRegister l D cA z) (va_cwS 1 hts gX3_isSourceInstruction_X3_isRegister rfl rfl rfl hv_X3_isRegister.2 ⟨Nat.le_of_ble_eq_true rfl, Nat.le_of_ble_eq_true rfl⟩) (roP.S (av := [.int z]) (jP_sub (w2 := []) hP [] rfl) hK hN) rfl rfl hl.1 rfl (lv_room (Nat.le_of_ble_eq_true rfl)) dX3_isSourceInstruction_91 ⟨Nat.le_of_ble_eq_true rfl, Nat.le_of_ble_eq_true rfl⟩) ?_
        refine lv_if_eq (tgt := 101) hx hb dX3_isSourceInstruction_94 (by decide) (fun c_94 => ?_) (fun c_94 => ?_)
        · replace c_94 := jB_z.mp c_94
          refine lv_iconst (v := 0) hx hb dX3_isSourceInstruction_101 (by decide) ?_
          exact W.zret (ty := .boolean) (v := 0) hx hb hr rfl (fun t9 ht9 hW9 => ⟨jk_ret (show 0 = (jB (sI x y z)) from (jB_f (fun h => by have h := (sI_4 c_1).mp h; first | exact absurd h.1 (by assumption) | exact absurd h.2 (by assumption))).symm), ht9⟩) (fun q h => absurd h List.not_mem_nil) dX3_isSourceInstruction_102
        · replace c_94 := jB_nz.mp c_94
          refine lv_iconst (v := 1) hx hb dX3_isSourceInstruction_97 (by decide) ?_
          refine lv_goto (tgt := 102) hx hb dX3_isSourceInstruction_98 (by decide) ?_
          exact W.zret (ty := .boolean) (v := 1) hx hb hr rfl (fun t9 ht9 hW9 => ⟨jk_ret (show 1 = (jB (sI x y z)) from (jB_t ((sI_4 c_1).mpr ⟨by assumption, by assumption⟩)).symm), ht9⟩) (fun q h => absurd h List.not_mem_nil) dX3_isSourceInstruction_102
    · refine lv_tableIn (off := 57) (tgt := 58) hx hb dX3_isSourceInstruction_1 (by rw [c_1]; decide) (by rw [c_1]; decide) (by rw [c_1]; rfl) (by decide) ?_
      refine lv_iload_n hx hb dX3_isSourceInstruction_58 rfl (lv_at hl 1 rfl) ?_
      refine jr_i (va_runS (As := [.int y]) (rest := []) ⟨hx, hb, hml, hown, hts⟩ (c_X3_isRegister l D cA y) (va_cwS 1 hts gX3_isSourceInstruction_X3_isRegister rfl rfl rfl hv_X3_isRegister.2 ⟨Nat.le_of_ble_eq_true rfl, Nat.le_of_ble_eq_true rfl⟩) (roP.S (av := [.int y]) (jP_sub (w2 := []) hP [] rfl) hK hN) rfl rfl hl.1 rfl (lv_room (Nat.le_of_ble_eq_true rfl)) dX3_isSourceInstruction_59 ⟨Nat.le_of_ble_eq_true rfl, Nat.le_of_ble_eq_true rfl⟩) ?_
      exact W.zret (ty := .boolean) (v := (jB (jIn y 4))) hx hb hr jB_nar (fun t9 ht9 hW9 => ⟨jk_ret (show (jB (jIn y 4)) = (jB (sI x y z)) from jB_i (sI_158 (Or.inr (Or.inl c_1))).symm), ht9⟩) (fun q h => absurd h List.not_mem_nil) dX3_isSourceInstruction_62
    · refine lv_tableIn (off := 102) (tgt := 103) hx hb dX3_isSourceInstruction_1 (by rw [c_1]; decide) (by rw [c_1]; decide) (by rw [c_1]; rfl) (by decide) ?_
      refine lv_iload_n hx hb dX3_isSourceInstruction_103 rfl (lv_at hl 1 rfl) ?_
      refine jr_i (va_runS (As := [.int y]) (rest := []) ⟨hx, hb, hml, hown, hts⟩ (c_X3_isAddress l D cA y) (va_cwS 1 hts gX3_isSourceInstruction_X3_isAddress rfl rfl rfl hv_X3_isAddress.2 ⟨Nat.le_of_ble_eq_true rfl, Nat.le_of_ble_eq_true rfl⟩) (roP.S (av := [.int y]) (jP_sub (w2 := []) hP [] rfl) hK hN) rfl rfl hl.1 rfl (lv_room (Nat.le_of_ble_eq_true rfl)) dX3_isSourceInstruction_104 ⟨Nat.le_of_ble_eq_true rfl, Nat.le_of_ble_eq_true rfl⟩) ?_
      exact W.zret (ty := .boolean) (v := (jB (jIn y 24))) hx hb hr jB_nar (fun t9 ht9 hW9 => ⟨jk_ret (show (jB (jIn y 24)) = (jB (sI x y z)) from jB_i (sI_6 c_1).symm), ht9⟩) (fun q h => absurd h List.not_mem_nil) dX3_isSourceInstruction_107
    · refine lv_tableIn (off := 107) (tgt := 108) hx hb dX3_isSourceInstruction_1 (by rw [c_1]; decide) (by rw [c_1]; decide) (by rw [c_1]; rfl) (by decide) ?_
      refine lv_iload_n hx hb dX3_isSourceInstruction_108 rfl (lv_at hl 1 rfl) ?_
      refine jr_i (va_runS (As := [.int y]) (rest := []) ⟨hx, hb, hml, hown, hts⟩ (c_X3_isRegister l D cA y) (va_cwS 1 hts gX3_isSourceInstruction_X3_isRegister rfl rfl rfl hv_X3_isRegister.2 ⟨Nat.le_of_ble_eq_true rfl, Nat.le_of_ble_eq_true rfl⟩) (roP.S (av := [.int y]) (jP_sub (w2 := []) hP [] rfl) hK hN) rfl rfl hl.1 rfl (lv_room (Nat.le_of_ble_eq_true rfl)) dX3_isSourceInstruction_109 ⟨Nat.le_of_ble_eq_true rfl, Nat.le_of_ble_eq_true rfl⟩) ?_
      refine lv_if_eq (tgt := 126) hx hb dX3_isSourceInstruction_112 (by decide) (fun c_112 => ?_) (fun c_112 => ?_)
      · replace c_112 := jB_z.mp c_112
        refine lv_iconst (v := 0) hx hb dX3_isSourceInstruction_126 (by decide) ?_
        exact W.zret (ty := .boolean) (v := 0) hx hb hr rfl (fun t9 ht9 hW9 => ⟨jk_ret (show 0 = (jB (sI x y z)) from (jB_f (fun h => by have h := (sI_79 (Or.inl c_1)).mp h; first | exact absurd h.1 (by assumption) | exact absurd h.2 (by assumption))).symm), ht9⟩) (fun q h => absurd h List.not_mem_nil) dX3_isSourceInstruction_127
      · replace c_112 := jB_nz.mp c_112
        refine lv_iload_n hx hb dX3_isSourceInstruction_115 rfl (lv_at hl 2 rfl) ?_
        refine jr_i (va_runS (As := [.int z]) (rest := []) ⟨hx, hb, hml, hown, hts⟩ (c_X3_isAddress l D cA z) (va_cwS 1 hts gX3_isSourceInstruction_X3_isAddress rfl rfl rfl hv_X3_isAddress.2 ⟨Nat.le_of_ble_eq_true rfl, Nat.le_of_ble_eq_true rfl⟩) (roP.S (av := [.int z]) (jP_sub (w2 := []) hP [] rfl) hK hN) rfl rfl hl.1 rfl (lv_room (Nat.le_of_ble_eq_true rfl)) dX3_isSourceInstruction_116 ⟨Nat.le_of_ble_eq_true rfl, Nat.le_of_ble_eq_true rfl⟩) ?_
        refine lv_if_eq (tgt := 126) hx hb dX3_isSourceInstruction_119 (by decide) (fun c_119 => ?_) (fun c_119 => ?_)
        · replace c_119 := jB_z.mp c_119
          refine lv_iconst (v := 0) hx hb dX3_isSourceInstruction_126 (by decide) ?_
          exact W.zret (ty := .boolean) (v := 0) hx hb hr rfl (fun t9 ht9 hW9 => ⟨jk_ret (show 0 = (jB (sI x y z)) from (jB_f (fun h => by have h := (sI_79 (Or.inl c_1)).mp h; first | exact absurd h.1 (by assumption) | exact absurd h.2 (by assumption))).symm), ht9⟩) (fun q h => absurd h List.not_mem_nil) dX3_isSourceInstruction_127
        · replace c_119 := jB_nz.mp c_119
          refine lv_iconst (v := 1) hx hb dX3_isSourceInstruction_122 (by decide) ?_
          refine lv_goto (tgt := 127) hx hb dX3_isSourceInstruction_123 (by decide) ?_
          exact W.zret (ty := .boolean) (v := 1) hx hb hr rfl (fun t9 ht9 hW9 => ⟨jk_ret (show 1 = (jB (sI x y z)) from (jB_t ((sI_79 (Or.inl c_1)).mpr ⟨by assumption, by assumption⟩)).symm), ht9⟩) (fun q h => absurd h List.not_mem_nil) dX3_isSourceInstruction_127
    · refine lv_tableIn (off := 57) (tgt := 58) hx hb dX3_isSourceInstruction_1 (by rw [c_1]; decide) (by rw [c_1]; decide) (by rw [c_1]; rfl) (by decide) ?_
      refine lv_iload_n hx hb dX3_isSourceInstruction_58 rfl (lv_at hl 1 rfl) ?_
      refine jr_i (va_runS (As := [.int y]) (rest := []) ⟨hx, hb, hml, hown, hts⟩ (c_X3_isRegister l D cA y) (va_cwS 1 hts gX3_isSourceInstruction_X3_isRegister rfl rfl rfl hv_X3_isRegister.2 ⟨Nat.le_of_ble_eq_true rfl, Nat.le_of_ble_eq_true rfl⟩) (roP.S (av := [.int y]) (jP_sub (w2 := []) hP [] rfl) hK hN) rfl rfl hl.1 rfl (lv_room (Nat.le_of_ble_eq_true rfl)) dX3_isSourceInstruction_59 ⟨Nat.le_of_ble_eq_true rfl, Nat.le_of_ble_eq_true rfl⟩) ?_
      exact W.zret (ty := .boolean) (v := (jB (jIn y 4))) hx hb hr jB_nar (fun t9 ht9 hW9 => ⟨jk_ret (show (jB (jIn y 4)) = (jB (sI x y z)) from jB_i (sI_158 (Or.inr (Or.inr c_1))).symm), ht9⟩) (fun q h => absurd h List.not_mem_nil) dX3_isSourceInstruction_62
    · refine lv_tableIn (off := 107) (tgt := 108) hx hb dX3_isSourceInstruction_1 (by rw [c_1]; decide) (by rw [c_1]; decide) (by rw [c_1]; rfl) (by decide) ?_
      refine lv_iload_n hx hb dX3_isSourceInstruction_108 rfl (lv_at hl 1 rfl) ?_
      refine jr_i (va_runS (As := [.int y]) (rest := []) ⟨hx, hb, hml, hown, hts⟩ (c_X3_isRegister l D cA y) (va_cwS 1 hts gX3_isSourceInstruction_X3_isRegister rfl rfl rfl hv_X3_isRegister.2 ⟨Nat.le_of_ble_eq_true rfl, Nat.le_of_ble_eq_true rfl⟩) (roP.S (av := [.int y]) (jP_sub (w2 := []) hP [] rfl) hK hN) rfl rfl hl.1 rfl (lv_room (Nat.le_of_ble_eq_true rfl)) dX3_isSourceInstruction_109 ⟨Nat.le_of_ble_eq_true rfl, Nat.le_of_ble_eq_true rfl⟩) ?_
      refine lv_if_eq (tgt := 126) hx hb dX3_isSourceInstruction_112 (by decide) (fun c_112 => ?_) (fun c_112 => ?_)
      · replace c_112 := jB_z.mp c_112
        refine lv_iconst (v := 0) hx hb dX3_isSourceInstruction_126 (by decide) ?_
        exact W.zret (ty := .boolean) (v := 0) hx hb hr rfl (fun t9 ht9 hW9 => ⟨jk_ret (show 0 = (jB (sI x y z)) from (jB_f (fun h => by have h := (sI_79 (Or.inr c_1)).mp h; first | exact absurd h.1 (by assumption) | exact absurd h.2 (by assumption))).symm), ht9⟩) (fun q h => absurd h List.not_mem_nil) dX3_isSourceInstruction_127
      · replace c_112 := jB_nz.mp c_112
        refine lv_iload_n hx hb dX3_isSourceInstruction_115 rfl (lv_at hl 2 rfl) ?_
        refine jr_i (va_runS (As := [.int z]) (rest := []) ⟨hx, hb, hml, hown, hts⟩ (c_X3_isAddress l D cA z) (va_cwS 1 hts gX3_isSourceInstruction_X3_isAddress rfl rfl rfl hv_X3_isAddress.2 ⟨Nat.le_of_ble_eq_true rfl, Nat.le_of_ble_eq_true rfl⟩) (roP.S (av := [.int z]) (jP_sub (w2 := []) hP [] rfl) hK hN) rfl rfl hl.1 rfl (lv_room (Nat.le_of_ble_eq_true rfl)) dX3_isSourceInstruction_116 ⟨Nat.le_of_ble_eq_true rfl, Nat.le_of_ble_eq_true rfl⟩) ?_
        refine lv_if_eq (tgt := 126) hx hb dX3_isSourceInstruction_119 (by decide) (fun c_119 => ?_) (fun c_119 => ?_)
        · replace c_119 := jB_z.mp c_119
          refine lv_iconst (v := 0) hx hb dX3_isSourceInstruction_126 (by decide) ?_
          exact W.zret (ty := .boolean) (v := 0) hx hb hr rfl (fun t9 ht9 hW9 => ⟨jk_ret (show 0 = (jB (sI x y z)) from (jB_f (fun h => by have h := (sI_79 (Or.inr c_1)).mp h; first | exact absurd h.1 (by assumption) | exact absurd h.2 (by assumption))).symm), ht9⟩) (fun q h => absurd h List.not_mem_nil) dX3_isSourceInstruction_127
        · replace c_119 := jB_nz.mp c_119
          refine lv_iconst (v := 1) hx hb dX3_isSourceInstruction_122 (by decide) ?_
          refine lv_goto (tgt := 127) hx hb dX3_isSourceInstruction_123 (by decide) ?_
          exact W.zret (ty := .boolean) (v := 1) hx hb hr rfl (fun t9 ht9 hW9 => ⟨jk_ret (show 1 = (jB (sI x y z)) from (jB_t ((sI_79 (Or.inr c_1)).mpr ⟨by assumption, by assumption⟩)).symm), ht9⟩) (fun q h => absurd h List.not_mem_nil) dX3_isSourceInstruction_127
  · refine lv_tableOut (tgt := 128) hx hb dX3_isSourceInstruction_1 c_1 (by decide) ?_
    refine lv_iconst (v := 0) hx hb dX3_isSourceInstruction_128 (by decide) ?_
    exact W.zret (ty := .boolean) (v := 0) hx hb hr rfl (fun t9 ht9 hW9 => ⟨jk_ret (show 0 = (jB (sI x y z)) from (jB_f (sI_out c_1)).symm), ht9⟩) (fun q h => absurd h List.not_mem_nil) dX3_isSourceInstruction_129
set_option maxHeartbeats 4000000 in
set_option maxRecDepth 100000 in
theorem c_X3_isGuarded (l : Launch) (D : va_G) (cA : ClassId) (h0 : Nat) (p1 : Nat) (p2 : Nat) (e0 : Nat) (l0 : Nat) (m0 : Nat) (b2 : Nat) (k2 : Nat) (hk2 : k2 ≤ 72) : Met l yX3_isGuarded wsX3_isGuarded ({ frames := 1, cells := 0, slots := 0, locals := 20 }) (roP D cA [.ref h0] [(h0, .inr (3, [.ref p1, .ref p2, .ref e0, .ref l0, .ref m0])), (p2, .inr (2, [.ref b2, .int (nI 72), .int (nI k2)]))]) (QcRead (jB (0 < k2))) 0 0 (fun _ => False) := by
  refine Met.ofW (cc := cX3_isGuarded) (maxL := 1) (ret := (some .boolean)) (by decide) rfl ?_
  intro p e s m args below meth c s₁ B hml hv
  obtain ⟨rfl, hP, hK, hN⟩ := hv
  have hx := B.exec
  have hb := B.bytes
  have hr := B.returns
  have hts := atoms_spec (ws := wsX3_isGuarded) B.pre
  have hown : s.vm.findClass RX3 = some m.cls := findClass_of_methodNamed B.named
  have hlocks := B.notSynchronized
  have hl := lv_entry ([.ref h0]) (n := 1) (Nat.le_of_ble_eq_true rfl)
  rw [lg_entry_eq]
  generalize (lg_sl ([.ref h0]) ++ List.replicate (1 - (lg_sl ([.ref h0])).length) Slot.unset).toArray = ls at hl ⊢
  have hl : lv_has ls 1 [(0, .ref h0)] := hl
  refine lv_aload_n hx hb dX3_isGuarded_0 rfl (lv_at hl 0 rfl) ?_
  refine va_get (D := D) (ci := 3) (v := .ref p2) (C := RX3) (T := TX3) (N := 5) hx hb hts iw_X3_isGuarded_X3 hown hK hP 0 rfl rfl 1 (by decide) (hts (.fieldLink RX3 18 "JumpGuard" "guardedProgram" "LJumpGuard$Program;") (List.mem_of_getElem? (l := wsX3_isGuarded) (i := 1) rfl)) (fun _ h9 => h9) rfl dX3_isGuarded_1 ?_
  refine jr_i (va_runV (As := []) (rest := []) ⟨hx, hb, hml, hown, hts⟩ (c_X2_length l D cA p2 b2 72 k2) (cwV 0 hts gX3_isGuarded_X2_length rfl rfl rfl hv_X2_length ⟨Nat.le_of_ble_eq_true rfl, Nat.le_of_ble_eq_true rfl⟩) (roP.V (va_recv hK hP (ci := 2) (q0 := 1) rfl rfl) (jP_sub (w2 := [(p2, .inr (2, [.ref b2, .int (nI 72), .int (nI k2)]))]) hP [1] rfl) hK hN) rfl rfl hl.1 rfl (lv_room (Nat.le_of_ble_eq_true rfl)) dX3_isGuarded_4 ⟨Nat.le_of_ble_eq_true rfl, Nat.le_of_ble_eq_true rfl⟩) ?_
  refine lv_if_le (tgt := 14) hx hb dX3_isGuarded_7 (by decide) (fun c_7 => ?_) (fun c_7 => ?_)
  · refine lv_iconst (v := 0) hx hb dX3_isGuarded_14 (by decide) ?_
    exact W.zret (ty := .boolean) (v := 0) hx hb hr rfl (fun t9 ht9 hW9 => ⟨jk_ret (show 0 = (jB (0 < k2)) from (jB_f (fun h => absurd c_7 (nI_nle h (by omega)))).symm), ht9⟩) (fun q h => absurd h List.not_mem_nil) dX3_isGuarded_15
  · refine lv_iconst (v := 1) hx hb dX3_isGuarded_10 (by decide) ?_
    refine lv_goto (tgt := 15) hx hb dX3_isGuarded_11 (by decide) ?_
    exact W.zret (ty := .boolean) (v := 1) hx hb hr rfl (fun t9 ht9 hW9 => ⟨jk_ret (show 1 = (jB (0 < k2)) from (jB_t (gua_pos c_7)).symm), ht9⟩) (fun q h => absurd h List.not_mem_nil) dX3_isGuarded_15
set_option maxHeartbeats 4000000 in
set_option maxRecDepth 100000 in
theorem c_X3_dropGuarded (l : Launch) (D : va_G) (cA : ClassId) (sz : Nat) (h0 : Nat) (p1 : Nat) (p2 : Nat) (e0 : Nat) (l0 : Nat) (m0 : Nat) (b2 : Nat) (k2 : Nat) (r0 : Nat) (c0 : Nat) (s0 : Nat) (p0 : Nat) (pc : Int32) (st : Int32) (w : Nat) : Met l yX3_dropGuarded wsX3_dropGuarded ({ frames := 1, cells := 0, slots := 0, locals := 20 }) (rwP D cA [.ref h0] sz [(h0, .inr (3, [.ref p1, .ref p2, .ref e0, .ref l0, .ref m0])), (p2, .inr (2, [.ref b2, .int (nI 72), .int (nI k2)])), (m0, .inr (1, [.ref r0, .ref c0, .ref s0, .ref p0, .int pc, .int st, .int (nI w)]))]) (rwV D (va_A [(h0, .inr (3, [.ref p1, .ref p2, .ref e0, .ref l0, .ref m0])), (p2, .inr (2, [.ref b2, .int (nI 72), .int (nI k2)])), (m0, .inr (1, [.ref r0, .ref c0, .ref s0, .ref p0, .int pc, .int st, .int (nI w)]))] sz) [(h0, .inr (3, [.ref p1, .ref p2, .ref e0, .ref l0, .ref m0])), (p2, .inr (2, [.ref b2, .int (nI 72), .int (nI 0)])), (m0, .inr (1, [.ref r0, .ref c0, .ref s0, .ref p0, .int pc, .int (-1), .int (nI w)]))]) 0 0 (va_A [(h0, .inr (3, [.ref p1, .ref p2, .ref e0, .ref l0, .ref m0])), (p2, .inr (2, [.ref b2, .int (nI 72), .int (nI k2)])), (m0, .inr (1, [.ref r0, .ref c0, .ref s0, .ref p0, .int pc, .int st, .int (nI w)]))] sz) := by
  refine Met.ofW (cc := cX3_dropGuarded) (maxL := 1) (ret := none) (by decide) rfl ?_
  intro p e s m args below meth c s₁ B hml hv
  obtain ⟨rfl, hsz, hP, hK, hN, hD0⟩ := hv
  have hx := B.exec
  have hb := B.bytes
  have hr := B.returns
  have hts := atoms_spec (ws := wsX3_dropGuarded) B.pre
  have hown : s.vm.findClass RX3 = some m.cls := findClass_of_methodNamed B.named
  have hlocks := B.notSynchronized
  subst hsz
  have hD := hD0.self (sz := s.heap.size)
  generalize hAe : va_A [(h0, .inr (3, [.ref p1, .ref p2, .ref e0, .ref l0, .ref m0])), (p2, .inr (2, [.ref b2, .int (nI 72), .int (nI k2)])), (m0, .inr (1, [.ref r0, .ref c0, .ref s0, .ref p0, .int pc, .int st, .int (nI w)]))] s.heap.size = A at hD ⊢
  have hA : ∀ q : Nat, s.heap.size ≤ q → A q := fun q h => by rw [← hAe]; exact Or.inr h
  have hS : va_S A s.heap s.heap [] := va_S.rf
  have hl := lv_entry ([.ref h0]) (n := 1) (Nat.le_of_ble_eq_true rfl)
  rw [lg_entry_eq]
  generalize (lg_sl ([.ref h0]) ++ List.replicate (1 - (lg_sl ([.ref h0])).length) Slot.unset).toArray = ls at hl ⊢
  have hl : lv_has ls 1 [(0, .ref h0)] := hl
  refine lv_aload_n hx hb dX3_dropGuarded_0 rfl (lv_at hl 0 rfl) ?_
  refine va_get (D := D) (ci := 3) (v := .ref p2) (C := RX3) (T := TX3) (N := 5) hx hb hts iw_X3_dropGuarded_X3 hown hK hP 0 rfl rfl 1 (by decide) (hts (.fieldLink RX3 18 "JumpGuard" "guardedProgram" "LJumpGuard$Program;") (List.mem_of_getElem? (l := wsX3_dropGuarded) (i := 1) rfl)) (fun _ h9 => h9) rfl dX3_dropGuarded_1 ?_
  refine jw_v (va_runV (As := []) (rest := []) ⟨hx, hb, hml, hown, hts⟩ (c_X2_clear l D cA s.heap.size p2 b2 72 k2) (cwV 0 hts gX3_dropGuarded_X2_clear rfl rfl rfl hv_X2_clear ⟨Nat.le_of_ble_eq_true rfl, Nat.le_of_ble_eq_true rfl⟩) (rwP.V (wc := [(p2, .inr (2, [.ref b2, .int (nI 72), .int (nI k2)]))]) (va_recv hK hP (ci := 2) (q0 := 1) rfl rfl) hP hD hK hN [1] (by decide) rfl) rfl rfl hl.1 rfl (lv_room (Nat.le_of_ble_eq_true rfl)) dX3_dropGuarded_4 ⟨Nat.le_of_ble_eq_true rfl, Nat.le_of_ble_eq_true rfl⟩) hP hD hS hA [1] [0, 2] [0, 2, 1] (wr := [(h0, .inr (3, [.ref p1, .ref p2, .ref e0, .ref l0, .ref m0])), (m0, .inr (1, [.ref r0, .ref c0, .ref s0, .ref p0, .int pc, .int st, .int (nI w)]))]) (w2 := [(h0, .inr (3, [.ref p1, .ref p2, .ref e0, .ref l0, .ref m0])), (p2, .inr (2, [.ref b2, .int (nI 72), .int (nI 0)])), (m0, .inr (1, [.ref r0, .ref c0, .ref s0, .ref p0, .int pc, .int st, .int (nI w)]))]) rfl rfl (by decide) (by decide) (by decide) rfl (fun H locs hP hD hS => ?_)
  refine lv_aload_n hx hb dX3_dropGuarded_7 rfl (lv_at hl 0 rfl) ?_
  refine va_get (D := D) (ci := 3) (v := .ref m0) (C := RX3) (T := TX3) (N := 5) hx hb hts iw_X3_dropGuarded_X3 hown hK hP 0 rfl rfl 4 (by decide) (hts (.fieldLink RX3 35 "JumpGuard" "machine" "LJumpGuard$Machine;") (List.mem_of_getElem? (l := wsX3_dropGuarded) (i := 2) rfl)) (fun _ h9 => h9) rfl dX3_dropGuarded_8 ?_
  refine jw_v (va_runV (As := []) (rest := []) ⟨hx, hb, hml, hown, hts⟩ (c_X1_stop l D cA H.size m0 r0 c0 s0 p0 pc st w) (cwV 0 hts gX3_dropGuarded_X1_stop rfl rfl rfl hv_X1_stop ⟨Nat.le_of_ble_eq_true rfl, Nat.le_of_ble_eq_true rfl⟩) (rwP.V (wc := [(m0, .inr (1, [.ref r0, .ref c0, .ref s0, .ref p0, .int pc, .int st, .int (nI w)]))]) (va_recv hK hP (ci := 1) (q0 := 2) rfl rfl) hP hD hK hN [2] (by decide) rfl) rfl rfl hl.1 rfl (lv_room (Nat.le_of_ble_eq_true rfl)) dX3_dropGuarded_11 ⟨Nat.le_of_ble_eq_true rfl, Nat.le_of_ble_eq_true rfl⟩) hP hD hS hA [2] [0, 1] [0, 1, 2] (wr := [(h0, .inr (3, [.ref p1, .ref p2, .ref e0, .ref l0, .ref m0])), (p2, .inr (2, [.ref b2, .int (nI 72), .int (nI 0)]))]) (w2 := [(h0, .inr (3, [.ref p1, .ref p2, .ref e0, .ref l0, .ref m0])), (p2, .inr (2, [.ref b2, .int (nI 72), .int (nI 0)])), (m0, .inr (1, [.ref r0, .ref c0, .ref s0, .ref p0, .int pc, .int (-1), .int (nI w)]))]) rfl rfl (by decide) (by decide) (by decide) rfl (fun H locs hP hD hS => ?_)
  obtain ⟨hP9, hD9⟩ := jk_end (w2 := [(h0, .inr (3, [.ref p1, .ref p2, .ref e0, .ref l0, .ref m0])), (p2, .inr (2, [.ref b2, .int (nI 72), .int (nI 0)])), (m0, .inr (1, [.ref r0, .ref c0, .ref s0, .ref p0, .int pc, .int (-1), .int (nI w)]))]) hP hD [0, 1, 2] (by decide) rfl
  exact W.vret hx hb hr (fun t9 ht9 hW9 => ⟨⟨(), rfl, trivial, by rw [ht9]; exact hP9, hD9⟩, hS.F ht9⟩) hS.2.2 dX3_dropGuarded_14
set_option maxHeartbeats 4000000 in
set_option maxRecDepth 100000 in
theorem c_X3_hasItsAddress (l : Launch) (D : va_G) (cA : ClassId) (h0 : Nat) (p1 : Nat) (p2 : Nat) (e0 : Nat) (l0 : Nat) (m0 : Nat) (b1 : Nat) (k1 : Nat) (f1 : Nat → Int32) (i : Nat) (hk1 : k1 ≤ 24) (hi : i < k1) : Met l yX3_hasItsAddress wsX3_hasItsAddress ({ frames := 2, cells := 0, slots := 0, locals := 43 }) (roP D cA [.ref h0, .int (nI i)] [(h0, .inr (3, [.ref p1, .ref p2, .ref e0, .ref l0, .ref m0])), (p1, .inr (2, [.ref b1, .int (nI 24), .int (nI k1)])), (b1, .inl (cA, 72, .inl f1))]) (QcRead (jB (hA f1 k1 i))) 0 0 (fun _ => False) := by
  refine Met.ofW (cc := cX3_hasItsAddress) (maxL := 3) (ret := (some .boolean)) (by decide) rfl ?_
  intro p e s m args below meth c s₁ B hml hv
  obtain ⟨rfl, hP, hK, hN⟩ := hv
  have hx := B.exec
  have hb := B.bytes
  have hr := B.returns
  have hts := atoms_spec (ws := wsX3_hasItsAddress) B.pre
  have hown : s.vm.findClass RX3 = some m.cls := findClass_of_methodNamed B.named
  have hlocks := B.notSynchronized
  have hl := lv_entry ([.ref h0, .int (nI i)]) (n := 3) (Nat.le_of_ble_eq_true rfl)
  rw [lg_entry_eq]
  generalize (lg_sl ([.ref h0, .int (nI i)]) ++ List.replicate (3 - (lg_sl ([.ref h0, .int (nI i)])).length) Slot.unset).toArray = ls at hl ⊢
  have hl : lv_has ls 3 [(0, .ref h0), (1, .int (nI i))] := hl
  refine lv_aload_n hx hb dX3_hasItsAddress_0 rfl (lv_at hl 0 rfl) ?_
  refine va_get (D := D) (ci := 3) (v := .ref p1) (C := RX3) (T := TX3) (N := 5) hx hb hts iw_X3_hasItsAddress_X3 hown hK hP 0 rfl rfl 0 (by decide) (hts (.fieldLink RX3 14 "JumpGuard" "sourceProgram" "LJumpGuard$Program;") (List.mem_of_getElem? (l := wsX3_hasItsAddress) (i := 1) rfl)) (fun _ h9 => h9) rfl dX3_hasItsAddress_1 ?_
  refine lv_iload_n hx hb dX3_hasItsAddress_4 rfl (lv_at hl 1 rfl) ?_
  refine lv_iconst (v := 0) hx hb dX3_hasItsAddress_5 (by decide) ?_
  refine jr_i (va_runV (As := [.int (nI i), .int 0]) (rest := []) ⟨hx, hb, hml, hown, hts⟩ (c_X2_get l D cA p1 b1 24 k1 72 f1 (nI i) 0 (by omega) (by omega)) (cwV 2 hts gX3_hasItsAddress_X2_get rfl rfl rfl hv_X2_get ⟨Nat.le_of_ble_eq_true rfl, Nat.le_of_ble_eq_true rfl⟩) (roP.V (va_recv hK hP (ci := 2) (q0 := 1) rfl rfl) (jP_sub (w2 := [(p1, .inr (2, [.ref b1, .int (nI 24), .int (nI k1)])), (b1, .inl (cA, 72, .inl f1))]) hP [1, 2] rfl) hK hN) rfl rfl hl.1 rfl (lv_room (Nat.le_of_ble_eq_true rfl)) dX3_hasItsAddress_6 ⟨Nat.le_of_ble_eq_true rfl, Nat.le_of_ble_eq_true rfl⟩) ?_
  refine jk_top (show (pGet f1 k1 (nI i) 0) = (f1 (i * 3)) from pGet_at (q := 0) hi (by decide) (by omega)) ?_
  refine lv_istore_n (lv' := [(2, .int (f1 (i * 3))), (0, .ref h0), (1, .int (nI i))]) hx hb dX3_hasItsAddress_9 rfl hl (by decide) rfl (fun ls hl => ?_)
  refine lv_iload_n hx hb dX3_hasItsAddress_10 rfl (lv_at hl 0 rfl) ?_
  refine lv_bipush (v := 6) hx hb dX3_hasItsAddress_11 (by decide) ?_
  refine lv_icmp_ne (tgt := 33) hx hb dX3_hasItsAddress_13 (by decide) (fun c_13 => ?_) (fun c_13 => ?_)
  · refine lv_iload_n hx hb dX3_hasItsAddress_33 rfl (lv_at hl 0 rfl) ?_
    refine jr_i (va_runS (As := [.int (f1 (i * 3))]) (rest := []) ⟨hx, hb, hml, hown, hts⟩ (c_X3_holdsAddressInB l D cA (f1 (i * 3))) (va_cwS 1 hts gX3_hasItsAddress_X3_holdsAddressInB rfl rfl rfl hv_X3_holdsAddressInB.2 ⟨Nat.le_of_ble_eq_true rfl, Nat.le_of_ble_eq_true rfl⟩) (roP.S (av := [.int (f1 (i * 3))]) (jP_sub (w2 := []) hP [] rfl) hK hN) rfl rfl hl.1 rfl (lv_room (Nat.le_of_ble_eq_true rfl)) dX3_hasItsAddress_34 ⟨Nat.le_of_ble_eq_true rfl, Nat.le_of_ble_eq_true rfl⟩) ?_
    refine lv_if_eq (tgt := 59) hx hb dX3_hasItsAddress_37 (by decide) (fun c_37 => ?_) (fun c_37 => ?_)
    · replace c_37 := jB_z.mp c_37
      refine lv_iconst (v := 1) hx hb dX3_hasItsAddress_59 (by decide) ?_
      refine lv_goto (tgt := 64) hx hb dX3_hasItsAddress_60 (by decide) ?_
      exact W.zret (ty := .boolean) (v := 1) hx hb hr rfl (fun t9 ht9 hW9 => ⟨jk_ret (show 1 = (jB (hA f1 k1 i)) from (jB_t ⟨fun e => absurd e c_13, fun e => absurd e c_37⟩).symm), ht9⟩) (fun q h => absurd h List.not_mem_nil) dX3_hasItsAddress_64
    · replace c_37 := jB_nz.mp c_37
      refine lv_aload_n hx hb dX3_hasItsAddress_40 rfl (lv_at hl 1 rfl) ?_
      refine va_get (D := D) (ci := 3) (v := .ref p1) (C := RX3) (T := TX3) (N := 5) hx hb hts iw_X3_hasItsAddress_X3 hown hK hP 0 rfl rfl 0 (by decide) (hts (.fieldLink RX3 14 "JumpGuard" "sourceProgram" "LJumpGuard$Program;") (List.mem_of_getElem? (l := wsX3_hasItsAddress) (i := 1) rfl)) (fun _ h9 => h9) rfl dX3_hasItsAddress_41 ?_
      refine lv_aload_n hx hb dX3_hasItsAddress_44 rfl (lv_at hl 1 rfl) ?_
      refine va_get (D := D) (ci := 3) (v := .ref p1) (C := RX3) (T := TX3) (N := 5) hx hb hts iw_X3_hasItsAddress_X3 hown hK hP 0 rfl rfl 0 (by decide) (hts (.fieldLink RX3 14 "JumpGuard" "sourceProgram" "LJumpGuard$Program;") (List.mem_of_getElem? (l := wsX3_hasItsAddress) (i := 1) rfl)) (fun _ h9 => h9) rfl dX3_hasItsAddress_45 ?_
      refine lv_iload_n hx hb dX3_hasItsAddress_48 rfl (lv_at hl 2 rfl) ?_
      refine lv_iconst (v := 2) hx hb dX3_hasItsAddress_49 (by decide) ?_
      refine jr_i (va_runV (As := [.int (nI i), .int 2]) (rest := [.ref p1]) ⟨hx, hb, hml, hown, hts⟩ (c_X2_get l D cA p1 b1 24 k1 72 f1 (nI i) 2 (by omega) (by omega)) (cwV 2 hts gX3_hasItsAddress_X2_get rfl rfl rfl hv_X2_get ⟨Nat.le_of_ble_eq_true rfl, Nat.le_of_ble_eq_true rfl⟩) (roP.V (va_recv hK hP (ci := 2) (q0 := 1) rfl rfl) (jP_sub (w2 := [(p1, .inr (2, [.ref b1, .int (nI 24), .int (nI k1)])), (b1, .inl (cA, 72, .inl f1))]) hP [1, 2] rfl) hK hN) rfl rfl hl.1 rfl (lv_room (Nat.le_of_ble_eq_true rfl)) dX3_hasItsAddress_50 ⟨Nat.le_of_ble_eq_true rfl, Nat.le_of_ble_eq_true rfl⟩) ?_
      refine jk_top (show (pGet f1 k1 (nI i) 2) = (f1 (i * 3 + 2)) from pGet_at (q := 2) hi (by decide) (by omega)) ?_
      refine jr_i (va_runV (As := [.int (f1 (i * 3 + 2))]) (rest := []) ⟨hx, hb, hml, hown, hts⟩ (c_X2_has l D cA p1 b1 24 k1 (f1 (i * 3 + 2))) (cwV 1 hts gX3_hasItsAddress_X2_has rfl rfl rfl hv_X2_has ⟨Nat.le_of_ble_eq_true rfl, Nat.le_of_ble_eq_true rfl⟩) (roP.V (va_recv hK hP (ci := 2) (q0 := 1) rfl rfl) (jP_sub (w2 := [(p1, .inr (2, [.ref b1, .int (nI 24), .int (nI k1)]))]) hP [1] rfl) hK hN) rfl rfl hl.1 rfl (lv_room (Nat.le_of_ble_eq_true rfl)) dX3_hasItsAddress_53 ⟨Nat.le_of_ble_eq_true rfl, Nat.le_of_ble_eq_true rfl⟩) ?_
      refine lv_if_eq (tgt := 63) hx hb dX3_hasItsAddress_56 (by decide) (fun c_56 => ?_) (fun c_56 => ?_)
      · replace c_56 := jB_z.mp c_56
        refine lv_iconst (v := 0) hx hb dX3_hasItsAddress_63 (by decide) ?_
        exact W.zret (ty := .boolean) (v := 0) hx hb hr rfl (fun t9 ht9 hW9 => ⟨jk_ret (show 0 = (jB (hA f1 k1 i)) from (jB_f (fun h => c_56 ((hA_79 c_13 c_37).mpr h))).symm), ht9⟩) (fun q h => absurd h List.not_mem_nil) dX3_hasItsAddress_64
      · replace c_56 := jB_nz.mp c_56
        refine lv_iconst (v := 1) hx hb dX3_hasItsAddress_59 (by decide) ?_
        refine lv_goto (tgt := 64) hx hb dX3_hasItsAddress_60 (by decide) ?_
        exact W.zret (ty := .boolean) (v := 1) hx hb hr rfl (fun t9 ht9 hW9 => ⟨jk_ret (show 1 = (jB (hA f1 k1 i)) from (jB_t ((hA_79 c_13 c_37).mp c_56)).symm), ht9⟩) (fun q h => absurd h List.not_mem_nil) dX3_hasItsAddress_64
  · refine lv_aload_n hx hb dX3_hasItsAddress_16 rfl (lv_at hl 1 rfl) ?_
    refine va_get (D := D) (ci := 3) (v := .ref p1) (C := RX3) (T := TX3) (N := 5) hx hb hts iw_X3_hasItsAddress_X3 hown hK hP 0 rfl rfl 0 (by decide) (hts (.fieldLink RX3 14 "JumpGuard" "sourceProgram" "LJumpGuard$Program;") (List.mem_of_getElem? (l := wsX3_hasItsAddress) (i := 1) rfl)) (fun _ h9 => h9) rfl dX3_hasItsAddress_17 ?_
    refine lv_aload_n hx hb dX3_hasItsAddress_20 rfl (lv_at hl 1 rfl) ?_
    refine va_get (D := D) (ci := 3) (v := .ref p1) (C := RX3) (T := TX3) (N := 5) hx hb hts iw_X3_hasItsAddress_X3 hown hK hP 0 rfl rfl 0 (by decide) (hts (.fieldLink RX3 14 "JumpGuard" "sourceProgram" "LJumpGuard$Program;") (List.mem_of_getElem? (l := wsX3_hasItsAddress) (i := 1) rfl)) (fun _ h9 => h9) rfl dX3_hasItsAddress_21 ?_
    refine lv_iload_n hx hb dX3_hasItsAddress_24 rfl (lv_at hl 2 rfl) ?_
    refine lv_iconst (v := 1) hx hb dX3_hasItsAddress_25 (by decide) ?_
    refine jr_i (va_runV (As := [.int (nI i), .int 1]) (rest := [.ref p1]) ⟨hx, hb, hml, hown, hts⟩ (c_X2_get l D cA p1 b1 24 k1 72 f1 (nI i) 1 (by omega) (by omega)) (cwV 2 hts gX3_hasItsAddress_X2_get rfl rfl rfl hv_X2_get ⟨Nat.le_of_ble_eq_true rfl, Nat.le_of_ble_eq_true rfl⟩) (roP.V (va_recv hK hP (ci := 2) (q0 := 1) rfl rfl) (jP_sub (w2 := [(p1, .inr (2, [.ref b1, .int (nI 24), .int (nI k1)])), (b1, .inl (cA, 72, .inl f1))]) hP [1, 2] rfl) hK hN) rfl rfl hl.1 rfl (lv_room (Nat.le_of_ble_eq_true rfl)) dX3_hasItsAddress_26 ⟨Nat.le_of_ble_eq_true rfl, Nat.le_of_ble_eq_true rfl⟩) ?_
    refine jk_top (show (pGet f1 k1 (nI i) 1) = (f1 (i * 3 + 1)) from pGet_at (q := 1) hi (by decide) (by omega)) ?_
    refine jr_i (va_runV (As := [.int (f1 (i * 3 + 1))]) (rest := []) ⟨hx, hb, hml, hown, hts⟩ (c_X2_has l D cA p1 b1 24 k1 (f1 (i * 3 + 1))) (cwV 1 hts gX3_hasItsAddress_X2_has rfl rfl rfl hv_X2_has ⟨Nat.le_of_ble_eq_true rfl, Nat.le_of_ble_eq_true rfl⟩) (roP.V (va_recv hK hP (ci := 2) (q0 := 1) rfl rfl) (jP_sub (w2 := [(p1, .inr (2, [.ref b1, .int (nI 24), .int (nI k1)]))]) hP [1] rfl) hK hN) rfl rfl hl.1 rfl (lv_room (Nat.le_of_ble_eq_true rfl)) dX3_hasItsAddress_29 ⟨Nat.le_of_ble_eq_true rfl, Nat.le_of_ble_eq_true rfl⟩) ?_
    exact W.zret (ty := .boolean) (v := (jB (jIn (f1 (i * 3 + 1)) (nI k1)))) hx hb hr jB_nar (fun t9 ht9 hW9 => ⟨jk_ret (show (jB (jIn (f1 (i * 3 + 1)) (nI k1))) = (jB (hA f1 k1 i)) from jB_i (hA_6 c_13)), ht9⟩) (fun q h => absurd h List.not_mem_nil) dX3_hasItsAddress_32
set_option maxHeartbeats 4000000 in
set_option maxRecDepth 100000 in
theorem c_X3_isClosed (l : Launch) (D : va_G) (cA : ClassId) (h0 : Nat) (p1 : Nat) (p2 : Nat) (e0 : Nat) (l0 : Nat) (m0 : Nat) (b1 : Nat) (k1 : Nat) (f1 : Nat → Int32) (hk1 : k1 ≤ 24) : Met l yX3_isClosed wsX3_isClosed ({ frames := 3, cells := 0, slots := 0, locals := 65 }) (roP D cA [.ref h0] [(h0, .inr (3, [.ref p1, .ref p2, .ref e0, .ref l0, .ref m0])), (p1, .inr (2, [.ref b1, .int (nI 24), .int (nI k1)])), (b1, .inl (cA, 72, .inl f1))]) (QcRead (jB (clO f1 k1))) 0 0 (fun _ => False) := by
  refine Met.ofW (cc := cX3_isClosed) (maxL := 3) (ret := (some .boolean)) (by decide) rfl ?_
  intro p e s m args below meth c s₁ B hml hv
  obtain ⟨rfl, hP, hK, hN⟩ := hv
  have hx := B.exec
  have hb := B.bytes
  have hr := B.returns
  have hts := atoms_spec (ws := wsX3_isClosed) B.pre
  have hown : s.vm.findClass RX3 = some m.cls := findClass_of_methodNamed B.named
  have hlocks := B.notSynchronized
  have hl := lv_entry ([.ref h0]) (n := 3) (Nat.le_of_ble_eq_true rfl)
  rw [lg_entry_eq]
  generalize (lg_sl ([.ref h0]) ++ List.replicate (3 - (lg_sl ([.ref h0])).length) Slot.unset).toArray = ls at hl ⊢
  have hl : lv_has ls 3 [(0, .ref h0)] := hl
  refine lv_aload_n hx hb dX3_isClosed_0 rfl (lv_at hl 0 rfl) ?_
  refine va_get (D := D) (ci := 3) (v := .ref p1) (C := RX3) (T := TX3) (N := 5) hx hb hts iw_X3_isClosed_X3 hown hK hP 0 rfl rfl 0 (by decide) (hts (.fieldLink RX3 14 "JumpGuard" "sourceProgram" "LJumpGuard$Program;") (List.mem_of_getElem? (l := wsX3_isClosed) (i := 1) rfl)) (fun _ h9 => h9) rfl dX3_isClosed_1 ?_
  refine lv_aload_n hx hb dX3_isClosed_4 rfl (lv_at hl 0 rfl) ?_
  refine va_get (D := D) (ci := 3) (v := .ref p1) (C := RX3) (T := TX3) (N := 5) hx hb hts iw_X3_isClosed_X3 hown hK hP 0 rfl rfl 0 (by decide) (hts (.fieldLink RX3 14 "JumpGuard" "sourceProgram" "LJumpGuard$Program;") (List.mem_of_getElem? (l := wsX3_isClosed) (i := 1) rfl)) (fun _ h9 => h9) rfl dX3_isClosed_5 ?_
  refine jr_i (va_runV (As := []) (rest := [.ref p1]) ⟨hx, hb, hml, hown, hts⟩ (c_X2_length l D cA p1 b1 24 k1) (cwV 0 hts gX3_isClosed_X2_length rfl rfl rfl hv_X2_length ⟨Nat.le_of_ble_eq_true rfl, Nat.le_of_ble_eq_true rfl⟩) (roP.V (va_recv hK hP (ci := 2) (q0 := 1) rfl rfl) (jP_sub (w2 := [(p1, .inr (2, [.ref b1, .int (nI 24), .int (nI k1)]))]) hP [1] rfl) hK hN) rfl rfl hl.1 rfl (lv_room (Nat.le_of_ble_eq_true rfl)) dX3_isClosed_8 ⟨Nat.le_of_ble_eq_true rfl, Nat.le_of_ble_eq_true rfl⟩) ?_
  refine lv_iconst (v := 1) hx hb dX3_isClosed_11 (by decide) ?_
  refine lv_isub hx hb dX3_isClosed_12 ?_
  refine lv_iconst (v := 0) hx hb dX3_isClosed_13 (by decide) ?_
  refine jr_i (va_runV (As := [.int ((nI k1) - 1), .int 0]) (rest := []) ⟨hx, hb, hml, hown, hts⟩ (c_X2_get l D cA p1 b1 24 k1 72 f1 ((nI k1) - 1) 0 (by omega) (by omega)) (cwV 2 hts gX3_isClosed_X2_get rfl rfl rfl hv_X2_get ⟨Nat.le_of_ble_eq_true rfl, Nat.le_of_ble_eq_true rfl⟩) (roP.V (va_recv hK hP (ci := 2) (q0 := 1) rfl rfl) (jP_sub (w2 := [(p1, .inr (2, [.ref b1, .int (nI 24), .int (nI k1)])), (b1, .inl (cA, 72, .inl f1))]) hP [1, 2] rfl) hK hN) rfl rfl hl.1 rfl (lv_room (Nat.le_of_ble_eq_true rfl)) dX3_isClosed_14 ⟨Nat.le_of_ble_eq_true rfl, Nat.le_of_ble_eq_true rfl⟩) ?_
  refine jk_top (show (pGet f1 k1 ((nI k1) - 1) 0) = (lst f1 k1) from rfl) ?_
  refine lv_istore_n (lv' := [(1, .int (lst f1 k1)), (0, .ref h0)]) hx hb dX3_isClosed_17 rfl hl (by decide) rfl (fun ls hl => ?_)
  refine lv_iload_n hx hb dX3_isClosed_18 rfl (lv_at hl 0 rfl) ?_
  refine lv_if_eq (tgt := 36) hx hb dX3_isClosed_19 (by decide) (fun c_19 => ?_) (fun c_19 => ?_)
  · have hlast : lst f1 k1 = 0 ∨ lst f1 k1 = 6 ∨ lst f1 k1 = 8 := Or.inl c_19
    refine lv_iconst (v := 0) hx hb dX3_isClosed_36 (by decide) ?_
    refine lv_istore_n (lv' := [(2, .int 0), (1, .int (lst f1 k1)), (0, .ref h0)]) hx hb dX3_isClosed_37 rfl hl (by decide) rfl (fun ls hl => ?_)
    have loop38 : ∀ (n : Nat) (i : Nat), (i ≤ k1) → (k1 + 1 ≤ i + n) → (∀ j, j < i → hA f1 k1 j) → ∀ (ls : Array Slot), lv_has ls 3 [(0, .ref h0), (1, .int (lst f1 k1)), (2, .int (nI i))] → W p l e (headSpec wsX3_isClosed ({ frames := 3, cells := 0, slots := 0, locals := 65 })).room s m ([.ref h0] : List Value).toArray below meth c s.heap [] 0 0 (MQ below (QcRead (jB (clO f1 k1))) ([.ref h0] : List Value).toArray s 0 0 (fun _ => False)) (F0 m 38 ls []) := by
      intro n
      induction n with
      | zero => intro i hi hfu hdone; exact absurd hfu (by omega)
      | succ n ih38 =>
        intro i hi hfu hdone  ls hl
        refine lv_iload_n hx hb dX3_isClosed_38 rfl (lv_at hl 2 rfl) ?_
        refine lv_aload_n hx hb dX3_isClosed_39 rfl (lv_at hl 0 rfl) ?_
        refine va_get (D := D) (ci := 3) (v := .ref p1) (C := RX3) (T := TX3) (N := 5) hx hb hts iw_X3_isClosed_X3 hown hK hP 0 rfl rfl 0 (by decide) (hts (.fieldLink RX3 14 "JumpGuard" "sourceProgram" "LJumpGuard$Program;") (List.mem_of_getElem? (l := wsX3_isClosed) (i := 1) rfl)) (fun _ h9 => h9) rfl dX3_isClosed_40 ?_
        refine jr_i (va_runV (As := []) (rest := [.int (nI i)]) ⟨hx, hb, hml, hown, hts⟩ (c_X2_length l D cA p1 b1 24 k1) (cwV 0 hts gX3_isClosed_X2_length rfl rfl rfl hv_X2_length ⟨Nat.le_of_ble_eq_true rfl, Nat.le_of_ble_eq_true rfl⟩) (roP.V (va_recv hK hP (ci := 2) (q0 := 1) rfl rfl) (jP_sub (w2 := [(p1, .inr (2, [.ref b1, .int (nI 24), .int (nI k1)]))]) hP [1] rfl) hK hN) rfl rfl hl.1 rfl (lv_room (Nat.le_of_ble_eq_true rfl)) dX3_isClosed_43 ⟨Nat.le_of_ble_eq_true rfl, Nat.le_of_ble_eq_true rfl⟩) ?_
        refine lv_icmp_ge (tgt := 65) hx hb dX3_isClosed_46 (by decide) (fun c_46 => ?_) (fun c_46 => ?_)
        · have hall : ∀ j, j < k1 → hA f1 k1 j := fun j hj => hdone j (by
            rcases Nat.lt_or_ge i k1 with q | q
            · exact absurd c_46 (nI_ge q (by omega))
            · omega)
          refine lv_iconst (v := 1) hx hb dX3_isClosed_65 (by decide) ?_
          exact W.zret (ty := .boolean) (v := 1) hx hb hr rfl (fun t9 ht9 hW9 => ⟨jk_ret (show 1 = (jB (clO f1 k1)) from (jB_t ⟨hlast, hall⟩).symm), ht9⟩) (fun q h => absurd h List.not_mem_nil) dX3_isClosed_66
        · have hi2 : i < k1 := by
            rcases Nat.lt_or_ge i k1 with q | q
            · exact q
            · exact absurd (nI_le q (by omega)) c_46
          refine lv_aload_n hx hb dX3_isClosed_49 rfl (lv_at hl 0 rfl) ?_
          refine lv_iload_n hx hb dX3_isClosed_50 rfl (lv_at hl 2 rfl) ?_
          refine jr_i (va_runV (As := [.int (nI i)]) (rest := []) ⟨hx, hb, hml, hown, hts⟩ (c_X3_hasItsAddress l D cA h0 p1 p2 e0 l0 m0 b1 k1 f1 i (by first | assumption | omega) (by first | assumption | omega)) (cwV 1 hts gX3_isClosed_X3_hasItsAddress rfl rfl rfl hv_X3_hasItsAddress ⟨Nat.le_of_ble_eq_true rfl, Nat.le_of_ble_eq_true rfl⟩) (roP.V (va_recv hK hP (ci := 3) (q0 := 0) rfl rfl) (jP_sub (w2 := [(h0, .inr (3, [.ref p1, .ref p2, .ref e0, .ref l0, .ref m0])), (p1, .inr (2, [.ref b1, .int (nI 24), .int (nI k1)])), (b1, .inl (cA, 72, .inl f1))]) hP [0, 1, 2] rfl) hK hN) rfl rfl hl.1 rfl (lv_room (Nat.le_of_ble_eq_true rfl)) dX3_isClosed_51 ⟨Nat.le_of_ble_eq_true rfl, Nat.le_of_ble_eq_true rfl⟩) ?_
          refine lv_if_ne (tgt := 59) hx hb dX3_isClosed_54 (by decide) (fun c_54 => ?_) (fun c_54 => ?_)
          · replace c_54 := jB_nz.mp c_54
            refine lv_iinc (v := (nI (i + 1))) (lv' := [(2, .int (nI (i + 1))), (0, .ref h0), (1, .int (lst f1 k1))]) hx hb dX3_isClosed_59 hl (k := 2) rfl (jn_a1 _) (by decide) rfl (fun ls hl => ?_)
            refine lv_goto (tgt := 38) hx hb dX3_isClosed_62 (by decide) ?_
            exact ih38 (i + 1) (by omega) (by omega) (fun j hj => by
  rcases Nat.lt_or_ge j i with q | q
  · exact hdone j q
  · have e : j = i := by omega
    subst e; exact c_54) ls (lv_sub hl [1, 2, 0] rfl)
          · replace c_54 := jB_z.mp c_54
            have hno : ¬ clO f1 k1 := fun h => c_54 (h.2 i hi2)
            refine lv_iconst (v := 0) hx hb dX3_isClosed_57 (by decide) ?_
            exact W.zret (ty := .boolean) (v := 0) hx hb hr rfl (fun t9 ht9 hW9 => ⟨jk_ret (show 0 = (jB (clO f1 k1)) from (jB_f hno).symm), ht9⟩) (fun q h => absurd h List.not_mem_nil) dX3_isClosed_58
    exact loop38 (k1 + 1) 0 (by omega) (by omega) (fun j hj => absurd hj (by omega)) ls (lv_sub hl [2, 1, 0] rfl)
  · refine lv_iload_n hx hb dX3_isClosed_22 rfl (lv_at hl 0 rfl) ?_
    refine lv_bipush (v := 6) hx hb dX3_isClosed_23 (by decide) ?_
    refine lv_icmp_eq (tgt := 36) hx hb dX3_isClosed_25 (by decide) (fun c_25 => ?_) (fun c_25 => ?_)
    · have hlast : lst f1 k1 = 0 ∨ lst f1 k1 = 6 ∨ lst f1 k1 = 8 := Or.inr (Or.inl c_25)
      refine lv_iconst (v := 0) hx hb dX3_isClosed_36 (by decide) ?_
      refine lv_istore_n (lv' := [(2, .int 0), (1, .int (lst f1 k1)), (0, .ref h0)]) hx hb dX3_isClosed_37 rfl hl (by decide) rfl (fun ls hl => ?_)
      have loop38 : ∀ (n : Nat) (i : Nat), (i ≤ k1) → (k1 + 1 ≤ i + n) → (∀ j, j < i → hA f1 k1 j) → ∀ (ls : Array Slot), lv_has ls 3 [(0, .ref h0), (1, .int (lst f1 k1)), (2, .int (nI i))] → W p l e (headSpec wsX3_isClosed ({ frames := 3, cells := 0, slots := 0, locals := 65 })).room s m ([.ref h0] : List Value).toArray below meth c s.heap [] 0 0 (MQ below (QcRead (jB (clO f1 k1))) ([.ref h0] : List Value).toArray s 0 0 (fun _ => False)) (F0 m 38 ls []) := by
        intro n
        induction n with
        | zero => intro i hi hfu hdone; exact absurd hfu (by omega)
        | succ n ih38 =>
          intro i hi hfu hdone  ls hl
          refine lv_iload_n hx hb dX3_isClosed_38 rfl (lv_at hl 2 rfl) ?_
          refine lv_aload_n hx hb dX3_isClosed_39 rfl (lv_at hl 0 rfl) ?_
          refine va_get (D := D) (ci := 3) (v := .ref p1) (C := RX3) (T := TX3) (N := 5) hx hb hts iw_X3_isClosed_X3 hown hK hP 0 rfl rfl 0 (by decide) (hts (.fieldLink RX3 14 "JumpGuard" "sourceProgram" "LJumpGuard$Program;") (List.mem_of_getElem? (l := wsX3_isClosed) (i := 1) rfl)) (fun _ h9 => h9) rfl dX3_isClosed_40 ?_
          refine jr_i (va_runV (As := []) (rest := [.int (nI i)]) ⟨hx, hb, hml, hown, hts⟩ (c_X2_length l D cA p1 b1 24 k1) (cwV 0 hts gX3_isClosed_X2_length rfl rfl rfl hv_X2_length ⟨Nat.le_of_ble_eq_true rfl, Nat.le_of_ble_eq_true rfl⟩) (roP.V (va_recv hK hP (ci := 2) (q0 := 1) rfl rfl) (jP_sub (w2 := [(p1, .inr (2, [.ref b1, .int (nI 24), .int (nI k1)]))]) hP [1] rfl) hK hN) rfl rfl hl.1 rfl (lv_room (Nat.le_of_ble_eq_true rfl)) dX3_isClosed_43 ⟨Nat.le_of_ble_eq_true rfl, Nat.le_of_ble_eq_true rfl⟩) ?_
          refine lv_icmp_ge (tgt := 65) hx hb dX3_isClosed_46 (by decide) (fun c_46 => ?_) (fun c_46 => ?_)
          · have hall : ∀ j, j < k1 → hA f1 k1 j := fun j hj => hdone j (by
              rcases Nat.lt_or_ge i k1 with q | q
              · exact absurd c_46 (nI_ge q (by omega))
              · omega)
            refine lv_iconst (v := 1) hx hb dX3_isClosed_65 (by decide) ?_
            exact W.zret (ty := .boolean) (v := 1) hx hb hr rfl (fun t9 ht9 hW9 => ⟨jk_ret (show 1 = (jB (clO f1 k1)) from (jB_t ⟨hlast, hall⟩).symm), ht9⟩) (fun q h => absurd h List.not_mem_nil) dX3_isClosed_66
          · have hi2 : i < k1 := by
              rcases Nat.lt_or_ge i k1 with q | q
              · exact q
              · exact absurd (nI_le q (by omega)) c_46
            refine lv_aload_n hx hb dX3_isClosed_49 rfl (lv_at hl 0 rfl) ?_
            refine lv_iload_n hx hb dX3_isClosed_50 rfl (lv_at hl 2 rfl) ?_
            refine jr_i (va_runV (As := [.int (nI i)]) (rest := []) ⟨hx, hb, hml, hown, hts⟩ (c_X3_hasItsAddress l D cA h0 p1 p2 e0 l0 m0 b1 k1 f1 i (by first | assumption | omega) (by first | assumption | omega)) (cwV 1 hts gX3_isClosed_X3_hasItsAddress rfl rfl rfl hv_X3_hasItsAddress ⟨Nat.le_of_ble_eq_true rfl, Nat.le_of_ble_eq_true rfl⟩) (roP.V (va_recv hK hP (ci := 3) (q0 := 0) rfl rfl) (jP_sub (w2 := [(h0, .inr (3, [.ref p1, .ref p2, .ref e0, .ref l0, .ref m0])), (p1, .inr (2, [.ref b1, .int (nI 24), .int (nI k1)])), (b1, .inl (cA, 72, .inl f1))]) hP [0, 1, 2] rfl) hK hN) rfl rfl hl.1 rfl (lv_room (Nat.le_of_ble_eq_true rfl)) dX3_isClosed_51 ⟨Nat.le_of_ble_eq_true rfl, Nat.le_of_ble_eq_true rfl⟩) ?_
            refine lv_if_ne (tgt := 59) hx hb dX3_isClosed_54 (by decide) (fun c_54 => ?_) (fun c_54 => ?_)
            · replace c_54 := jB_nz.mp c_54
              refine lv_iinc (v := (nI (i + 1))) (lv' := [(2, .int (nI (i + 1))), (0, .ref h0), (1, .int (lst f1 k1))]) hx hb dX3_isClosed_59 hl (k := 2) rfl (jn_a1 _) (by decide) rfl (fun ls hl => ?_)
              refine lv_goto (tgt := 38) hx hb dX3_isClosed_62 (by decide) ?_
              exact ih38 (i + 1) (by omega) (by omega) (fun j hj => by
  rcases Nat.lt_or_ge j i with q | q
  · exact hdone j q
  · have e : j = i := by omega
    subst e; exact c_54) ls (lv_sub hl [1, 2, 0] rfl)
            · replace c_54 := jB_z.mp c_54
              have hno : ¬ clO f1 k1 := fun h => c_54 (h.2 i hi2)
              refine lv_iconst (v := 0) hx hb dX3_isClosed_57 (by decide) ?_
              exact W.zret (ty := .boolean) (v := 0) hx hb hr rfl (fun t9 ht9 hW9 => ⟨jk_ret (show 0 = (jB (clO f1 k1)) from (jB_f hno).symm), ht9⟩) (fun q h => absurd h List.not_mem_nil) dX3_isClosed_58
      exact loop38 (k1 + 1) 0 (by omega) (by omega) (fun j hj => absurd hj (by omega)) ls (lv_sub hl [2, 1, 0] rfl)
    · refine lv_iload_n hx hb dX3_isClosed_28 rfl (lv_at hl 0 rfl) ?_
      refine lv_bipush (v := 8) hx hb dX3_isClosed_29 (by decide) ?_
      refine lv_icmp_eq (tgt := 36) hx hb dX3_isClosed_31 (by decide) (fun c_31 => ?_) (fun c_31 => ?_)
      · have hlast : lst f1 k1 = 0 ∨ lst f1 k1 = 6 ∨ lst f1 k1 = 8 := Or.inr (Or.inr c_31)
        refine lv_iconst (v := 0) hx hb dX3_isClosed_36 (by decide) ?_
        refine lv_istore_n (lv' := [(2, .int 0), (1, .int (lst f1 k1)), (0, .ref h0)]) hx hb dX3_isClosed_37 rfl hl (by decide) rfl (fun ls hl => ?_)
        have loop38 : ∀ (n : Nat) (i : Nat), (i ≤ k1) → (k1 + 1 ≤ i + n) → (∀ j, j < i → hA f1 k1 j) → ∀ (ls : Array Slot), lv_has ls 3 [(0, .ref h0), (1, .int (lst f1 k1)), (2, .int (nI i))] → W p l e (headSpec wsX3_isClosed ({ frames := 3, cells := 0, slots := 0, locals := 65 })).room s m ([.ref h0] : List Value).toArray below meth c s.heap [] 0 0 (MQ below (QcRead (jB (clO f1 k1))) ([.ref h0] : List Value).toArray s 0 0 (fun _ => False)) (F0 m 38 ls []) := by
          intro n
          induction n with
          | zero => intro i hi hfu hdone; exact absurd hfu (by omega)
          | succ n ih38 =>
            intro i hi hfu hdone  ls hl
            refine lv_iload_n hx hb dX3_isClosed_38 rfl (lv_at hl 2 rfl) ?_
            refine lv_aload_n hx hb dX3_isClosed_39 rfl (lv_at hl 0 rfl) ?_
            refine va_get (D := D) (ci := 3) (v := .ref p1) (C := RX3) (T := TX3) (N := 5) hx hb hts iw_X3_isClosed_X3 hown hK hP 0 rfl rfl 0 (by decide) (hts (.fieldLink RX3 14 "JumpGuard" "sourceProgram" "LJumpGuard$Program;") (List.mem_of_getElem? (l := wsX3_isClosed) (i := 1) rfl)) (fun _ h9 => h9) rfl dX3_isClosed_40 ?_
            refine jr_i (va_runV (As := []) (rest := [.int (nI i)]) ⟨hx, hb, hml, hown, hts⟩ (c_X2_length l D cA p1 b1 24 k1) (cwV 0 hts gX3_isClosed_X2_length rfl rfl rfl hv_X2_length ⟨Nat.le_of_ble_eq_true rfl, Nat.le_of_ble_eq_true rfl⟩) (roP.V (va_recv hK hP (ci := 2) (q0 := 1) rfl rfl) (jP_sub (w2 := [(p1, .inr (2, [.ref b1, .int (nI 24), .int (nI k1)]))]) hP [1] rfl) hK hN) rfl rfl hl.1 rfl (lv_room (Nat.le_of_ble_eq_true rfl)) dX3_isClosed_43 ⟨Nat.le_of_ble_eq_true rfl, Nat.le_of_ble_eq_true rfl⟩) ?_
            refine lv_icmp_ge (tgt := 65) hx hb dX3_isClosed_46 (by decide) (fun c_46 => ?_) (fun c_46 => ?_)
            · have hall : ∀ j, j < k1 → hA f1 k1 j := fun j hj => hdone j (by
                rcases Nat.lt_or_ge i k1 with q | q
                · exact absurd c_46 (nI_ge q (by omega))
                · omega)
              refine lv_iconst (v := 1) hx hb dX3_isClosed_65 (by decide) ?_
              exact W.zret (ty := .boolean) (v := 1) hx hb hr rfl (fun t9 ht9 hW9 => ⟨jk_ret (show 1 = (jB (clO f1 k1)) from (jB_t ⟨hlast, hall⟩).symm), ht9⟩) (fun q h => absurd h List.not_mem_nil) dX3_isClosed_66
            · have hi2 : i < k1 := by
                rcases Nat.lt_or_ge i k1 with q | q
                · exact q
                · exact absurd (nI_le q (by omega)) c_46
              refine lv_aload_n hx hb dX3_isClosed_49 rfl (lv_at hl 0 rfl) ?_
              refine lv_iload_n hx hb dX3_isClosed_50 rfl (lv_at hl 2 rfl) ?_
              refine jr_i (va_runV (As := [.int (nI i)]) (rest := []) ⟨hx, hb, hml, hown, hts⟩ (c_X3_hasItsAddress l D cA h0 p1 p2 e0 l0 m0 b1 k1 f1 i (by first | assumption | omega) (by first | assumption | omega)) (cwV 1 hts gX3_isClosed_X3_hasItsAddress rfl rfl rfl hv_X3_hasItsAddress ⟨Nat.le_of_ble_eq_true rfl, Nat.le_of_ble_eq_true rfl⟩) (roP.V (va_recv hK hP (ci := 3) (q0 := 0) rfl rfl) (jP_sub (w2 := [(h0, .inr (3, [.ref p1, .ref p2, .ref e0, .ref l0, .ref m0])), (p1, .inr (2, [.ref b1, .int (nI 24), .int (nI k1)])), (b1, .inl (cA, 72, .inl f1))]) hP [0, 1, 2] rfl) hK hN) rfl rfl hl.1 rfl (lv_room (Nat.le_of_ble_eq_true rfl)) dX3_isClosed_51 ⟨Nat.le_of_ble_eq_true rfl, Nat.le_of_ble_eq_true rfl⟩) ?_
              refine lv_if_ne (tgt := 59) hx hb dX3_isClosed_54 (by decide) (fun c_54 => ?_) (fun c_54 => ?_)
              · replace c_54 := jB_nz.mp c_54
                refine lv_iinc (v := (nI (i + 1))) (lv' := [(2, .int (nI (i + 1))), (0, .ref h0), (1, .int (lst f1 k1))]) hx hb dX3_isClosed_59 hl (k := 2) rfl (jn_a1 _) (by decide) rfl (fun ls hl => ?_)
                refine lv_goto (tgt := 38) hx hb dX3_isClosed_62 (by decide) ?_
                exact ih38 (i + 1) (by omega) (by omega) (fun j hj => by
  rcases Nat.lt_or_ge j i with q | q
  · exact hdone j q
  · have e : j = i := by omega
    subst e; exact c_54) ls (lv_sub hl [1, 2, 0] rfl)
              · replace c_54 := jB_z.mp c_54
                have hno : ¬ clO f1 k1 := fun h => c_54 (h.2 i hi2)
                refine lv_iconst (v := 0) hx hb dX3_isClosed_57 (by decide) ?_
                exact W.zret (ty := .boolean) (v := 0) hx hb hr rfl (fun t9 ht9 hW9 => ⟨jk_ret (show 0 = (jB (clO f1 k1)) from (jB_f hno).symm), ht9⟩) (fun q h => absurd h List.not_mem_nil) dX3_isClosed_58
        exact loop38 (k1 + 1) 0 (by omega) (by omega) (fun j hj => absurd hj (by omega)) ls (lv_sub hl [2, 1, 0] rfl)
      · have hno : ¬ clO f1 k1 := fun h => by
          rcases h.1 with q | q | q
          · exact c_19 q
          · exact c_25 q
          · exact c_31 q
        refine lv_iconst (v := 0) hx hb dX3_isClosed_34 (by decide) ?_
        exact W.zret (ty := .boolean) (v := 0) hx hb hr rfl (fun t9 ht9 hW9 => ⟨jk_ret (show 0 = (jB (clO f1 k1)) from (jB_f hno).symm), ht9⟩) (fun q h => absurd h List.not_mem_nil) dX3_isClosed_35
set_option maxHeartbeats 4000000 in
set_option maxRecDepth 100000 in
theorem c_X3_placeOf (l : Launch) (D : va_G) (cA : ClassId) (h0 : Nat) (p1 : Nat) (p2 : Nat) (e0 : Nat) (l0 : Nat) (m0 : Nat) (P : Nat → Int32) (x : Int32) : Met l yX3_placeOf wsX3_placeOf ({ frames := 1, cells := 0, slots := 0, locals := 20 }) (roP D cA [.ref h0, .int x] [(h0, .inr (3, [.ref p1, .ref p2, .ref e0, .ref l0, .ref m0])), (l0, .inl (cA, 24, .inl P))]) (QcRead (pPl P x)) 0 0 (fun _ => False) := by
  refine Met.ofW (cc := cX3_placeOf) (maxL := 2) (ret := (some .int)) (by decide) rfl ?_
  intro p e s m args below meth c s₁ B hml hv
  obtain ⟨rfl, hP, hK, hN⟩ := hv
  have hx := B.exec
  have hb := B.bytes
  have hr := B.returns
  have hts := atoms_spec (ws := wsX3_placeOf) B.pre
  have hown : s.vm.findClass RX3 = some m.cls := findClass_of_methodNamed B.named
  have hlocks := B.notSynchronized
  have hl := lv_entry ([.ref h0, .int x]) (n := 2) (Nat.le_of_ble_eq_true rfl)
  rw [lg_entry_eq]
  generalize (lg_sl ([.ref h0, .int x]) ++ List.replicate (2 - (lg_sl ([.ref h0, .int x])).length) Slot.unset).toArray = ls at hl ⊢
  have hl : lv_has ls 2 [(0, .ref h0), (1, .int x)] := hl
  refine lv_iload_n hx hb dX3_placeOf_0 rfl (lv_at hl 1 rfl) ?_
  refine jr_i (va_runS (As := [.int x]) (rest := []) ⟨hx, hb, hml, hown, hts⟩ (c_X3_isAddress l D cA x) (va_cwS 1 hts gX3_placeOf_X3_isAddress rfl rfl rfl hv_X3_isAddress.2 ⟨Nat.le_of_ble_eq_true rfl, Nat.le_of_ble_eq_true rfl⟩) (roP.S (av := [.int x]) (jP_sub (w2 := []) hP [] rfl) hK hN) rfl rfl hl.1 rfl (lv_room (Nat.le_of_ble_eq_true rfl)) dX3_placeOf_1 ⟨Nat.le_of_ble_eq_true rfl, Nat.le_of_ble_eq_true rfl⟩) ?_
  refine lv_if_eq (tgt := 16) hx hb dX3_placeOf_4 (by decide) (fun c_4 => ?_) (fun c_4 => ?_)
  · replace c_4 := jB_z.mp c_4
    refine lv_iconst (v := (-1)) hx hb dX3_placeOf_16 (by decide) ?_
    exact W.iret (v := (-1)) hx hb hr (fun t9 ht9 hW9 => ⟨jk_ret (show (-1) = (pPl P x) from (pPl_no c_4).symm), ht9⟩) (fun q h => absurd h List.not_mem_nil) dX3_placeOf_17
  · replace c_4 := jB_nz.mp c_4
    obtain ⟨j, hj, rfl⟩ := jN_of (n := 24) (by decide) c_4
    refine lv_aload_n hx hb dX3_placeOf_7 rfl (lv_at hl 0 rfl) ?_
    refine va_get (D := D) (ci := 3) (v := .ref l0) (C := RX3) (T := TX3) (N := 5) hx hb hts iw_X3_placeOf_X3 hown hK hP 0 rfl rfl 3 (by decide) (hts (.fieldLink RX3 28 "JumpGuard" "places" "[I") (List.mem_of_getElem? (l := wsX3_placeOf) (i := 1) rfl)) (fun _ h9 => h9) rfl dX3_placeOf_8 ?_
    refine lv_iload_n hx hb dX3_placeOf_11 rfl (lv_at hl 1 rfl) ?_
    refine jk_ald hx hb hK hP 1 0 rfl rfl (k := j) rfl (by omega) (by omega) dX3_placeOf_12 ?_
    refine lv_goto (tgt := 17) hx hb dX3_placeOf_13 (by decide) ?_
    exact W.iret (v := (P j)) hx hb hr (fun t9 ht9 hW9 => ⟨jk_ret (show (P j) = (pPl P (nI j)) from (pPl_n hj).symm), ht9⟩) (fun q h => absurd h List.not_mem_nil) dX3_placeOf_17
set_option maxHeartbeats 4000000 in
set_option maxRecDepth 100000 in
theorem c_X3_setPlaces (l : Launch) (D : va_G) (cA : ClassId) (sz : Nat) (h0 : Nat) (p1 : Nat) (p2 : Nat) (e0 : Nat) (l0 : Nat) (m0 : Nat) (b1 : Nat) (k1 : Nat) (t0 : Nat) (n0 : Nat) (j0 : Nat) (ec : Nat) (f1 : Nat → Int32) (tn : Nat → Int32) (P : Nat → Int32) (hk1 : k1 ≤ 24) : Met l yX3_setPlaces wsX3_setPlaces ({ frames := 2, cells := 0, slots := 0, locals := 43 }) (rwP D cA [.ref h0] sz [(h0, .inr (3, [.ref p1, .ref p2, .ref e0, .ref l0, .ref m0])), (p1, .inr (2, [.ref b1, .int (nI 24), .int (nI k1)])), (b1, .inl (cA, 72, .inl f1)), (e0, .inr (0, [.ref t0, .ref n0, .ref j0, .int (nI ec)])), (n0, .inl (cA, 24, .inl tn)), (l0, .inl (cA, 24, .inl P))]) (rwV D (va_A [(h0, .inr (3, [.ref p1, .ref p2, .ref e0, .ref l0, .ref m0])), (p1, .inr (2, [.ref b1, .int (nI 24), .int (nI k1)])), (b1, .inl (cA, 72, .inl f1)), (e0, .inr (0, [.ref t0, .ref n0, .ref j0, .int (nI ec)])), (n0, .inl (cA, 24, .inl tn)), (l0, .inl (cA, 24, .inl P))] sz) [(h0, .inr (3, [.ref p1, .ref p2, .ref e0, .ref l0, .ref m0])), (p1, .inr (2, [.ref b1, .int (nI 24), .int (nI k1)])), (b1, .inl (cA, 72, .inl f1)), (e0, .inr (0, [.ref t0, .ref n0, .ref j0, .int (nI ec)])), (n0, .inl (cA, 24, .inl tn)), (l0, .inl (cA, 24, .inl (plP f1 tn P k1)))]) 0 0 (va_A [(h0, .inr (3, [.ref p1, .ref p2, .ref e0, .ref l0, .ref m0])), (p1, .inr (2, [.ref b1, .int (nI 24), .int (nI k1)])), (b1, .inl (cA, 72, .inl f1)), (e0, .inr (0, [.ref t0, .ref n0, .ref j0, .int (nI ec)])), (n0, .inl (cA, 24, .inl tn)), (l0, .inl (cA, 24, .inl P))] sz) := by
  refine Met.ofW (cc := cX3_setPlaces) (maxL := 3) (ret := none) (by decide) rfl ?_
  intro p e s m args below meth c s₁ B hml hv
  obtain ⟨rfl, hsz, hP, hK, hN, hD0⟩ := hv
  have hx := B.exec
  have hb := B.bytes
  have hr := B.returns
  have hts := atoms_spec (ws := wsX3_setPlaces) B.pre
  have hown : s.vm.findClass RX3 = some m.cls := findClass_of_methodNamed B.named
  have hlocks := B.notSynchronized
  subst hsz
  have hD := hD0.self (sz := s.heap.size)
  generalize hAe : va_A [(h0, .inr (3, [.ref p1, .ref p2, .ref e0, .ref l0, .ref m0])), (p1, .inr (2, [.ref b1, .int (nI 24), .int (nI k1)])), (b1, .inl (cA, 72, .inl f1)), (e0, .inr (0, [.ref t0, .ref n0, .ref j0, .int (nI ec)])), (n0, .inl (cA, 24, .inl tn)), (l0, .inl (cA, 24, .inl P))] s.heap.size = A at hD ⊢
  have hA : ∀ q : Nat, s.heap.size ≤ q → A q := fun q h => by rw [← hAe]; exact Or.inr h
  have hS : va_S A s.heap s.heap [] := va_S.rf
  have hl := lv_entry ([.ref h0]) (n := 3) (Nat.le_of_ble_eq_true rfl)
  rw [lg_entry_eq]
  generalize (lg_sl ([.ref h0]) ++ List.replicate (3 - (lg_sl ([.ref h0])).length) Slot.unset).toArray = ls at hl ⊢
  have hl : lv_has ls 3 [(0, .ref h0)] := hl
  refine lv_iconst (v := 0) hx hb dX3_setPlaces_0 (by decide) ?_
  refine lv_istore_n (lv' := [(1, .int 0), (0, .ref h0)]) hx hb dX3_setPlaces_1 rfl hl (by decide) rfl (fun ls hl => ?_)
  refine lv_iconst (v := 0) hx hb dX3_setPlaces_2 (by decide) ?_
  refine lv_istore_n (lv' := [(2, .int 0), (1, .int 0), (0, .ref h0)]) hx hb dX3_setPlaces_3 rfl hl (by decide) rfl (fun ls hl => ?_)
  have loop4 : ∀ (n : Nat) (i : Nat) (nx : Nat) (F : Nat → Int32), (i ≤ k1) → (k1 + 1 ≤ i + n) → (nx = plN f1 tn i) → (F = plP f1 tn P i) → ∀ (H : Heap) (locs : List Loc), va_P D vwCl [(h0, .inr (3, [.ref p1, .ref p2, .ref e0, .ref l0, .ref m0])), (p1, .inr (2, [.ref b1, .int (nI 24), .int (nI k1)])), (b1, .inl (cA, 72, .inl f1)), (e0, .inr (0, [.ref t0, .ref n0, .ref j0, .int (nI ec)])), (n0, .inl (cA, 24, .inl tn)), (l0, .inl (cA, 24, .inl F))] H → va_D A [(h0, .inr (3, [.ref p1, .ref p2, .ref e0, .ref l0, .ref m0])), (p1, .inr (2, [.ref b1, .int (nI 24), .int (nI k1)])), (b1, .inl (cA, 72, .inl f1)), (e0, .inr (0, [.ref t0, .ref n0, .ref j0, .int (nI ec)])), (n0, .inl (cA, 24, .inl tn)), (l0, .inl (cA, 24, .inl F))] → va_S A s.heap H locs → ∀ (ls : Array Slot), lv_has ls 3 [(0, .ref h0), (1, .int (nI nx)), (2, .int (nI i))] → W p l e (headSpec wsX3_setPlaces ({ frames := 2, cells := 0, slots := 0, locals := 43 })).room s m ([.ref h0] : List Value).toArray below meth c H locs 0 0 (MQ below (rwV D A [(h0, .inr (3, [.ref p1, .ref p2, .ref e0, .ref l0, .ref m0])), (p1, .inr (2, [.ref b1, .int (nI 24), .int (nI k1)])), (b1, .inl (cA, 72, .inl f1)), (e0, .inr (0, [.ref t0, .ref n0, .ref j0, .int (nI ec)])), (n0, .inl (cA, 24, .inl tn)), (l0, .inl (cA, 24, .inl (plP f1 tn P k1)))]) ([.ref h0] : List Value).toArray s 0 0 A) (F0 m 4 ls []) := by
    intro n
    induction n with
    | zero => intro i nx F hi hfu hnx hF; exact absurd hfu (by omega)
    | succ n ih4 =>
      intro i nx F hi hfu hnx hF H locs hP hD hS ls hl
      refine lv_iload_n hx hb dX3_setPlaces_4 rfl (lv_at hl 2 rfl) ?_
      refine lv_aload_n hx hb dX3_setPlaces_5 rfl (lv_at hl 0 rfl) ?_
      refine va_get (D := D) (ci := 3) (v := .ref p1) (C := RX3) (T := TX3) (N := 5) hx hb hts iw_X3_setPlaces_X3 hown hK hP 0 rfl rfl 0 (by decide) (hts (.fieldLink RX3 14 "JumpGuard" "sourceProgram" "LJumpGuard$Program;") (List.mem_of_getElem? (l := wsX3_setPlaces) (i := 1) rfl)) (fun _ h9 => h9) rfl dX3_setPlaces_6 ?_
      refine jr_i (va_runV (As := []) (rest := [.int (nI i)]) ⟨hx, hb, hml, hown, hts⟩ (c_X2_length l D cA p1 b1 24 k1) (cwV 0 hts gX3_setPlaces_X2_length rfl rfl rfl hv_X2_length ⟨Nat.le_of_ble_eq_true rfl, Nat.le_of_ble_eq_true rfl⟩) (roP.V (va_recv hK hP (ci := 2) (q0 := 1) rfl rfl) (jP_sub (w2 := [(p1, .inr (2, [.ref b1, .int (nI 24), .int (nI k1)]))]) hP [1] rfl) hK hN) rfl rfl hl.1 rfl (lv_room (Nat.le_of_ble_eq_true rfl)) dX3_setPlaces_9 ⟨Nat.le_of_ble_eq_true rfl, Nat.le_of_ble_eq_true rfl⟩) ?_
      refine lv_icmp_ge (tgt := 71) hx hb dX3_setPlaces_12 (by decide) (fun c_12 => ?_) (fun c_12 => ?_)
      · have hi2 : i = k1 := by
          rcases Nat.lt_or_ge i k1 with q | q
          · exact absurd c_12 (nI_ge q (by omega))
          · omega
        subst hi2
        obtain ⟨hP9, hD9⟩ := jk_end (w2 := [(h0, .inr (3, [.ref p1, .ref p2, .ref e0, .ref l0, .ref m0])), (p1, .inr (2, [.ref b1, .int (nI 24), .int (nI i)])), (b1, .inl (cA, 72, .inl f1)), (e0, .inr (0, [.ref t0, .ref n0, .ref j0, .int (nI ec)])), (n0, .inl (cA, 24, .inl tn)), (l0, .inl (cA, 24, .inl F))]) hP hD [0, 1, 2, 3, 4, 5] (by decide) rfl
        have e9 : ([(h0, .inr (3, [.ref p1, .ref p2, .ref e0, .ref l0, .ref m0])), (p1, .inr (2, [.ref b1, .int (nI 24), .int (nI i)])), (b1, .inl (cA, 72, .inl f1)), (e0, .inr (0, [.ref t0, .ref n0, .ref j0, .int (nI ec)])), (n0, .inl (cA, 24, .inl tn)), (l0, .inl (cA, 24, .inl F))] : va_W) = [(h0, .inr (3, [.ref p1, .ref p2, .ref e0, .ref l0, .ref m0])), (p1, .inr (2, [.ref b1, .int (nI 24), .int (nI i)])), (b1, .inl (cA, 72, .inl f1)), (e0, .inr (0, [.ref t0, .ref n0, .ref j0, .int (nI ec)])), (n0, .inl (cA, 24, .inl tn)), (l0, .inl (cA, 24, .inl (plP f1 tn P i)))] := (by rw [hF])
        rw [e9] at hP9 hD9
        exact W.vret hx hb hr (fun t9 ht9 hW9 => ⟨⟨(), rfl, trivial, by rw [ht9]; exact hP9, hD9⟩, hS.F ht9⟩) hS.2.2 dX3_setPlaces_71
      · have hi2 : i < k1 := by
          rcases Nat.lt_or_ge i k1 with q | q
          · exact q
          · exact absurd (nI_le q (by omega)) c_12
        refine lv_iload_n hx hb dX3_setPlaces_15 rfl (lv_at hl 2 rfl) ?_
        refine lv_aload_n hx hb dX3_setPlaces_16 rfl (lv_at hl 0 rfl) ?_
        refine va_get (D := D) (ci := 3) (v := .ref l0) (C := RX3) (T := TX3) (N := 5) hx hb hts iw_X3_setPlaces_X3 hown hK hP 0 rfl rfl 3 (by decide) (hts (.fieldLink RX3 28 "JumpGuard" "places" "[I") (List.mem_of_getElem? (l := wsX3_setPlaces) (i := 2) rfl)) (fun _ h9 => h9) rfl dX3_setPlaces_17 ?_
        refine va_alen (v := nI 24) hx hb hK hP 5 0 rfl rfl rfl dX3_setPlaces_20 ?_
        refine lv_icmp_ge (tgt := 71) hx hb dX3_setPlaces_21 (by decide) (fun c_21 => ?_) (fun c_21 => ?_)
        · exact absurd c_21 (nI_ge (show i < 24 by omega) (by decide))
        · refine lv_aload_n hx hb dX3_setPlaces_24 rfl (lv_at hl 0 rfl) ?_
          refine va_get (D := D) (ci := 3) (v := .ref l0) (C := RX3) (T := TX3) (N := 5) hx hb hts iw_X3_setPlaces_X3 hown hK hP 0 rfl rfl 3 (by decide) (hts (.fieldLink RX3 28 "JumpGuard" "places" "[I") (List.mem_of_getElem? (l := wsX3_setPlaces) (i := 2) rfl)) (fun _ h9 => h9) rfl dX3_setPlaces_25 ?_
          refine lv_iload_n hx hb dX3_setPlaces_28 rfl (lv_at hl 2 rfl) ?_
          refine lv_iload_n hx hb dX3_setPlaces_29 rfl (lv_at hl 1 rfl) ?_
          refine jk_ast hx hb hK hP hD hS 5 0 rfl rfl (k := i) rfl (by omega) (by omega) dX3_setPlaces_30 (fun H locs hP hD hS => ?_)
          have hP : va_P D vwCl [(h0, .inr (3, [.ref p1, .ref p2, .ref e0, .ref l0, .ref m0])), (p1, .inr (2, [.ref b1, .int (nI 24), .int (nI k1)])), (b1, .inl (cA, 72, .inl f1)), (e0, .inr (0, [.ref t0, .ref n0, .ref j0, .int (nI ec)])), (n0, .inl (cA, 24, .inl tn)), (l0, .inl (cA, 24, .inl (upd F i (nI nx))))] H := hP
          have hD : va_D A [(h0, .inr (3, [.ref p1, .ref p2, .ref e0, .ref l0, .ref m0])), (p1, .inr (2, [.ref b1, .int (nI 24), .int (nI k1)])), (b1, .inl (cA, 72, .inl f1)), (e0, .inr (0, [.ref t0, .ref n0, .ref j0, .int (nI ec)])), (n0, .inl (cA, 24, .inl tn)), (l0, .inl (cA, 24, .inl (upd F i (nI nx))))] := hD
          refine lv_iinc (v := (nI (nx + 1))) (lv' := [(1, .int (nI (nx + 1))), (0, .ref h0), (2, .int (nI i))]) hx hb dX3_setPlaces_31 hl (k := 1) rfl (jn_a1 _) (by decide) rfl (fun ls hl => ?_)
          refine lv_aload_n hx hb dX3_setPlaces_34 rfl (lv_at hl 1 rfl) ?_
          refine va_get (D := D) (ci := 3) (v := .ref e0) (C := RX3) (T := TX3) (N := 5) hx hb hts iw_X3_setPlaces_X3 hown hK hP 0 rfl rfl 2 (by decide) (hts (.fieldLink RX3 24 "JumpGuard" "edges" "LJumpGuard$Edges;") (List.mem_of_getElem? (l := wsX3_setPlaces) (i := 3) rfl)) (fun _ h9 => h9) rfl dX3_setPlaces_35 ?_
          refine lv_iload_n hx hb dX3_setPlaces_38 rfl (lv_at hl 2 rfl) ?_
          refine jr_i (va_runV (As := [.int (nI i)]) (rest := []) ⟨hx, hb, hml, hown, hts⟩ (c_X0_numberOfTarget l D cA e0 t0 n0 j0 ec tn (nI i)) (cwV 1 hts gX3_setPlaces_X0_numberOfTarget rfl rfl rfl hv_X0_numberOfTarget ⟨Nat.le_of_ble_eq_true rfl, Nat.le_of_ble_eq_true rfl⟩) (roP.V (va_recv hK hP (ci := 0) (q0 := 3) rfl rfl) (jP_sub (w2 := [(e0, .inr (0, [.ref t0, .ref n0, .ref j0, .int (nI ec)])), (n0, .inl (cA, 24, .inl tn))]) hP [3, 4] rfl) hK hN) rfl rfl hl.1 rfl (lv_room (Nat.le_of_ble_eq_true rfl)) dX3_setPlaces_39 ⟨Nat.le_of_ble_eq_true rfl, Nat.le_of_ble_eq_true rfl⟩) ?_
          refine jk_top (show (jAt tn 24 (nI i)) = (tn i) from jAt_n (n := 24) (by omega) (by decide)) ?_
          refine lv_if_eq (tgt := 48) hx hb dX3_setPlaces_42 (by decide) (fun c_42 => ?_) (fun c_42 => ?_)
          · refine lv_aload_n hx hb dX3_setPlaces_48 rfl (lv_at hl 1 rfl) ?_
            refine va_get (D := D) (ci := 3) (v := .ref p1) (C := RX3) (T := TX3) (N := 5) hx hb hts iw_X3_setPlaces_X3 hown hK hP 0 rfl rfl 0 (by decide) (hts (.fieldLink RX3 14 "JumpGuard" "sourceProgram" "LJumpGuard$Program;") (List.mem_of_getElem? (l := wsX3_setPlaces) (i := 1) rfl)) (fun _ h9 => h9) rfl dX3_setPlaces_49 ?_
            refine lv_iload_n hx hb dX3_setPlaces_52 rfl (lv_at hl 2 rfl) ?_
            refine lv_iconst (v := 0) hx hb dX3_setPlaces_53 (by decide) ?_
            refine jr_i (va_runV (As := [.int (nI i), .int 0]) (rest := []) ⟨hx, hb, hml, hown, hts⟩ (c_X2_get l D cA p1 b1 24 k1 72 f1 (nI i) 0 (by omega) (by omega)) (cwV 2 hts gX3_setPlaces_X2_get rfl rfl rfl hv_X2_get ⟨Nat.le_of_ble_eq_true rfl, Nat.le_of_ble_eq_true rfl⟩) (roP.V (va_recv hK hP (ci := 2) (q0 := 1) rfl rfl) (jP_sub (w2 := [(p1, .inr (2, [.ref b1, .int (nI 24), .int (nI k1)])), (b1, .inl (cA, 72, .inl f1))]) hP [1, 2] rfl) hK hN) rfl rfl hl.1 rfl (lv_room (Nat.le_of_ble_eq_true rfl)) dX3_setPlaces_54 ⟨Nat.le_of_ble_eq_true rfl, Nat.le_of_ble_eq_true rfl⟩) ?_
            refine jk_top (show (pGet f1 k1 (nI i) 0) = (f1 (i * 3)) from pGet_at (q := 0) hi2 (by decide) (by omega)) ?_
            refine lv_bipush (v := 8) hx hb dX3_setPlaces_57 (by decide) ?_
            refine lv_icmp_ne (tgt := 65) hx hb dX3_setPlaces_59 (by decide) (fun c_59 => ?_) (fun c_59 => ?_)
            · refine lv_iinc (v := (nI (i + 1))) (lv' := [(2, .int (nI (i + 1))), (1, .int (nI (nx + 1))), (0, .ref h0)]) hx hb dX3_setPlaces_65 hl (k := 2) rfl (jn_a1 _) (by decide) rfl (fun ls hl => ?_)
              refine lv_goto (tgt := 4) hx hb dX3_setPlaces_68 (by decide) ?_
              exact ih4 (i + 1) (nx + 1) (upd F i (nI nx)) (by omega) (by omega) (by subst hnx; show _ = plN f1 tn i + 1 + (if tn i = 0 then 0 else 1) + (if f1 (i * 3) = 8 then 1 else 0); rw [if_pos c_42, if_neg c_59]) (by subst hF; subst hnx; exact plP_s f1 tn P i) _ _ (jP_sub (w2 := [(h0, .inr (3, [.ref p1, .ref p2, .ref e0, .ref l0, .ref m0])), (p1, .inr (2, [.ref b1, .int (nI 24), .int (nI k1)])), (b1, .inl (cA, 72, .inl f1)), (e0, .inr (0, [.ref t0, .ref n0, .ref j0, .int (nI ec)])), (n0, .inl (cA, 24, .inl tn)), (l0, .inl (cA, 24, .inl (upd F i (nI nx))))]) hP [0, 1, 2, 3, 4, 5] rfl) (hD.sub (ws' := [(h0, .inr (3, [.ref p1, .ref p2, .ref e0, .ref l0, .ref m0])), (p1, .inr (2, [.ref b1, .int (nI 24), .int (nI k1)])), (b1, .inl (cA, 72, .inl f1)), (e0, .inr (0, [.ref t0, .ref n0, .ref j0, .int (nI ec)])), (n0, .inl (cA, 24, .inl tn)), (l0, .inl (cA, 24, .inl (upd F i (nI nx))))]) [0, 1, 2, 3, 4, 5] (by decide) rfl) hS ls (lv_sub hl [2, 1, 0] rfl)
            · refine lv_iinc (v := (nI ((nx + 1) + 1))) (lv' := [(1, .int (nI ((nx + 1) + 1))), (0, .ref h0), (2, .int (nI i))]) hx hb dX3_setPlaces_62 hl (k := 0) rfl (jn_a1 _) (by decide) rfl (fun ls hl => ?_)
              refine lv_iinc (v := (nI (i + 1))) (lv' := [(2, .int (nI (i + 1))), (1, .int (nI ((nx + 1) + 1))), (0, .ref h0)]) hx hb dX3_setPlaces_65 hl (k := 2) rfl (jn_a1 _) (by decide) rfl (fun ls hl => ?_)
              refine lv_goto (tgt := 4) hx hb dX3_setPlaces_68 (by decide) ?_
              exact ih4 (i + 1) ((nx + 1) + 1) (upd F i (nI nx)) (by omega) (by omega) (by subst hnx; show _ = plN f1 tn i + 1 + (if tn i = 0 then 0 else 1) + (if f1 (i * 3) = 8 then 1 else 0); rw [if_pos c_42, if_pos c_59]) (by subst hF; subst hnx; exact plP_s f1 tn P i) _ _ (jP_sub (w2 := [(h0, .inr (3, [.ref p1, .ref p2, .ref e0, .ref l0, .ref m0])), (p1, .inr (2, [.ref b1, .int (nI 24), .int (nI k1)])), (b1, .inl (cA, 72, .inl f1)), (e0, .inr (0, [.ref t0, .ref n0, .ref j0, .int (nI ec)])), (n0, .inl (cA, 24, .inl tn)), (l0, .inl (cA, 24, .inl (upd F i (nI nx))))]) hP [0, 1, 2, 3, 4, 5] rfl) (hD.sub (ws' := [(h0, .inr (3, [.ref p1, .ref p2, .ref e0, .ref l0, .ref m0])), (p1, .inr (2, [.ref b1, .int (nI 24), .int (nI k1)])), (b1, .inl (cA, 72, .inl f1)), (e0, .inr (0, [.ref t0, .ref n0, .ref j0, .int (nI ec)])), (n0, .inl (cA, 24, .inl tn)), (l0, .inl (cA, 24, .inl (upd F i (nI nx))))]) [0, 1, 2, 3, 4, 5] (by decide) rfl) hS ls (lv_sub hl [2, 1, 0] rfl)
          · refine lv_iinc (v := (nI ((nx + 1) + 1))) (lv' := [(1, .int (nI ((nx + 1) + 1))), (0, .ref h0), (2, .int (nI i))]) hx hb dX3_setPlaces_45 hl (k := 0) rfl (jn_a1 _) (by decide) rfl (fun ls hl => ?_)
            refine lv_aload_n hx hb dX3_setPlaces_48 rfl (lv_at hl 1 rfl) ?_
            refine va_get (D := D) (ci := 3) (v := .ref p1) (C := RX3) (T := TX3) (N := 5) hx hb hts iw_X3_setPlaces_X3 hown hK hP 0 rfl rfl 0 (by decide) (hts (.fieldLink RX3 14 "JumpGuard" "sourceProgram" "LJumpGuard$Program;") (List.mem_of_getElem? (l := wsX3_setPlaces) (i := 1) rfl)) (fun _ h9 => h9) rfl dX3_setPlaces_49 ?_
            refine lv_iload_n hx hb dX3_setPlaces_52 rfl (lv_at hl 2 rfl) ?_
            refine lv_iconst (v := 0) hx hb dX3_setPlaces_53 (by decide) ?_
            refine jr_i (va_runV (As := [.int (nI i), .int 0]) (rest := []) ⟨hx, hb, hml, hown, hts⟩ (c_X2_get l D cA p1 b1 24 k1 72 f1 (nI i) 0 (by omega) (by omega)) (cwV 2 hts gX3_setPlaces_X2_get rfl rfl rfl hv_X2_get ⟨Nat.le_of_ble_eq_true rfl, Nat.le_of_ble_eq_true rfl⟩) (roP.V (va_recv hK hP (ci := 2) (q0 := 1) rfl rfl) (jP_sub (w2 := [(p1, .inr (2, [.ref b1, .int (nI 24), .int (nI k1)])), (b1, .inl (cA, 72, .inl f1))]) hP [1, 2] rfl) hK hN) rfl rfl hl.1 rfl (lv_room (Nat.le_of_ble_eq_true rfl)) dX3_setPlaces_54 ⟨Nat.le_of_ble_eq_true rfl, Nat.le_of_ble_eq_true rfl⟩) ?_
            refine jk_top (show (pGet f1 k1 (nI i) 0) = (f1 (i * 3)) from pGet_at (q := 0) hi2 (by decide) (by omega)) ?_
            refine lv_bipush (v := 8) hx hb dX3_setPlaces_57 (by decide) ?_
            refine lv_icmp_ne (tgt := 65) hx hb dX3_setPlaces_59 (by decide) (fun c_59 => ?_) (fun c_59 => ?_)
            · refine lv_iinc (v := (nI (i + 1))) (lv' := [(2, .int (nI (i + 1))), (1, .int (nI ((nx + 1) + 1))), (0, .ref h0)]) hx hb dX3_setPlaces_65 hl (k := 2) rfl (jn_a1 _) (by decide) rfl (fun ls hl => ?_)
              refine lv_goto (tgt := 4) hx hb dX3_setPlaces_68 (by decide) ?_
              exact ih4 (i + 1) ((nx + 1) + 1) (upd F i (nI nx)) (by omega) (by omega) (by subst hnx; show _ = plN f1 tn i + 1 + (if tn i = 0 then 0 else 1) + (if f1 (i * 3) = 8 then 1 else 0); rw [if_neg c_42, if_neg c_59]) (by subst hF; subst hnx; exact plP_s f1 tn P i) _ _ (jP_sub (w2 := [(h0, .inr (3, [.ref p1, .ref p2, .ref e0, .ref l0, .ref m0])), (p1, .inr (2, [.ref b1, .int (nI 24), .int (nI k1)])), (b1, .inl (cA, 72, .inl f1)), (e0, .inr (0, [.ref t0, .ref n0, .ref j0, .int (nI ec)])), (n0, .inl (cA, 24, .inl tn)), (l0, .inl (cA, 24, .inl (upd F i (nI nx))))]) hP [0, 1, 2, 3, 4, 5] rfl) (hD.sub (ws' := [(h0, .inr (3, [.ref p1, .ref p2, .ref e0, .ref l0, .ref m0])), (p1, .inr (2, [.ref b1, .int (nI 24), .int (nI k1)])), (b1, .inl (cA, 72, .inl f1)), (e0, .inr (0, [.ref t0, .ref n0, .ref j0, .int (nI ec)])), (n0, .inl (cA, 24, .inl tn)), (l0, .inl (cA, 24, .inl (upd F i (nI nx))))]) [0, 1, 2, 3, 4, 5] (by decide) rfl) hS ls (lv_sub hl [2, 1, 0] rfl)
            · refine lv_iinc (v := (nI (((nx + 1) + 1) + 1))) (lv' := [(1, .int (nI (((nx + 1) + 1) + 1))), (0, .ref h0), (2, .int (nI i))]) hx hb dX3_setPlaces_62 hl (k := 0) rfl (jn_a1 _) (by decide) rfl (fun ls hl => ?_)
              refine lv_iinc (v := (nI (i + 1))) (lv' := [(2, .int (nI (i + 1))), (1, .int (nI (((nx + 1) + 1) + 1))), (0, .ref h0)]) hx hb dX3_setPlaces_65 hl (k := 2) rfl (jn_a1 _) (by decide) rfl (fun ls hl => ?_)
              refine lv_goto (tgt := 4) hx hb dX3_setPlaces_68 (by decide) ?_
              exact ih4 (i + 1) (((nx + 1) + 1) + 1) (upd F i (nI nx)) (by omega) (by omega) (by subst hnx; show _ = plN f1 tn i + 1 + (if tn i = 0 then 0 else 1) + (if f1 (i * 3) = 8 then 1 else 0); rw [if_neg c_42, if_pos c_59]) (by subst hF; subst hnx; exact plP_s f1 tn P i) _ _ (jP_sub (w2 := [(h0, .inr (3, [.ref p1, .ref p2, .ref e0, .ref l0, .ref m0])), (p1, .inr (2, [.ref b1, .int (nI 24), .int (nI k1)])), (b1, .inl (cA, 72, .inl f1)), (e0, .inr (0, [.ref t0, .ref n0, .ref j0, .int (nI ec)])), (n0, .inl (cA, 24, .inl tn)), (l0, .inl (cA, 24, .inl (upd F i (nI nx))))]) hP [0, 1, 2, 3, 4, 5] rfl) (hD.sub (ws' := [(h0, .inr (3, [.ref p1, .ref p2, .ref e0, .ref l0, .ref m0])), (p1, .inr (2, [.ref b1, .int (nI 24), .int (nI k1)])), (b1, .inl (cA, 72, .inl f1)), (e0, .inr (0, [.ref t0, .ref n0, .ref j0, .int (nI ec)])), (n0, .inl (cA, 24, .inl tn)), (l0, .inl (cA, 24, .inl (upd F i (nI nx))))]) [0, 1, 2, 3, 4, 5] (by decide) rfl) hS ls (lv_sub hl [2, 1, 0] rfl)
  exact loop4 (k1 + 1) 0 0 P (by omega) (by omega) rfl (plP_0 f1 tn P) _ _ (jP_sub (w2 := [(h0, .inr (3, [.ref p1, .ref p2, .ref e0, .ref l0, .ref m0])), (p1, .inr (2, [.ref b1, .int (nI 24), .int (nI k1)])), (b1, .inl (cA, 72, .inl f1)), (e0, .inr (0, [.ref t0, .ref n0, .ref j0, .int (nI ec)])), (n0, .inl (cA, 24, .inl tn)), (l0, .inl (cA, 24, .inl P))]) hP [0, 1, 2, 3, 4, 5] rfl) (hD.sub (ws' := [(h0, .inr (3, [.ref p1, .ref p2, .ref e0, .ref l0, .ref m0])), (p1, .inr (2, [.ref b1, .int (nI 24), .int (nI k1)])), (b1, .inl (cA, 72, .inl f1)), (e0, .inr (0, [.ref t0, .ref n0, .ref j0, .int (nI ec)])), (n0, .inl (cA, 24, .inl tn)), (l0, .inl (cA, 24, .inl P))]) [0, 1, 2, 3, 4, 5] (by decide) rfl) hS ls (lv_sub hl [2, 1, 0] rfl)
set_option maxHeartbeats 4000000 in
set_option maxRecDepth 100000 in
theorem c_X3_appendGuarded (l : Launch) (D : va_G) (cA : ClassId) (sz : Nat) (h0 : Nat) (p1 : Nat) (p2 : Nat) (e0 : Nat) (l0 : Nat) (m0 : Nat) (b1 : Nat) (k1 : Nat) (b2 : Nat) (k2 : Nat) (t0 : Nat) (n0 : Nat) (j0 : Nat) (ec : Nat) (f1 : Nat → Int32) (f2 : Nat → Int32) (tn : Nat → Int32) (jn : Nat → Int32) (P : Nat → Int32) (i : Nat) (hk1 : k1 ≤ 24) (hi : i < k1) (hg : k2 + 3 ≤ 72) : Met l yX3_appendGuarded wsX3_appendGuarded ({ frames := 2, cells := 0, slots := 0, locals := 43 }) (rwP D cA [.ref h0, .int (nI i)] sz [(h0, .inr (3, [.ref p1, .ref p2, .ref e0, .ref l0, .ref m0])), (p1, .inr (2, [.ref b1, .int (nI 24), .int (nI k1)])), (b1, .inl (cA, 72, .inl f1)), (p2, .inr (2, [.ref b2, .int (nI 72), .int (nI k2)])), (b2, .inl (cA, 216, .inl f2)), (e0, .inr (0, [.ref t0, .ref n0, .ref j0, .int (nI ec)])), (n0, .inl (cA, 24, .inl tn)), (j0, .inl (cA, 24, .inl jn)), (l0, .inl (cA, 24, .inl P))]) (rwV D (va_A [(h0, .inr (3, [.ref p1, .ref p2, .ref e0, .ref l0, .ref m0])), (p1, .inr (2, [.ref b1, .int (nI 24), .int (nI k1)])), (b1, .inl (cA, 72, .inl f1)), (p2, .inr (2, [.ref b2, .int (nI 72), .int (nI k2)])), (b2, .inl (cA, 216, .inl f2)), (e0, .inr (0, [.ref t0, .ref n0, .ref j0, .int (nI ec)])), (n0, .inl (cA, 24, .inl tn)), (j0, .inl (cA, 24, .inl jn)), (l0, .inl (cA, 24, .inl P))] sz) [(h0, .inr (3, [.ref p1, .ref p2, .ref e0, .ref l0, .ref m0])), (p1, .inr (2, [.ref b1, .int (nI 24), .int (nI k1)])), (b1, .inl (cA, 72, .inl f1)), (p2, .inr (2, [.ref b2, .int (nI 72), .int (nI (gA f1 tn jn P i (k2, f2)).1)])), (b2, .inl (cA, 216, .inl ((gA f1 tn jn P i (k2, f2)).2))), (e0, .inr (0, [.ref t0, .ref n0, .ref j0, .int (nI ec)])), (n0, .inl (cA, 24, .inl tn)), (j0, .inl (cA, 24, .inl jn)), (l0, .inl (cA, 24, .inl P))]) 0 0 (va_A [(h0, .inr (3, [.ref p1, .ref p2, .ref e0, .ref l0, .ref m0])), (p1, .inr (2, [.ref b1, .int (nI 24), .int (nI k1)])), (b1, .inl (cA, 72, .inl f1)), (p2, .inr (2, [.ref b2, .int (nI 72), .int (nI k2)])), (b2, .inl (cA, 216, .inl f2)), (e0, .inr (0, [.ref t0, .ref n0, .ref j0, .int (nI ec)])), (n0, .inl (cA, 24, .inl tn)), (j0, .inl (cA, 24, .inl jn)), (l0, .inl (cA, 24, .inl P))] sz) := by
  refine Met.ofW (cc := cX3_appendGuarded) (maxL := 6) (ret := none) (by decide) rfl ?_
  intro p e s m args below meth c s₁ B hml hv
  obtain ⟨rfl, hsz, hP, hK, hN, hD0⟩ := hv
  have hx := B.exec
  have hb := B.bytes
  have hr := B.returns
  have hts := atoms_spec (ws := wsX3_appendGuarded) B.pre
  have hown : s.vm.findClass RX3 = some m.cls := findClass_of_methodNamed B.named
  have hlocks := B.notSynchronized
  subst hsz
  have hD := hD0.self (sz := s.heap.size)
  generalize hAe : va_A [(h0, .inr (3, [.ref p1, .ref p2, .ref e0, .ref l0, .ref m0])), (p1, .inr (2, [.ref b1, .int (nI 24), .int (nI k1)])), (b1, .inl (cA, 72, .inl f1)), (p2, .inr (2, [.ref b2, .int (nI 72), .int (nI k2)])), (b2, .inl (cA, 216, .inl f2)), (e0, .inr (0, [.ref t0, .ref n0, .ref j0, .int (nI ec)])), (n0, .inl (cA, 24, .inl tn)), (j0, .inl (cA, 24, .inl jn)), (l0, .inl (cA, 24, .inl P))] s.heap.size = A at hD ⊢
  have hA : ∀ q : Nat, s.heap.size ≤ q → A q := fun q h => by rw [← hAe]; exact Or.inr h
  have hS : va_S A s.heap s.heap [] := va_S.rf
  have hl := lv_entry ([.ref h0, .int (nI i)]) (n := 6) (Nat.le_of_ble_eq_true rfl)
  rw [lg_entry_eq]
  generalize (lg_sl ([.ref h0, .int (nI i)]) ++ List.replicate (6 - (lg_sl ([.ref h0, .int (nI i)])).length) Slot.unset).toArray = ls at hl ⊢
  have hl : lv_has ls 6 [(0, .ref h0), (1, .int (nI i))] := hl
  refine lv_aload_n hx hb dX3_appendGuarded_0 rfl (lv_at hl 0 rfl) ?_
  refine va_get (D := D) (ci := 3) (v := .ref p1) (C := RX3) (T := TX3) (N := 5) hx hb hts iw_X3_appendGuarded_X3 hown hK hP 0 rfl rfl 0 (by decide) (hts (.fieldLink RX3 14 "JumpGuard" "sourceProgram" "LJumpGuard$Program;") (List.mem_of_getElem? (l := wsX3_appendGuarded) (i := 1) rfl)) (fun _ h9 => h9) rfl dX3_appendGuarded_1 ?_
  refine lv_iload_n hx hb dX3_appendGuarded_4 rfl (lv_at hl 1 rfl) ?_
  refine lv_iconst (v := 0) hx hb dX3_appendGuarded_5 (by decide) ?_
  refine jr_i (va_runV (As := [.int (nI i), .int 0]) (rest := []) ⟨hx, hb, hml, hown, hts⟩ (c_X2_get l D cA p1 b1 24 k1 72 f1 (nI i) 0 (by omega) (by omega)) (cwV 2 hts gX3_appendGuarded_X2_get rfl rfl rfl hv_X2_get ⟨Nat.le_of_ble_eq_true rfl, Nat.le_of_ble_eq_true rfl⟩) (roP.V (va_recv hK hP (ci := 2) (q0 := 1) rfl rfl) (jP_sub (w2 := [(p1, .inr (2, [.ref b1, .int (nI 24), .int (nI k1)])), (b1, .inl (cA, 72, .inl f1))]) hP [1, 2] rfl) hK hN) rfl rfl hl.1 rfl (lv_room (Nat.le_of_ble_eq_true rfl)) dX3_appendGuarded_6 ⟨Nat.le_of_ble_eq_true rfl, Nat.le_of_ble_eq_true rfl⟩) ?_
  refine jk_top (show (pGet f1 k1 (nI i) 0) = (f1 (i * 3)) from pGet_at (q := 0) hi (by decide) (by omega)) ?_
  refine lv_istore_n (lv' := [(2, .int (f1 (i * 3))), (0, .ref h0), (1, .int (nI i))]) hx hb dX3_appendGuarded_9 rfl hl (by decide) rfl (fun ls hl => ?_)
  refine lv_aload_n hx hb dX3_appendGuarded_10 rfl (lv_at hl 1 rfl) ?_
  refine va_get (D := D) (ci := 3) (v := .ref p1) (C := RX3) (T := TX3) (N := 5) hx hb hts iw_X3_appendGuarded_X3 hown hK hP 0 rfl rfl 0 (by decide) (hts (.fieldLink RX3 14 "JumpGuard" "sourceProgram" "LJumpGuard$Program;") (List.mem_of_getElem? (l := wsX3_appendGuarded) (i := 1) rfl)) (fun _ h9 => h9) rfl dX3_appendGuarded_11 ?_
  refine lv_iload_n hx hb dX3_appendGuarded_14 rfl (lv_at hl 2 rfl) ?_
  refine lv_iconst (v := 1) hx hb dX3_appendGuarded_15 (by decide) ?_
  refine jr_i (va_runV (As := [.int (nI i), .int 1]) (rest := []) ⟨hx, hb, hml, hown, hts⟩ (c_X2_get l D cA p1 b1 24 k1 72 f1 (nI i) 1 (by omega) (by omega)) (cwV 2 hts gX3_appendGuarded_X2_get rfl rfl rfl hv_X2_get ⟨Nat.le_of_ble_eq_true rfl, Nat.le_of_ble_eq_true rfl⟩) (roP.V (va_recv hK hP (ci := 2) (q0 := 1) rfl rfl) (jP_sub (w2 := [(p1, .inr (2, [.ref b1, .int (nI 24), .int (nI k1)])), (b1, .inl (cA, 72, .inl f1))]) hP [1, 2] rfl) hK hN) rfl rfl hl.1 rfl (lv_room (Nat.le_of_ble_eq_true rfl)) dX3_appendGuarded_16 ⟨Nat.le_of_ble_eq_true rfl, Nat.le_of_ble_eq_true rfl⟩) ?_
  refine jk_top (show (pGet f1 k1 (nI i) 1) = (f1 (i * 3 + 1)) from pGet_at (q := 1) hi (by decide) (by omega)) ?_
  refine lv_istore_n (lv' := [(3, .int (f1 (i * 3 + 1))), (2, .int (f1 (i * 3))), (0, .ref h0), (1, .int (nI i))]) hx hb dX3_appendGuarded_19 rfl hl (by decide) rfl (fun ls hl => ?_)
  refine lv_aload_n hx hb dX3_appendGuarded_20 rfl (lv_at hl 2 rfl) ?_
  refine va_get (D := D) (ci := 3) (v := .ref p1) (C := RX3) (T := TX3) (N := 5) hx hb hts iw_X3_appendGuarded_X3 hown hK hP 0 rfl rfl 0 (by decide) (hts (.fieldLink RX3 14 "JumpGuard" "sourceProgram" "LJumpGuard$Program;") (List.mem_of_getElem? (l := wsX3_appendGuarded) (i := 1) rfl)) (fun _ h9 => h9) rfl dX3_appendGuarded_21 ?_
  refine lv_iload_n hx hb dX3_appendGuarded_24 rfl (lv_at hl 3 rfl) ?_
  refine lv_iconst (v := 2) hx hb dX3_appendGuarded_25 (by decide) ?_
  refine jr_i (va_runV (As := [.int (nI i), .int 2]) (rest := []) ⟨hx, hb, hml, hown, hts⟩ (c_X2_get l D cA p1 b1 24 k1 72 f1 (nI i) 2 (by omega) (by omega)) (cwV 2 hts gX3_appendGuarded_X2_get rfl rfl rfl hv_X2_get ⟨Nat.le_of_ble_eq_true rfl, Nat.le_of_ble_eq_true rfl⟩) (roP.V (va_recv hK hP (ci := 2) (q0 := 1) rfl rfl) (jP_sub (w2 := [(p1, .inr (2, [.ref b1, .int (nI 24), .int (nI k1)])), (b1, .inl (cA, 72, .inl f1))]) hP [1, 2] rfl) hK hN) rfl rfl hl.1 rfl (lv_room (Nat.le_of_ble_eq_true rfl)) dX3_appendGuarded_26 ⟨Nat.le_of_ble_eq_true rfl, Nat.le_of_ble_eq_true rfl⟩) ?_
  refine jk_top (show (pGet f1 k1 (nI i) 2) = (f1 (i * 3 + 2)) from pGet_at (q := 2) hi (by decide) (by omega)) ?_
  refine lv_istore (lv' := [(4, .int (f1 (i * 3 + 2))), (3, .int (f1 (i * 3 + 1))), (2, .int (f1 (i * 3))), (0, .ref h0), (1, .int (nI i))]) hx hb dX3_appendGuarded_29 hl (by decide) rfl (fun ls hl => ?_)
  refine lv_aload_n hx hb dX3_appendGuarded_31 rfl (lv_at hl 3 rfl) ?_
  refine va_get (D := D) (ci := 3) (v := .ref e0) (C := RX3) (T := TX3) (N := 5) hx hb hts iw_X3_appendGuarded_X3 hown hK hP 0 rfl rfl 2 (by decide) (hts (.fieldLink RX3 24 "JumpGuard" "edges" "LJumpGuard$Edges;") (List.mem_of_getElem? (l := wsX3_appendGuarded) (i := 2) rfl)) (fun _ h9 => h9) rfl dX3_appendGuarded_32 ?_
  refine lv_iload_n hx hb dX3_appendGuarded_35 rfl (lv_at hl 4 rfl) ?_
  refine jr_i (va_runV (As := [.int (nI i)]) (rest := []) ⟨hx, hb, hml, hown, hts⟩ (c_X0_numberOfTarget l D cA e0 t0 n0 j0 ec tn (nI i)) (cwV 1 hts gX3_appendGuarded_X0_numberOfTarget rfl rfl rfl hv_X0_numberOfTarget ⟨Nat.le_of_ble_eq_true rfl, Nat.le_of_ble_eq_true rfl⟩) (roP.V (va_recv hK hP (ci := 0) (q0 := 5) rfl rfl) (jP_sub (w2 := [(e0, .inr (0, [.ref t0, .ref n0, .ref j0, .int (nI ec)])), (n0, .inl (cA, 24, .inl tn))]) hP [5, 6] rfl) hK hN) rfl rfl hl.1 rfl (lv_room (Nat.le_of_ble_eq_true rfl)) dX3_appendGuarded_36 ⟨Nat.le_of_ble_eq_true rfl, Nat.le_of_ble_eq_true rfl⟩) ?_
  refine jk_top (show (jAt tn 24 (nI i)) = (tn i) from jAt_n (n := 24) (by omega) (by decide)) ?_
  refine lv_istore (lv' := [(5, .int (tn i)), (4, .int (f1 (i * 3 + 2))), (3, .int (f1 (i * 3 + 1))), (2, .int (f1 (i * 3))), (0, .ref h0), (1, .int (nI i))]) hx hb dX3_appendGuarded_39 hl (by decide) rfl (fun ls hl => ?_)
  refine lv_iload hx hb dX3_appendGuarded_41 (lv_at hl 0 rfl) ?_
  refine lv_if_eq (tgt := 58) hx hb dX3_appendGuarded_43 (by decide) (fun c_43 => ?_) (fun c_43 => ?_)
  · refine lv_iload_n hx hb dX3_appendGuarded_58 rfl (lv_at hl 3 rfl) ?_
    refine lv_bipush (v := 8) hx hb dX3_appendGuarded_59 (by decide) ?_
    refine lv_icmp_ne (tgt := 82) hx hb dX3_appendGuarded_61 (by decide) (fun c_61 => ?_) (fun c_61 => ?_)
    · refine lv_aload_n hx hb dX3_appendGuarded_82 rfl (lv_at hl 4 rfl) ?_
      refine va_get (D := D) (ci := 3) (v := .ref p2) (C := RX3) (T := TX3) (N := 5) hx hb hts iw_X3_appendGuarded_X3 hown hK hP 0 rfl rfl 1 (by decide) (hts (.fieldLink RX3 18 "JumpGuard" "guardedProgram" "LJumpGuard$Program;") (List.mem_of_getElem? (l := wsX3_appendGuarded) (i := 3) rfl)) (fun _ h9 => h9) rfl dX3_appendGuarded_83 ?_
      refine lv_iload_n hx hb dX3_appendGuarded_86 rfl (lv_at hl 3 rfl) ?_
      refine lv_iload_n hx hb dX3_appendGuarded_87 rfl (lv_at hl 3 rfl) ?_
      refine lv_bipush (v := 6) hx hb dX3_appendGuarded_88 (by decide) ?_
      refine lv_icmp_ne (tgt := 101) hx hb dX3_appendGuarded_90 (by decide) (fun c_90 => ?_) (fun c_90 => ?_)
      · refine lv_iload_n hx hb dX3_appendGuarded_101 rfl (lv_at hl 2 rfl) ?_
        refine lv_iload_n hx hb dX3_appendGuarded_102 rfl (lv_at hl 3 rfl) ?_
        refine jr_i (va_runS (As := [.int (f1 (i * 3))]) (rest := [.int (f1 (i * 3 + 1)), .int (f1 (i * 3)), .ref p2]) ⟨hx, hb, hml, hown, hts⟩ (c_X3_holdsAddressInB l D cA (f1 (i * 3))) (va_cwS 1 hts gX3_appendGuarded_X3_holdsAddressInB rfl rfl rfl hv_X3_holdsAddressInB.2 ⟨Nat.le_of_ble_eq_true rfl, Nat.le_of_ble_eq_true rfl⟩) (roP.S (av := [.int (f1 (i * 3))]) (jP_sub (w2 := []) hP [] rfl) hK hN) rfl rfl hl.1 rfl (lv_room (Nat.le_of_ble_eq_true rfl)) dX3_appendGuarded_103 ⟨Nat.le_of_ble_eq_true rfl, Nat.le_of_ble_eq_true rfl⟩) ?_
        refine lv_if_eq (tgt := 118) hx hb dX3_appendGuarded_106 (by decide) (fun c_106 => ?_) (fun c_106 => ?_)
        · replace c_106 := jB_z.mp c_106
          refine lv_iload hx hb dX3_appendGuarded_118 (lv_at hl 1 rfl) ?_
          refine jw_v (va_runV (As := [.int (f1 (i * 3)), .int (f1 (i * 3 + 1)), .int (f1 (i * 3 + 2))]) (rest := []) ⟨hx, hb, hml, hown, hts⟩ (c_X2_append l D cA s.heap.size p2 b2 72 k2 216 f2 (f1 (i * 3)) (f1 (i * 3 + 1)) (f1 (i * 3 + 2)) (by omega) (by first | assumption | omega) (by omega)) (cwV 3 hts gX3_appendGuarded_X2_append rfl rfl rfl hv_X2_append ⟨Nat.le_of_ble_eq_true rfl, Nat.le_of_ble_eq_true rfl⟩) (rwP.V (wc := [(p2, .inr (2, [.ref b2, .int (nI 72), .int (nI k2)])), (b2, .inl (cA, 216, .inl f2))]) (va_recv hK hP (ci := 2) (q0 := 3) rfl rfl) hP hD hK hN [3, 4] (by decide) rfl) rfl rfl hl.1 rfl (lv_room (Nat.le_of_ble_eq_true rfl)) dX3_appendGuarded_120 ⟨Nat.le_of_ble_eq_true rfl, Nat.le_of_ble_eq_true rfl⟩) hP hD hS hA [3, 4] [0, 1, 2, 5, 6, 7, 8] [0, 1, 2, 7, 8, 3, 4, 5, 6] (wr := [(h0, .inr (3, [.ref p1, .ref p2, .ref e0, .ref l0, .ref m0])), (p1, .inr (2, [.ref b1, .int (nI 24), .int (nI k1)])), (b1, .inl (cA, 72, .inl f1)), (e0, .inr (0, [.ref t0, .ref n0, .ref j0, .int (nI ec)])), (n0, .inl (cA, 24, .inl tn)), (j0, .inl (cA, 24, .inl jn)), (l0, .inl (cA, 24, .inl P))]) (w2 := [(h0, .inr (3, [.ref p1, .ref p2, .ref e0, .ref l0, .ref m0])), (p1, .inr (2, [.ref b1, .int (nI 24), .int (nI k1)])), (b1, .inl (cA, 72, .inl f1)), (p2, .inr (2, [.ref b2, .int (nI 72), .int (nI (k2 + 1))])), (b2, .inl (cA, 216, .inl (pApp f2 k2 (f1 (i * 3)) (f1 (i * 3 + 1)) (f1 (i * 3 + 2))))), (e0, .inr (0, [.ref t0, .ref n0, .ref j0, .int (nI ec)])), (n0, .inl (cA, 24, .inl tn)), (j0, .inl (cA, 24, .inl jn)), (l0, .inl (cA, 24, .inl P))]) rfl rfl (by decide) (by decide) (by decide) rfl (fun H locs hP hD hS => ?_)
          obtain ⟨hP9, hD9⟩ := jk_end (w2 := [(h0, .inr (3, [.ref p1, .ref p2, .ref e0, .ref l0, .ref m0])), (p1, .inr (2, [.ref b1, .int (nI 24), .int (nI k1)])), (b1, .inl (cA, 72, .inl f1)), (p2, .inr (2, [.ref b2, .int (nI 72), .int (nI (k2 + 1))])), (b2, .inl (cA, 216, .inl (pApp f2 k2 (f1 (i * 3)) (f1 (i * 3 + 1)) (f1 (i * 3 + 2))))), (e0, .inr (0, [.ref t0, .ref n0, .ref j0, .int (nI ec)])), (n0, .inl (cA, 24, .inl tn)), (j0, .inl (cA, 24, .inl jn)), (l0, .inl (cA, 24, .inl P))]) hP hD [0, 1, 2, 3, 4, 5, 6, 7, 8] (by decide) rfl
          have e9 : ([(h0, .inr (3, [.ref p1, .ref p2, .ref e0, .ref l0, .ref m0])), (p1, .inr (2, [.ref b1, .int (nI 24), .int (nI k1)])), (b1, .inl (cA, 72, .inl f1)), (p2, .inr (2, [.ref b2, .int (nI 72), .int (nI (k2 + 1))])), (b2, .inl (cA, 216, .inl (pApp f2 k2 (f1 (i * 3)) (f1 (i * 3 + 1)) (f1 (i * 3 + 2))))), (e0, .inr (0, [.ref t0, .ref n0, .ref j0, .int (nI ec)])), (n0, .inl (cA, 24, .inl tn)), (j0, .inl (cA, 24, .inl jn)), (l0, .inl (cA, 24, .inl P))] : va_W) = [(h0, .inr (3, [.ref p1, .ref p2, .ref e0, .ref l0, .ref m0])), (p1, .inr (2, [.ref b1, .int (nI 24), .int (nI k1)])), (b1, .inl (cA, 72, .inl f1)), (p2, .inr (2, [.ref b2, .int (nI 72), .int (nI (gA f1 tn jn P i (k2, f2)).1)])), (b2, .inl (cA, 216, .inl ((gA f1 tn jn P i (k2, f2)).2))), (e0, .inr (0, [.ref t0, .ref n0, .ref j0, .int (nI ec)])), (n0, .inl (cA, 24, .inl tn)), (j0, .inl (cA, 24, .inl jn)), (l0, .inl (cA, 24, .inl P))] := (by unfold gA gA3 gA2 gA1 gX gY; simp only [if_pos c_43, if_neg c_61, if_neg c_90, if_neg c_106])
          rw [e9] at hP9 hD9
          exact W.vret hx hb hr (fun t9 ht9 hW9 => ⟨⟨(), rfl, trivial, by rw [ht9]; exact hP9, hD9⟩, hS.F ht9⟩) hS.2.2 dX3_appendGuarded_123
        · replace c_106 := jB_nz.mp c_106
          refine lv_aload_n hx hb dX3_appendGuarded_109 rfl (lv_at hl 4 rfl) ?_
          refine lv_iload hx hb dX3_appendGuarded_110 (lv_at hl 1 rfl) ?_
          refine jr_i (va_runV (As := [.int (f1 (i * 3 + 2))]) (rest := [.int (f1 (i * 3 + 1)), .int (f1 (i * 3)), .ref p2]) ⟨hx, hb, hml, hown, hts⟩ (c_X3_placeOf l D cA h0 p1 p2 e0 l0 m0 P (f1 (i * 3 + 2))) (cwV 1 hts gX3_appendGuarded_X3_placeOf rfl rfl rfl hv_X3_placeOf ⟨Nat.le_of_ble_eq_true rfl, Nat.le_of_ble_eq_true rfl⟩) (roP.V (va_recv hK hP (ci := 3) (q0 := 0) rfl rfl) (jP_sub (w2 := [(h0, .inr (3, [.ref p1, .ref p2, .ref e0, .ref l0, .ref m0])), (l0, .inl (cA, 24, .inl P))]) hP [0, 8] rfl) hK hN) rfl rfl hl.1 rfl (lv_room (Nat.le_of_ble_eq_true rfl)) dX3_appendGuarded_112 ⟨Nat.le_of_ble_eq_true rfl, Nat.le_of_ble_eq_true rfl⟩) ?_
          refine lv_goto (tgt := 120) hx hb dX3_appendGuarded_115 (by decide) ?_
          refine jw_v (va_runV (As := [.int (f1 (i * 3)), .int (f1 (i * 3 + 1)), .int (pPl P (f1 (i * 3 + 2)))]) (rest := []) ⟨hx, hb, hml, hown, hts⟩ (c_X2_append l D cA s.heap.size p2 b2 72 k2 216 f2 (f1 (i * 3)) (f1 (i * 3 + 1)) (pPl P (f1 (i * 3 + 2))) (by omega) (by first | assumption | omega) (by omega)) (cwV 3 hts gX3_appendGuarded_X2_append rfl rfl rfl hv_X2_append ⟨Nat.le_of_ble_eq_true rfl, Nat.le_of_ble_eq_true rfl⟩) (rwP.V (wc := [(p2, .inr (2, [.ref b2, .int (nI 72), .int (nI k2)])), (b2, .inl (cA, 216, .inl f2))]) (va_recv hK hP (ci := 2) (q0 := 3) rfl rfl) hP hD hK hN [3, 4] (by decide) rfl) rfl rfl hl.1 rfl (lv_room (Nat.le_of_ble_eq_true rfl)) dX3_appendGuarded_120 ⟨Nat.le_of_ble_eq_true rfl, Nat.le_of_ble_eq_true rfl⟩) hP hD hS hA [3, 4] [0, 1, 2, 5, 6, 7, 8] [0, 1, 2, 7, 8, 3, 4, 5, 6] (wr := [(h0, .inr (3, [.ref p1, .ref p2, .ref e0, .ref l0, .ref m0])), (p1, .inr (2, [.ref b1, .int (nI 24), .int (nI k1)])), (b1, .inl (cA, 72, .inl f1)), (e0, .inr (0, [.ref t0, .ref n0, .ref j0, .int (nI ec)])), (n0, .inl (cA, 24, .inl tn)), (j0, .inl (cA, 24, .inl jn)), (l0, .inl (cA, 24, .inl P))]) (w2 := [(h0, .inr (3, [.ref p1, .ref p2, .ref e0, .ref l0, .ref m0])), (p1, .inr (2, [.ref b1, .int (nI 24), .int (nI k1)])), (b1, .inl (cA, 72, .inl f1)), (p2, .inr (2, [.ref b2, .int (nI 72), .int (nI (k2 + 1))])), (b2, .inl (cA, 216, .inl (pApp f2 k2 (f1 (i * 3)) (f1 (i * 3 + 1)) (pPl P (f1 (i * 3 + 2)))))), (e0, .inr (0, [.ref t0, .ref n0, .ref j0, .int (nI ec)])), (n0, .inl (cA, 24, .inl tn)), (j0, .inl (cA, 24, .inl jn)), (l0, .inl (cA, 24, .inl P))]) rfl rfl (by decide) (by decide) (by decide) rfl (fun H locs hP hD hS => ?_)
          obtain ⟨hP9, hD9⟩ := jk_end (w2 := [(h0, .inr (3, [.ref p1, .ref p2, .ref e0, .ref l0, .ref m0])), (p1, .inr (2, [.ref b1, .int (nI 24), .int (nI k1)])), (b1, .inl (cA, 72, .inl f1)), (p2, .inr (2, [.ref b2, .int (nI 72), .int (nI (k2 + 1))])), (b2, .inl (cA, 216, .inl (pApp f2 k2 (f1 (i * 3)) (f1 (i * 3 + 1)) (pPl P (f1 (i * 3 + 2)))))), (e0, .inr (0, [.ref t0, .ref n0, .ref j0, .int (nI ec)])), (n0, .inl (cA, 24, .inl tn)), (j0, .inl (cA, 24, .inl jn)), (l0, .inl (cA, 24, .inl P))]) hP hD [0, 1, 2, 3, 4, 5, 6, 7, 8] (by decide) rfl
          have e9 : ([(h0, .inr (3, [.ref p1, .ref p2, .ref e0, .ref l0, .ref m0])), (p1, .inr (2, [.ref b1, .int (nI 24), .int (nI k1)])), (b1, .inl (cA, 72, .inl f1)), (p2, .inr (2, [.ref b2, .int (nI 72), .int (nI (k2 + 1))])), (b2, .inl (cA, 216, .inl (pApp f2 k2 (f1 (i * 3)) (f1 (i * 3 + 1)) (pPl P (f1 (i * 3 + 2)))))), (e0, .inr (0, [.ref t0, .ref n0, .ref j0, .int (nI ec)])), (n0, .inl (cA, 24, .inl tn)), (j0, .inl (cA, 24, .inl jn)), (l0, .inl (cA, 24, .inl P))] : va_W) = [(h0, .inr (3, [.ref p1, .ref p2, .ref e0, .ref l0, .ref m0])), (p1, .inr (2, [.ref b1, .int (nI 24), .int (nI k1)])), (b1, .inl (cA, 72, .inl f1)), (p2, .inr (2, [.ref b2, .int (nI 72), .int (nI (gA f1 tn jn P i (k2, f2)).1)])), (b2, .inl (cA, 216, .inl ((gA f1 tn jn P i (k2, f2)).2))), (e0, .inr (0, [.ref t0, .ref n0, .ref j0, .int (nI ec)])), (n0, .inl (cA, 24, .inl tn)), (j0, .inl (cA, 24, .inl jn)), (l0, .inl (cA, 24, .inl P))] := (by unfold gA gA3 gA2 gA1 gX gY; simp only [if_pos c_43, if_neg c_61, if_neg c_90, if_pos c_106])
          rw [e9] at hP9 hD9
          exact W.vret hx hb hr (fun t9 ht9 hW9 => ⟨⟨(), rfl, trivial, by rw [ht9]; exact hP9, hD9⟩, hS.F ht9⟩) hS.2.2 dX3_appendGuarded_123
      · refine lv_aload_n hx hb dX3_appendGuarded_93 rfl (lv_at hl 4 rfl) ?_
        refine lv_iload_n hx hb dX3_appendGuarded_94 rfl (lv_at hl 2 rfl) ?_
        refine jr_i (va_runV (As := [.int (f1 (i * 3 + 1))]) (rest := [.int (f1 (i * 3)), .ref p2]) ⟨hx, hb, hml, hown, hts⟩ (c_X3_placeOf l D cA h0 p1 p2 e0 l0 m0 P (f1 (i * 3 + 1))) (cwV 1 hts gX3_appendGuarded_X3_placeOf rfl rfl rfl hv_X3_placeOf ⟨Nat.le_of_ble_eq_true rfl, Nat.le_of_ble_eq_true rfl⟩) (roP.V (va_recv hK hP (ci := 3) (q0 := 0) rfl rfl) (jP_sub (w2 := [(h0, .inr (3, [.ref p1, .ref p2, .ref e0, .ref l0, .ref m0])), (l0, .inl (cA, 24, .inl P))]) hP [0, 8] rfl) hK hN) rfl rfl hl.1 rfl (lv_room (Nat.le_of_ble_eq_true rfl)) dX3_appendGuarded_95 ⟨Nat.le_of_ble_eq_true rfl, Nat.le_of_ble_eq_true rfl⟩) ?_
        refine lv_goto (tgt := 102) hx hb dX3_appendGuarded_98 (by decide) ?_
        refine lv_iload_n hx hb dX3_appendGuarded_102 rfl (lv_at hl 3 rfl) ?_
        refine jr_i (va_runS (As := [.int (f1 (i * 3))]) (rest := [.int (pPl P (f1 (i * 3 + 1))), .int (f1 (i * 3)), .ref p2]) ⟨hx, hb, hml, hown, hts⟩ (c_X3_holdsAddressInB l D cA (f1 (i * 3))) (va_cwS 1 hts gX3_appendGuarded_X3_holdsAddressInB rfl rfl rfl hv_X3_holdsAddressInB.2 ⟨Nat.le_of_ble_eq_true rfl, Nat.le_of_ble_eq_true rfl⟩) (roP.S (av := [.int (f1 (i * 3))]) (jP_sub (w2 := []) hP [] rfl) hK hN) rfl rfl hl.1 rfl (lv_room (Nat.le_of_ble_eq_true rfl)) dX3_appendGuarded_103 ⟨Nat.le_of_ble_eq_true rfl, Nat.le_of_ble_eq_true rfl⟩) ?_
        refine lv_if_eq (tgt := 118) hx hb dX3_appendGuarded_106 (by decide) (fun c_106 => ?_) (fun c_106 => ?_)
        · replace c_106 := jB_z.mp c_106
          refine lv_iload hx hb dX3_appendGuarded_118 (lv_at hl 1 rfl) ?_
          refine jw_v (va_runV (As := [.int (f1 (i * 3)), .int (pPl P (f1 (i * 3 + 1))), .int (f1 (i * 3 + 2))]) (rest := []) ⟨hx, hb, hml, hown, hts⟩ (c_X2_append l D cA s.heap.size p2 b2 72 k2 216 f2 (f1 (i * 3)) (pPl P (f1 (i * 3 + 1))) (f1 (i * 3 + 2)) (by omega) (by first | assumption | omega) (by omega)) (cwV 3 hts gX3_appendGuarded_X2_append rfl rfl rfl hv_X2_append ⟨Nat.le_of_ble_eq_true rfl, Nat.le_of_ble_eq_true rfl⟩) (rwP.V (wc := [(p2, .inr (2, [.ref b2, .int (nI 72), .int (nI k2)])), (b2, .inl (cA, 216, .inl f2))]) (va_recv hK hP (ci := 2) (q0 := 3) rfl rfl) hP hD hK hN [3, 4] (by decide) rfl) rfl rfl hl.1 rfl (lv_room (Nat.le_of_ble_eq_true rfl)) dX3_appendGuarded_120 ⟨Nat.le_of_ble_eq_true rfl, Nat.le_of_ble_eq_true rfl⟩) hP hD hS hA [3, 4] [0, 1, 2, 5, 6, 7, 8] [0, 1, 2, 7, 8, 3, 4, 5, 6] (wr := [(h0, .inr (3, [.ref p1, .ref p2, .ref e0, .ref l0, .ref m0])), (p1, .inr (2, [.ref b1, .int (nI 24), .int (nI k1)])), (b1, .inl (cA, 72, .inl f1)), (e0, .inr (0, [.ref t0, .ref n0, .ref j0, .int (nI ec)])), (n0, .inl (cA, 24, .inl tn)), (j0, .inl (cA, 24, .inl jn)), (l0, .inl (cA, 24, .inl P))]) (w2 := [(h0, .inr (3, [.ref p1, .ref p2, .ref e0, .ref l0, .ref m0])), (p1, .inr (2, [.ref b1, .int (nI 24), .int (nI k1)])), (b1, .inl (cA, 72, .inl f1)), (p2, .inr (2, [.ref b2, .int (nI 72), .int (nI (k2 + 1))])), (b2, .inl (cA, 216, .inl (pApp f2 k2 (f1 (i * 3)) (pPl P (f1 (i * 3 + 1))) (f1 (i * 3 + 2))))), (e0, .inr (0, [.ref t0, .ref n0, .ref j0, .int (nI ec)])), (n0, .inl (cA, 24, .inl tn)), (j0, .inl (cA, 24, .inl jn)), (l0, .inl (cA, 24, .inl P))]) rfl rfl (by decide) (by decide) (by decide) rfl (fun H locs hP hD hS => ?_)
          obtain ⟨hP9, hD9⟩ := jk_end (w2 := [(h0, .inr (3, [.ref p1, .ref p2, .ref e0, .ref l0, .ref m0])), (p1, .inr (2, [.ref b1, .int (nI 24), .int (nI k1)])), (b1, .inl (cA, 72, .inl f1)), (p2, .inr (2, [.ref b2, .int (nI 72), .int (nI (k2 + 1))])), (b2, .inl (cA, 216, .inl (pApp f2 k2 (f1 (i * 3)) (pPl P (f1 (i * 3 + 1))) (f1 (i * 3 + 2))))), (e0, .inr (0, [.ref t0, .ref n0, .ref j0, .int (nI ec)])), (n0, .inl (cA, 24, .inl tn)), (j0, .inl (cA, 24, .inl jn)), (l0, .inl (cA, 24, .inl P))]) hP hD [0, 1, 2, 3, 4, 5, 6, 7, 8] (by decide) rfl
          have e9 : ([(h0, .inr (3, [.ref p1, .ref p2, .ref e0, .ref l0, .ref m0])), (p1, .inr (2, [.ref b1, .int (nI 24), .int (nI k1)])), (b1, .inl (cA, 72, .inl f1)), (p2, .inr (2, [.ref b2, .int (nI 72), .int (nI (k2 + 1))])), (b2, .inl (cA, 216, .inl (pApp f2 k2 (f1 (i * 3)) (pPl P (f1 (i * 3 + 1))) (f1 (i * 3 + 2))))), (e0, .inr (0, [.ref t0, .ref n0, .ref j0, .int (nI ec)])), (n0, .inl (cA, 24, .inl tn)), (j0, .inl (cA, 24, .inl jn)), (l0, .inl (cA, 24, .inl P))] : va_W) = [(h0, .inr (3, [.ref p1, .ref p2, .ref e0, .ref l0, .ref m0])), (p1, .inr (2, [.ref b1, .int (nI 24), .int (nI k1)])), (b1, .inl (cA, 72, .inl f1)), (p2, .inr (2, [.ref b2, .int (nI 72), .int (nI (gA f1 tn jn P i (k2, f2)).1)])), (b2, .inl (cA, 216, .inl ((gA f1 tn jn P i (k2, f2)).2))), (e0, .inr (0, [.ref t0, .ref n0, .ref j0, .int (nI ec)])), (n0, .inl (cA, 24, .inl tn)), (j0, .inl (cA, 24, .inl jn)), (l0, .inl (cA, 24, .inl P))] := (by unfold gA gA3 gA2 gA1 gX gY; simp only [if_pos c_43, if_neg c_61, if_pos c_90, if_neg c_106])
          rw [e9] at hP9 hD9
          exact W.vret hx hb hr (fun t9 ht9 hW9 => ⟨⟨(), rfl, trivial, by rw [ht9]; exact hP9, hD9⟩, hS.F ht9⟩) hS.2.2 dX3_appendGuarded_123
        · replace c_106 := jB_nz.mp c_106
          refine lv_aload_n hx hb dX3_appendGuarded_109 rfl (lv_at hl 4 rfl) ?_
          refine lv_iload hx hb dX3_appendGuarded_110 (lv_at hl 1 rfl) ?_
          refine jr_i (va_runV (As := [.int (f1 (i * 3 + 2))]) (rest := [.int (pPl P (f1 (i * 3 + 1))), .int (f1 (i * 3)), .ref p2]) ⟨hx, hb, hml, hown, hts⟩ (c_X3_placeOf l D cA h0 p1 p2 e0 l0 m0 P (f1 (i * 3 + 2))) (cwV 1 hts gX3_appendGuarded_X3_placeOf rfl rfl rfl hv_X3_placeOf ⟨Nat.le_of_ble_eq_true rfl, Nat.le_of_ble_eq_true rfl⟩) (roP.V (va_recv hK hP (ci := 3) (q0 := 0) rfl rfl) (jP_sub (w2 := [(h0, .inr (3, [.ref p1, .ref p2, .ref e0, .ref l0, .ref m0])), (l0, .inl (cA, 24, .inl P))]) hP [0, 8] rfl) hK hN) rfl rfl hl.1 rfl (lv_room (Nat.le_of_ble_eq_true rfl)) dX3_appendGuarded_112 ⟨Nat.le_of_ble_eq_true rfl, Nat.le_of_ble_eq_true rfl⟩) ?_
          refine lv_goto (tgt := 120) hx hb dX3_appendGuarded_115 (by decide) ?_
          refine jw_v (va_runV (As := [.int (f1 (i * 3)), .int (pPl P (f1 (i * 3 + 1))), .int (pPl P (f1 (i * 3 + 2)))]) (rest := []) ⟨hx, hb, hml, hown, hts⟩ (c_X2_append l D cA s.heap.size p2 b2 72 k2 216 f2 (f1 (i * 3)) (pPl P (f1 (i * 3 + 1))) (pPl P (f1 (i * 3 + 2))) (by omega) (by first | assumption | omega) (by omega)) (cwV 3 hts gX3_appendGuarded_X2_append rfl rfl rfl hv_X2_append ⟨Nat.le_of_ble_eq_true rfl, Nat.le_of_ble_eq_true rfl⟩) (rwP.V (wc := [(p2, .inr (2, [.ref b2, .int (nI 72), .int (nI k2)])), (b2, .inl (cA, 216, .inl f2))]) (va_recv hK hP (ci := 2) (q0 := 3) rfl rfl) hP hD hK hN [3, 4] (by decide) rfl) rfl rfl hl.1 rfl (lv_room (Nat.le_of_ble_eq_true rfl)) dX3_appendGuarded_120 ⟨Nat.le_of_ble_eq_true rfl, Nat.le_of_ble_eq_true rfl⟩) hP hD hS hA [3, 4] [0, 1, 2, 5, 6, 7, 8] [0, 1, 2, 7, 8, 3, 4, 5, 6] (wr := [(h0, .inr (3, [.ref p1, .ref p2, .ref e0, .ref l0, .ref m0])), (p1, .inr (2, [.ref b1, .int (nI 24), .int (nI k1)])), (b1, .inl (cA, 72, .inl f1)), (e0, .inr (0, [.ref t0, .ref n0, .ref j0, .int (nI ec)])), (n0, .inl (cA, 24, .inl tn)), (j0, .inl (cA, 24, .inl jn)), (l0, .inl (cA, 24, .inl P))]) (w2 := [(h0, .inr (3, [.ref p1, .ref p2, .ref e0, .ref l0, .ref m0])), (p1, .inr (2, [.ref b1, .int (nI 24), .int (nI k1)])), (b1, .inl (cA, 72, .inl f1)), (p2, .inr (2, [.ref b2, .int (nI 72), .int (nI (k2 + 1))])), (b2, .inl (cA, 216, .inl (pApp f2 k2 (f1 (i * 3)) (pPl P (f1 (i * 3 + 1))) (pPl P (f1 (i * 3 + 2)))))), (e0, .inr (0, [.ref t0, .ref n0, .ref j0, .int (nI ec)])), (n0, .inl (cA, 24, .inl tn)), (j0, .inl (cA, 24, .inl jn)), (l0, .inl (cA, 24, .inl P))]) rfl rfl (by decide) (by decide) (by decide) rfl (fun H locs hP hD hS => ?_)
          obtain ⟨hP9, hD9⟩ := jk_end (w2 := [(h0, .inr (3, [.ref p1, .ref p2, .ref e0, .ref l0, .ref m0])), (p1, .inr (2, [.ref b1, .int (nI 24), .int (nI k1)])), (b1, .inl (cA, 72, .inl f1)), (p2, .inr (2, [.ref b2, .int (nI 72), .int (nI (k2 + 1))])), (b2, .inl (cA, 216, .inl (pApp f2 k2 (f1 (i * 3)) (pPl P (f1 (i * 3 + 1))) (pPl P (f1 (i * 3 + 2)))))), (e0, .inr (0, [.ref t0, .ref n0, .ref j0, .int (nI ec)])), (n0, .inl (cA, 24, .inl tn)), (j0, .inl (cA, 24, .inl jn)), (l0, .inl (cA, 24, .inl P))]) hP hD [0, 1, 2, 3, 4, 5, 6, 7, 8] (by decide) rfl
          have e9 : ([(h0, .inr (3, [.ref p1, .ref p2, .ref e0, .ref l0, .ref m0])), (p1, .inr (2, [.ref b1, .int (nI 24), .int (nI k1)])), (b1, .inl (cA, 72, .inl f1)), (p2, .inr (2, [.ref b2, .int (nI 72), .int (nI (k2 + 1))])), (b2, .inl (cA, 216, .inl (pApp f2 k2 (f1 (i * 3)) (pPl P (f1 (i * 3 + 1))) (pPl P (f1 (i * 3 + 2)))))), (e0, .inr (0, [.ref t0, .ref n0, .ref j0, .int (nI ec)])), (n0, .inl (cA, 24, .inl tn)), (j0, .inl (cA, 24, .inl jn)), (l0, .inl (cA, 24, .inl P))] : va_W) = [(h0, .inr (3, [.ref p1, .ref p2, .ref e0, .ref l0, .ref m0])), (p1, .inr (2, [.ref b1, .int (nI 24), .int (nI k1)])), (b1, .inl (cA, 72, .inl f1)), (p2, .inr (2, [.ref b2, .int (nI 72), .int (nI (gA f1 tn jn P i (k2, f2)).1)])), (b2, .inl (cA, 216, .inl ((gA f1 tn jn P i (k2, f2)).2))), (e0, .inr (0, [.ref t0, .ref n0, .ref j0, .int (nI ec)])), (n0, .inl (cA, 24, .inl tn)), (j0, .inl (cA, 24, .inl jn)), (l0, .inl (cA, 24, .inl P))] := (by unfold gA gA3 gA2 gA1 gX gY; simp only [if_pos c_43, if_neg c_61, if_pos c_90, if_pos c_106])
          rw [e9] at hP9 hD9
          exact W.vret hx hb hr (fun t9 ht9 hW9 => ⟨⟨(), rfl, trivial, by rw [ht9]; exact hP9, hD9⟩, hS.F ht9⟩) hS.2.2 dX3_appendGuarded_123
    · refine lv_aload_n hx hb dX3_appendGuarded_64 rfl (lv_at hl 4 rfl) ?_
      refine va_get (D := D) (ci := 3) (v := .ref p2) (C := RX3) (T := TX3) (N := 5) hx hb hts iw_X3_appendGuarded_X3 hown hK hP 0 rfl rfl 1 (by decide) (hts (.fieldLink RX3 18 "JumpGuard" "guardedProgram" "LJumpGuard$Program;") (List.mem_of_getElem? (l := wsX3_appendGuarded) (i := 3) rfl)) (fun _ h9 => h9) rfl dX3_appendGuarded_65 ?_
      refine lv_bipush (v := 11) hx hb dX3_appendGuarded_68 (by decide) ?_
      refine lv_iload_n hx hb dX3_appendGuarded_70 rfl (lv_at hl 2 rfl) ?_
      refine lv_aload_n hx hb dX3_appendGuarded_71 rfl (lv_at hl 4 rfl) ?_
      refine va_get (D := D) (ci := 3) (v := .ref e0) (C := RX3) (T := TX3) (N := 5) hx hb hts iw_X3_appendGuarded_X3 hown hK hP 0 rfl rfl 2 (by decide) (hts (.fieldLink RX3 24 "JumpGuard" "edges" "LJumpGuard$Edges;") (List.mem_of_getElem? (l := wsX3_appendGuarded) (i := 2) rfl)) (fun _ h9 => h9) rfl dX3_appendGuarded_72 ?_
      refine lv_iload_n hx hb dX3_appendGuarded_75 rfl (lv_at hl 5 rfl) ?_
      refine jr_i (va_runV (As := [.int (nI i)]) (rest := [.int (f1 (i * 3 + 1)), .int 11, .ref p2]) ⟨hx, hb, hml, hown, hts⟩ (c_X0_numberOfJump l D cA e0 t0 n0 j0 ec jn (nI i)) (cwV 1 hts gX3_appendGuarded_X0_numberOfJump rfl rfl rfl hv_X0_numberOfJump ⟨Nat.le_of_ble_eq_true rfl, Nat.le_of_ble_eq_true rfl⟩) (roP.V (va_recv hK hP (ci := 0) (q0 := 5) rfl rfl) (jP_sub (w2 := [(e0, .inr (0, [.ref t0, .ref n0, .ref j0, .int (nI ec)])), (j0, .inl (cA, 24, .inl jn))]) hP [5, 7] rfl) hK hN) rfl rfl hl.1 rfl (lv_room (Nat.le_of_ble_eq_true rfl)) dX3_appendGuarded_76 ⟨Nat.le_of_ble_eq_true rfl, Nat.le_of_ble_eq_true rfl⟩) ?_
      refine jk_top (show (jAt jn 24 (nI i)) = (jn i) from jAt_n (n := 24) (by omega) (by decide)) ?_
      refine jw_v (va_runV (As := [.int 11, .int (f1 (i * 3 + 1)), .int (jn i)]) (rest := []) ⟨hx, hb, hml, hown, hts⟩ (c_X2_append l D cA s.heap.size p2 b2 72 k2 216 f2 11 (f1 (i * 3 + 1)) (jn i) (by omega) (by first | assumption | omega) (by omega)) (cwV 3 hts gX3_appendGuarded_X2_append rfl rfl rfl hv_X2_append ⟨Nat.le_of_ble_eq_true rfl, Nat.le_of_ble_eq_true rfl⟩) (rwP.V (wc := [(p2, .inr (2, [.ref b2, .int (nI 72), .int (nI k2)])), (b2, .inl (cA, 216, .inl f2))]) (va_recv hK hP (ci := 2) (q0 := 3) rfl rfl) hP hD hK hN [3, 4] (by decide) rfl) rfl rfl hl.1 rfl (lv_room (Nat.le_of_ble_eq_true rfl)) dX3_appendGuarded_79 ⟨Nat.le_of_ble_eq_true rfl, Nat.le_of_ble_eq_true rfl⟩) hP hD hS hA [3, 4] [0, 1, 2, 5, 6, 7, 8] [0, 1, 2, 7, 8, 3, 4, 5, 6] (wr := [(h0, .inr (3, [.ref p1, .ref p2, .ref e0, .ref l0, .ref m0])), (p1, .inr (2, [.ref b1, .int (nI 24), .int (nI k1)])), (b1, .inl (cA, 72, .inl f1)), (e0, .inr (0, [.ref t0, .ref n0, .ref j0, .int (nI ec)])), (n0, .inl (cA, 24, .inl tn)), (j0, .inl (cA, 24, .inl jn)), (l0, .inl (cA, 24, .inl P))]) (w2 := [(h0, .inr (3, [.ref p1, .ref p2, .ref e0, .ref l0, .ref m0])), (p1, .inr (2, [.ref b1, .int (nI 24), .int (nI k1)])), (b1, .inl (cA, 72, .inl f1)), (p2, .inr (2, [.ref b2, .int (nI 72), .int (nI (k2 + 1))])), (b2, .inl (cA, 216, .inl (pApp f2 k2 11 (f1 (i * 3 + 1)) (jn i)))), (e0, .inr (0, [.ref t0, .ref n0, .ref j0, .int (nI ec)])), (n0, .inl (cA, 24, .inl tn)), (j0, .inl (cA, 24, .inl jn)), (l0, .inl (cA, 24, .inl P))]) rfl rfl (by decide) (by decide) (by decide) rfl (fun H locs hP hD hS => ?_)
      refine lv_aload_n hx hb dX3_appendGuarded_82 rfl (lv_at hl 4 rfl) ?_
      refine va_get (D := D) (ci := 3) (v := .ref p2) (C := RX3) (T := TX3) (N := 5) hx hb hts iw_X3_appendGuarded_X3 hown hK hP 0 rfl rfl 1 (by decide) (hts (.fieldLink RX3 18 "JumpGuard" "guardedProgram" "LJumpGuard$Program;") (List.mem_of_getElem? (l := wsX3_appendGuarded) (i := 3) rfl)) (fun _ h9 => h9) rfl dX3_appendGuarded_83 ?_
      refine lv_iload_n hx hb dX3_appendGuarded_86 rfl (lv_at hl 3 rfl) ?_
      refine lv_iload_n hx hb dX3_appendGuarded_87 rfl (lv_at hl 3 rfl) ?_
      refine lv_bipush (v := 6) hx hb dX3_appendGuarded_88 (by decide) ?_
      refine lv_icmp_ne (tgt := 101) hx hb dX3_appendGuarded_90 (by decide) (fun c_90 => ?_) (fun c_90 => ?_)
      · refine lv_iload_n hx hb dX3_appendGuarded_101 rfl (lv_at hl 2 rfl) ?_
        refine lv_iload_n hx hb dX3_appendGuarded_102 rfl (lv_at hl 3 rfl) ?_
        refine jr_i (va_runS (As := [.int (f1 (i * 3))]) (rest := [.int (f1 (i * 3 + 1)), .int (f1 (i * 3)), .ref p2]) ⟨hx, hb, hml, hown, hts⟩ (c_X3_holdsAddressInB l D cA (f1 (i * 3))) (va_cwS 1 hts gX3_appendGuarded_X3_holdsAddressInB rfl rfl rfl hv_X3_holdsAddressInB.2 ⟨Nat.le_of_ble_eq_true rfl, Nat.le_of_ble_eq_true rfl⟩) (roP.S (av := [.int (f1 (i * 3))]) (jP_sub (w2 := []) hP [] rfl) hK hN) rfl rfl hl.1 rfl (lv_room (Nat.le_of_ble_eq_true rfl)) dX3_appendGuarded_103 ⟨Nat.le_of_ble_eq_true rfl, Nat.le_of_ble_eq_true rfl⟩) ?_
        refine lv_if_eq (tgt := 118) hx hb dX3_appendGuarded_106 (by decide) (fun c_106 => ?_) (fun c_106 => ?_)
        · replace c_106 := jB_z.mp c_106
          refine lv_iload hx hb dX3_appendGuarded_118 (lv_at hl 1 rfl) ?_
          refine jw_v (va_runV (As := [.int (f1 (i * 3)), .int (f1 (i * 3 + 1)), .int (f1 (i * 3 + 2))]) (rest := []) ⟨hx, hb, hml, hown, hts⟩ (c_X2_append l D cA H.size p2 b2 72 (k2 + 1) 216 (pApp f2 k2 11 (f1 (i * 3 + 1)) (jn i)) (f1 (i * 3)) (f1 (i * 3 + 1)) (f1 (i * 3 + 2)) (by omega) (by first | assumption | omega) (by omega)) (cwV 3 hts gX3_appendGuarded_X2_append rfl rfl rfl hv_X2_append ⟨Nat.le_of_ble_eq_true rfl, Nat.le_of_ble_eq_true rfl⟩) (rwP.V (wc := [(p2, .inr (2, [.ref b2, .int (nI 72), .int (nI (k2 + 1))])), (b2, .inl (cA, 216, .inl (pApp f2 k2 11 (f1 (i * 3 + 1)) (jn i))))]) (va_recv hK hP (ci := 2) (q0 := 3) rfl rfl) hP hD hK hN [3, 4] (by decide) rfl) rfl rfl hl.1 rfl (lv_room (Nat.le_of_ble_eq_true rfl)) dX3_appendGuarded_120 ⟨Nat.le_of_ble_eq_true rfl, Nat.le_of_ble_eq_true rfl⟩) hP hD hS hA [3, 4] [0, 1, 2, 5, 6, 7, 8] [0, 1, 2, 7, 8, 3, 4, 5, 6] (wr := [(h0, .inr (3, [.ref p1, .ref p2, .ref e0, .ref l0, .ref m0])), (p1, .inr (2, [.ref b1, .int (nI 24), .int (nI k1)])), (b1, .inl (cA, 72, .inl f1)), (e0, .inr (0, [.ref t0, .ref n0, .ref j0, .int (nI ec)])), (n0, .inl (cA, 24, .inl tn)), (j0, .inl (cA, 24, .inl jn)), (l0, .inl (cA, 24, .inl P))]) (w2 := [(h0, .inr (3, [.ref p1, .ref p2, .ref e0, .ref l0, .ref m0])), (p1, .inr (2, [.ref b1, .int (nI 24), .int (nI k1)])), (b1, .inl (cA, 72, .inl f1)), (p2, .inr (2, [.ref b2, .int (nI 72), .int (nI ((k2 + 1) + 1))])), (b2, .inl (cA, 216, .inl (pApp (pApp f2 k2 11 (f1 (i * 3 + 1)) (jn i)) (k2 + 1) (f1 (i * 3)) (f1 (i * 3 + 1)) (f1 (i * 3 + 2))))), (e0, .inr (0, [.ref t0, .ref n0, .ref j0, .int (nI ec)])), (n0, .inl (cA, 24, .inl tn)), (j0, .inl (cA, 24, .inl jn)), (l0, .inl (cA, 24, .inl P))]) rfl rfl (by decide) (by decide) (by decide) rfl (fun H locs hP hD hS => ?_)
          obtain ⟨hP9, hD9⟩ := jk_end (w2 := [(h0, .inr (3, [.ref p1, .ref p2, .ref e0, .ref l0, .ref m0])), (p1, .inr (2, [.ref b1, .int (nI 24), .int (nI k1)])), (b1, .inl (cA, 72, .inl f1)), (p2, .inr (2, [.ref b2, .int (nI 72), .int (nI ((k2 + 1) + 1))])), (b2, .inl (cA, 216, .inl (pApp (pApp f2 k2 11 (f1 (i * 3 + 1)) (jn i)) (k2 + 1) (f1 (i * 3)) (f1 (i * 3 + 1)) (f1 (i * 3 + 2))))), (e0, .inr (0, [.ref t0, .ref n0, .ref j0, .int (nI ec)])), (n0, .inl (cA, 24, .inl tn)), (j0, .inl (cA, 24, .inl jn)), (l0, .inl (cA, 24, .inl P))]) hP hD [0, 1, 2, 3, 4, 5, 6, 7, 8] (by decide) rfl
          have e9 : ([(h0, .inr (3, [.ref p1, .ref p2, .ref e0, .ref l0, .ref m0])), (p1, .inr (2, [.ref b1, .int (nI 24), .int (nI k1)])), (b1, .inl (cA, 72, .inl f1)), (p2, .inr (2, [.ref b2, .int (nI 72), .int (nI ((k2 + 1) + 1))])), (b2, .inl (cA, 216, .inl (pApp (pApp f2 k2 11 (f1 (i * 3 + 1)) (jn i)) (k2 + 1) (f1 (i * 3)) (f1 (i * 3 + 1)) (f1 (i * 3 + 2))))), (e0, .inr (0, [.ref t0, .ref n0, .ref j0, .int (nI ec)])), (n0, .inl (cA, 24, .inl tn)), (j0, .inl (cA, 24, .inl jn)), (l0, .inl (cA, 24, .inl P))] : va_W) = [(h0, .inr (3, [.ref p1, .ref p2, .ref e0, .ref l0, .ref m0])), (p1, .inr (2, [.ref b1, .int (nI 24), .int (nI k1)])), (b1, .inl (cA, 72, .inl f1)), (p2, .inr (2, [.ref b2, .int (nI 72), .int (nI (gA f1 tn jn P i (k2, f2)).1)])), (b2, .inl (cA, 216, .inl ((gA f1 tn jn P i (k2, f2)).2))), (e0, .inr (0, [.ref t0, .ref n0, .ref j0, .int (nI ec)])), (n0, .inl (cA, 24, .inl tn)), (j0, .inl (cA, 24, .inl jn)), (l0, .inl (cA, 24, .inl P))] := (by unfold gA gA3 gA2 gA1 gX gY; simp only [if_pos c_43, if_pos c_61, if_neg c_90, if_neg c_106])
          rw [e9] at hP9 hD9
          exact W.vret hx hb hr (fun t9 ht9 hW9 => ⟨⟨(), rfl, trivial, by rw [ht9]; exact hP9, hD9⟩, hS.F ht9⟩) hS.2.2 dX3_appendGuarded_123
        · replace c_106 := jB_nz.mp c_106
          refine lv_aload_n hx hb dX3_appendGuarded_109 rfl (lv_at hl 4 rfl) ?_
          refine lv_iload hx hb dX3_appendGuarded_110 (lv_at hl 1 rfl) ?_
          refine jr_i (va_runV (As := [.int (f1 (i * 3 + 2))]) (rest := [.int (f1 (i * 3 + 1)), .int (f1 (i * 3)), .ref p2]) ⟨hx, hb, hml, hown, hts⟩ (c_X3_placeOf l D cA h0 p1 p2 e0 l0 m0 P (f1 (i * 3 + 2))) (cwV 1 hts gX3_appendGuarded_X3_placeOf rfl rfl rfl hv_X3_placeOf ⟨Nat.le_of_ble_eq_true rfl, Nat.le_of_ble_eq_true rfl⟩) (roP.V (va_recv hK hP (ci := 3) (q0 := 0) rfl rfl) (jP_sub (w2 := [(h0, .inr (3, [.ref p1, .ref p2, .ref e0, .ref l0, .ref m0])), (l0, .inl (cA, 24, .inl P))]) hP [0, 8] rfl) hK hN) rfl rfl hl.1 rfl (lv_room (Nat.le_of_ble_eq_true rfl)) dX3_appendGuarded_112 ⟨Nat.le_of_ble_eq_true rfl, Nat.le_of_ble_eq_true rfl⟩) ?_
          refine lv_goto (tgt := 120) hx hb dX3_appendGuarded_115 (by decide) ?_
          refine jw_v (va_runV (As := [.int (f1 (i * 3)), .int (f1 (i * 3 + 1)), .int (pPl P (f1 (i * 3 + 2)))]) (rest := []) ⟨hx, hb, hml, hown, hts⟩ (c_X2_append l D cA H.size p2 b2 72 (k2 + 1) 216 (pApp f2 k2 11 (f1 (i * 3 + 1)) (jn i)) (f1 (i * 3)) (f1 (i * 3 + 1)) (pPl P (f1 (i * 3 + 2))) (by omega) (by first | assumption | omega) (by omega)) (cwV 3 hts gX3_appendGuarded_X2_append rfl rfl rfl hv_X2_append ⟨Nat.le_of_ble_eq_true rfl, Nat.le_of_ble_eq_true rfl⟩) (rwP.V (wc := [(p2, .inr (2, [.ref b2, .int (nI 72), .int (nI (k2 + 1))])), (b2, .inl (cA, 216, .inl (pApp f2 k2 11 (f1 (i * 3 + 1)) (jn i))))]) (va_recv hK hP (ci := 2) (q0 := 3) rfl rfl) hP hD hK hN [3, 4] (by decide) rfl) rfl rfl hl.1 rfl (lv_room (Nat.le_of_ble_eq_true rfl)) dX3_appendGuarded_120 ⟨Nat.le_of_ble_eq_true rfl, Nat.le_of_ble_eq_true rfl⟩) hP hD hS hA [3, 4] [0, 1, 2, 5, 6, 7, 8] [0, 1, 2, 7, 8, 3, 4, 5, 6] (wr := [(h0, .inr (3, [.ref p1, .ref p2, .ref e0, .ref l0, .ref m0])), (p1, .inr (2, [.ref b1, .int (nI 24), .int (nI k1)])), (b1, .inl (cA, 72, .inl f1)), (e0, .inr (0, [.ref t0, .ref n0, .ref j0, .int (nI ec)])), (n0, .inl (cA, 24, .inl tn)), (j0, .inl (cA, 24, .inl jn)), (l0, .inl (cA, 24, .inl P))]) (w2 := [(h0, .inr (3, [.ref p1, .ref p2, .ref e0, .ref l0, .ref m0])), (p1, .inr (2, [.ref b1, .int (nI 24), .int (nI k1)])), (b1, .inl (cA, 72, .inl f1)), (p2, .inr (2, [.ref b2, .int (nI 72), .int (nI ((k2 + 1) + 1))])), (b2, .inl (cA, 216, .inl (pApp (pApp f2 k2 11 (f1 (i * 3 + 1)) (jn i)) (k2 + 1) (f1 (i * 3)) (f1 (i * 3 + 1)) (pPl P (f1 (i * 3 + 2)))))), (e0, .inr (0, [.ref t0, .ref n0, .ref j0, .int (nI ec)])), (n0, .inl (cA, 24, .inl tn)), (j0, .inl (cA, 24, .inl jn)), (l0, .inl (cA, 24, .inl P))]) rfl rfl (by decide) (by decide) (by decide) rfl (fun H locs hP hD hS => ?_)
          obtain ⟨hP9, hD9⟩ := jk_end (w2 := [(h0, .inr (3, [.ref p1, .ref p2, .ref e0, .ref l0, .ref m0])), (p1, .inr (2, [.ref b1, .int (nI 24), .int (nI k1)])), (b1, .inl (cA, 72, .inl f1)), (p2, .inr (2, [.ref b2, .int (nI 72), .int (nI ((k2 + 1) + 1))])), (b2, .inl (cA, 216, .inl (pApp (pApp f2 k2 11 (f1 (i * 3 + 1)) (jn i)) (k2 + 1) (f1 (i * 3)) (f1 (i * 3 + 1)) (pPl P (f1 (i * 3 + 2)))))), (e0, .inr (0, [.ref t0, .ref n0, .ref j0, .int (nI ec)])), (n0, .inl (cA, 24, .inl tn)), (j0, .inl (cA, 24, .inl jn)), (l0, .inl (cA, 24, .inl P))]) hP hD [0, 1, 2, 3, 4, 5, 6, 7, 8] (by decide) rfl
          have e9 : ([(h0, .inr (3, [.ref p1, .ref p2, .ref e0, .ref l0, .ref m0])), (p1, .inr (2, [.ref b1, .int (nI 24), .int (nI k1)])), (b1, .inl (cA, 72, .inl f1)), (p2, .inr (2, [.ref b2, .int (nI 72), .int (nI ((k2 + 1) + 1))])), (b2, .inl (cA, 216, .inl (pApp (pApp f2 k2 11 (f1 (i * 3 + 1)) (jn i)) (k2 + 1) (f1 (i * 3)) (f1 (i * 3 + 1)) (pPl P (f1 (i * 3 + 2)))))), (e0, .inr (0, [.ref t0, .ref n0, .ref j0, .int (nI ec)])), (n0, .inl (cA, 24, .inl tn)), (j0, .inl (cA, 24, .inl jn)), (l0, .inl (cA, 24, .inl P))] : va_W) = [(h0, .inr (3, [.ref p1, .ref p2, .ref e0, .ref l0, .ref m0])), (p1, .inr (2, [.ref b1, .int (nI 24), .int (nI k1)])), (b1, .inl (cA, 72, .inl f1)), (p2, .inr (2, [.ref b2, .int (nI 72), .int (nI (gA f1 tn jn P i (k2, f2)).1)])), (b2, .inl (cA, 216, .inl ((gA f1 tn jn P i (k2, f2)).2))), (e0, .inr (0, [.ref t0, .ref n0, .ref j0, .int (nI ec)])), (n0, .inl (cA, 24, .inl tn)), (j0, .inl (cA, 24, .inl jn)), (l0, .inl (cA, 24, .inl P))] := (by unfold gA gA3 gA2 gA1 gX gY; simp only [if_pos c_43, if_pos c_61, if_neg c_90, if_pos c_106])
          rw [e9] at hP9 hD9
          exact W.vret hx hb hr (fun t9 ht9 hW9 => ⟨⟨(), rfl, trivial, by rw [ht9]; exact hP9, hD9⟩, hS.F ht9⟩) hS.2.2 dX3_appendGuarded_123
      · refine lv_aload_n hx hb dX3_appendGuarded_93 rfl (lv_at hl 4 rfl) ?_
        refine lv_iload_n hx hb dX3_appendGuarded_94 rfl (lv_at hl 2 rfl) ?_
        refine jr_i (va_runV (As := [.int (f1 (i * 3 + 1))]) (rest := [.int (f1 (i * 3)), .ref p2]) ⟨hx, hb, hml, hown, hts⟩ (c_X3_placeOf l D cA h0 p1 p2 e0 l0 m0 P (f1 (i * 3 + 1))) (cwV 1 hts gX3_appendGuarded_X3_placeOf rfl rfl rfl hv_X3_placeOf ⟨Nat.le_of_ble_eq_true rfl, Nat.le_of_ble_eq_true rfl⟩) (roP.V (va_recv hK hP (ci := 3) (q0 := 0) rfl rfl) (jP_sub (w2 := [(h0, .inr (3, [.ref p1, .ref p2, .ref e0, .ref l0, .ref m0])), (l0, .inl (cA, 24, .inl P))]) hP [0, 8] rfl) hK hN) rfl rfl hl.1 rfl (lv_room (Nat.le_of_ble_eq_true rfl)) dX3_appendGuarded_95 ⟨Nat.le_of_ble_eq_true rfl, Nat.le_of_ble_eq_true rfl⟩) ?_
        refine lv_goto (tgt := 102) hx hb dX3_appendGuarded_98 (by decide) ?_
        refine lv_iload_n hx hb dX3_appendGuarded_102 rfl (lv_at hl 3 rfl) ?_
        refine jr_i (va_runS (As := [.int (f1 (i * 3))]) (rest := [.int (pPl P (f1 (i * 3 + 1))), .int (f1 (i * 3)), .ref p2]) ⟨hx, hb, hml, hown, hts⟩ (c_X3_holdsAddressInB l D cA (f1 (i * 3))) (va_cwS 1 hts gX3_appendGuarded_X3_holdsAddressInB rfl rfl rfl hv_X3_holdsAddressInB.2 ⟨Nat.le_of_ble_eq_true rfl, Nat.le_of_ble_eq_true rfl⟩) (roP.S (av := [.int (f1 (i * 3))]) (jP_sub (w2 := []) hP [] rfl) hK hN) rfl rfl hl.1 rfl (lv_room (Nat.le_of_ble_eq_true rfl)) dX3_appendGuarded_103 ⟨Nat.le_of_ble_eq_true rfl, Nat.le_of_ble_eq_true rfl⟩) ?_
        refine lv_if_eq (tgt := 118) hx hb dX3_appendGuarded_106 (by decide) (fun c_106 => ?_) (fun c_106 => ?_)
        · replace c_106 := jB_z.mp c_106
          refine lv_iload hx hb dX3_appendGuarded_118 (lv_at hl 1 rfl) ?_
          refine jw_v (va_runV (As := [.int (f1 (i * 3)), .int (pPl P (f1 (i * 3 + 1))), .int (f1 (i * 3 + 2))]) (rest := []) ⟨hx, hb, hml, hown, hts⟩ (c_X2_append l D cA H.size p2 b2 72 (k2 + 1) 216 (pApp f2 k2 11 (f1 (i * 3 + 1)) (jn i)) (f1 (i * 3)) (pPl P (f1 (i * 3 + 1))) (f1 (i * 3 + 2)) (by omega) (by first | assumption | omega) (by omega)) (cwV 3 hts gX3_appendGuarded_X2_append rfl rfl rfl hv_X2_append ⟨Nat.le_of_ble_eq_true rfl, Nat.le_of_ble_eq_true rfl⟩) (rwP.V (wc := [(p2, .inr (2, [.ref b2, .int (nI 72), .int (nI (k2 + 1))])), (b2, .inl (cA, 216, .inl (pApp f2 k2 11 (f1 (i * 3 + 1)) (jn i))))]) (va_recv hK hP (ci := 2) (q0 := 3) rfl rfl) hP hD hK hN [3, 4] (by decide) rfl) rfl rfl hl.1 rfl (lv_room (Nat.le_of_ble_eq_true rfl)) dX3_appendGuarded_120 ⟨Nat.le_of_ble_eq_true rfl, Nat.le_of_ble_eq_true rfl⟩) hP hD hS hA [3, 4] [0, 1, 2, 5, 6, 7, 8] [0, 1, 2, 7, 8, 3, 4, 5, 6] (wr := [(h0, .inr (3, [.ref p1, .ref p2, .ref e0, .ref l0, .ref m0])), (p1, .inr (2, [.ref b1, .int (nI 24), .int (nI k1)])), (b1, .inl (cA, 72, .inl f1)), (e0, .inr (0, [.ref t0, .ref n0, .ref j0, .int (nI ec)])), (n0, .inl (cA, 24, .inl tn)), (j0, .inl (cA, 24, .inl jn)), (l0, .inl (cA, 24, .inl P))]) (w2 := [(h0, .inr (3, [.ref p1, .ref p2, .ref e0, .ref l0, .ref m0])), (p1, .inr (2, [.ref b1, .int (nI 24), .int (nI k1)])), (b1, .inl (cA, 72, .inl f1)), (p2, .inr (2, [.ref b2, .int (nI 72), .int (nI ((k2 + 1) + 1))])), (b2, .inl (cA, 216, .inl (pApp (pApp f2 k2 11 (f1 (i * 3 + 1)) (jn i)) (k2 + 1) (f1 (i * 3)) (pPl P (f1 (i * 3 + 1))) (f1 (i * 3 + 2))))), (e0, .inr (0, [.ref t0, .ref n0, .ref j0, .int (nI ec)])), (n0, .inl (cA, 24, .inl tn)), (j0, .inl (cA, 24, .inl jn)), (l0, .inl (cA, 24, .inl P))]) rfl rfl (by decide) (by decide) (by decide) rfl (fun H locs hP hD hS => ?_)
          obtain ⟨hP9, hD9⟩ := jk_end (w2 := [(h0, .inr (3, [.ref p1, .ref p2, .ref e0, .ref l0, .ref m0])), (p1, .inr (2, [.ref b1, .int (nI 24), .int (nI k1)])), (b1, .inl (cA, 72, .inl f1)), (p2, .inr (2, [.ref b2, .int (nI 72), .int (nI ((k2 + 1) + 1))])), (b2, .inl (cA, 216, .inl (pApp (pApp f2 k2 11 (f1 (i * 3 + 1)) (jn i)) (k2 + 1) (f1 (i * 3)) (pPl P (f1 (i * 3 + 1))) (f1 (i * 3 + 2))))), (e0, .inr (0, [.ref t0, .ref n0, .ref j0, .int (nI ec)])), (n0, .inl (cA, 24, .inl tn)), (j0, .inl (cA, 24, .inl jn)), (l0, .inl (cA, 24, .inl P))]) hP hD [0, 1, 2, 3, 4, 5, 6, 7, 8] (by decide) rfl
          have e9 : ([(h0, .inr (3, [.ref p1, .ref p2, .ref e0, .ref l0, .ref m0])), (p1, .inr (2, [.ref b1, .int (nI 24), .int (nI k1)])), (b1, .inl (cA, 72, .inl f1)), (p2, .inr (2, [.ref b2, .int (nI 72), .int (nI ((k2 + 1) + 1))])), (b2, .inl (cA, 216, .inl (pApp (pApp f2 k2 11 (f1 (i * 3 + 1)) (jn i)) (k2 + 1) (f1 (i * 3)) (pPl P (f1 (i * 3 + 1))) (f1 (i * 3 + 2))))), (e0, .inr (0, [.ref t0, .ref n0, .ref j0, .int (nI ec)])), (n0, .inl (cA, 24, .inl tn)), (j0, .inl (cA, 24, .inl jn)), (l0, .inl (cA, 24, .inl P))] : va_W) = [(h0, .inr (3, [.ref p1, .ref p2, .ref e0, .ref l0, .ref m0])), (p1, .inr (2, [.ref b1, .int (nI 24), .int (nI k1)])), (b1, .inl (cA, 72, .inl f1)), (p2, .inr (2, [.ref b2, .int (nI 72), .int (nI (gA f1 tn jn P i (k2, f2)).1)])), (b2, .inl (cA, 216, .inl ((gA f1 tn jn P i (k2, f2)).2))), (e0, .inr (0, [.ref t0, .ref n0, .ref j0, .int (nI ec)])), (n0, .inl (cA, 24, .inl tn)), (j0, .inl (cA, 24, .inl jn)), (l0, .inl (cA, 24, .inl P))] := (by unfold gA gA3 gA2 gA1 gX gY; simp only [if_pos c_43, if_pos c_61, if_pos c_90, if_neg c_106])
          rw [e9] at hP9 hD9
          exact W.vret hx hb hr (fun t9 ht9 hW9 => ⟨⟨(), rfl, trivial, by rw [ht9]; exact hP9, hD9⟩, hS.F ht9⟩) hS.2.2 dX3_appendGuarded_123
        · replace c_106 := jB_nz.mp c_106
          refine lv_aload_n hx hb dX3_appendGuarded_109 rfl (lv_at hl 4 rfl) ?_
          refine lv_iload hx hb dX3_appendGuarded_110 (lv_at hl 1 rfl) ?_
          refine jr_i (va_runV (As := [.int (f1 (i * 3 + 2))]) (rest := [.int (pPl P (f1 (i * 3 + 1))), .int (f1 (i * 3)), .ref p2]) ⟨hx, hb, hml, hown, hts⟩ (c_X3_placeOf l D cA h0 p1 p2 e0 l0 m0 P (f1 (i * 3 + 2))) (cwV 1 hts gX3_appendGuarded_X3_placeOf rfl rfl rfl hv_X3_placeOf ⟨Nat.le_of_ble_eq_true rfl, Nat.le_of_ble_eq_true rfl⟩) (roP.V (va_recv hK hP (ci := 3) (q0 := 0) rfl rfl) (jP_sub (w2 := [(h0, .inr (3, [.ref p1, .ref p2, .ref e0, .ref l0, .ref m0])), (l0, .inl (cA, 24, .inl P))]) hP [0, 8] rfl) hK hN) rfl rfl hl.1 rfl (lv_room (Nat.le_of_ble_eq_true rfl)) dX3_appendGuarded_112 ⟨Nat.le_of_ble_eq_true rfl, Nat.le_of_ble_eq_true rfl⟩) ?_
          refine lv_goto (tgt := 120) hx hb dX3_appendGuarded_115 (by decide) ?_
          refine jw_v (va_runV (As := [.int (f1 (i * 3)), .int (pPl P (f1 (i * 3 + 1))), .int (pPl P (f1 (i * 3 + 2)))]) (rest := []) ⟨hx, hb, hml, hown, hts⟩ (c_X2_append l D cA H.size p2 b2 72 (k2 + 1) 216 (pApp f2 k2 11 (f1 (i * 3 + 1)) (jn i)) (f1 (i * 3)) (pPl P (f1 (i * 3 + 1))) (pPl P (f1 (i * 3 + 2))) (by omega) (by first | assumption | omega) (by omega)) (cwV 3 hts gX3_appendGuarded_X2_append rfl rfl rfl hv_X2_append ⟨Nat.le_of_ble_eq_true rfl, Nat.le_of_ble_eq_true rfl⟩) (rwP.V (wc := [(p2, .inr (2, [.ref b2, .int (nI 72), .int (nI (k2 + 1))])), (b2, .inl (cA, 216, .inl (pApp f2 k2 11 (f1 (i * 3 + 1)) (jn i))))]) (va_recv hK hP (ci := 2) (q0 := 3) rfl rfl) hP hD hK hN [3, 4] (by decide) rfl) rfl rfl hl.1 rfl (lv_room (Nat.le_of_ble_eq_true rfl)) dX3_appendGuarded_120 ⟨Nat.le_of_ble_eq_true rfl, Nat.le_of_ble_eq_true rfl⟩) hP hD hS hA [3, 4] [0, 1, 2, 5, 6, 7, 8] [0, 1, 2, 7, 8, 3, 4, 5, 6] (wr := [(h0, .inr (3, [.ref p1, .ref p2, .ref e0, .ref l0, .ref m0])), (p1, .inr (2, [.ref b1, .int (nI 24), .int (nI k1)])), (b1, .inl (cA, 72, .inl f1)), (e0, .inr (0, [.ref t0, .ref n0, .ref j0, .int (nI ec)])), (n0, .inl (cA, 24, .inl tn)), (j0, .inl (cA, 24, .inl jn)), (l0, .inl (cA, 24, .inl P))]) (w2 := [(h0, .inr (3, [.ref p1, .ref p2, .ref e0, .ref l0, .ref m0])), (p1, .inr (2, [.ref b1, .int (nI 24), .int (nI k1)])), (b1, .inl (cA, 72, .inl f1)), (p2, .inr (2, [.ref b2, .int (nI 72), .int (nI ((k2 + 1) + 1))])), (b2, .inl (cA, 216, .inl (pApp (pApp f2 k2 11 (f1 (i * 3 + 1)) (jn i)) (k2 + 1) (f1 (i * 3)) (pPl P (f1 (i * 3 + 1))) (pPl P (f1 (i * 3 + 2)))))), (e0, .inr (0, [.ref t0, .ref n0, .ref j0, .int (nI ec)])), (n0, .inl (cA, 24, .inl tn)), (j0, .inl (cA, 24, .inl jn)), (l0, .inl (cA, 24, .inl P))]) rfl rfl (by decide) (by decide) (by decide) rfl (fun H locs hP hD hS => ?_)
          obtain ⟨hP9, hD9⟩ := jk_end (w2 := [(h0, .inr (3, [.ref p1, .ref p2, .ref e0, .ref l0, .ref m0])), (p1, .inr (2, [.ref b1, .int (nI 24), .int (nI k1)])), (b1, .inl (cA, 72, .inl f1)), (p2, .inr (2, [.ref b2, .int (nI 72), .int (nI ((k2 + 1) + 1))])), (b2, .inl (cA, 216, .inl (pApp (pApp f2 k2 11 (f1 (i * 3 + 1)) (jn i)) (k2 + 1) (f1 (i * 3)) (pPl P (f1 (i * 3 + 1))) (pPl P (f1 (i * 3 + 2)))))), (e0, .inr (0, [.ref t0, .ref n0, .ref j0, .int (nI ec)])), (n0, .inl (cA, 24, .inl tn)), (j0, .inl (cA, 24, .inl jn)), (l0, .inl (cA, 24, .inl P))]) hP hD [0, 1, 2, 3, 4, 5, 6, 7, 8] (by decide) rfl
          have e9 : ([(h0, .inr (3, [.ref p1, .ref p2, .ref e0, .ref l0, .ref m0])), (p1, .inr (2, [.ref b1, .int (nI 24), .int (nI k1)])), (b1, .inl (cA, 72, .inl f1)), (p2, .inr (2, [.ref b2, .int (nI 72), .int (nI ((k2 + 1) + 1))])), (b2, .inl (cA, 216, .inl (pApp (pApp f2 k2 11 (f1 (i * 3 + 1)) (jn i)) (k2 + 1) (f1 (i * 3)) (pPl P (f1 (i * 3 + 1))) (pPl P (f1 (i * 3 + 2)))))), (e0, .inr (0, [.ref t0, .ref n0, .ref j0, .int (nI ec)])), (n0, .inl (cA, 24, .inl tn)), (j0, .inl (cA, 24, .inl jn)), (l0, .inl (cA, 24, .inl P))] : va_W) = [(h0, .inr (3, [.ref p1, .ref p2, .ref e0, .ref l0, .ref m0])), (p1, .inr (2, [.ref b1, .int (nI 24), .int (nI k1)])), (b1, .inl (cA, 72, .inl f1)), (p2, .inr (2, [.ref b2, .int (nI 72), .int (nI (gA f1 tn jn P i (k2, f2)).1)])), (b2, .inl (cA, 216, .inl ((gA f1 tn jn P i (k2, f2)).2))), (e0, .inr (0, [.ref t0, .ref n0, .ref j0, .int (nI ec)])), (n0, .inl (cA, 24, .inl tn)), (j0, .inl (cA, 24, .inl jn)), (l0, .inl (cA, 24, .inl P))] := (by unfold gA gA3 gA2 gA1 gX gY; simp only [if_pos c_43, if_pos c_61, if_pos c_90, if_pos c_106])
          rw [e9] at hP9 hD9
          exact W.vret hx hb hr (fun t9 ht9 hW9 => ⟨⟨(), rfl, trivial, by rw [ht9]; exact hP9, hD9⟩, hS.F ht9⟩) hS.2.2 dX3_appendGuarded_123
  · refine lv_aload_n hx hb dX3_appendGuarded_46 rfl (lv_at hl 4 rfl) ?_
    refine va_get (D := D) (ci := 3) (v := .ref p2) (C := RX3) (T := TX3) (N := 5) hx hb hts iw_X3_appendGuarded_X3 hown hK hP 0 rfl rfl 1 (by decide) (hts (.fieldLink RX3 18 "JumpGuard" "guardedProgram" "LJumpGuard$Program;") (List.mem_of_getElem? (l := wsX3_appendGuarded) (i := 3) rfl)) (fun _ h9 => h9) rfl dX3_appendGuarded_47 ?_
    refine lv_bipush (v := 10) hx hb dX3_appendGuarded_50 (by decide) ?_
    refine lv_iload hx hb dX3_appendGuarded_52 (lv_at hl 0 rfl) ?_
    refine lv_iconst (v := 0) hx hb dX3_appendGuarded_54 (by decide) ?_
    refine jw_v (va_runV (As := [.int 10, .int (tn i), .int 0]) (rest := []) ⟨hx, hb, hml, hown, hts⟩ (c_X2_append l D cA s.heap.size p2 b2 72 k2 216 f2 10 (tn i) 0 (by omega) (by first | assumption | omega) (by omega)) (cwV 3 hts gX3_appendGuarded_X2_append rfl rfl rfl hv_X2_append ⟨Nat.le_of_ble_eq_true rfl, Nat.le_of_ble_eq_true rfl⟩) (rwP.V (wc := [(p2, .inr (2, [.ref b2, .int (nI 72), .int (nI k2)])), (b2, .inl (cA, 216, .inl f2))]) (va_recv hK hP (ci := 2) (q0 := 3) rfl rfl) hP hD hK hN [3, 4] (by decide) rfl) rfl rfl hl.1 rfl (lv_room (Nat.le_of_ble_eq_true rfl)) dX3_appendGuarded_55 ⟨Nat.le_of_ble_eq_true rfl, Nat.le_of_ble_eq_true rfl⟩) hP hD hS hA [3, 4] [0, 1, 2, 5, 6, 7, 8] [0, 1, 2, 7, 8, 3, 4, 5, 6] (wr := [(h0, .inr (3, [.ref p1, .ref p2, .ref e0, .ref l0, .ref m0])), (p1, .inr (2, [.ref b1, .int (nI 24), .int (nI k1)])), (b1, .inl (cA, 72, .inl f1)), (e0, .inr (0, [.ref t0, .ref n0, .ref j0, .int (nI ec)])), (n0, .inl (cA, 24, .inl tn)), (j0, .inl (cA, 24, .inl jn)), (l0, .inl (cA, 24, .inl P))]) (w2 := [(h0, .inr (3, [.ref p1, .ref p2, .ref e0, .ref l0, .ref m0])), (p1, .inr (2, [.ref b1, .int (nI 24), .int (nI k1)])), (b1, .inl (cA, 72, .inl f1)), (p2, .inr (2, [.ref b2, .int (nI 72), .int (nI (k2 + 1))])), (b2, .inl (cA, 216, .inl (pApp f2 k2 10 (tn i) 0))), (e0, .inr (0, [.ref t0, .ref n0, .ref j0, .int (nI ec)])), (n0, .inl (cA, 24, .inl tn)), (j0, .inl (cA, 24, .inl jn)), (l0, .inl (cA, 24, .inl P))]) rfl rfl (by decide) (by decide) (by decide) rfl (fun H locs hP hD hS => ?_)
    refine lv_iload_n hx hb dX3_appendGuarded_58 rfl (lv_at hl 3 rfl) ?_
    refine lv_bipush (v := 8) hx hb dX3_appendGuarded_59 (by decide) ?_
    refine lv_icmp_ne (tgt := 82) hx hb dX3_appendGuarded_61 (by decide) (fun c_61 => ?_) (fun c_61 => ?_)
    · refine lv_aload_n hx hb dX3_appendGuarded_82 rfl (lv_at hl 4 rfl) ?_
      refine va_get (D := D) (ci := 3) (v := .ref p2) (C := RX3) (T := TX3) (N := 5) hx hb hts iw_X3_appendGuarded_X3 hown hK hP 0 rfl rfl 1 (by decide) (hts (.fieldLink RX3 18 "JumpGuard" "guardedProgram" "LJumpGuard$Program;") (List.mem_of_getElem? (l := wsX3_appendGuarded) (i := 3) rfl)) (fun _ h9 => h9) rfl dX3_appendGuarded_83 ?_
      refine lv_iload_n hx hb dX3_appendGuarded_86 rfl (lv_at hl 3 rfl) ?_
      refine lv_iload_n hx hb dX3_appendGuarded_87 rfl (lv_at hl 3 rfl) ?_
      refine lv_bipush (v := 6) hx hb dX3_appendGuarded_88 (by decide) ?_
      refine lv_icmp_ne (tgt := 101) hx hb dX3_appendGuarded_90 (by decide) (fun c_90 => ?_) (fun c_90 => ?_)
      · refine lv_iload_n hx hb dX3_appendGuarded_101 rfl (lv_at hl 2 rfl) ?_
        refine lv_iload_n hx hb dX3_appendGuarded_102 rfl (lv_at hl 3 rfl) ?_
        refine jr_i (va_runS (As := [.int (f1 (i * 3))]) (rest := [.int (f1 (i * 3 + 1)), .int (f1 (i * 3)), .ref p2]) ⟨hx, hb, hml, hown, hts⟩ (c_X3_holdsAddressInB l D cA (f1 (i * 3))) (va_cwS 1 hts gX3_appendGuarded_X3_holdsAddressInB rfl rfl rfl hv_X3_holdsAddressInB.2 ⟨Nat.le_of_ble_eq_true rfl, Nat.le_of_ble_eq_true rfl⟩) (roP.S (av := [.int (f1 (i * 3))]) (jP_sub (w2 := []) hP [] rfl) hK hN) rfl rfl hl.1 rfl (lv_room (Nat.le_of_ble_eq_true rfl)) dX3_appendGuarded_103 ⟨Nat.le_of_ble_eq_true rfl, Nat.le_of_ble_eq_true rfl⟩) ?_
        refine lv_if_eq (tgt := 118) hx hb dX3_appendGuarded_106 (by decide) (fun c_106 => ?_) (fun c_106 => ?_)
        · replace c_106 := jB_z.mp c_106
          refine lv_iload hx hb dX3_appendGuarded_118 (lv_at hl 1 rfl) ?_
          refine jw_v (va_runV (As := [.int (f1 (i * 3)), .int (f1 (i * 3 + 1)), .int (f1 (i * 3 + 2))]) (rest := []) ⟨hx, hb, hml, hown, hts⟩ (c_X2_append l D cA H.size p2 b2 72 (k2 + 1) 216 (pApp f2 k2 10 (tn i) 0) (f1 (i * 3)) (f1 (i * 3 + 1)) (f1 (i * 3 + 2)) (by omega) (by first | assumption | omega) (by omega)) (cwV 3 hts gX3_appendGuarded_X2_append rfl rfl rfl hv_X2_append ⟨Nat.le_of_ble_eq_true rfl, Nat.le_of_ble_eq_true rfl⟩) (rwP.V (wc := [(p2, .inr (2, [.ref b2, .int (nI 72), .int (nI (k2 + 1))])), (b2, .inl (cA, 216, .inl (pApp f2 k2 10 (tn i) 0)))]) (va_recv hK hP (ci := 2) (q0 := 3) rfl rfl) hP hD hK hN [3, 4] (by decide) rfl) rfl rfl hl.1 rfl (lv_room (Nat.le_of_ble_eq_true rfl)) dX3_appendGuarded_120 ⟨Nat.le_of_ble_eq_true rfl, Nat.le_of_ble_eq_true rfl⟩) hP hD hS hA [3, 4] [0, 1, 2, 5, 6, 7, 8] [0, 1, 2, 7, 8, 3, 4, 5, 6] (wr := [(h0, .inr (3, [.ref p1, .ref p2, .ref e0, .ref l0, .ref m0])), (p1, .inr (2, [.ref b1, .int (nI 24), .int (nI k1)])), (b1, .inl (cA, 72, .inl f1)), (e0, .inr (0, [.ref t0, .ref n0, .ref j0, .int (nI ec)])), (n0, .inl (cA, 24, .inl tn)), (j0, .inl (cA, 24, .inl jn)), (l0, .inl (cA, 24, .inl P))]) (w2 := [(h0, .inr (3, [.ref p1, .ref p2, .ref e0, .ref l0, .ref m0])), (p1, .inr (2, [.ref b1, .int (nI 24), .int (nI k1)])), (b1, .inl (cA, 72, .inl f1)), (p2, .inr (2, [.ref b2, .int (nI 72), .int (nI ((k2 + 1) + 1))])), (b2, .inl (cA, 216, .inl (pApp (pApp f2 k2 10 (tn i) 0) (k2 + 1) (f1 (i * 3)) (f1 (i * 3 + 1)) (f1 (i * 3 + 2))))), (e0, .inr (0, [.ref t0, .ref n0, .ref j0, .int (nI ec)])), (n0, .inl (cA, 24, .inl tn)), (j0, .inl (cA, 24, .inl jn)), (l0, .inl (cA, 24, .inl P))]) rfl rfl (by decide) (by decide) (by decide) rfl (fun H locs hP hD hS => ?_)
          obtain ⟨hP9, hD9⟩ := jk_end (w2 := [(h0, .inr (3, [.ref p1, .ref p2, .ref e0, .ref l0, .ref m0])), (p1, .inr (2, [.ref b1, .int (nI 24), .int (nI k1)])), (b1, .inl (cA, 72, .inl f1)), (p2, .inr (2, [.ref b2, .int (nI 72), .int (nI ((k2 + 1) + 1))])), (b2, .inl (cA, 216, .inl (pApp (pApp f2 k2 10 (tn i) 0) (k2 + 1) (f1 (i * 3)) (f1 (i * 3 + 1)) (f1 (i * 3 + 2))))), (e0, .inr (0, [.ref t0, .ref n0, .ref j0, .int (nI ec)])), (n0, .inl (cA, 24, .inl tn)), (j0, .inl (cA, 24, .inl jn)), (l0, .inl (cA, 24, .inl P))]) hP hD [0, 1, 2, 3, 4, 5, 6, 7, 8] (by decide) rfl
          have e9 : ([(h0, .inr (3, [.ref p1, .ref p2, .ref e0, .ref l0, .ref m0])), (p1, .inr (2, [.ref b1, .int (nI 24), .int (nI k1)])), (b1, .inl (cA, 72, .inl f1)), (p2, .inr (2, [.ref b2, .int (nI 72), .int (nI ((k2 + 1) + 1))])), (b2, .inl (cA, 216, .inl (pApp (pApp f2 k2 10 (tn i) 0) (k2 + 1) (f1 (i * 3)) (f1 (i * 3 + 1)) (f1 (i * 3 + 2))))), (e0, .inr (0, [.ref t0, .ref n0, .ref j0, .int (nI ec)])), (n0, .inl (cA, 24, .inl tn)), (j0, .inl (cA, 24, .inl jn)), (l0, .inl (cA, 24, .inl P))] : va_W) = [(h0, .inr (3, [.ref p1, .ref p2, .ref e0, .ref l0, .ref m0])), (p1, .inr (2, [.ref b1, .int (nI 24), .int (nI k1)])), (b1, .inl (cA, 72, .inl f1)), (p2, .inr (2, [.ref b2, .int (nI 72), .int (nI (gA f1 tn jn P i (k2, f2)).1)])), (b2, .inl (cA, 216, .inl ((gA f1 tn jn P i (k2, f2)).2))), (e0, .inr (0, [.ref t0, .ref n0, .ref j0, .int (nI ec)])), (n0, .inl (cA, 24, .inl tn)), (j0, .inl (cA, 24, .inl jn)), (l0, .inl (cA, 24, .inl P))] := (by unfold gA gA3 gA2 gA1 gX gY; simp only [if_neg c_43, if_neg c_61, if_neg c_90, if_neg c_106])
          rw [e9] at hP9 hD9
          exact W.vret hx hb hr (fun t9 ht9 hW9 => ⟨⟨(), rfl, trivial, by rw [ht9]; exact hP9, hD9⟩, hS.F ht9⟩) hS.2.2 dX3_appendGuarded_123
        · replace c_106 := jB_nz.mp c_106
          refine lv_aload_n hx hb dX3_appendGuarded_109 rfl (lv_at hl 4 rfl) ?_
          refine lv_iload hx hb dX3_appendGuarded_110 (lv_at hl 1 rfl) ?_
          refine jr_i (va_runV (As := [.int (f1 (i * 3 + 2))]) (rest := [.int (f1 (i * 3 + 1)), .int (f1 (i * 3)), .ref p2]) ⟨hx, hb, hml, hown, hts⟩ (c_X3_placeOf l D cA h0 p1 p2 e0 l0 m0 P (f1 (i * 3 + 2))) (cwV 1 hts gX3_appendGuarded_X3_placeOf rfl rfl rfl hv_X3_placeOf ⟨Nat.le_of_ble_eq_true rfl, Nat.le_of_ble_eq_true rfl⟩) (roP.V (va_recv hK hP (ci := 3) (q0 := 0) rfl rfl) (jP_sub (w2 := [(h0, .inr (3, [.ref p1, .ref p2, .ref e0, .ref l0, .ref m0])), (l0, .inl (cA, 24, .inl P))]) hP [0, 8] rfl) hK hN) rfl rfl hl.1 rfl (lv_room (Nat.le_of_ble_eq_true rfl)) dX3_appendGuarded_112 ⟨Nat.le_of_ble_eq_true rfl, Nat.le_of_ble_eq_true rfl⟩) ?_
          refine lv_goto (tgt := 120) hx hb dX3_appendGuarded_115 (by decide) ?_
          refine jw_v (va_runV (As := [.int (f1 (i * 3)), .int (f1 (i * 3 + 1)), .int (pPl P (f1 (i * 3 + 2)))]) (rest := []) ⟨hx, hb, hml, hown, hts⟩ (c_X2_append l D cA H.size p2 b2 72 (k2 + 1) 216 (pApp f2 k2 10 (tn i) 0) (f1 (i * 3)) (f1 (i * 3 + 1)) (pPl P (f1 (i * 3 + 2))) (by omega) (by first | assumption | omega) (by omega)) (cwV 3 hts gX3_appendGuarded_X2_append rfl rfl rfl hv_X2_append ⟨Nat.le_of_ble_eq_true rfl, Nat.le_of_ble_eq_true rfl⟩) (rwP.V (wc := [(p2, .inr (2, [.ref b2, .int (nI 72), .int (nI (k2 + 1))])), (b2, .inl (cA, 216, .inl (pApp f2 k2 10 (tn i) 0)))]) (va_recv hK hP (ci := 2) (q0 := 3) rfl rfl) hP hD hK hN [3, 4] (by decide) rfl) rfl rfl hl.1 rfl (lv_room (Nat.le_of_ble_eq_true rfl)) dX3_appendGuarded_120 ⟨Nat.le_of_ble_eq_true rfl, Nat.le_of_ble_eq_true rfl⟩) hP hD hS hA [3, 4] [0, 1, 2, 5, 6, 7, 8] [0, 1, 2, 7, 8, 3, 4, 5, 6] (wr := [(h0, .inr (3, [.ref p1, .ref p2, .ref e0, .ref l0, .ref m0])), (p1, .inr (2, [.ref b1, .int (nI 24), .int (nI k1)])), (b1, .inl (cA, 72, .inl f1)), (e0, .inr (0, [.ref t0, .ref n0, .ref j0, .int (nI ec)])), (n0, .inl (cA, 24, .inl tn)), (j0, .inl (cA, 24, .inl jn)), (l0, .inl (cA, 24, .inl P))]) (w2 := [(h0, .inr (3, [.ref p1, .ref p2, .ref e0, .ref l0, .ref m0])), (p1, .inr (2, [.ref b1, .int (nI 24), .int (nI k1)])), (b1, .inl (cA, 72, .inl f1)), (p2, .inr (2, [.ref b2, .int (nI 72), .int (nI ((k2 + 1) + 1))])), (b2, .inl (cA, 216, .inl (pApp (pApp f2 k2 10 (tn i) 0) (k2 + 1) (f1 (i * 3)) (f1 (i * 3 + 1)) (pPl P (f1 (i * 3 + 2)))))), (e0, .inr (0, [.ref t0, .ref n0, .ref j0, .int (nI ec)])), (n0, .inl (cA, 24, .inl tn)), (j0, .inl (cA, 24, .inl jn)), (l0, .inl (cA, 24, .inl P))]) rfl rfl (by decide) (by decide) (by decide) rfl (fun H locs hP hD hS => ?_)
          obtain ⟨hP9, hD9⟩ := jk_end (w2 := [(h0, .inr (3, [.ref p1, .ref p2, .ref e0, .ref l0, .ref m0])), (p1, .inr (2, [.ref b1, .int (nI 24), .int (nI k1)])), (b1, .inl (cA, 72, .inl f1)), (p2, .inr (2, [.ref b2, .int (nI 72), .int (nI ((k2 + 1) + 1))])), (b2, .inl (cA, 216, .inl (pApp (pApp f2 k2 10 (tn i) 0) (k2 + 1) (f1 (i * 3)) (f1 (i * 3 + 1)) (pPl P (f1 (i * 3 + 2)))))), (e0, .inr (0, [.ref t0, .ref n0, .ref j0, .int (nI ec)])), (n0, .inl (cA, 24, .inl tn)), (j0, .inl (cA, 24, .inl jn)), (l0, .inl (cA, 24, .inl P))]) hP hD [0, 1, 2, 3, 4, 5, 6, 7, 8] (by decide) rfl
          have e9 : ([(h0, .inr (3, [.ref p1, .ref p2, .ref e0, .ref l0, .ref m0])), (p1, .inr (2, [.ref b1, .int (nI 24), .int (nI k1)])), (b1, .inl (cA, 72, .inl f1)), (p2, .inr (2, [.ref b2, .int (nI 72), .int (nI ((k2 + 1) + 1))])), (b2, .inl (cA, 216, .inl (pApp (pApp f2 k2 10 (tn i) 0) (k2 + 1) (f1 (i * 3)) (f1 (i * 3 + 1)) (pPl P (f1 (i * 3 + 2)))))), (e0, .inr (0, [.ref t0, .ref n0, .ref j0, .int (nI ec)])), (n0, .inl (cA, 24, .inl tn)), (j0, .inl (cA, 24, .inl jn)), (l0, .inl (cA, 24, .inl P))] : va_W) = [(h0, .inr (3, [.ref p1, .ref p2, .ref e0, .ref l0, .ref m0])), (p1, .inr (2, [.ref b1, .int (nI 24), .int (nI k1)])), (b1, .inl (cA, 72, .inl f1)), (p2, .inr (2, [.ref b2, .int (nI 72), .int (nI (gA f1 tn jn P i (k2, f2)).1)])), (b2, .inl (cA, 216, .inl ((gA f1 tn jn P i (k2, f2)).2))), (e0, .inr (0, [.ref t0, .ref n0, .ref j0, .int (nI ec)])), (n0, .inl (cA, 24, .inl tn)), (j0, .inl (cA, 24, .inl jn)), (l0, .inl (cA, 24, .inl P))] := (by unfold gA gA3 gA2 gA1 gX gY; simp only [if_neg c_43, if_neg c_61, if_neg c_90, if_pos c_106])
          rw [e9] at hP9 hD9
          exact W.vret hx hb hr (fun t9 ht9 hW9 => ⟨⟨(), rfl, trivial, by rw [ht9]; exact hP9, hD9⟩, hS.F ht9⟩) hS.2.2 dX3_appendGuarded_123
      · refine lv_aload_n hx hb dX3_appendGuarded_93 rfl (lv_at hl 4 rfl) ?_
        refine lv_iload_n hx hb dX3_appendGuarded_94 rfl (lv_at hl 2 rfl) ?_
        refine jr_i (va_runV (As := [.int (f1 (i * 3 + 1))]) (rest := [.int (f1 (i * 3)), .ref p2]) ⟨hx, hb, hml, hown, hts⟩ (c_X3_placeOf l D cA h0 p1 p2 e0 l0 m0 P (f1 (i * 3 + 1))) (cwV 1 hts gX3_appendGuarded_X3_placeOf rfl rfl rfl hv_X3_placeOf ⟨Nat.le_of_ble_eq_true rfl, Nat.le_of_ble_eq_true rfl⟩) (roP.V (va_recv hK hP (ci := 3) (q0 := 0) rfl rfl) (jP_sub (w2 := [(h0, .inr (3, [.ref p1, .ref p2, .ref e0, .ref l0, .ref m0])), (l0, .inl (cA, 24, .inl P))]) hP [0, 8] rfl) hK hN) rfl rfl hl.1 rfl (lv_room (Nat.le_of_ble_eq_true rfl)) dX3_appendGuarded_95 ⟨Nat.le_of_ble_eq_true rfl, Nat.le_of_ble_eq_true rfl⟩) ?_
        refine lv_goto (tgt := 102) hx hb dX3_appendGuarded_98 (by decide) ?_
        refine lv_iload_n hx hb dX3_appendGuarded_102 rfl (lv_at hl 3 rfl) ?_
        refine jr_i (va_runS (As := [.int (f1 (i * 3))]) (rest := [.int (pPl P (f1 (i * 3 + 1))), .int (f1 (i * 3)), .ref p2]) ⟨hx, hb, hml, hown, hts⟩ (c_X3_holdsAddressInB l D cA (f1 (i * 3))) (va_cwS 1 hts gX3_appendGuarded_X3_holdsAddressInB rfl rfl rfl hv_X3_holdsAddressInB.2 ⟨Nat.le_of_ble_eq_true rfl, Nat.le_of_ble_eq_true rfl⟩) (roP.S (av := [.int (f1 (i * 3))]) (jP_sub (w2 := []) hP [] rfl) hK hN) rfl rfl hl.1 rfl (lv_room (Nat.le_of_ble_eq_true rfl)) dX3_appendGuarded_103 ⟨Nat.le_of_ble_eq_true rfl, Nat.le_of_ble_eq_true rfl⟩) ?_
        refine lv_if_eq (tgt := 118) hx hb dX3_appendGuarded_106 (by decide) (fun c_106 => ?_) (fun c_106 => ?_)
        · replace c_106 := jB_z.mp c_106
          refine lv_iload hx hb dX3_appendGuarded_118 (lv_at hl 1 rfl) ?_
          refine jw_v (va_runV (As := [.int (f1 (i * 3)), .int (pPl P (f1 (i * 3 + 1))), .int (f1 (i * 3 + 2))]) (rest := []) ⟨hx, hb, hml, hown, hts⟩ (c_X2_append l D cA H.size p2 b2 72 (k2 + 1) 216 (pApp f2 k2 10 (tn i) 0) (f1 (i * 3)) (pPl P (f1 (i * 3 + 1))) (f1 (i * 3 + 2)) (by omega) (by first | assumption | omega) (by omega)) (cwV 3 hts gX3_appendGuarded_X2_append rfl rfl rfl hv_X2_append ⟨Nat.le_of_ble_eq_true rfl, Nat.le_of_ble_eq_true rfl⟩) (rwP.V (wc := [(p2, .inr (2, [.ref b2, .int (nI 72), .int (nI (k2 + 1))])), (b2, .inl (cA, 216, .inl (pApp f2 k2 10 (tn i) 0)))]) (va_recv hK hP (ci := 2) (q0 := 3) rfl rfl) hP hD hK hN [3, 4] (by decide) rfl) rfl rfl hl.1 rfl (lv_room (Nat.le_of_ble_eq_true rfl)) dX3_appendGuarded_120 ⟨Nat.le_of_ble_eq_true rfl, Nat.le_of_ble_eq_true rfl⟩) hP hD hS hA [3, 4] [0, 1, 2, 5, 6, 7, 8] [0, 1, 2, 7, 8, 3, 4, 5, 6] (wr := [(h0, .inr (3, [.ref p1, .ref p2, .ref e0, .ref l0, .ref m0])), (p1, .inr (2, [.ref b1, .int (nI 24), .int (nI k1)])), (b1, .inl (cA, 72, .inl f1)), (e0, .inr (0, [.ref t0, .ref n0, .ref j0, .int (nI ec)])), (n0, .inl (cA, 24, .inl tn)), (j0, .inl (cA, 24, .inl jn)), (l0, .inl (cA, 24, .inl P))]) (w2 := [(h0, .inr (3, [.ref p1, .ref p2, .ref e0, .ref l0, .ref m0])), (p1, .inr (2, [.ref b1, .int (nI 24), .int (nI k1)])), (b1, .inl (cA, 72, .inl f1)), (p2, .inr (2, [.ref b2, .int (nI 72), .int (nI ((k2 + 1) + 1))])), (b2, .inl (cA, 216, .inl (pApp (pApp f2 k2 10 (tn i) 0) (k2 + 1) (f1 (i * 3)) (pPl P (f1 (i * 3 + 1))) (f1 (i * 3 + 2))))), (e0, .inr (0, [.ref t0, .ref n0, .ref j0, .int (nI ec)])), (n0, .inl (cA, 24, .inl tn)), (j0, .inl (cA, 24, .inl jn)), (l0, .inl (cA, 24, .inl P))]) rfl rfl (by decide) (by decide) (by decide) rfl (fun H locs hP hD hS => ?_)
          obtain ⟨hP9, hD9⟩ := jk_end (w2 := [(h0, .inr (3, [.ref p1, .ref p2, .ref e0, .ref l0, .ref m0])), (p1, .inr (2, [.ref b1, .int (nI 24), .int (nI k1)])), (b1, .inl (cA, 72, .inl f1)), (p2, .inr (2, [.ref b2, .int (nI 72), .int (nI ((k2 + 1) + 1))])), (b2, .inl (cA, 216, .inl (pApp (pApp f2 k2 10 (tn i) 0) (k2 + 1) (f1 (i * 3)) (pPl P (f1 (i * 3 + 1))) (f1 (i * 3 + 2))))), (e0, .inr (0, [.ref t0, .ref n0, .ref j0, .int (nI ec)])), (n0, .inl (cA, 24, .inl tn)), (j0, .inl (cA, 24, .inl jn)), (l0, .inl (cA, 24, .inl P))]) hP hD [0, 1, 2, 3, 4, 5, 6, 7, 8] (by decide) rfl
          have e9 : ([(h0, .inr (3, [.ref p1, .ref p2, .ref e0, .ref l0, .ref m0])), (p1, .inr (2, [.ref b1, .int (nI 24), .int (nI k1)])), (b1, .inl (cA, 72, .inl f1)), (p2, .inr (2, [.ref b2, .int (nI 72), .int (nI ((k2 + 1) + 1))])), (b2, .inl (cA, 216, .inl (pApp (pApp f2 k2 10 (tn i) 0) (k2 + 1) (f1 (i * 3)) (pPl P (f1 (i * 3 + 1))) (f1 (i * 3 + 2))))), (e0, .inr (0, [.ref t0, .ref n0, .ref j0, .int (nI ec)])), (n0, .inl (cA, 24, .inl tn)), (j0, .inl (cA, 24, .inl jn)), (l0, .inl (cA, 24, .inl P))] : va_W) = [(h0, .inr (3, [.ref p1, .ref p2, .ref e0, .ref l0, .ref m0])), (p1, .inr (2, [.ref b1, .int (nI 24), .int (nI k1)])), (b1, .inl (cA, 72, .inl f1)), (p2, .inr (2, [.ref b2, .int (nI 72), .int (nI (gA f1 tn jn P i (k2, f2)).1)])), (b2, .inl (cA, 216, .inl ((gA f1 tn jn P i (k2, f2)).2))), (e0, .inr (0, [.ref t0, .ref n0, .ref j0, .int (nI ec)])), (n0, .inl (cA, 24, .inl tn)), (j0, .inl (cA, 24, .inl jn)), (l0, .inl (cA, 24, .inl P))] := (by unfold gA gA3 gA2 gA1 gX gY; simp only [if_neg c_43, if_neg c_61, if_pos c_90, if_neg c_106])
          rw [e9] at hP9 hD9
          exact W.vret hx hb hr (fun t9 ht9 hW9 => ⟨⟨(), rfl, trivial, by rw [ht9]; exact hP9, hD9⟩, hS.F ht9⟩) hS.2.2 dX3_appendGuarded_123
        · replace c_106 := jB_nz.mp c_106
          refine lv_aload_n hx hb dX3_appendGuarded_109 rfl (lv_at hl 4 rfl) ?_
          refine lv_iload hx hb dX3_appendGuarded_110 (lv_at hl 1 rfl) ?_
          refine jr_i (va_runV (As := [.int (f1 (i * 3 + 2))]) (rest := [.int (pPl P (f1 (i * 3 + 1))), .int (f1 (i * 3)), .ref p2]) ⟨hx, hb, hml, hown, hts⟩ (c_X3_placeOf l D cA h0 p1 p2 e0 l0 m0 P (f1 (i * 3 + 2))) (cwV 1 hts gX3_appendGuarded_X3_placeOf rfl rfl rfl hv_X3_placeOf ⟨Nat.le_of_ble_eq_true rfl, Nat.le_of_ble_eq_true rfl⟩) (roP.V (va_recv hK hP (ci := 3) (q0 := 0) rfl rfl) (jP_sub (w2 := [(h0, .inr (3, [.ref p1, .ref p2, .ref e0, .ref l0, .ref m0])), (l0, .inl (cA, 24, .inl P))]) hP [0, 8] rfl) hK hN) rfl rfl hl.1 rfl (lv_room (Nat.le_of_ble_eq_true rfl)) dX3_appendGuarded_112 ⟨Nat.le_of_ble_eq_true rfl, Nat.le_of_ble_eq_true rfl⟩) ?_
          refine lv_goto (tgt := 120) hx hb dX3_appendGuarded_115 (by decide) ?_
          refine jw_v (va_runV (As := [.int (f1 (i * 3)), .int (pPl P (f1 (i * 3 + 1))), .int (pPl P (f1 (i * 3 + 2)))]) (rest := []) ⟨hx, hb, hml, hown, hts⟩ (c_X2_append l D cA H.size p2 b2 72 (k2 + 1) 216 (pApp f2 k2 10 (tn i) 0) (f1 (i * 3)) (pPl P (f1 (i * 3 + 1))) (pPl P (f1 (i * 3 + 2))) (by omega) (by first | assumption | omega) (by omega)) (cwV 3 hts gX3_appendGuarded_X2_append rfl rfl rfl hv_X2_append ⟨Nat.le_of_ble_eq_true rfl, Nat.le_of_ble_eq_true rfl⟩) (rwP.V (wc := [(p2, .inr (2, [.ref b2, .int (nI 72), .int (nI (k2 + 1))])), (b2, .inl (cA, 216, .inl (pApp f2 k2 10 (tn i) 0)))]) (va_recv hK hP (ci := 2) (q0 := 3) rfl rfl) hP hD hK hN [3, 4] (by decide) rfl) rfl rfl hl.1 rfl (lv_room (Nat.le_of_ble_eq_true rfl)) dX3_appendGuarded_120 ⟨Nat.le_of_ble_eq_true rfl, Nat.le_of_ble_eq_true rfl⟩) hP hD hS hA [3, 4] [0, 1, 2, 5, 6, 7, 8] [0, 1, 2, 7, 8, 3, 4, 5, 6] (wr := [(h0, .inr (3, [.ref p1, .ref p2, .ref e0, .ref l0, .ref m0])), (p1, .inr (2, [.ref b1, .int (nI 24), .int (nI k1)])), (b1, .inl (cA, 72, .inl f1)), (e0, .inr (0, [.ref t0, .ref n0, .ref j0, .int (nI ec)])), (n0, .inl (cA, 24, .inl tn)), (j0, .inl (cA, 24, .inl jn)), (l0, .inl (cA, 24, .inl P))]) (w2 := [(h0, .inr (3, [.ref p1, .ref p2, .ref e0, .ref l0, .ref m0])), (p1, .inr (2, [.ref b1, .int (nI 24), .int (nI k1)])), (b1, .inl (cA, 72, .inl f1)), (p2, .inr (2, [.ref b2, .int (nI 72), .int (nI ((k2 + 1) + 1))])), (b2, .inl (cA, 216, .inl (pApp (pApp f2 k2 10 (tn i) 0) (k2 + 1) (f1 (i * 3)) (pPl P (f1 (i * 3 + 1))) (pPl P (f1 (i * 3 + 2)))))), (e0, .inr (0, [.ref t0, .ref n0, .ref j0, .int (nI ec)])), (n0, .inl (cA, 24, .inl tn)), (j0, .inl (cA, 24, .inl jn)), (l0, .inl (cA, 24, .inl P))]) rfl rfl (by decide) (by decide) (by decide) rfl (fun H locs hP hD hS => ?_)
          obtain ⟨hP9, hD9⟩ := jk_end (w2 := [(h0, .inr (3, [.ref p1, .ref p2, .ref e0, .ref l0, .ref m0])), (p1, .inr (2, [.ref b1, .int (nI 24), .int (nI k1)])), (b1, .inl (cA, 72, .inl f1)), (p2, .inr (2, [.ref b2, .int (nI 72), .int (nI ((k2 + 1) + 1))])), (b2, .inl (cA, 216, .inl (pApp (pApp f2 k2 10 (tn i) 0) (k2 + 1) (f1 (i * 3)) (pPl P (f1 (i * 3 + 1))) (pPl P (f1 (i * 3 + 2)))))), (e0, .inr (0, [.ref t0, .ref n0, .ref j0, .int (nI ec)])), (n0, .inl (cA, 24, .inl tn)), (j0, .inl (cA, 24, .inl jn)), (l0, .inl (cA, 24, .inl P))]) hP hD [0, 1, 2, 3, 4, 5, 6, 7, 8] (by decide) rfl
          have e9 : ([(h0, .inr (3, [.ref p1, .ref p2, .ref e0, .ref l0, .ref m0])), (p1, .inr (2, [.ref b1, .int (nI 24), .int (nI k1)])), (b1, .inl (cA, 72, .inl f1)), (p2, .inr (2, [.ref b2, .int (nI 72), .int (nI ((k2 + 1) + 1))])), (b2, .inl (cA, 216, .inl (pApp (pApp f2 k2 10 (tn i) 0) (k2 + 1) (f1 (i * 3)) (pPl P (f1 (i * 3 + 1))) (pPl P (f1 (i * 3 + 2)))))), (e0, .inr (0, [.ref t0, .ref n0, .ref j0, .int (nI ec)])), (n0, .inl (cA, 24, .inl tn)), (j0, .inl (cA, 24, .inl jn)), (l0, .inl (cA, 24, .inl P))] : va_W) = [(h0, .inr (3, [.ref p1, .ref p2, .ref e0, .ref l0, .ref m0])), (p1, .inr (2, [.ref b1, .int (nI 24), .int (nI k1)])), (b1, .inl (cA, 72, .inl f1)), (p2, .inr (2, [.ref b2, .int (nI 72), .int (nI (gA f1 tn jn P i (k2, f2)).1)])), (b2, .inl (cA, 216, .inl ((gA f1 tn jn P i (k2, f2)).2))), (e0, .inr (0, [.ref t0, .ref n0, .ref j0, .int (nI ec)])), (n0, .inl (cA, 24, .inl tn)), (j0, .inl (cA, 24, .inl jn)), (l0, .inl (cA, 24, .inl P))] := (by unfold gA gA3 gA2 gA1 gX gY; simp only [if_neg c_43, if_neg c_61, if_pos c_90, if_pos c_106])
          rw [e9] at hP9 hD9
          exact W.vret hx hb hr (fun t9 ht9 hW9 => ⟨⟨(), rfl, trivial, by rw [ht9]; exact hP9, hD9⟩, hS.F ht9⟩) hS.2.2 dX3_appendGuarded_123
    · refine lv_aload_n hx hb dX3_appendGuarded_64 rfl (lv_at hl 4 rfl) ?_
      refine va_get (D := D) (ci := 3) (v := .ref p2) (C := RX3) (T := TX3) (N := 5) hx hb hts iw_X3_appendGuarded_X3 hown hK hP 0 rfl rfl 1 (by decide) (hts (.fieldLink RX3 18 "JumpGuard" "guardedProgram" "LJumpGuard$Program;") (List.mem_of_getElem? (l := wsX3_appendGuarded) (i := 3) rfl)) (fun _ h9 => h9) rfl dX3_appendGuarded_65 ?_
      refine lv_bipush (v := 11) hx hb dX3_appendGuarded_68 (by decide) ?_
      refine lv_iload_n hx hb dX3_appendGuarded_70 rfl (lv_at hl 2 rfl) ?_
      refine lv_aload_n hx hb dX3_appendGuarded_71 rfl (lv_at hl 4 rfl) ?_
      refine va_get (D := D) (ci := 3) (v := .ref e0) (C := RX3) (T := TX3) (N := 5) hx hb hts iw_X3_appendGuarded_X3 hown hK hP 0 rfl rfl 2 (by decide) (hts (.fieldLink RX3 24 "JumpGuard" "edges" "LJumpGuard$Edges;") (List.mem_of_getElem? (l := wsX3_appendGuarded) (i := 2) rfl)) (fun _ h9 => h9) rfl dX3_appendGuarded_72 ?_
      refine lv_iload_n hx hb dX3_appendGuarded_75 rfl (lv_at hl 5 rfl) ?_
      refine jr_i (va_runV (As := [.int (nI i)]) (rest := [.int (f1 (i * 3 + 1)), .int 11, .ref p2]) ⟨hx, hb, hml, hown, hts⟩ (c_X0_numberOfJump l D cA e0 t0 n0 j0 ec jn (nI i)) (cwV 1 hts gX3_appendGuarded_X0_numberOfJump rfl rfl rfl hv_X0_numberOfJump ⟨Nat.le_of_ble_eq_true rfl, Nat.le_of_ble_eq_true rfl⟩) (roP.V (va_recv hK hP (ci := 0) (q0 := 5) rfl rfl) (jP_sub (w2 := [(e0, .inr (0, [.ref t0, .ref n0, .ref j0, .int (nI ec)])), (j0, .inl (cA, 24, .inl jn))]) hP [5, 7] rfl) hK hN) rfl rfl hl.1 rfl (lv_room (Nat.le_of_ble_eq_true rfl)) dX3_appendGuarded_76 ⟨Nat.le_of_ble_eq_true rfl, Nat.le_of_ble_eq_true rfl⟩) ?_
      refine jk_top (show (jAt jn 24 (nI i)) = (jn i) from jAt_n (n := 24) (by omega) (by decide)) ?_
      refine jw_v (va_runV (As := [.int 11, .int (f1 (i * 3 + 1)), .int (jn i)]) (rest := []) ⟨hx, hb, hml, hown, hts⟩ (c_X2_append l D cA H.size p2 b2 72 (k2 + 1) 216 (pApp f2 k2 10 (tn i) 0) 11 (f1 (i * 3 + 1)) (jn i) (by omega) (by first | assumption | omega) (by omega)) (cwV 3 hts gX3_appendGuarded_X2_append rfl rfl rfl hv_X2_append ⟨Nat.le_of_ble_eq_true rfl, Nat.le_of_ble_eq_true rfl⟩) (rwP.V (wc := [(p2, .inr (2, [.ref b2, .int (nI 72), .int (nI (k2 + 1))])), (b2, .inl (cA, 216, .inl (pApp f2 k2 10 (tn i) 0)))]) (va_recv hK hP (ci := 2) (q0 := 3) rfl rfl) hP hD hK hN [3, 4] (by decide) rfl) rfl rfl hl.1 rfl (lv_room (Nat.le_of_ble_eq_true rfl)) dX3_appendGuarded_79 ⟨Nat.le_of_ble_eq_true rfl, Nat.le_of_ble_eq_true rfl⟩) hP hD hS hA [3, 4] [0, 1, 2, 5, 6, 7, 8] [0, 1, 2, 7, 8, 3, 4, 5, 6] (wr := [(h0, .inr (3, [.ref p1, .ref p2, .ref e0, .ref l0, .ref m0])), (p1, .inr (2, [.ref b1, .int (nI 24), .int (nI k1)])), (b1, .inl (cA, 72, .inl f1)), (e0, .inr (0, [.ref t0, .ref n0, .ref j0, .int (nI ec)])), (n0, .inl (cA, 24, .inl tn)), (j0, .inl (cA, 24, .inl jn)), (l0, .inl (cA, 24, .inl P))]) (w2 := [(h0, .inr (3, [.ref p1, .ref p2, .ref e0, .ref l0, .ref m0])), (p1, .inr (2, [.ref b1, .int (nI 24), .int (nI k1)])), (b1, .inl (cA, 72, .inl f1)), (p2, .inr (2, [.ref b2, .int (nI 72), .int (nI ((k2 + 1) + 1))])), (b2, .inl (cA, 216, .inl (pApp (pApp f2 k2 10 (tn i) 0) (k2 + 1) 11 (f1 (i * 3 + 1)) (jn i)))), (e0, .inr (0, [.ref t0, .ref n0, .ref j0, .int (nI ec)])), (n0, .inl (cA, 24, .inl tn)), (j0, .inl (cA, 24, .inl jn)), (l0, .inl (cA, 24, .inl P))]) rfl rfl (by decide) (by decide) (by decide) rfl (fun H locs hP hD hS => ?_)
      refine lv_aload_n hx hb dX3_appendGuarded_82 rfl (lv_at hl 4 rfl) ?_
      refine va_get (D := D) (ci := 3) (v := .ref p2) (C := RX3) (T := TX3) (N := 5) hx hb hts iw_X3_appendGuarded_X3 hown hK hP 0 rfl rfl 1 (by decide) (hts (.fieldLink RX3 18 "JumpGuard" "guardedProgram" "LJumpGuard$Program;") (List.mem_of_getElem? (l := wsX3_appendGuarded) (i := 3) rfl)) (fun _ h9 => h9) rfl dX3_appendGuarded_83 ?_
      refine lv_iload_n hx hb dX3_appendGuarded_86 rfl (lv_at hl 3 rfl) ?_
      refine lv_iload_n hx hb dX3_appendGuarded_87 rfl (lv_at hl 3 rfl) ?_
      refine lv_bipush (v := 6) hx hb dX3_appendGuarded_88 (by decide) ?_
      refine lv_icmp_ne (tgt := 101) hx hb dX3_appendGuarded_90 (by decide) (fun c_90 => ?_) (fun c_90 => ?_)
      · refine lv_iload_n hx hb dX3_appendGuarded_101 rfl (lv_at hl 2 rfl) ?_
        refine lv_iload_n hx hb dX3_appendGuarded_102 rfl (lv_at hl 3 rfl) ?_
        refine jr_i (va_runS (As := [.int (f1 (i * 3))]) (rest := [.int (f1 (i * 3 + 1)), .int (f1 (i * 3)), .ref p2]) ⟨hx, hb, hml, hown, hts⟩ (c_X3_holdsAddressInB l D cA (f1 (i * 3))) (va_cwS 1 hts gX3_appendGuarded_X3_holdsAddressInB rfl rfl rfl hv_X3_holdsAddressInB.2 ⟨Nat.le_of_ble_eq_true rfl, Nat.le_of_ble_eq_true rfl⟩) (roP.S (av := [.int (f1 (i * 3))]) (jP_sub (w2 := []) hP [] rfl) hK hN) rfl rfl hl.1 rfl (lv_room (Nat.le_of_ble_eq_true rfl)) dX3_appendGuarded_103 ⟨Nat.le_of_ble_eq_true rfl, Nat.le_of_ble_eq_true rfl⟩) ?_
        refine lv_if_eq (tgt := 118) hx hb dX3_appendGuarded_106 (by decide) (fun c_106 => ?_) (fun c_106 => ?_)
        · replace c_106 := jB_z.mp c_106
          refine lv_iload hx hb dX3_appendGuarded_118 (lv_at hl 1 rfl) ?_
          refine jw_v (va_runV (As := [.int (f1 (i * 3)), .int (f1 (i * 3 + 1)), .int (f1 (i * 3 + 2))]) (rest := []) ⟨hx, hb, hml, hown, hts⟩ (c_X2_append l D cA H.size p2 b2 72 ((k2 + 1) + 1) 216 (pApp (pApp f2 k2 10 (tn i) 0) (k2 + 1) 11 (f1 (i * 3 + 1)) (jn i)) (f1 (i * 3)) (f1 (i * 3 + 1)) (f1 (i * 3 + 2)) (by omega) (by first | assumption | omega) (by omega)) (cwV 3 hts gX3_appendGuarded_X2_append rfl rfl rfl hv_X2_append ⟨Nat.le_of_ble_eq_true rfl, Nat.le_of_ble_eq_true rfl⟩) (rwP.V (wc := [(p2, .inr (2, [.ref b2, .int (nI 72), .int (nI ((k2 + 1) + 1))])), (b2, .inl (cA, 216, .inl (pApp (pApp f2 k2 10 (tn i) 0) (k2 + 1) 11 (f1 (i * 3 + 1)) (jn i))))]) (va_recv hK hP (ci := 2) (q0 := 3) rfl rfl) hP hD hK hN [3, 4] (by decide) rfl) rfl rfl hl.1 rfl (lv_room (Nat.le_of_ble_eq_true rfl)) dX3_appendGuarded_120 ⟨Nat.le_of_ble_eq_true rfl, Nat.le_of_ble_eq_true rfl⟩) hP hD hS hA [3, 4] [0, 1, 2, 5, 6, 7, 8] [0, 1, 2, 7, 8, 3, 4, 5, 6] (wr := [(h0, .inr (3, [.ref p1, .ref p2, .ref e0, .ref l0, .ref m0])), (p1, .inr (2, [.ref b1, .int (nI 24), .int (nI k1)])), (b1, .inl (cA, 72, .inl f1)), (e0, .inr (0, [.ref t0, .ref n0, .ref j0, .int (nI ec)])), (n0, .inl (cA, 24, .inl tn)), (j0, .inl (cA, 24, .inl jn)), (l0, .inl (cA, 24, .inl P))]) (w2 := [(h0, .inr (3, [.ref p1, .ref p2, .ref e0, .ref l0, .ref m0])), (p1, .inr (2, [.ref b1, .int (nI 24), .int (nI k1)])), (b1, .inl (cA, 72, .inl f1)), (p2, .inr (2, [.ref b2, .int (nI 72), .int (nI (((k2 + 1) + 1) + 1))])), (b2, .inl (cA, 216, .inl (pApp (pApp (pApp f2 k2 10 (tn i) 0) (k2 + 1) 11 (f1 (i * 3 + 1)) (jn i)) ((k2 + 1) + 1) (f1 (i * 3)) (f1 (i * 3 + 1)) (f1 (i * 3 + 2))))), (e0, .inr (0, [.ref t0, .ref n0, .ref j0, .int (nI ec)])), (n0, .inl (cA, 24, .inl tn)), (j0, .inl (cA, 24, .inl jn)), (l0, .inl (cA, 24, .inl P))]) rfl rfl (by decide) (by decide) (by decide) rfl (fun H locs hP hD hS => ?_)
          obtain ⟨hP9, hD9⟩ := jk_end (w2 := [(h0, .inr (3, [.ref p1, .ref p2, .ref e0, .ref l0, .ref m0])), (p1, .inr (2, [.ref b1, .int (nI 24), .int (nI k1)])), (b1, .inl (cA, 72, .inl f1)), (p2, .inr (2, [.ref b2, .int (nI 72), .int (nI (((k2 + 1) + 1) + 1))])), (b2, .inl (cA, 216, .inl (pApp (pApp (pApp f2 k2 10 (tn i) 0) (k2 + 1) 11 (f1 (i * 3 + 1)) (jn i)) ((k2 + 1) + 1) (f1 (i * 3)) (f1 (i * 3 + 1)) (f1 (i * 3 + 2))))), (e0, .inr (0, [.ref t0, .ref n0, .ref j0, .int (nI ec)])), (n0, .inl (cA, 24, .inl tn)), (j0, .inl (cA, 24, .inl jn)), (l0, .inl (cA, 24, .inl P))]) hP hD [0, 1, 2, 3, 4, 5, 6, 7, 8] (by decide) rfl
          have e9 : ([(h0, .inr (3, [.ref p1, .ref p2, .ref e0, .ref l0, .ref m0])), (p1, .inr (2, [.ref b1, .int (nI 24), .int (nI k1)])), (b1, .inl (cA, 72, .inl f1)), (p2, .inr (2, [.ref b2, .int (nI 72), .int (nI (((k2 + 1) + 1) + 1))])), (b2, .inl (cA, 216, .inl (pApp (pApp (pApp f2 k2 10 (tn i) 0) (k2 + 1) 11 (f1 (i * 3 + 1)) (jn i)) ((k2 + 1) + 1) (f1 (i * 3)) (f1 (i * 3 + 1)) (f1 (i * 3 + 2))))), (e0, .inr (0, [.ref t0, .ref n0, .ref j0, .int (nI ec)])), (n0, .inl (cA, 24, .inl tn)), (j0, .inl (cA, 24, .inl jn)), (l0, .inl (cA, 24, .inl P))] : va_W) = [(h0, .inr (3, [.ref p1, .ref p2, .ref e0, .ref l0, .ref m0])), (p1, .inr (2, [.ref b1, .int (nI 24), .int (nI k1)])), (b1, .inl (cA, 72, .inl f1)), (p2, .inr (2, [.ref b2, .int (nI 72), .int (nI (gA f1 tn jn P i (k2, f2)).1)])), (b2, .inl (cA, 216, .inl ((gA f1 tn jn P i (k2, f2)).2))), (e0, .inr (0, [.ref t0, .ref n0, .ref j0, .int (nI ec)])), (n0, .inl (cA, 24, .inl tn)), (j0, .inl (cA, 24, .inl jn)), (l0, .inl (cA, 24, .inl P))] := (by unfold gA gA3 gA2 gA1 gX gY; simp only [if_neg c_43, if_pos c_61, if_neg c_90, if_neg c_106])
          rw [e9] at hP9 hD9
          exact W.vret hx hb hr (fun t9 ht9 hW9 => ⟨⟨(), rfl, trivial, by rw [ht9]; exact hP9, hD9⟩, hS.F ht9⟩) hS.2.2 dX3_appendGuarded_123
        · replace c_106 := jB_nz.mp c_106
          refine lv_aload_n hx hb dX3_appendGuarded_109 rfl (lv_at hl 4 rfl) ?_
          refine lv_iload hx hb dX3_appendGuarded_110 (lv_at hl 1 rfl) ?_
          refine jr_i (va_runV (As := [.int (f1 (i * 3 + 2))]) (rest := [.int (f1 (i * 3 + 1)), .int (f1 (i * 3)), .ref p2]) ⟨hx, hb, hml, hown, hts⟩ (c_X3_placeOf l D cA h0 p1 p2 e0 l0 m0 P (f1 (i * 3 + 2))) (cwV 1 hts gX3_appendGuarded_X3_placeOf rfl rfl rfl hv_X3_placeOf ⟨Nat.le_of_ble_eq_true rfl, Nat.le_of_ble_eq_true rfl⟩) (roP.V (va_recv hK hP (ci := 3) (q0 := 0) rfl rfl) (jP_sub (w2 := [(h0, .inr (3, [.ref p1, .ref p2, .ref e0, .ref l0, .ref m0])), (l0, .inl (cA, 24, .inl P))]) hP [0, 8] rfl) hK hN) rfl rfl hl.1 rfl (lv_room (Nat.le_of_ble_eq_true rfl)) dX3_appendGuarded_112 ⟨Nat.le_of_ble_eq_true rfl, Nat.le_of_ble_eq_true rfl⟩) ?_
          refine lv_goto (tgt := 120) hx hb dX3_appendGuarded_115 (by decide) ?_
          refine jw_v (va_runV (As := [.int (f1 (i * 3)), .int (f1 (i * 3 + 1)), .int (pPl P (f1 (i * 3 + 2)))]) (rest := []) ⟨hx, hb, hml, hown, hts⟩ (c_X2_append l D cA H.size p2 b2 72 ((k2 + 1) + 1) 216 (pApp (pApp f2 k2 10 (tn i) 0) (k2 + 1) 11 (f1 (i * 3 + 1)) (jn i)) (f1 (i * 3)) (f1 (i * 3 + 1)) (pPl P (f1 (i * 3 + 2))) (by omega) (by first | assumption | omega) (by omega)) (cwV 3 hts gX3_appendGuarded_X2_append rfl rfl rfl hv_X2_append ⟨Nat.le_of_ble_eq_true rfl, Nat.le_of_ble_eq_true rfl⟩) (rwP.V (wc := [(p2, .inr (2, [.ref b2, .int (nI 72), .int (nI ((k2 + 1) + 1))])), (b2, .inl (cA, 216, .inl (pApp (pApp f2 k2 10 (tn i) 0) (k2 + 1) 11 (f1 (i * 3 + 1)) (jn i))))]) (va_recv hK hP (ci := 2) (q0 := 3) rfl rfl) hP hD hK hN [3, 4] (by decide) rfl) rfl rfl hl.1 rfl (lv_room (Nat.le_of_ble_eq_true rfl)) dX3_appendGuarded_120 ⟨Nat.le_of_ble_eq_true rfl, Nat.le_of_ble_eq_true rfl⟩) hP hD hS hA [3, 4] [0, 1, 2, 5, 6, 7, 8] [0, 1, 2, 7, 8, 3, 4, 5, 6] (wr := [(h0, .inr (3, [.ref p1, .ref p2, .ref e0, .ref l0, .ref m0])), (p1, .inr (2, [.ref b1, .int (nI 24), .int (nI k1)])), (b1, .inl (cA, 72, .inl f1)), (e0, .inr (0, [.ref t0, .ref n0, .ref j0, .int (nI ec)])), (n0, .inl (cA, 24, .inl tn)), (j0, .inl (cA, 24, .inl jn)), (l0, .inl (cA, 24, .inl P))]) (w2 := [(h0, .inr (3, [.ref p1, .ref p2, .ref e0, .ref l0, .ref m0])), (p1, .inr (2, [.ref b1, .int (nI 24), .int (nI k1)])), (b1, .inl (cA, 72, .inl f1)), (p2, .inr (2, [.ref b2, .int (nI 72), .int (nI (((k2 + 1) + 1) + 1))])), (b2, .inl (cA, 216, .inl (pApp (pApp (pApp f2 k2 10 (tn i) 0) (k2 + 1) 11 (f1 (i * 3 + 1)) (jn i)) ((k2 + 1) + 1) (f1 (i * 3)) (f1 (i * 3 + 1)) (pPl P (f1 (i * 3 + 2)))))), (e0, .inr (0, [.ref t0, .ref n0, .ref j0, .int (nI ec)])), (n0, .inl (cA, 24, .inl tn)), (j0, .inl (cA, 24, .inl jn)), (l0, .inl (cA, 24, .inl P))]) rfl rfl (by decide) (by decide) (by decide) rfl (fun H locs hP hD hS => ?_)
          obtain ⟨hP9, hD9⟩ := jk_end (w2 := [(h0, .inr (3, [.ref p1, .ref p2, .ref e0, .ref l0, .ref m0])), (p1, .inr (2, [.ref b1, .int (nI 24), .int (nI k1)])), (b1, .inl (cA, 72, .inl f1)), (p2, .inr (2, [.ref b2, .int (nI 72), .int (nI (((k2 + 1) + 1) + 1))])), (b2, .inl (cA, 216, .inl (pApp (pApp (pApp f2 k2 10 (tn i) 0) (k2 + 1) 11 (f1 (i * 3 + 1)) (jn i)) ((k2 + 1) + 1) (f1 (i * 3)) (f1 (i * 3 + 1)) (pPl P (f1 (i * 3 + 2)))))), (e0, .inr (0, [.ref t0, .ref n0, .ref j0, .int (nI ec)])), (n0, .inl (cA, 24, .inl tn)), (j0, .inl (cA, 24, .inl jn)), (l0, .inl (cA, 24, .inl P))]) hP hD [0, 1, 2, 3, 4, 5, 6, 7, 8] (by decide) rfl
          have e9 : ([(h0, .inr (3, [.ref p1, .ref p2, .ref e0, .ref l0, .ref m0])), (p1, .inr (2, [.ref b1, .int (nI 24), .int (nI k1)])), (b1, .inl (cA, 72, .inl f1)), (p2, .inr (2, [.ref b2, .int (nI 72), .int (nI (((k2 + 1) + 1) + 1))])), (b2, .inl (cA, 216, .inl (pApp (pApp (pApp f2 k2 10 (tn i) 0) (k2 + 1) 11 (f1 (i * 3 + 1)) (jn i)) ((k2 + 1) + 1) (f1 (i * 3)) (f1 (i * 3 + 1)) (pPl P (f1 (i * 3 + 2)))))), (e0, .inr (0, [.ref t0, .ref n0, .ref j0, .int (nI ec)])), (n0, .inl (cA, 24, .inl tn)), (j0, .inl (cA, 24, .inl jn)), (l0, .inl (cA, 24, .inl P))] : va_W) = [(h0, .inr (3, [.ref p1, .ref p2, .ref e0, .ref l0, .ref m0])), (p1, .inr (2, [.ref b1, .int (nI 24), .int (nI k1)])), (b1, .inl (cA, 72, .inl f1)), (p2, .inr (2, [.ref b2, .int (nI 72), .int (nI (gA f1 tn jn P i (k2, f2)).1)])), (b2, .inl (cA, 216, .inl ((gA f1 tn jn P i (k2, f2)).2))), (e0, .inr (0, [.ref t0, .ref n0, .ref j0, .int (nI ec)])), (n0, .inl (cA, 24, .inl tn)), (j0, .inl (cA, 24, .inl jn)), (l0, .inl (cA, 24, .inl P))] := (by unfold gA gA3 gA2 gA1 gX gY; simp only [if_neg c_43, if_pos c_61, if_neg c_90, if_pos c_106])
          rw [e9] at hP9 hD9
          exact W.vret hx hb hr (fun t9 ht9 hW9 => ⟨⟨(), rfl, trivial, by rw [ht9]; exact hP9, hD9⟩, hS.F ht9⟩) hS.2.2 dX3_appendGuarded_123
      · refine lv_aload_n hx hb dX3_appendGuarded_93 rfl (lv_at hl 4 rfl) ?_
        refine lv_iload_n hx hb dX3_appendGuarded_94 rfl (lv_at hl 2 rfl) ?_
        refine jr_i (va_runV (As := [.int (f1 (i * 3 + 1))]) (rest := [.int (f1 (i * 3)), .ref p2]) ⟨hx, hb, hml, hown, hts⟩ (c_X3_placeOf l D cA h0 p1 p2 e0 l0 m0 P (f1 (i * 3 + 1))) (cwV 1 hts gX3_appendGuarded_X3_placeOf rfl rfl rfl hv_X3_placeOf ⟨Nat.le_of_ble_eq_true rfl, Nat.le_of_ble_eq_true rfl⟩) (roP.V (va_recv hK hP (ci := 3) (q0 := 0) rfl rfl) (jP_sub (w2 := [(h0, .inr (3, [.ref p1, .ref p2, .ref e0, .ref l0, .ref m0])), (l0, .inl (cA, 24, .inl P))]) hP [0, 8] rfl) hK hN) rfl rfl hl.1 rfl (lv_room (Nat.le_of_ble_eq_true rfl)) dX3_appendGuarded_95 ⟨Nat.le_of_ble_eq_true rfl, Nat.le_of_ble_eq_true rfl⟩) ?_
        refine lv_goto (tgt := 102) hx hb dX3_appendGuarded_98 (by decide) ?_
        refine lv_iload_n hx hb dX3_appendGuarded_102 rfl (lv_at hl 3 rfl) ?_
        refine jr_i (va_runS (As := [.int (f1 (i * 3))]) (rest := [.int (pPl P (f1 (i * 3 + 1))), .int (f1 (i * 3)), .ref p2]) ⟨hx, hb, hml, hown, hts⟩ (c_X3_holdsAddressInB l D cA (f1 (i * 3))) (va_cwS 1 hts gX3_appendGuarded_X3_holdsAddressInB rfl rfl rfl hv_X3_holdsAddressInB.2 ⟨Nat.le_of_ble_eq_true rfl, Nat.le_of_ble_eq_true rfl⟩) (roP.S (av := [.int (f1 (i * 3))]) (jP_sub (w2 := []) hP [] rfl) hK hN) rfl rfl hl.1 rfl (lv_room (Nat.le_of_ble_eq_true rfl)) dX3_appendGuarded_103 ⟨Nat.le_of_ble_eq_true rfl, Nat.le_of_ble_eq_true rfl⟩) ?_
        refine lv_if_eq (tgt := 118) hx hb dX3_appendGuarded_106 (by decide) (fun c_106 => ?_) (fun c_106 => ?_)
        · replace c_106 := jB_z.mp c_106
          refine lv_iload hx hb dX3_appendGuarded_118 (lv_at hl 1 rfl) ?_
          refine jw_v (va_runV (As := [.int (f1 (i * 3)), .int (pPl P (f1 (i * 3 + 1))), .int (f1 (i * 3 + 2))]) (rest := []) ⟨hx, hb, hml, hown, hts⟩ (c_X2_append l D cA H.size p2 b2 72 ((k2 + 1) + 1) 216 (pApp (pApp f2 k2 10 (tn i) 0) (k2 + 1) 11 (f1 (i * 3 + 1)) (jn i)) (f1 (i * 3)) (pPl P (f1 (i * 3 + 1))) (f1 (i * 3 + 2)) (by omega) (by first | assumption | omega) (by omega)) (cwV 3 hts gX3_appendGuarded_X2_append rfl rfl rfl hv_X2_append ⟨Nat.le_of_ble_eq_true rfl, Nat.le_of_ble_eq_true rfl⟩) (rwP.V (wc := [(p2, .inr (2, [.ref b2, .int (nI 72), .int (nI ((k2 + 1) + 1))])), (b2, .inl (cA, 216, .inl (pApp (pApp f2 k2 10 (tn i) 0) (k2 + 1) 11 (f1 (i * 3 + 1)) (jn i))))]) (va_recv hK hP (ci := 2) (q0 := 3) rfl rfl) hP hD hK hN [3, 4] (by decide) rfl) rfl rfl hl.1 rfl (lv_room (Nat.le_of_ble_eq_true rfl)) dX3_appendGuarded_120 ⟨Nat.le_of_ble_eq_true rfl, Nat.le_of_ble_eq_true rfl⟩) hP hD hS hA [3, 4] [0, 1, 2, 5, 6, 7, 8] [0, 1, 2, 7, 8, 3, 4, 5, 6] (wr := [(h0, .inr (3, [.ref p1, .ref p2, .ref e0, .ref l0, .ref m0])), (p1, .inr (2, [.ref b1, .int (nI 24), .int (nI k1)])), (b1, .inl (cA, 72, .inl f1)), (e0, .inr (0, [.ref t0, .ref n0, .ref j0, .int (nI ec)])), (n0, .inl (cA, 24, .inl tn)), (j0, .inl (cA, 24, .inl jn)), (l0, .inl (cA, 24, .inl P))]) (w2 := [(h0, .inr (3, [.ref p1, .ref p2, .ref e0, .ref l0, .ref m0])), (p1, .inr (2, [.ref b1, .int (nI 24), .int (nI k1)])), (b1, .inl (cA, 72, .inl f1)), (p2, .inr (2, [.ref b2, .int (nI 72), .int (nI (((k2 + 1) + 1) + 1))])), (b2, .inl (cA, 216, .inl (pApp (pApp (pApp f2 k2 10 (tn i) 0) (k2 + 1) 11 (f1 (i * 3 + 1)) (jn i)) ((k2 + 1) + 1) (f1 (i * 3)) (pPl P (f1 (i * 3 + 1))) (f1 (i * 3 + 2))))), (e0, .inr (0, [.ref t0, .ref n0, .ref j0, .int (nI ec)])), (n0, .inl (cA, 24, .inl tn)), (j0, .inl (cA, 24, .inl jn)), (l0, .inl (cA, 24, .inl P))]) rfl rfl (by decide) (by decide) (by decide) rfl (fun H locs hP hD hS => ?_)
          obtain ⟨hP9, hD9⟩ := jk_end (w2 := [(h0, .inr (3, [.ref p1, .ref p2, .ref e0, .ref l0, .ref m0])), (p1, .inr (2, [.ref b1, .int (nI 24), .int (nI k1)])), (b1, .inl (cA, 72, .inl f1)), (p2, .inr (2, [.ref b2, .int (nI 72), .int (nI (((k2 + 1) + 1) + 1))])), (b2, .inl (cA, 216, .inl (pApp (pApp (pApp f2 k2 10 (tn i) 0) (k2 + 1) 11 (f1 (i * 3 + 1)) (jn i)) ((k2 + 1) + 1) (f1 (i * 3)) (pPl P (f1 (i * 3 + 1))) (f1 (i * 3 + 2))))), (e0, .inr (0, [.ref t0, .ref n0, .ref j0, .int (nI ec)])), (n0, .inl (cA, 24, .inl tn)), (j0, .inl (cA, 24, .inl jn)), (l0, .inl (cA, 24, .inl P))]) hP hD [0, 1, 2, 3, 4, 5, 6, 7, 8] (by decide) rfl
          have e9 : ([(h0, .inr (3, [.ref p1, .ref p2, .ref e0, .ref l0, .ref m0])), (p1, .inr (2, [.ref b1, .int (nI 24), .int (nI k1)])), (b1, .inl (cA, 72, .inl f1)), (p2, .inr (2, [.ref b2, .int (nI 72), .int (nI (((k2 + 1) + 1) + 1))])), (b2, .inl (cA, 216, .inl (pApp (pApp (pApp f2 k2 10 (tn i) 0) (k2 + 1) 11 (f1 (i * 3 + 1)) (jn i)) ((k2 + 1) + 1) (f1 (i * 3)) (pPl P (f1 (i * 3 + 1))) (f1 (i * 3 + 2))))), (e0, .inr (0, [.ref t0, .ref n0, .ref j0, .int (nI ec)])), (n0, .inl (cA, 24, .inl tn)), (j0, .inl (cA, 24, .inl jn)), (l0, .inl (cA, 24, .inl P))] : va_W) = [(h0, .inr (3, [.ref p1, .ref p2, .ref e0, .ref l0, .ref m0])), (p1, .inr (2, [.ref b1, .int (nI 24), .int (nI k1)])), (b1, .inl (cA, 72, .inl f1)), (p2, .inr (2, [.ref b2, .int (nI 72), .int (nI (gA f1 tn jn P i (k2, f2)).1)])), (b2, .inl (cA, 216, .inl ((gA f1 tn jn P i (k2, f2)).2))), (e0, .inr (0, [.ref t0, .ref n0, .ref j0, .int (nI ec)])), (n0, .inl (cA, 24, .inl tn)), (j0, .inl (cA, 24, .inl jn)), (l0, .inl (cA, 24, .inl P))] := (by unfold gA gA3 gA2 gA1 gX gY; simp only [if_neg c_43, if_pos c_61, if_pos c_90, if_neg c_106])
          rw [e9] at hP9 hD9
          exact W.vret hx hb hr (fun t9 ht9 hW9 => ⟨⟨(), rfl, trivial, by rw [ht9]; exact hP9, hD9⟩, hS.F ht9⟩) hS.2.2 dX3_appendGuarded_123
        · replace c_106 := jB_nz.mp c_106
          refine lv_aload_n hx hb dX3_appendGuarded_109 rfl (lv_at hl 4 rfl) ?_
          refine lv_iload hx hb dX3_appendGuarded_110 (lv_at hl 1 rfl) ?_
          refine jr_i (va_runV (As := [.int (f1 (i * 3 + 2))]) (rest := [.int (pPl P (f1 (i * 3 + 1))), .int (f1 (i * 3)), .ref p2]) ⟨hx, hb, hml, hown, hts⟩ (c_X3_placeOf l D cA h0 p1 p2 e0 l0 m0 P (f1 (i * 3 + 2))) (cwV 1 hts gX3_appendGuarded_X3_placeOf rfl rfl rfl hv_X3_placeOf ⟨Nat.le_of_ble_eq_true rfl, Nat.le_of_ble_eq_true rfl⟩) (roP.V (va_recv hK hP (ci := 3) (q0 := 0) rfl rfl) (jP_sub (w2 := [(h0, .inr (3, [.ref p1, .ref p2, .ref e0, .ref l0, .ref m0])), (l0, .inl (cA, 24, .inl P))]) hP [0, 8] rfl) hK hN) rfl rfl hl.1 rfl (lv_room (Nat.le_of_ble_eq_true rfl)) dX3_appendGuarded_112 ⟨Nat.le_of_ble_eq_true rfl, Nat.le_of_ble_eq_true rfl⟩) ?_
          refine lv_goto (tgt := 120) hx hb dX3_appendGuarded_115 (by decide) ?_
          refine jw_v (va_runV (As := [.int (f1 (i * 3)), .int (pPl P (f1 (i * 3 + 1))), .int (pPl P (f1 (i * 3 + 2)))]) (rest := []) ⟨hx, hb, hml, hown, hts⟩ (c_X2_append l D cA H.size p2 b2 72 ((k2 + 1) + 1) 216 (pApp (pApp f2 k2 10 (tn i) 0) (k2 + 1) 11 (f1 (i * 3 + 1)) (jn i)) (f1 (i * 3)) (pPl P (f1 (i * 3 + 1))) (pPl P (f1 (i * 3 + 2))) (by omega) (by first | assumption | omega) (by omega)) (cwV 3 hts gX3_appendGuarded_X2_append rfl rfl rfl hv_X2_append ⟨Nat.le_of_ble_eq_true rfl, Nat.le_of_ble_eq_true rfl⟩) (rwP.V (wc := [(p2, .inr (2, [.ref b2, .int (nI 72), .int (nI ((k2 + 1) + 1))])), (b2, .inl (cA, 216, .inl (pApp (pApp f2 k2 10 (tn i) 0) (k2 + 1) 11 (f1 (i * 3 + 1)) (jn i))))]) (va_recv hK hP (ci := 2) (q0 := 3) rfl rfl) hP hD hK hN [3, 4] (by decide) rfl) rfl rfl hl.1 rfl (lv_room (Nat.le_of_ble_eq_true rfl)) dX3_appendGuarded_120 ⟨Nat.le_of_ble_eq_true rfl, Nat.le_of_ble_eq_true rfl⟩) hP hD hS hA [3, 4] [0, 1, 2, 5, 6, 7, 8] [0, 1, 2, 7, 8, 3, 4, 5, 6] (wr := [(h0, .inr (3, [.ref p1, .ref p2, .ref e0, .ref l0, .ref m0])), (p1, .inr (2, [.ref b1, .int (nI 24), .int (nI k1)])), (b1, .inl (cA, 72, .inl f1)), (e0, .inr (0, [.ref t0, .ref n0, .ref j0, .int (nI ec)])), (n0, .inl (cA, 24, .inl tn)), (j0, .inl (cA, 24, .inl jn)), (l0, .inl (cA, 24, .inl P))]) (w2 := [(h0, .inr (3, [.ref p1, .ref p2, .ref e0, .ref l0, .ref m0])), (p1, .inr (2, [.ref b1, .int (nI 24), .int (nI k1)])), (b1, .inl (cA, 72, .inl f1)), (p2, .inr (2, [.ref b2, .int (nI 72), .int (nI (((k2 + 1) + 1) + 1))])), (b2, .inl (cA, 216, .inl (pApp (pApp (pApp f2 k2 10 (tn i) 0) (k2 + 1) 11 (f1 (i * 3 + 1)) (jn i)) ((k2 + 1) + 1) (f1 (i * 3)) (pPl P (f1 (i * 3 + 1))) (pPl P (f1 (i * 3 + 2)))))), (e0, .inr (0, [.ref t0, .ref n0, .ref j0, .int (nI ec)])), (n0, .inl (cA, 24, .inl tn)), (j0, .inl (cA, 24, .inl jn)), (l0, .inl (cA, 24, .inl P))]) rfl rfl (by decide) (by decide) (by decide) rfl (fun H locs hP hD hS => ?_)
          obtain ⟨hP9, hD9⟩ := jk_end (w2 := [(h0, .inr (3, [.ref p1, .ref p2, .ref e0, .ref l0, .ref m0])), (p1, .inr (2, [.ref b1, .int (nI 24), .int (nI k1)])), (b1, .inl (cA, 72, .inl f1)), (p2, .inr (2, [.ref b2, .int (nI 72), .int (nI (((k2 + 1) + 1) + 1))])), (b2, .inl (cA, 216, .inl (pApp (pApp (pApp f2 k2 10 (tn i) 0) (k2 + 1) 11 (f1 (i * 3 + 1)) (jn i)) ((k2 + 1) + 1) (f1 (i * 3)) (pPl P (f1 (i * 3 + 1))) (pPl P (f1 (i * 3 + 2)))))), (e0, .inr (0, [.ref t0, .ref n0, .ref j0, .int (nI ec)])), (n0, .inl (cA, 24, .inl tn)), (j0, .inl (cA, 24, .inl jn)), (l0, .inl (cA, 24, .inl P))]) hP hD [0, 1, 2, 3, 4, 5, 6, 7, 8] (by decide) rfl
          have e9 : ([(h0, .inr (3, [.ref p1, .ref p2, .ref e0, .ref l0, .ref m0])), (p1, .inr (2, [.ref b1, .int (nI 24), .int (nI k1)])), (b1, .inl (cA, 72, .inl f1)), (p2, .inr (2, [.ref b2, .int (nI 72), .int (nI (((k2 + 1) + 1) + 1))])), (b2, .inl (cA, 216, .inl (pApp (pApp (pApp f2 k2 10 (tn i) 0) (k2 + 1) 11 (f1 (i * 3 + 1)) (jn i)) ((k2 + 1) + 1) (f1 (i * 3)) (pPl P (f1 (i * 3 + 1))) (pPl P (f1 (i * 3 + 2)))))), (e0, .inr (0, [.ref t0, .ref n0, .ref j0, .int (nI ec)])), (n0, .inl (cA, 24, .inl tn)), (j0, .inl (cA, 24, .inl jn)), (l0, .inl (cA, 24, .inl P))] : va_W) = [(h0, .inr (3, [.ref p1, .ref p2, .ref e0, .ref l0, .ref m0])), (p1, .inr (2, [.ref b1, .int (nI 24), .int (nI k1)])), (b1, .inl (cA, 72, .inl f1)), (p2, .inr (2, [.ref b2, .int (nI 72), .int (nI (gA f1 tn jn P i (k2, f2)).1)])), (b2, .inl (cA, 216, .inl ((gA f1 tn jn P i (k2, f2)).2))), (e0, .inr (0, [.ref t0, .ref n0, .ref j0, .int (nI ec)])), (n0, .inl (cA, 24, .inl tn)), (j0, .inl (cA, 24, .inl jn)), (l0, .inl (cA, 24, .inl P))] := (by unfold gA gA3 gA2 gA1 gX gY; simp only [if_neg c_43, if_pos c_61, if_pos c_90, if_pos c_106])
          rw [e9] at hP9 hD9
          exact W.vret hx hb hr (fun t9 ht9 hW9 => ⟨⟨(), rfl, trivial, by rw [ht9]; exact hP9, hD9⟩, hS.F ht9⟩) hS.2.2 dX3_appendGuarded_123
