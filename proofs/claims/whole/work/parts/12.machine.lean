/-! ===== Machine ===== -/
def jFill (f : Nat → Int32) (v : Int32) (n : Nat) : Nat → Int32 := fun i => if i < n then v else f i
theorem jFill_0 (f : Nat → Int32) (v : Int32) : f = jFill f v 0 := by
  funext i; unfold jFill; rw [if_neg (by omega)]
theorem jFill_s (f : Nat → Int32) (v : Int32) (n : Nat) : upd (jFill f v n) n v = jFill f v (n + 1) := by
  funext i; unfold upd jFill
  by_cases h : i = n
  · rw [if_pos h, if_pos (by omega)]
  · rw [if_neg h]
    by_cases h2 : i < n
    · rw [if_pos h2, if_pos (by omega)]
    · rw [if_neg h2, if_neg (by omega)]
def mShown (L : Nat → Int32) (w : Nat) (x : Int32) : Int32 := if jIn x 8 ∧ ¬ nI w ≤ x then L ((w - 1 - x.toNatClampNeg) % 8) else 0
theorem mShown_no {L : Nat → Int32} {w : Nat} {x : Int32} (h : ¬ (jIn x 8 ∧ ¬ nI w ≤ x)) : mShown L w x = 0 := if_neg h
theorem mShown_at {L : Nat → Int32} {w j : Nat} (h : j < 8) (hw : j < w) (h3 : w < 2 ^ 31) : mShown L w (nI j) = L ((w - 1 - j) % 8) := by
  unfold mShown
  rw [if_pos ⟨((jIn_n (n := 8) (by decide)).mpr h).1, nI_ge hw h3⟩, nI_clamp (by omega)]
def mvR (o : Nat) (a b : Int32) (R C : Nat → Int32) : Nat → Int32 := if o = 1 ∨ o = 9 then jPut R 4 a b else if o = 2 then jPut R 4 a (jAt C 16 b) else if o = 4 then jPut R 4 a (jAt R 4 a + jAt R 4 b) else R
def mvC (o : Nat) (a b : Int32) (R C : Nat → Int32) : Nat → Int32 := if o = 3 then jPut C 16 b (jAt R 4 a) else C
def mvL (o : Nat) (a : Int32) (R L : Nat → Int32) (w : Nat) : Nat → Int32 := if o = 5 then upd L (w % 8) (jAt R 4 a) else L
def mvW (o w : Nat) : Nat := if o = 5 then w + 1 else w
def mvJ (f : Nat → Int32) (k : Nat) (x st : Int32) : Int32 := if jIn x (nI k) then st else 3
def mvG (f : Nat → Int32) (k : Nat) (x y st : Int32) : Int32 := if pGet f k x 0 = 10 ∧ pGet f k x 1 = y then st else 2
def mvS (o : Nat) (a b : Int32) (R f : Nat → Int32) (k : Nat) (st : Int32) : Int32 := if o = 0 then 1 else if o = 8 then mvJ f k (jAt R 4 a) st else if o = 11 then mvG f k (jAt R 4 a) b st else st
def mvN (o : Nat) (a b : Int32) (R : Nat → Int32) (pc : Int32) : Int32 := if o = 6 then a else if o = 7 then (if jAt R 4 a = 0 then b else pc + 1) else if o = 8 then jAt R 4 a else pc + 1
/-- a machine's numbers: registers, cells, what was shown, pc, condition, how often it was shown -/
abbrev MS : Type := (Nat → Int32) × (Nat → Int32) × (Nat → Int32) × Nat × Int32 × Nat
def mOp (f : Nat → Int32) (i : Nat) : Nat := (f (i * 3)).toNatClampNeg
def mStep (f : Nat → Int32) (k : Nat) (x : MS) : MS :=
  (mvR (mOp f x.2.2.2.1) (f (x.2.2.2.1 * 3 + 1)) (f (x.2.2.2.1 * 3 + 2)) x.1 x.2.1,
   mvC (mOp f x.2.2.2.1) (f (x.2.2.2.1 * 3 + 1)) (f (x.2.2.2.1 * 3 + 2)) x.1 x.2.1,
   mvL (mOp f x.2.2.2.1) (f (x.2.2.2.1 * 3 + 1)) x.1 x.2.2.1 x.2.2.2.2.2,
   (if mvS (mOp f x.2.2.2.1) (f (x.2.2.2.1 * 3 + 1)) (f (x.2.2.2.1 * 3 + 2)) x.1 f k x.2.2.2.2.1 = 0 then (mvN (mOp f x.2.2.2.1) (f (x.2.2.2.1 * 3 + 1)) (f (x.2.2.2.1 * 3 + 2)) x.1 (nI x.2.2.2.1)).toNatClampNeg else x.2.2.2.1),
   mvS (mOp f x.2.2.2.1) (f (x.2.2.2.1 * 3 + 1)) (f (x.2.2.2.1 * 3 + 2)) x.1 f k x.2.2.2.2.1,
   mvW (mOp f x.2.2.2.1) x.2.2.2.2.2)
def mRun (f : Nat → Int32) (k : Nat) : Nat → MS → Nat × MS
  | 0, x => (0, x)
  | n + 1, x => if x.2.2.2.2.1 = 0 then ((mRun f k n (mStep f k x)).1 + 1, (mRun f k n (mStep f k x)).2) else (0, x)
/-- a program that its own steps don't leave -/
def mWF (f : Nat → Int32) (k : Nat) : Prop := k ≤ 72 ∧ ∀ i, i < k → ∃ o, o < 12 ∧ f (i * 3) = nI o ∧ (o = 6 → ∃ t, t < k ∧ f (i * 3 + 1) = nI t) ∧ (o = 7 → ∃ t, t < k ∧ f (i * 3 + 2) = nI t) ∧ (o ≠ 0 → o ≠ 6 → o ≠ 8 → i + 1 < k) ∧ (o ≠ 0 → o ≠ 6 → o ≠ 10 → ∃ t, t < 4 ∧ f (i * 3 + 1) = nI t) ∧ (o = 2 ∨ o = 3 → ∃ t, t < 16 ∧ f (i * 3 + 2) = nI t) ∧ (o = 4 → ∃ t, t < 4 ∧ f (i * 3 + 2) = nI t)
theorem mOp_is {f : Nat → Int32} {i o : Nat} (ho : o < 12) (h : f (i * 3) = nI o) : mOp f i = o := by
  unfold mOp; rw [h, nI_clamp (by omega)]
theorem mStep_in {f : Nat → Int32} {k : Nat} (hwf : mWF f k) {i : Nat} (hi : i < k) (R : Nat → Int32) (st : Int32) (h : mvS (mOp f i) (f (i * 3 + 1)) (f (i * 3 + 2)) R f k st = 0) : ∃ t, t < k ∧ mvN (mOp f i) (f (i * 3 + 1)) (f (i * 3 + 2)) R (nI i) = nI t := by
  obtain ⟨hk, hw⟩ := hwf
  obtain ⟨o, ho, h0, h6, h7, hn, -⟩ := hw i hi
  rw [mOp_is ho h0] at h ⊢
  unfold mvN
  by_cases e6 : o = 6
  · obtain ⟨t, ht, e⟩ := h6 e6
    exact ⟨t, ht, by rw [if_pos e6, e]⟩
  · rw [if_neg e6]
    by_cases e7 : o = 7
    · obtain ⟨t, ht, e⟩ := h7 e7
      rw [if_pos e7]
      by_cases q : jAt R 4 (f (i * 3 + 1)) = 0
      · exact ⟨t, ht, by rw [if_pos q, e]⟩
      · exact ⟨i + 1, hn (by omega) (by omega) (by omega), by rw [if_neg q, jn_a1]⟩
    · rw [if_neg e7]
      by_cases e8 : o = 8
      · rw [if_pos e8]
        unfold mvS at h
        rw [if_neg (by omega), if_pos e8] at h
        unfold mvJ at h
        by_cases q : jIn (jAt R 4 (f (i * 3 + 1))) (nI k)
        · exact jN_of (by omega) q
        · rw [if_neg q] at h; exact absurd h (by decide)
      · rw [if_neg e8]
        by_cases e0 : o = 0
        · unfold mvS at h
          rw [if_pos e0] at h
          exact absurd h (by decide)
        · exact ⟨i + 1, hn e0 e6 e8, jn_a1 i⟩
theorem mStep_lt {f : Nat → Int32} {k : Nat} (hwf : mWF f k) {x : MS} (hi : x.2.2.2.1 < k) : (mStep f k x).2.2.2.2.1 = 0 → (mStep f k x).2.2.2.1 < k := by
  intro h
  obtain ⟨t, ht, e⟩ := mStep_in hwf hi x.1 x.2.2.2.2.1 h
  have hk := hwf.1
  have h2 : mvS (mOp f x.2.2.2.1) (f (x.2.2.2.1 * 3 + 1)) (f (x.2.2.2.1 * 3 + 2)) x.1 f k x.2.2.2.2.1 = 0 := h
  show (if _ = 0 then _ else _) < k
  rw [if_pos h2, e, nI_clamp (by omega)]
  exact ht
theorem mStep_w (f : Nat → Int32) (k : Nat) (x : MS) : (mStep f k x).2.2.2.2.2 ≤ x.2.2.2.2.2 + 1 := by
  show mvW _ _ ≤ _
  unfold mvW
  split <;> omega
theorem mRun_stop {f : Nat → Int32} {k n : Nat} {x : MS} (h : ¬ x.2.2.2.2.1 = 0) : mRun f k n x = (0, x) := by
  cases n with
  | zero => rfl
  | succ n => show (if _ then _ else _) = _; rw [if_neg h]
theorem mRun_next {f : Nat → Int32} {k nn i : Nat} {x y : MS} (hlt : i < nn) (hrun : mRun f k nn x = (i + (mRun f k (nn - i) y).1, (mRun f k (nn - i) y).2)) (h : y.2.2.2.2.1 = 0) : mRun f k nn x = ((i + 1) + (mRun f k (nn - (i + 1)) (mStep f k y)).1, (mRun f k (nn - (i + 1)) (mStep f k y)).2) := by
  rw [hrun]
  have e : nn - i = (nn - (i + 1)) + 1 := by omega
  rw [e]
  have e2 : mRun f k ((nn - (i + 1)) + 1) y = ((mRun f k (nn - (i + 1)) (mStep f k y)).1 + 1, (mRun f k (nn - (i + 1)) (mStep f k y)).2) := by
    show (if _ then _ else _) = _
    rw [if_pos h]
  rw [e2]
  exact Prod.ext (by show _ + (_ + 1) = _; omega) rfl
theorem iw_X1_carryOut_X1 : ∀ w ∈ wsX10, w ∈ wsX1_carryOut := by decide +kernel
theorem iw_X1_cellValue_X1 : ∀ w ∈ wsX10, w ∈ wsX1_cellValue := by decide +kernel
theorem iw_X1_checkLabel_X1 : ∀ w ∈ wsX10, w ∈ wsX1_checkLabel := by decide +kernel
theorem iw_X1_isIdle_X1 : ∀ w ∈ wsX10, w ∈ wsX1_isIdle := by decide +kernel
theorem iw_X1_jumpTo_X1 : ∀ w ∈ wsX10, w ∈ wsX1_jumpTo := by decide +kernel
theorem iw_X1_keepShown_X1 : ∀ w ∈ wsX10, w ∈ wsX1_keepShown := by decide +kernel
theorem iw_X1_makeStep_X1 : ∀ w ∈ wsX10, w ∈ wsX1_makeStep := by decide +kernel
theorem iw_X1_makeSteps_X1 : ∀ w ∈ wsX10, w ∈ wsX1_makeSteps := by decide +kernel
theorem iw_X1_registerValue_X1 : ∀ w ∈ wsX10, w ∈ wsX1_registerValue := by decide +kernel
theorem iw_X1_setCell_X1 : ∀ w ∈ wsX10, w ∈ wsX1_setCell := by decide +kernel
theorem iw_X1_setRegister_X1 : ∀ w ∈ wsX10, w ∈ wsX1_setRegister := by decide +kernel
theorem iw_X1_shownBefore_X1 : ∀ w ∈ wsX10, w ∈ wsX1_shownBefore := by decide +kernel
theorem iw_X1_stop_X1 : ∀ w ∈ wsX10, w ∈ wsX1_stop := by decide +kernel
theorem hv_X1_carryOut : yX1_carryOut.cls = RX1 ∧ yX1_carryOut.cls ≠ "java/lang/invoke/MethodHandle" ∧ yX1_carryOut.cls ≠ "java/lang/invoke/VarHandle" ∧ (parseMethodDescriptor yX1_carryOut.desc).map (fun d => d.parameters.length) = some 3 := by decide +kernel
theorem hv_X1_cellValue : yX1_cellValue.cls = RX1 ∧ yX1_cellValue.cls ≠ "java/lang/invoke/MethodHandle" ∧ yX1_cellValue.cls ≠ "java/lang/invoke/VarHandle" ∧ (parseMethodDescriptor yX1_cellValue.desc).map (fun d => d.parameters.length) = some 1 := by decide +kernel
theorem hv_X1_checkLabel : yX1_checkLabel.cls = RX1 ∧ yX1_checkLabel.cls ≠ "java/lang/invoke/MethodHandle" ∧ yX1_checkLabel.cls ≠ "java/lang/invoke/VarHandle" ∧ (parseMethodDescriptor yX1_checkLabel.desc).map (fun d => d.parameters.length) = some 2 := by decide +kernel
theorem hv_X1_jumpTo : yX1_jumpTo.cls = RX1 ∧ yX1_jumpTo.cls ≠ "java/lang/invoke/MethodHandle" ∧ yX1_jumpTo.cls ≠ "java/lang/invoke/VarHandle" ∧ (parseMethodDescriptor yX1_jumpTo.desc).map (fun d => d.parameters.length) = some 1 := by decide +kernel
theorem hv_X1_keepShown : yX1_keepShown.cls = RX1 ∧ yX1_keepShown.cls ≠ "java/lang/invoke/MethodHandle" ∧ yX1_keepShown.cls ≠ "java/lang/invoke/VarHandle" ∧ (parseMethodDescriptor yX1_keepShown.desc).map (fun d => d.parameters.length) = some 1 := by decide +kernel
theorem hv_X1_makeStep : yX1_makeStep.cls = RX1 ∧ yX1_makeStep.cls ≠ "java/lang/invoke/MethodHandle" ∧ yX1_makeStep.cls ≠ "java/lang/invoke/VarHandle" ∧ (parseMethodDescriptor yX1_makeStep.desc).map (fun d => d.parameters.length) = some 0 := by decide +kernel
theorem hv_X1_registerValue : yX1_registerValue.cls = RX1 ∧ yX1_registerValue.cls ≠ "java/lang/invoke/MethodHandle" ∧ yX1_registerValue.cls ≠ "java/lang/invoke/VarHandle" ∧ (parseMethodDescriptor yX1_registerValue.desc).map (fun d => d.parameters.length) = some 1 := by decide +kernel
theorem hv_X1_setCell : yX1_setCell.cls = RX1 ∧ yX1_setCell.cls ≠ "java/lang/invoke/MethodHandle" ∧ yX1_setCell.cls ≠ "java/lang/invoke/VarHandle" ∧ (parseMethodDescriptor yX1_setCell.desc).map (fun d => d.parameters.length) = some 2 := by decide +kernel
theorem hv_X1_setRegister : yX1_setRegister.cls = RX1 ∧ yX1_setRegister.cls ≠ "java/lang/invoke/MethodHandle" ∧ yX1_setRegister.cls ≠ "java/lang/invoke/VarHandle" ∧ (parseMethodDescriptor yX1_setRegister.desc).map (fun d => d.parameters.length) = some 2 := by decide +kernel
theorem hv_X2_get : yX2_get.cls = RX2 ∧ yX2_get.cls ≠ "java/lang/invoke/MethodHandle" ∧ yX2_get.cls ≠ "java/lang/invoke/VarHandle" ∧ (parseMethodDescriptor yX2_get.desc).map (fun d => d.parameters.length) = some 2 := by decide +kernel
theorem hv_X3_isCell : yX3_isCell.cls = RX3 ∧ yX3_isCell.cls ≠ "java/lang/invoke/MethodHandle" ∧ yX3_isCell.cls ≠ "java/lang/invoke/VarHandle" ∧ (parseMethodDescriptor yX3_isCell.desc).map (fun d => d.parameters.length) = some 1 := by decide +kernel
theorem hv_X3_isRegister : yX3_isRegister.cls = RX3 ∧ yX3_isRegister.cls ≠ "java/lang/invoke/MethodHandle" ∧ yX3_isRegister.cls ≠ "java/lang/invoke/VarHandle" ∧ (parseMethodDescriptor yX3_isRegister.desc).map (fun d => d.parameters.length) = some 1 := by decide +kernel
set_option maxHeartbeats 4000000 in
set_option maxRecDepth 100000 in
theorem c_J7_fill_53178 (l : Launch) (D : va_G) (cA : ClassId) (sz : Nat) (a0 : Nat) (nn : Nat) (f : Nat → Int32) (v : Int32) (hn9 : nn < 1000) : Met l yJ7_fill_53178 wsJ7_fill_53178 ({ frames := 0, cells := 0, slots := 0, locals := 0 }) (rwP D cA [.ref a0, .int v] sz [(a0, .inl (cA, nn, .inl f))]) (rwV D (va_A [(a0, .inl (cA, nn, .inl f))] sz) [(a0, .inl (cA, nn, .inl (jFill f v nn)))]) 0 0 (va_A [(a0, .inl (cA, nn, .inl f))] sz) := by
  refine Met.ofW (cc := cJ7_fill_53178) (maxL := 4) (ret := none) (by decide) rfl ?_
  intro p e s m args below meth c s₁ B hml hv
  obtain ⟨rfl, hsz, hP, hK, hN, hD0⟩ := hv
  have hx := B.exec
  have hb := B.bytes
  have hr := B.returns
  have hts := atoms_spec (ws := wsJ7_fill_53178) B.pre
  have hown : s.vm.findClass RJ7 = some m.cls := findClass_of_methodNamed B.named
  have hlocks := B.notSynchronized
  subst hsz
  have hD := hD0.self (sz := s.heap.size)
  generalize hAe : va_A [(a0, .inl (cA, nn, .inl f))] s.heap.size = A at hD ⊢
  have hA : ∀ q : Nat, s.heap.size ≤ q → A q := fun q h => by rw [← hAe]; exact Or.inr h
  have hS : va_S A s.heap s.heap [] := va_S.rf
  have hl := lv_entry ([.ref a0, .int v]) (n := 4) (Nat.le_of_ble_eq_true rfl)
  rw [lg_entry_eq]
  generalize (lg_sl ([.ref a0, .int v]) ++ List.replicate (4 - (lg_sl ([.ref a0, .int v])).length) Slot.unset).toArray = ls at hl ⊢
  have hl : lv_has ls 4 [(0, .ref a0), (1, .int v)] := hl
  refine lv_iconst (v := 0) hx hb dJ7_fill_53178_0 (by decide) ?_
  refine lv_istore_n (lv' := [(2, .int 0), (0, .ref a0), (1, .int v)]) hx hb dJ7_fill_53178_1 rfl hl (by decide) rfl (fun ls hl => ?_)
  refine lv_aload_n hx hb dJ7_fill_53178_2 rfl (lv_at hl 1 rfl) ?_
  refine va_alen (v := nI nn) hx hb hK hP 0 0 rfl rfl rfl dJ7_fill_53178_3 ?_
  refine lv_istore_n (lv' := [(3, .int (nI nn)), (2, .int 0), (0, .ref a0), (1, .int v)]) hx hb dJ7_fill_53178_4 rfl hl (by decide) rfl (fun ls hl => ?_)
  have loop5 : ∀ (n : Nat) (i : Nat) (F : Nat → Int32), (i ≤ nn) → (nn + 1 ≤ i + n) → (F = jFill f v i) → ∀ (H : Heap) (locs : List Loc), va_P D vwCl [(a0, .inl (cA, nn, .inl F))] H → va_D A [(a0, .inl (cA, nn, .inl F))] → va_S A s.heap H locs → ∀ (ls : Array Slot), lv_has ls 4 [(0, .ref a0), (1, .int v), (2, .int (nI i)), (3, .int (nI nn))] → W p l e (headSpec wsJ7_fill_53178 ({ frames := 0, cells := 0, slots := 0, locals := 0 })).room s m ([.ref a0, .int v] : List Value).toArray below meth c H locs 0 0 (MQ below (rwV D A [(a0, .inl (cA, nn, .inl (jFill f v nn)))]) ([.ref a0, .int v] : List Value).toArray s 0 0 A) (F0 m 5 ls []) := by
    intro n
    induction n with
    | zero => intro i F hi hfu hF; exact absurd hfu (by omega)
    | succ n ih5 =>
      intro i F hi hfu hF H locs hP hD hS ls hl
      refine lv_iload_n hx hb dJ7_fill_53178_5 rfl (lv_at hl 2 rfl) ?_
      refine lv_iload_n hx hb dJ7_fill_53178_6 rfl (lv_at hl 3 rfl) ?_
      refine lv_icmp_ge (tgt := 20) hx hb dJ7_fill_53178_7 (by decide) (fun c_7 => ?_) (fun c_7 => ?_)
      · have hi2 : i = nn := by
          rcases Nat.lt_or_ge i nn with q | q
          · exact absurd c_7 (nI_ge q (by omega))
          · omega
        subst hi2
        obtain ⟨hP9, hD9⟩ := jk_end (w2 := [(a0, .inl (cA, i, .inl F))]) hP hD [0] (by decide) rfl
        have e9 : ([(a0, .inl (cA, i, .inl F))] : va_W) = [(a0, .inl (cA, i, .inl (jFill f v i)))] := (by rw [hF])
        rw [e9] at hP9 hD9
        exact W.vret hx hb hr (fun t9 ht9 hW9 => ⟨⟨(), rfl, trivial, by rw [ht9]; exact hP9, hD9⟩, hS.F ht9⟩) hS.2.2 dJ7_fill_53178_20
      · have hi2 : i < nn := by
          rcases Nat.lt_or_ge i nn with q | q
          · exact q
          · exact absurd (nI_le q (by omega)) c_7
        refine lv_aload_n hx hb dJ7_fill_53178_10 rfl (lv_at hl 0 rfl) ?_
        refine lv_iload_n hx hb dJ7_fill_53178_11 rfl (lv_at hl 2 rfl) ?_
        refine lv_iload_n hx hb dJ7_fill_53178_12 rfl (lv_at hl 1 rfl) ?_
        refine jk_ast hx hb hK hP hD hS 0 0 rfl rfl (k := i) rfl (by omega) (by omega) dJ7_fill_53178_13 (fun H locs hP hD hS => ?_)
        have hP : va_P D vwCl [(a0, .inl (cA, nn, .inl (upd F i v)))] H := hP
        have hD : va_D A [(a0, .inl (cA, nn, .inl (upd F i v)))] := hD
        refine lv_iinc (v := (nI (i + 1))) (lv' := [(2, .int (nI (i + 1))), (0, .ref a0), (1, .int v), (3, .int (nI nn))]) hx hb dJ7_fill_53178_14 hl (k := 2) rfl (jn_a1 i) (by decide) rfl (fun ls hl => ?_)
        refine lv_goto (tgt := 5) hx hb dJ7_fill_53178_17 (by decide) ?_
        exact ih5 (i + 1) (upd F i v) (by omega) (by omega) (by subst hF; exact jFill_s f v i) _ _ (jP_sub (w2 := [(a0, .inl (cA, nn, .inl (upd F i v)))]) hP [0] rfl) (hD.sub (ws' := [(a0, .inl (cA, nn, .inl (upd F i v)))]) [0] (by decide) rfl) hS ls (lv_sub hl [1, 2, 0, 3] rfl)
  exact loop5 (nn + 1) 0 f (by omega) (by omega) (jFill_0 f v) _ _ (jP_sub (w2 := [(a0, .inl (cA, nn, .inl f))]) hP [0] rfl) (hD.sub (ws' := [(a0, .inl (cA, nn, .inl f))]) [0] (by decide) rfl) hS ls (lv_sub hl [2, 3, 1, 0] rfl)
set_option maxHeartbeats 4000000 in
set_option maxRecDepth 100000 in
theorem c_X1_registerValue (l : Launch) (D : va_G) (cA : ClassId) (m0 : Nat) (r0 : Nat) (c0 : Nat) (s0 : Nat) (p0 : Nat) (pc : Int32) (st : Int32) (w : Nat) (R : Nat → Int32) (x : Int32) : Met l yX1_registerValue wsX1_registerValue ({ frames := 1, cells := 0, slots := 0, locals := 20 }) (roP D cA [.ref m0, .int x] [(m0, .inr (1, [.ref r0, .ref c0, .ref s0, .ref p0, .int pc, .int st, .int (nI w)])), (r0, .inl (cA, 4, .inl R))]) (QcRead (jAt R 4 x)) 0 0 (fun _ => False) := by
  refine Met.ofW (cc := cX1_registerValue) (maxL := 2) (ret := (some .int)) (by decide) rfl ?_
  intro p e s m args below meth c s₁ B hml hv
  obtain ⟨rfl, hP, hK, hN⟩ := hv
  have hx := B.exec
  have hb := B.bytes
  have hr := B.returns
  have hts := atoms_spec (ws := wsX1_registerValue) B.pre
  have hown : s.vm.findClass RX1 = some m.cls := findClass_of_methodNamed B.named
  have hlocks := B.notSynchronized
  have hl := lv_entry ([.ref m0, .int x]) (n := 2) (Nat.le_of_ble_eq_true rfl)
  rw [lg_entry_eq]
  generalize (lg_sl ([.ref m0, .int x]) ++ List.replicate (2 - (lg_sl ([.ref m0, .int x])).length) Slot.unset).toArray = ls at hl ⊢
  have hl : lv_has ls 2 [(0, .ref m0), (1, .int x)] := hl
  refine lv_iload_n hx hb dX1_registerValue_0 rfl (lv_at hl 1 rfl) ?_
  refine jr_i (va_runSN (As := [.int x]) (rest := []) ⟨hx, hb, hml, hown, hts⟩ (c_X3_isRegister l D cA x) ⟨(va_cnB 1 hts gX1_registerValue_X3_isRegister_n49 rfl rfl rfl hN.2.2.2.2.2.2.1 (hts (.initialized RX3) (List.mem_of_getElem? (l := wsX1_registerValue) (i := 3) rfl)) hv_X3_isRegister.2 ⟨Nat.le_of_ble_eq_true rfl, Nat.le_of_ble_eq_true rfl⟩), (hts (.static yX3_isRegister) (List.mem_of_getElem? (l := wsX1_registerValue) (i := 2) rfl)), trivial⟩ (roP.S (av := [.int x]) (jP_sub (w2 := []) hP [] rfl) hK hN) rfl rfl hl.1 rfl (lv_room (Nat.le_of_ble_eq_true rfl)) dX1_registerValue_1 ⟨Nat.le_of_ble_eq_true rfl, Nat.le_of_ble_eq_true rfl⟩) ?_
  refine lv_if_eq (tgt := 16) hx hb dX1_registerValue_4 (by decide) (fun c_4 => ?_) (fun c_4 => ?_)
  · replace c_4 := jB_z.mp c_4
    refine lv_iconst (v := 0) hx hb dX1_registerValue_16 (by decide) ?_
    exact W.iret (v := 0) hx hb hr (fun t9 ht9 hW9 => ⟨jk_ret (show 0 = (jAt R 4 x) from (jAt_no c_4).symm), ht9⟩) (fun q h => absurd h List.not_mem_nil) dX1_registerValue_17
  · replace c_4 := jB_nz.mp c_4
    obtain ⟨j, hj, rfl⟩ := jN_of (n := 4) (by decide) c_4
    refine lv_aload_n hx hb dX1_registerValue_7 rfl (lv_at hl 0 rfl) ?_
    refine va_get (D := D) (ci := 1) (v := .ref r0) (C := RX1) (T := TX1) (N := 7) hx hb hts iw_X1_registerValue_X1 hown hK hP 0 rfl rfl 0 (by decide) (hts (.fieldLink RX1 9 "JumpGuard$Machine" "registers" "[I") (List.mem_of_getElem? (l := wsX1_registerValue) (i := 1) rfl)) (fun _ h9 => h9) rfl dX1_registerValue_8 ?_
    refine lv_iload_n hx hb dX1_registerValue_11 rfl (lv_at hl 1 rfl) ?_
    refine jk_ald hx hb hK hP 1 0 rfl rfl (k := j) rfl (by omega) (by omega) dX1_registerValue_12 ?_
    refine lv_goto (tgt := 17) hx hb dX1_registerValue_13 (by decide) ?_
    exact W.iret (v := (R j)) hx hb hr (fun t9 ht9 hW9 => ⟨jk_ret (show (R j) = (jAt R 4 (nI j)) from (jAt_n (n := 4) hj (by decide)).symm), ht9⟩) (fun q h => absurd h List.not_mem_nil) dX1_registerValue_17
set_option maxHeartbeats 4000000 in
set_option maxRecDepth 100000 in
theorem c_X1_cellValue (l : Launch) (D : va_G) (cA : ClassId) (m0 : Nat) (r0 : Nat) (c0 : Nat) (s0 : Nat) (p0 : Nat) (pc : Int32) (st : Int32) (w : Nat) (Cm : Nat → Int32) (x : Int32) : Met l yX1_cellValue wsX1_cellValue ({ frames := 1, cells := 0, slots := 0, locals := 20 }) (roP D cA [.ref m0, .int x] [(m0, .inr (1, [.ref r0, .ref c0, .ref s0, .ref p0, .int pc, .int st, .int (nI w)])), (c0, .inl (cA, 16, .inl Cm))]) (QcRead (jAt Cm 16 x)) 0 0 (fun _ => False) := by
  refine Met.ofW (cc := cX1_cellValue) (maxL := 2) (ret := (some .int)) (by decide) rfl ?_
  intro p e s m args below meth c s₁ B hml hv
  obtain ⟨rfl, hP, hK, hN⟩ := hv
  have hx := B.exec
  have hb := B.bytes
  have hr := B.returns
  have hts := atoms_spec (ws := wsX1_cellValue) B.pre
  have hown : s.vm.findClass RX1 = some m.cls := findClass_of_methodNamed B.named
  have hlocks := B.notSynchronized
  have hl := lv_entry ([.ref m0, .int x]) (n := 2) (Nat.le_of_ble_eq_true rfl)
  rw [lg_entry_eq]
  generalize (lg_sl ([.ref m0, .int x]) ++ List.replicate (2 - (lg_sl ([.ref m0, .int x])).length) Slot.unset).toArray = ls at hl ⊢
  have hl : lv_has ls 2 [(0, .ref m0), (1, .int x)] := hl
  refine lv_iload_n hx hb dX1_cellValue_0 rfl (lv_at hl 1 rfl) ?_
  refine jr_i (va_runSN (As := [.int x]) (rest := []) ⟨hx, hb, hml, hown, hts⟩ (c_X3_isCell l D cA x) ⟨(va_cnB 1 hts gX1_cellValue_X3_isCell_n53 rfl rfl rfl hN.2.2.2.2.2.2.2 (hts (.initialized RX3) (List.mem_of_getElem? (l := wsX1_cellValue) (i := 3) rfl)) hv_X3_isCell.2 ⟨Nat.le_of_ble_eq_true rfl, Nat.le_of_ble_eq_true rfl⟩), (hts (.static yX3_isCell) (List.mem_of_getElem? (l := wsX1_cellValue) (i := 2) rfl)), trivial⟩ (roP.S (av := [.int x]) (jP_sub (w2 := []) hP [] rfl) hK hN) rfl rfl hl.1 rfl (lv_room (Nat.le_of_ble_eq_true rfl)) dX1_cellValue_1 ⟨Nat.le_of_ble_eq_true rfl, Nat.le_of_ble_eq_true rfl⟩) ?_
  refine lv_if_eq (tgt := 16) hx hb dX1_cellValue_4 (by decide) (fun c_4 => ?_) (fun c_4 => ?_)
  · replace c_4 := jB_z.mp c_4
    refine lv_iconst (v := 0) hx hb dX1_cellValue_16 (by decide) ?_
    exact W.iret (v := 0) hx hb hr (fun t9 ht9 hW9 => ⟨jk_ret (show 0 = (jAt Cm 16 x) from (jAt_no c_4).symm), ht9⟩) (fun q h => absurd h List.not_mem_nil) dX1_cellValue_17
  · replace c_4 := jB_nz.mp c_4
    obtain ⟨j, hj, rfl⟩ := jN_of (n := 16) (by decide) c_4
    refine lv_aload_n hx hb dX1_cellValue_7 rfl (lv_at hl 0 rfl) ?_
    refine va_get (D := D) (ci := 1) (v := .ref c0) (C := RX1) (T := TX1) (N := 7) hx hb hts iw_X1_cellValue_X1 hown hK hP 0 rfl rfl 1 (by decide) (hts (.fieldLink RX1 15 "JumpGuard$Machine" "cells" "[I") (List.mem_of_getElem? (l := wsX1_cellValue) (i := 1) rfl)) (fun _ h9 => h9) rfl dX1_cellValue_8 ?_
    refine lv_iload_n hx hb dX1_cellValue_11 rfl (lv_at hl 1 rfl) ?_
    refine jk_ald hx hb hK hP 1 0 rfl rfl (k := j) rfl (by omega) (by omega) dX1_cellValue_12 ?_
    refine lv_goto (tgt := 17) hx hb dX1_cellValue_13 (by decide) ?_
    exact W.iret (v := (Cm j)) hx hb hr (fun t9 ht9 hW9 => ⟨jk_ret (show (Cm j) = (jAt Cm 16 (nI j)) from (jAt_n (n := 16) hj (by decide)).symm), ht9⟩) (fun q h => absurd h List.not_mem_nil) dX1_cellValue_17
set_option maxHeartbeats 4000000 in
set_option maxRecDepth 100000 in
theorem c_X1_setRegister (l : Launch) (D : va_G) (cA : ClassId) (sz : Nat) (m0 : Nat) (r0 : Nat) (c0 : Nat) (s0 : Nat) (p0 : Nat) (pc : Int32) (st : Int32) (w : Nat) (R : Nat → Int32) (x : Int32) (v : Int32) : Met l yX1_setRegister wsX1_setRegister ({ frames := 1, cells := 0, slots := 0, locals := 20 }) (rwP D cA [.ref m0, .int x, .int v] sz [(m0, .inr (1, [.ref r0, .ref c0, .ref s0, .ref p0, .int pc, .int st, .int (nI w)])), (r0, .inl (cA, 4, .inl R))]) (rwV D (va_A [(m0, .inr (1, [.ref r0, .ref c0, .ref s0, .ref p0, .int pc, .int st, .int (nI w)])), (r0, .inl (cA, 4, .inl R))] sz) [(m0, .inr (1, [.ref r0, .ref c0, .ref s0, .ref p0, .int pc, .int st, .int (nI w)])), (r0, .inl (cA, 4, .inl (jPut R 4 x v)))]) 0 0 (va_A [(m0, .inr (1, [.ref r0, .ref c0, .ref s0, .ref p0, .int pc, .int st, .int (nI w)])), (r0, .inl (cA, 4, .inl R))] sz) := by
  refine Met.ofW (cc := cX1_setRegister) (maxL := 3) (ret := none) (by decide) rfl ?_
  intro p e s m args below meth c s₁ B hml hv
  obtain ⟨rfl, hsz, hP, hK, hN, hD0⟩ := hv
  have hx := B.exec
  have hb := B.bytes
  have hr := B.returns
  have hts := atoms_spec (ws := wsX1_setRegister) B.pre
  have hown : s.vm.findClass RX1 = some m.cls := findClass_of_methodNamed B.named
  have hlocks := B.notSynchronized
  subst hsz
  have hD := hD0.self (sz := s.heap.size)
  generalize hAe : va_A [(m0, .inr (1, [.ref r0, .ref c0, .ref s0, .ref p0, .int pc, .int st, .int (nI w)])), (r0, .inl (cA, 4, .inl R))] s.heap.size = A at hD ⊢
  have hA : ∀ q : Nat, s.heap.size ≤ q → A q := fun q h => by rw [← hAe]; exact Or.inr h
  have hS : va_S A s.heap s.heap [] := va_S.rf
  have hl := lv_entry ([.ref m0, .int x, .int v]) (n := 3) (Nat.le_of_ble_eq_true rfl)
  rw [lg_entry_eq]
  generalize (lg_sl ([.ref m0, .int x, .int v]) ++ List.replicate (3 - (lg_sl ([.ref m0, .int x, .int v])).length) Slot.unset).toArray = ls at hl ⊢
  have hl : lv_has ls 3 [(0, .ref m0), (1, .int x), (2, .int v)] := hl
  refine lv_iload_n hx hb dX1_setRegister_0 rfl (lv_at hl 1 rfl) ?_
  refine jr_i (va_runSN (As := [.int x]) (rest := []) ⟨hx, hb, hml, hown, hts⟩ (c_X3_isRegister l D cA x) ⟨(va_cnB 1 hts gX1_setRegister_X3_isRegister_n49 rfl rfl rfl hN.2.2.2.2.2.2.1 (hts (.initialized RX3) (List.mem_of_getElem? (l := wsX1_setRegister) (i := 3) rfl)) hv_X3_isRegister.2 ⟨Nat.le_of_ble_eq_true rfl, Nat.le_of_ble_eq_true rfl⟩), (hts (.static yX3_isRegister) (List.mem_of_getElem? (l := wsX1_setRegister) (i := 2) rfl)), trivial⟩ (roP.S (av := [.int x]) (jP_sub (w2 := []) hP [] rfl) hK hN) rfl rfl hl.1 rfl (lv_room (Nat.le_of_ble_eq_true rfl)) dX1_setRegister_1 ⟨Nat.le_of_ble_eq_true rfl, Nat.le_of_ble_eq_true rfl⟩) ?_
  refine lv_if_eq (tgt := 14) hx hb dX1_setRegister_4 (by decide) (fun c_4 => ?_) (fun c_4 => ?_)
  · replace c_4 := jB_z.mp c_4
    obtain ⟨hP9, hD9⟩ := jk_end (w2 := [(m0, .inr (1, [.ref r0, .ref c0, .ref s0, .ref p0, .int pc, .int st, .int (nI w)])), (r0, .inl (cA, 4, .inl R))]) hP hD [0, 1] (by decide) rfl
    have e9 : ([(m0, .inr (1, [.ref r0, .ref c0, .ref s0, .ref p0, .int pc, .int st, .int (nI w)])), (r0, .inl (cA, 4, .inl R))] : va_W) = [(m0, .inr (1, [.ref r0, .ref c0, .ref s0, .ref p0, .int pc, .int st, .int (nI w)])), (r0, .inl (cA, 4, .inl (jPut R 4 x v)))] := (by rw [jPut_no c_4])
    rw [e9] at hP9 hD9
    exact W.vret hx hb hr (fun t9 ht9 hW9 => ⟨⟨(), rfl, trivial, by rw [ht9]; exact hP9, hD9⟩, hS.F ht9⟩) hS.2.2 dX1_setRegister_14
  · replace c_4 := jB_nz.mp c_4
    obtain ⟨j, hj, rfl⟩ := jN_of (n := 4) (by decide) c_4
    refine lv_aload_n hx hb dX1_setRegister_7 rfl (lv_at hl 0 rfl) ?_
    refine va_get (D := D) (ci := 1) (v := .ref r0) (C := RX1) (T := TX1) (N := 7) hx hb hts iw_X1_setRegister_X1 hown hK hP 0 rfl rfl 0 (by decide) (hts (.fieldLink RX1 9 "JumpGuard$Machine" "registers" "[I") (List.mem_of_getElem? (l := wsX1_setRegister) (i := 1) rfl)) (fun _ h9 => h9) rfl dX1_setRegister_8 ?_
    refine lv_iload_n hx hb dX1_setRegister_11 rfl (lv_at hl 1 rfl) ?_
    refine lv_iload_n hx hb dX1_setRegister_12 rfl (lv_at hl 2 rfl) ?_
    refine jk_ast hx hb hK hP hD hS 1 0 rfl rfl (k := j) rfl (by omega) (by omega) dX1_setRegister_13 (fun H locs hP hD hS => ?_)
    have hP : va_P D vwCl [(m0, .inr (1, [.ref r0, .ref c0, .ref s0, .ref p0, .int pc, .int st, .int (nI w)])), (r0, .inl (cA, 4, .inl (upd R j v)))] H := hP
    have hD : va_D A [(m0, .inr (1, [.ref r0, .ref c0, .ref s0, .ref p0, .int pc, .int st, .int (nI w)])), (r0, .inl (cA, 4, .inl (upd R j v)))] := hD
    obtain ⟨hP9, hD9⟩ := jk_end (w2 := [(m0, .inr (1, [.ref r0, .ref c0, .ref s0, .ref p0, .int pc, .int st, .int (nI w)])), (r0, .inl (cA, 4, .inl (upd R j v)))]) hP hD [0, 1] (by decide) rfl
    have e9 : ([(m0, .inr (1, [.ref r0, .ref c0, .ref s0, .ref p0, .int pc, .int st, .int (nI w)])), (r0, .inl (cA, 4, .inl (upd R j v)))] : va_W) = [(m0, .inr (1, [.ref r0, .ref c0, .ref s0, .ref p0, .int pc, .int st, .int (nI w)])), (r0, .inl (cA, 4, .inl (jPut R 4 (nI j) v)))] := (by rw [show jPut R 4 (nI j) v = upd R j v from jPut_n (n := 4) hj (by decide)])
    rw [e9] at hP9 hD9
    exact W.vret hx hb hr (fun t9 ht9 hW9 => ⟨⟨(), rfl, trivial, by rw [ht9]; exact hP9, hD9⟩, hS.F ht9⟩) hS.2.2 dX1_setRegister_14
set_option maxHeartbeats 4000000 in
set_option maxRecDepth 100000 in
theorem c_X1_setCell (l : Launch) (D : va_G) (cA : ClassId) (sz : Nat) (m0 : Nat) (r0 : Nat) (c0 : Nat) (s0 : Nat) (p0 : Nat) (pc : Int32) (st : Int32) (w : Nat) (Cm : Nat → Int32) (x : Int32) (v : Int32) : Met l yX1_setCell wsX1_setCell ({ frames := 1, cells := 0, slots := 0, locals := 20 }) (rwP D cA [.ref m0, .int x, .int v] sz [(m0, .inr (1, [.ref r0, .ref c0, .ref s0, .ref p0, .int pc, .int st, .int (nI w)])), (c0, .inl (cA, 16, .inl Cm))]) (rwV D (va_A [(m0, .inr (1, [.ref r0, .ref c0, .ref s0, .ref p0, .int pc, .int st, .int (nI w)])), (c0, .inl (cA, 16, .inl Cm))] sz) [(m0, .inr (1, [.ref r0, .ref c0, .ref s0, .ref p0, .int pc, .int st, .int (nI w)])), (c0, .inl (cA, 16, .inl (jPut Cm 16 x v)))]) 0 0 (va_A [(m0, .inr (1, [.ref r0, .ref c0, .ref s0, .ref p0, .int pc, .int st, .int (nI w)])), (c0, .inl (cA, 16, .inl Cm))] sz) := by
  refine Met.ofW (cc := cX1_setCell) (maxL := 3) (ret := none) (by decide) rfl ?_
  intro p e s m args below meth c s₁ B hml hv
  obtain ⟨rfl, hsz, hP, hK, hN, hD0⟩ := hv
  have hx := B.exec
  have hb := B.bytes
  have hr := B.returns
  have hts := atoms_spec (ws := wsX1_setCell) B.pre
  have hown : s.vm.findClass RX1 = some m.cls := findClass_of_methodNamed B.named
  have hlocks := B.notSynchronized
  subst hsz
  have hD := hD0.self (sz := s.heap.size)
  generalize hAe : va_A [(m0, .inr (1, [.ref r0, .ref c0, .ref s0, .ref p0, .int pc, .int st, .int (nI w)])), (c0, .inl (cA, 16, .inl Cm))] s.heap.size = A at hD ⊢
  have hA : ∀ q : Nat, s.heap.size ≤ q → A q := fun q h => by rw [← hAe]; exact Or.inr h
  have hS : va_S A s.heap s.heap [] := va_S.rf
  have hl := lv_entry ([.ref m0, .int x, .int v]) (n := 3) (Nat.le_of_ble_eq_true rfl)
  rw [lg_entry_eq]
  generalize (lg_sl ([.ref m0, .int x, .int v]) ++ List.replicate (3 - (lg_sl ([.ref m0, .int x, .int v])).length) Slot.unset).toArray = ls at hl ⊢
  have hl : lv_has ls 3 [(0, .ref m0), (1, .int x), (2, .int v)] := hl
  refine lv_iload_n hx hb dX1_setCell_0 rfl (lv_at hl 1 rfl) ?_
  refine jr_i (va_runSN (As := [.int x]) (rest := []) ⟨hx, hb, hml, hown, hts⟩ (c_X3_isCell l D cA x) ⟨(va_cnB 1 hts gX1_setCell_X3_isCell_n53 rfl rfl rfl hN.2.2.2.2.2.2.2 (hts (.initialized RX3) (List.mem_of_getElem? (l := wsX1_setCell) (i := 3) rfl)) hv_X3_isCell.2 ⟨Nat.le_of_ble_eq_true rfl, Nat.le_of_ble_eq_true rfl⟩), (hts (.static yX3_isCell) (List.mem_of_getElem? (l := wsX1_setCell) (i := 2) rfl)), trivial⟩ (roP.S (av := [.int x]) (jP_sub (w2 := []) hP [] rfl) hK hN) rfl rfl hl.1 rfl (lv_room (Nat.le_of_ble_eq_true rfl)) dX1_setCell_1 ⟨Nat.le_of_ble_eq_true rfl, Nat.le_of_ble_eq_true rfl⟩) ?_
  refine lv_if_eq (tgt := 14) hx hb dX1_setCell_4 (by decide) (fun c_4 => ?_) (fun c_4 => ?_)
  · replace c_4 := jB_z.mp c_4
    obtain ⟨hP9, hD9⟩ := jk_end (w2 := [(m0, .inr (1, [.ref r0, .ref c0, .ref s0, .ref p0, .int pc, .int st, .int (nI w)])), (c0, .inl (cA, 16, .inl Cm))]) hP hD [0, 1] (by decide) rfl
    have e9 : ([(m0, .inr (1, [.ref r0, .ref c0, .ref s0, .ref p0, .int pc, .int st, .int (nI w)])), (c0, .inl (cA, 16, .inl Cm))] : va_W) = [(m0, .inr (1, [.ref r0, .ref c0, .ref s0, .ref p0, .int pc, .int st, .int (nI w)])), (c0, .inl (cA, 16, .inl (jPut Cm 16 x v)))] := (by rw [jPut_no c_4])
    rw [e9] at hP9 hD9
    exact W.vret hx hb hr (fun t9 ht9 hW9 => ⟨⟨(), rfl, trivial, by rw [ht9]; exact hP9, hD9⟩, hS.F ht9⟩) hS.2.2 dX1_setCell_14
  · replace c_4 := jB_nz.mp c_4
    obtain ⟨j, hj, rfl⟩ := jN_of (n := 16) (by decide) c_4
    refine lv_aload_n hx hb dX1_setCell_7 rfl (lv_at hl 0 rfl) ?_
    refine va_get (D := D) (ci := 1) (v := .ref c0) (C := RX1) (T := TX1) (N := 7) hx hb hts iw_X1_setCell_X1 hown hK hP 0 rfl rfl 1 (by decide) (hts (.fieldLink RX1 15 "JumpGuard$Machine" "cells" "[I") (List.mem_of_getElem? (l := wsX1_setCell) (i := 1) rfl)) (fun _ h9 => h9) rfl dX1_setCell_8 ?_
    refine lv_iload_n hx hb dX1_setCell_11 rfl (lv_at hl 1 rfl) ?_
    refine lv_iload_n hx hb dX1_setCell_12 rfl (lv_at hl 2 rfl) ?_
    refine jk_ast hx hb hK hP hD hS 1 0 rfl rfl (k := j) rfl (by omega) (by omega) dX1_setCell_13 (fun H locs hP hD hS => ?_)
    have hP : va_P D vwCl [(m0, .inr (1, [.ref r0, .ref c0, .ref s0, .ref p0, .int pc, .int st, .int (nI w)])), (c0, .inl (cA, 16, .inl (upd Cm j v)))] H := hP
    have hD : va_D A [(m0, .inr (1, [.ref r0, .ref c0, .ref s0, .ref p0, .int pc, .int st, .int (nI w)])), (c0, .inl (cA, 16, .inl (upd Cm j v)))] := hD
    obtain ⟨hP9, hD9⟩ := jk_end (w2 := [(m0, .inr (1, [.ref r0, .ref c0, .ref s0, .ref p0, .int pc, .int st, .int (nI w)])), (c0, .inl (cA, 16, .inl (upd Cm j v)))]) hP hD [0, 1] (by decide) rfl
    have e9 : ([(m0, .inr (1, [.ref r0, .ref c0, .ref s0, .ref p0, .int pc, .int st, .int (nI w)])), (c0, .inl (cA, 16, .inl (upd Cm j v)))] : va_W) = [(m0, .inr (1, [.ref r0, .ref c0, .ref s0, .ref p0, .int pc, .int st, .int (nI w)])), (c0, .inl (cA, 16, .inl (jPut Cm 16 (nI j) v)))] := (by rw [show jPut Cm 16 (nI j) v = upd Cm j v from jPut_n (n := 16) hj (by decide)])
    rw [e9] at hP9 hD9
    exact W.vret hx hb hr (fun t9 ht9 hW9 => ⟨⟨(), rfl, trivial, by rw [ht9]; exact hP9, hD9⟩, hS.F ht9⟩) hS.2.2 dX1_setCell_14
set_option maxHeartbeats 4000000 in
set_option maxRecDepth 100000 in
theorem c_X1_stop (l : Launch) (D : va_G) (cA : ClassId) (sz : Nat) (m0 : Nat) (r0 : Nat) (c0 : Nat) (s0 : Nat) (p0 : Nat) (pc : Int32) (st : Int32) (w : Nat) : Met l yX1_stop wsX1_stop ({ frames := 0, cells := 0, slots := 0, locals := 0 }) (rwP D cA [.ref m0] sz [(m0, .inr (1, [.ref r0, .ref c0, .ref s0, .ref p0, .int pc, .int st, .int (nI w)]))]) (rwV D (va_A [(m0, .inr (1, [.ref r0, .ref c0, .ref s0, .ref p0, .int pc, .int st, .int (nI w)]))] sz) [(m0, .inr (1, [.ref r0, .ref c0, .ref s0, .ref p0, .int pc, .int (-1), .int (nI w)]))]) 0 0 (va_A [(m0, .inr (1, [.ref r0, .ref c0, .ref s0, .ref p0, .int pc, .int st, .int (nI w)]))] sz) := by
  refine Met.ofW (cc := cX1_stop) (maxL := 1) (ret := none) (by decide) rfl ?_
  intro p e s m args below meth c s₁ B hml hv
  obtain ⟨rfl, hsz, hP, hK, hN, hD0⟩ := hv
  have hx := B.exec
  have hb := B.bytes
  have hr := B.returns
  have hts := atoms_spec (ws := wsX1_stop) B.pre
  have hown : s.vm.findClass RX1 = some m.cls := findClass_of_methodNamed B.named
  have hlocks := B.notSynchronized
  subst hsz
  have hD := hD0.self (sz := s.heap.size)
  generalize hAe : va_A [(m0, .inr (1, [.ref r0, .ref c0, .ref s0, .ref p0, .int pc, .int st, .int (nI w)]))] s.heap.size = A at hD ⊢
  have hA : ∀ q : Nat, s.heap.size ≤ q → A q := fun q h => by rw [← hAe]; exact Or.inr h
  have hS : va_S A s.heap s.heap [] := va_S.rf
  have hl := lv_entry ([.ref m0]) (n := 1) (Nat.le_of_ble_eq_true rfl)
  rw [lg_entry_eq]
  generalize (lg_sl ([.ref m0]) ++ List.replicate (1 - (lg_sl ([.ref m0])).length) Slot.unset).toArray = ls at hl ⊢
  have hl : lv_has ls 1 [(0, .ref m0)] := hl
  refine lv_aload_n hx hb dX1_stop_0 rfl (lv_at hl 0 rfl) ?_
  refine lv_iconst (v := (-1)) hx hb dX1_stop_1 (by decide) ?_
  refine va_put (D := D) (ci := 1) (v := .int (-1)) (ty := .int) (C := RX1) (T := TX1) (N := 7) hx hb hts iw_X1_stop_X1 tyX1 tyX1_ok nmX1 hown hK hP hD hS 0 rfl rfl 5 (by decide) (hts (.fieldLink RX1 30 "JumpGuard$Machine" "condition" "I") (List.mem_of_getElem? (l := wsX1_stop) (i := 1) rfl)) (fun _ h9 => h9) rfl (by decide +kernel) rfl rfl (Nat.le_of_ble_eq_true rfl) dX1_stop_2 (fun H locs hP hD hS => ?_)
  have hP : va_P D vwCl [(m0, .inr (1, [.ref r0, .ref c0, .ref s0, .ref p0, .int pc, .int (-1), .int (nI w)]))] H := hP
  have hD : va_D A [(m0, .inr (1, [.ref r0, .ref c0, .ref s0, .ref p0, .int pc, .int (-1), .int (nI w)]))] := hD
  obtain ⟨hP9, hD9⟩ := jk_end (w2 := [(m0, .inr (1, [.ref r0, .ref c0, .ref s0, .ref p0, .int pc, .int (-1), .int (nI w)]))]) hP hD [0] (by decide) rfl
  exact W.vret hx hb hr (fun t9 ht9 hW9 => ⟨⟨(), rfl, trivial, by rw [ht9]; exact hP9, hD9⟩, hS.F ht9⟩) hS.2.2 dX1_stop_5
set_option maxHeartbeats 4000000 in
set_option maxRecDepth 100000 in
theorem c_X1_isIdle (l : Launch) (D : va_G) (cA : ClassId) (m0 : Nat) (r0 : Nat) (c0 : Nat) (s0 : Nat) (p0 : Nat) (pc : Int32) (st : Int32) (w : Nat) : Met l yX1_isIdle wsX1_isIdle ({ frames := 0, cells := 0, slots := 0, locals := 0 }) (roP D cA [.ref m0] [(m0, .inr (1, [.ref r0, .ref c0, .ref s0, .ref p0, .int pc, .int st, .int (nI w)]))]) (QcRead (jB (st = (-1)))) 0 0 (fun _ => False) := by
  refine Met.ofW (cc := cX1_isIdle) (maxL := 1) (ret := (some .boolean)) (by decide) rfl ?_
  intro p e s m args below meth c s₁ B hml hv
  obtain ⟨rfl, hP, hK, hN⟩ := hv
  have hx := B.exec
  have hb := B.bytes
  have hr := B.returns
  have hts := atoms_spec (ws := wsX1_isIdle) B.pre
  have hown : s.vm.findClass RX1 = some m.cls := findClass_of_methodNamed B.named
  have hlocks := B.notSynchronized
  have hl := lv_entry ([.ref m0]) (n := 1) (Nat.le_of_ble_eq_true rfl)
  rw [lg_entry_eq]
  generalize (lg_sl ([.ref m0]) ++ List.replicate (1 - (lg_sl ([.ref m0])).length) Slot.unset).toArray = ls at hl ⊢
  have hl : lv_has ls 1 [(0, .ref m0)] := hl
  refine lv_aload_n hx hb dX1_isIdle_0 rfl (lv_at hl 0 rfl) ?_
  refine va_get (D := D) (ci := 1) (v := .int st) (C := RX1) (T := TX1) (N := 7) hx hb hts iw_X1_isIdle_X1 hown hK hP 0 rfl rfl 5 (by decide) (hts (.fieldLink RX1 30 "JumpGuard$Machine" "condition" "I") (List.mem_of_getElem? (l := wsX1_isIdle) (i := 1) rfl)) (fun _ h9 => h9) rfl dX1_isIdle_1 ?_
  refine lv_iconst (v := (-1)) hx hb dX1_isIdle_4 (by decide) ?_
  refine lv_icmp_ne (tgt := 12) hx hb dX1_isIdle_5 (by decide) (fun c_5 => ?_) (fun c_5 => ?_)
  · refine lv_iconst (v := 0) hx hb dX1_isIdle_12 (by decide) ?_
    exact W.zret (ty := .boolean) (v := 0) hx hb hr rfl (fun t9 ht9 hW9 => ⟨jk_ret (show 0 = (jB (st = (-1))) from (by first | exact (jB_t (by assumption)).symm | exact (jB_f (by assumption)).symm)), ht9⟩) (fun q h => absurd h List.not_mem_nil) dX1_isIdle_13
  · refine lv_iconst (v := 1) hx hb dX1_isIdle_8 (by decide) ?_
    refine lv_goto (tgt := 13) hx hb dX1_isIdle_9 (by decide) ?_
    exact W.zret (ty := .boolean) (v := 1) hx hb hr rfl (fun t9 ht9 hW9 => ⟨jk_ret (show 1 = (jB (st = (-1))) from (by first | exact (jB_t (by assumption)).symm | exact (jB_f (by assumption)).symm)), ht9⟩) (fun q h => absurd h List.not_mem_nil) dX1_isIdle_13
set_option maxHeartbeats 4000000 in
set_option maxRecDepth 100000 in
theorem c_X1_shownBefore (l : Launch) (D : va_G) (cA : ClassId) (m0 : Nat) (r0 : Nat) (c0 : Nat) (s0 : Nat) (p0 : Nat) (pc : Int32) (st : Int32) (w : Nat) (Ls : Nat → Int32) (x : Int32) (hw : w < 1000000) : Met l yX1_shownBefore wsX1_shownBefore ({ frames := 0, cells := 0, slots := 0, locals := 0 }) (roP D cA [.ref m0, .int x] [(m0, .inr (1, [.ref r0, .ref c0, .ref s0, .ref p0, .int pc, .int st, .int (nI w)])), (s0, .inl (cA, 8, .inl Ls))]) (QcRead (mShown Ls w x)) 0 0 (fun _ => False) := by
  refine Met.ofW (cc := cX1_shownBefore) (maxL := 2) (ret := (some .int)) (by decide) rfl ?_
  intro p e s m args below meth c s₁ B hml hv
  obtain ⟨rfl, hP, hK, hN⟩ := hv
  have hx := B.exec
  have hb := B.bytes
  have hr := B.returns
  have hts := atoms_spec (ws := wsX1_shownBefore) B.pre
  have hown : s.vm.findClass RX1 = some m.cls := findClass_of_methodNamed B.named
  have hlocks := B.notSynchronized
  have hl := lv_entry ([.ref m0, .int x]) (n := 2) (Nat.le_of_ble_eq_true rfl)
  rw [lg_entry_eq]
  generalize (lg_sl ([.ref m0, .int x]) ++ List.replicate (2 - (lg_sl ([.ref m0, .int x])).length) Slot.unset).toArray = ls at hl ⊢
  have hl : lv_has ls 2 [(0, .ref m0), (1, .int x)] := hl
  refine lv_iload_n hx hb dX1_shownBefore_0 rfl (lv_at hl 1 rfl) ?_
  refine lv_if_lt (tgt := 18) hx hb dX1_shownBefore_1 (by decide) (fun c_1 => ?_) (fun c_1 => ?_)
  · refine lv_iconst (v := 0) hx hb dX1_shownBefore_18 (by decide) ?_
    exact W.iret (v := 0) hx hb hr (fun t9 ht9 hW9 => ⟨jk_ret (show 0 = (mShown Ls w x) from (mShown_no (by first | exact fun h => h.1.1 c_1 | exact fun h => h.1.2 c_7 | exact fun h => h.2 (Int32.not_lt.mp c_15))).symm), ht9⟩) (fun q h => absurd h List.not_mem_nil) dX1_shownBefore_19
  · refine lv_iload_n hx hb dX1_shownBefore_4 rfl (lv_at hl 1 rfl) ?_
    refine lv_bipush (v := 8) hx hb dX1_shownBefore_5 (by decide) ?_
    refine lv_icmp_ge (tgt := 18) hx hb dX1_shownBefore_7 (by decide) (fun c_7 => ?_) (fun c_7 => ?_)
    · refine lv_iconst (v := 0) hx hb dX1_shownBefore_18 (by decide) ?_
      exact W.iret (v := 0) hx hb hr (fun t9 ht9 hW9 => ⟨jk_ret (show 0 = (mShown Ls w x) from (mShown_no (by first | exact fun h => h.1.1 c_1 | exact fun h => h.1.2 c_7 | exact fun h => h.2 (Int32.not_lt.mp c_15))).symm), ht9⟩) (fun q h => absurd h List.not_mem_nil) dX1_shownBefore_19
    · refine lv_iload_n hx hb dX1_shownBefore_10 rfl (lv_at hl 1 rfl) ?_
      refine lv_aload_n hx hb dX1_shownBefore_11 rfl (lv_at hl 0 rfl) ?_
      refine va_get (D := D) (ci := 1) (v := .int (nI w)) (C := RX1) (T := TX1) (N := 7) hx hb hts iw_X1_shownBefore_X1 hown hK hP 0 rfl rfl 6 (by decide) (hts (.fieldLink RX1 43 "JumpGuard$Machine" "showCount" "I") (List.mem_of_getElem? (l := wsX1_shownBefore) (i := 1) rfl)) (fun _ h9 => h9) rfl dX1_shownBefore_12 ?_
      refine lv_icmp_lt (tgt := 20) hx hb dX1_shownBefore_15 (by decide) (fun c_15 => ?_) (fun c_15 => ?_)
      · obtain ⟨j, hj, rfl⟩ := jN_of (x := x) (n := 8) (by decide) ⟨c_1, c_7⟩
        have hjw : j < w := (nI_ltI (by omega) (by omega)).mp c_15
        refine lv_aload_n hx hb dX1_shownBefore_20 rfl (lv_at hl 0 rfl) ?_
        refine va_get (D := D) (ci := 1) (v := .ref s0) (C := RX1) (T := TX1) (N := 7) hx hb hts iw_X1_shownBefore_X1 hown hK hP 0 rfl rfl 2 (by decide) (hts (.fieldLink RX1 18 "JumpGuard$Machine" "lastShown" "[I") (List.mem_of_getElem? (l := wsX1_shownBefore) (i := 2) rfl)) (fun _ h9 => h9) rfl dX1_shownBefore_21 ?_
        refine lv_aload_n hx hb dX1_shownBefore_24 rfl (lv_at hl 0 rfl) ?_
        refine va_get (D := D) (ci := 1) (v := .int (nI w)) (C := RX1) (T := TX1) (N := 7) hx hb hts iw_X1_shownBefore_X1 hown hK hP 0 rfl rfl 6 (by decide) (hts (.fieldLink RX1 43 "JumpGuard$Machine" "showCount" "I") (List.mem_of_getElem? (l := wsX1_shownBefore) (i := 1) rfl)) (fun _ h9 => h9) rfl dX1_shownBefore_25 ?_
        refine lv_iconst (v := 1) hx hb dX1_shownBefore_28 (by decide) ?_
        refine lv_isub hx hb dX1_shownBefore_29 ?_
        refine jk_top (show ((nI w) - 1) = (nI (w - 1)) from pk_sub (a := w) (b := 1) (by omega)) ?_
        refine lv_iload_n hx hb dX1_shownBefore_30 rfl (lv_at hl 1 rfl) ?_
        refine lv_isub hx hb dX1_shownBefore_31 ?_
        refine jk_top (show ((nI (w - 1)) - (nI j)) = (nI (w - 1 - j)) from pk_sub (by omega)) ?_
        refine lv_bipush (v := 7) hx hb dX1_shownBefore_32 (by decide) ?_
        refine lv_iand hx hb dX1_shownBefore_34 ?_
        refine jk_top (show ((nI (w - 1 - j)) &&& 7) = (nI ((w - 1 - j) % 8)) from pk_andN (by omega) 3 (by decide)) ?_
        refine jk_ald hx hb hK hP 1 0 rfl rfl (k := ((w - 1 - j) % 8)) rfl (by omega) (by omega) dX1_shownBefore_35 ?_
        exact W.iret (v := (Ls ((w - 1 - j) % 8))) hx hb hr (fun t9 ht9 hW9 => ⟨jk_ret (show (Ls ((w - 1 - j) % 8)) = (mShown Ls w (nI j)) from (mShown_at hj hjw (by omega)).symm), ht9⟩) (fun q h => absurd h List.not_mem_nil) dX1_shownBefore_36
      · refine lv_iconst (v := 0) hx hb dX1_shownBefore_18 (by decide) ?_
        exact W.iret (v := 0) hx hb hr (fun t9 ht9 hW9 => ⟨jk_ret (show 0 = (mShown Ls w x) from (mShown_no (by first | exact fun h => h.1.1 c_1 | exact fun h => h.1.2 c_7 | exact fun h => h.2 (Int32.not_lt.mp c_15))).symm), ht9⟩) (fun q h => absurd h List.not_mem_nil) dX1_shownBefore_19
set_option maxHeartbeats 4000000 in
set_option maxRecDepth 100000 in
theorem c_X1_keepShown (l : Launch) (D : va_G) (cA : ClassId) (sz : Nat) (m0 : Nat) (r0 : Nat) (c0 : Nat) (s0 : Nat) (p0 : Nat) (pc : Int32) (st : Int32) (w : Nat) (Ls : Nat → Int32) (v : Int32) (hw : w < 1000000) : Met l yX1_keepShown wsX1_keepShown ({ frames := 0, cells := 0, slots := 0, locals := 0 }) (rwP D cA [.ref m0, .int v] sz [(m0, .inr (1, [.ref r0, .ref c0, .ref s0, .ref p0, .int pc, .int st, .int (nI w)])), (s0, .inl (cA, 8, .inl Ls))]) (rwV D (va_A [(m0, .inr (1, [.ref r0, .ref c0, .ref s0, .ref p0, .int pc, .int st, .int (nI w)])), (s0, .inl (cA, 8, .inl Ls))] sz) [(m0, .inr (1, [.ref r0, .ref c0, .ref s0, .ref p0, .int pc, .int st, .int (nI (w + 1))])), (s0, .inl (cA, 8, .inl (upd Ls (w % 8) v)))]) 0 0 (va_A [(m0, .inr (1, [.ref r0, .ref c0, .ref s0, .ref p0, .int pc, .int st, .int (nI w)])), (s0, .inl (cA, 8, .inl Ls))] sz) := by
  refine Met.ofW (cc := cX1_keepShown) (maxL := 2) (ret := none) (by decide) rfl ?_
  intro p e s m args below meth c s₁ B hml hv
  obtain ⟨rfl, hsz, hP, hK, hN, hD0⟩ := hv
  have hx := B.exec
  have hb := B.bytes
  have hr := B.returns
  have hts := atoms_spec (ws := wsX1_keepShown) B.pre
  have hown : s.vm.findClass RX1 = some m.cls := findClass_of_methodNamed B.named
  have hlocks := B.notSynchronized
  subst hsz
  have hD := hD0.self (sz := s.heap.size)
  generalize hAe : va_A [(m0, .inr (1, [.ref r0, .ref c0, .ref s0, .ref p0, .int pc, .int st, .int (nI w)])), (s0, .inl (cA, 8, .inl Ls))] s.heap.size = A at hD ⊢
  have hA : ∀ q : Nat, s.heap.size ≤ q → A q := fun q h => by rw [← hAe]; exact Or.inr h
  have hS : va_S A s.heap s.heap [] := va_S.rf
  have hl := lv_entry ([.ref m0, .int v]) (n := 2) (Nat.le_of_ble_eq_true rfl)
  rw [lg_entry_eq]
  generalize (lg_sl ([.ref m0, .int v]) ++ List.replicate (2 - (lg_sl ([.ref m0, .int v])).length) Slot.unset).toArray = ls at hl ⊢
  have hl : lv_has ls 2 [(0, .ref m0), (1, .int v)] := hl
  refine lv_aload_n hx hb dX1_keepShown_0 rfl (lv_at hl 0 rfl) ?_
  refine va_get (D := D) (ci := 1) (v := .ref s0) (C := RX1) (T := TX1) (N := 7) hx hb hts iw_X1_keepShown_X1 hown hK hP 0 rfl rfl 2 (by decide) (hts (.fieldLink RX1 18 "JumpGuard$Machine" "lastShown" "[I") (List.mem_of_getElem? (l := wsX1_keepShown) (i := 1) rfl)) (fun _ h9 => h9) rfl dX1_keepShown_1 ?_
  refine lv_aload_n hx hb dX1_keepShown_4 rfl (lv_at hl 0 rfl) ?_
  refine va_get (D := D) (ci := 1) (v := .int (nI w)) (C := RX1) (T := TX1) (N := 7) hx hb hts iw_X1_keepShown_X1 hown hK hP 0 rfl rfl 6 (by decide) (hts (.fieldLink RX1 43 "JumpGuard$Machine" "showCount" "I") (List.mem_of_getElem? (l := wsX1_keepShown) (i := 2) rfl)) (fun _ h9 => h9) rfl dX1_keepShown_5 ?_
  refine lv_bipush (v := 7) hx hb dX1_keepShown_8 (by decide) ?_
  refine lv_iand hx hb dX1_keepShown_10 ?_
  refine jk_top (show ((nI w) &&& 7) = (nI (w % 8)) from pk_andN (by omega) 3 (by decide)) ?_
  refine lv_iload_n hx hb dX1_keepShown_11 rfl (lv_at hl 1 rfl) ?_
  refine jk_ast hx hb hK hP hD hS 1 0 rfl rfl (k := (w % 8)) rfl (by omega) (by omega) dX1_keepShown_12 (fun H locs hP hD hS => ?_)
  have hP : va_P D vwCl [(m0, .inr (1, [.ref r0, .ref c0, .ref s0, .ref p0, .int pc, .int st, .int (nI w)])), (s0, .inl (cA, 8, .inl (upd Ls (w % 8) v)))] H := hP
  have hD : va_D A [(m0, .inr (1, [.ref r0, .ref c0, .ref s0, .ref p0, .int pc, .int st, .int (nI w)])), (s0, .inl (cA, 8, .inl (upd Ls (w % 8) v)))] := hD
  refine lv_aload_n hx hb dX1_keepShown_13 rfl (lv_at hl 0 rfl) ?_
  refine lv_dup hx hb dX1_keepShown_14 rfl ?_
  refine va_get (D := D) (ci := 1) (v := .int (nI w)) (C := RX1) (T := TX1) (N := 7) hx hb hts iw_X1_keepShown_X1 hown hK hP 0 rfl rfl 6 (by decide) (hts (.fieldLink RX1 43 "JumpGuard$Machine" "showCount" "I") (List.mem_of_getElem? (l := wsX1_keepShown) (i := 2) rfl)) (fun _ h9 => h9) rfl dX1_keepShown_15 ?_
  refine lv_iconst (v := 1) hx hb dX1_keepShown_18 (by decide) ?_
  refine lv_iadd hx hb dX1_keepShown_19 ?_
  refine jk_top (show ((nI w) + 1) = (nI (w + 1)) from jn_a1 w) ?_
  refine va_put (D := D) (ci := 1) (v := .int (nI (w + 1))) (ty := .int) (C := RX1) (T := TX1) (N := 7) hx hb hts iw_X1_keepShown_X1 tyX1 tyX1_ok nmX1 hown hK hP hD hS 0 rfl rfl 6 (by decide) (hts (.fieldLink RX1 43 "JumpGuard$Machine" "showCount" "I") (List.mem_of_getElem? (l := wsX1_keepShown) (i := 2) rfl)) (fun _ h9 => h9) rfl (by decide +kernel) rfl rfl (Nat.le_of_ble_eq_true rfl) dX1_keepShown_20 (fun H locs hP hD hS => ?_)
  have hP : va_P D vwCl [(m0, .inr (1, [.ref r0, .ref c0, .ref s0, .ref p0, .int pc, .int st, .int (nI (w + 1))])), (s0, .inl (cA, 8, .inl (upd Ls (w % 8) v)))] H := hP
  have hD : va_D A [(m0, .inr (1, [.ref r0, .ref c0, .ref s0, .ref p0, .int pc, .int st, .int (nI (w + 1))])), (s0, .inl (cA, 8, .inl (upd Ls (w % 8) v)))] := hD
  obtain ⟨hP9, hD9⟩ := jk_end (w2 := [(m0, .inr (1, [.ref r0, .ref c0, .ref s0, .ref p0, .int pc, .int st, .int (nI (w + 1))])), (s0, .inl (cA, 8, .inl (upd Ls (w % 8) v)))]) hP hD [0, 1] (by decide) rfl
  exact W.vret hx hb hr (fun t9 ht9 hW9 => ⟨⟨(), rfl, trivial, by rw [ht9]; exact hP9, hD9⟩, hS.F ht9⟩) hS.2.2 dX1_keepShown_23
set_option maxHeartbeats 4000000 in
set_option maxRecDepth 100000 in
theorem c_X1_jumpTo (l : Launch) (D : va_G) (cA : ClassId) (sz : Nat) (m0 : Nat) (r0 : Nat) (c0 : Nat) (s0 : Nat) (p0 : Nat) (pc : Int32) (st : Int32) (w : Nat) (a0 : Nat) (mo : Nat) (k : Nat) (f : Nat → Int32) (x : Int32) : Met l yX1_jumpTo wsX1_jumpTo ({ frames := 1, cells := 0, slots := 0, locals := 21 }) (rwP D cA [.ref m0, .int x] sz [(m0, .inr (1, [.ref r0, .ref c0, .ref s0, .ref p0, .int pc, .int st, .int (nI w)])), (p0, .inr (2, [.ref a0, .int (nI mo), .int (nI k)]))]) (rwI D (va_A [(m0, .inr (1, [.ref r0, .ref c0, .ref s0, .ref p0, .int pc, .int st, .int (nI w)])), (p0, .inr (2, [.ref a0, .int (nI mo), .int (nI k)]))] sz) x [(m0, .inr (1, [.ref r0, .ref c0, .ref s0, .ref p0, .int pc, .int (mvJ f k x st), .int (nI w)])), (p0, .inr (2, [.ref a0, .int (nI mo), .int (nI k)]))]) 0 0 (va_A [(m0, .inr (1, [.ref r0, .ref c0, .ref s0, .ref p0, .int pc, .int st, .int (nI w)])), (p0, .inr (2, [.ref a0, .int (nI mo), .int (nI k)]))] sz) := by
  refine Met.ofW (cc := cX1_jumpTo) (maxL := 2) (ret := (some .int)) (by decide) rfl ?_
  intro p e s m args below meth c s₁ B hml hv
  obtain ⟨rfl, hsz, hP, hK, hN, hD0⟩ := hv
  have hx := B.exec
  have hb := B.bytes
  have hr := B.returns
  have hts := atoms_spec (ws := wsX1_jumpTo) B.pre
  have hown : s.vm.findClass RX1 = some m.cls := findClass_of_methodNamed B.named
  have hlocks := B.notSynchronized
  subst hsz
  have hD := hD0.self (sz := s.heap.size)
  generalize hAe : va_A [(m0, .inr (1, [.ref r0, .ref c0, .ref s0, .ref p0, .int pc, .int st, .int (nI w)])), (p0, .inr (2, [.ref a0, .int (nI mo), .int (nI k)]))] s.heap.size = A at hD ⊢
  have hA : ∀ q : Nat, s.heap.size ≤ q → A q := fun q h => by rw [← hAe]; exact Or.inr h
  have hS : va_S A s.heap s.heap [] := va_S.rf
  have hl := lv_entry ([.ref m0, .int x]) (n := 2) (Nat.le_of_ble_eq_true rfl)
  rw [lg_entry_eq]
  generalize (lg_sl ([.ref m0, .int x]) ++ List.replicate (2 - (lg_sl ([.ref m0, .int x])).length) Slot.unset).toArray = ls at hl ⊢
  have hl : lv_has ls 2 [(0, .ref m0), (1, .int x)] := hl
  refine lv_aload_n hx hb dX1_jumpTo_0 rfl (lv_at hl 0 rfl) ?_
  refine va_get (D := D) (ci := 1) (v := .ref p0) (C := RX1) (T := TX1) (N := 7) hx hb hts iw_X1_jumpTo_X1 hown hK hP 0 rfl rfl 3 (by decide) (hts (.fieldLink RX1 26 "JumpGuard$Machine" "program" "LJumpGuard$Program;") (List.mem_of_getElem? (l := wsX1_jumpTo) (i := 1) rfl)) (fun _ h9 => h9) rfl dX1_jumpTo_1 ?_
  refine lv_iload_n hx hb dX1_jumpTo_4 rfl (lv_at hl 1 rfl) ?_
  refine jr_i (va_runV (As := [.int x]) (rest := []) ⟨hx, hb, hml, hown, hts⟩ (c_X2_has l D cA p0 a0 mo k x) (cwV 1 hts gX1_jumpTo_X2_has rfl rfl rfl hv_X2_has ⟨Nat.le_of_ble_eq_true rfl, Nat.le_of_ble_eq_true rfl⟩) (roP.V (va_recv hK hP (ci := 2) (q0 := 1) rfl rfl) (jP_sub (w2 := [(p0, .inr (2, [.ref a0, .int (nI mo), .int (nI k)]))]) hP [1] rfl) hK hN) rfl rfl hl.1 rfl (lv_room (Nat.le_of_ble_eq_true rfl)) dX1_jumpTo_5 ⟨Nat.le_of_ble_eq_true rfl, Nat.le_of_ble_eq_true rfl⟩) ?_
  refine lv_if_ne (tgt := 16) hx hb dX1_jumpTo_8 (by decide) (fun c_8 => ?_) (fun c_8 => ?_)
  · replace c_8 := jB_nz.mp c_8
    refine lv_iload_n hx hb dX1_jumpTo_16 rfl (lv_at hl 1 rfl) ?_
    obtain ⟨hP9, hD9⟩ := jk_end (w2 := [(m0, .inr (1, [.ref r0, .ref c0, .ref s0, .ref p0, .int pc, .int st, .int (nI w)])), (p0, .inr (2, [.ref a0, .int (nI mo), .int (nI k)]))]) hP hD [0, 1] (by decide) rfl
    have e9 : ([(m0, .inr (1, [.ref r0, .ref c0, .ref s0, .ref p0, .int pc, .int st, .int (nI w)])), (p0, .inr (2, [.ref a0, .int (nI mo), .int (nI k)]))] : va_W) = [(m0, .inr (1, [.ref r0, .ref c0, .ref s0, .ref p0, .int pc, .int (mvJ f k x st), .int (nI w)])), (p0, .inr (2, [.ref a0, .int (nI mo), .int (nI k)]))] := (by unfold mvJ; rw [if_pos c_8])
    rw [e9] at hP9 hD9
    exact W.iret (v := x) hx hb hr (fun t9 ht9 hW9 => ⟨⟨_, (), rfl, (show x = x from rfl), by rw [ht9]; exact hP9, hD9⟩, hS.F ht9⟩) hS.2.2 dX1_jumpTo_17
  · replace c_8 := jB_z.mp c_8
    refine lv_aload_n hx hb dX1_jumpTo_11 rfl (lv_at hl 0 rfl) ?_
    refine lv_iconst (v := 3) hx hb dX1_jumpTo_12 (by decide) ?_
    refine va_put (D := D) (ci := 1) (v := .int 3) (ty := .int) (C := RX1) (T := TX1) (N := 7) hx hb hts iw_X1_jumpTo_X1 tyX1 tyX1_ok nmX1 hown hK hP hD hS 0 rfl rfl 5 (by decide) (hts (.fieldLink RX1 30 "JumpGuard$Machine" "condition" "I") (List.mem_of_getElem? (l := wsX1_jumpTo) (i := 2) rfl)) (fun _ h9 => h9) rfl (by decide +kernel) rfl rfl (Nat.le_of_ble_eq_true rfl) dX1_jumpTo_13 (fun H locs hP hD hS => ?_)
    have hP : va_P D vwCl [(m0, .inr (1, [.ref r0, .ref c0, .ref s0, .ref p0, .int pc, .int 3, .int (nI w)])), (p0, .inr (2, [.ref a0, .int (nI mo), .int (nI k)]))] H := hP
    have hD : va_D A [(m0, .inr (1, [.ref r0, .ref c0, .ref s0, .ref p0, .int pc, .int 3, .int (nI w)])), (p0, .inr (2, [.ref a0, .int (nI mo), .int (nI k)]))] := hD
    refine lv_iload_n hx hb dX1_jumpTo_16 rfl (lv_at hl 1 rfl) ?_
    obtain ⟨hP9, hD9⟩ := jk_end (w2 := [(m0, .inr (1, [.ref r0, .ref c0, .ref s0, .ref p0, .int pc, .int 3, .int (nI w)])), (p0, .inr (2, [.ref a0, .int (nI mo), .int (nI k)]))]) hP hD [0, 1] (by decide) rfl
    have e9 : ([(m0, .inr (1, [.ref r0, .ref c0, .ref s0, .ref p0, .int pc, .int 3, .int (nI w)])), (p0, .inr (2, [.ref a0, .int (nI mo), .int (nI k)]))] : va_W) = [(m0, .inr (1, [.ref r0, .ref c0, .ref s0, .ref p0, .int pc, .int (mvJ f k x st), .int (nI w)])), (p0, .inr (2, [.ref a0, .int (nI mo), .int (nI k)]))] := (by unfold mvJ; rw [if_neg c_8])
    rw [e9] at hP9 hD9
    exact W.iret (v := x) hx hb hr (fun t9 ht9 hW9 => ⟨⟨_, (), rfl, (show x = x from rfl), by rw [ht9]; exact hP9, hD9⟩, hS.F ht9⟩) hS.2.2 dX1_jumpTo_17
set_option maxHeartbeats 4000000 in
set_option maxRecDepth 100000 in
theorem c_X1_checkLabel (l : Launch) (D : va_G) (cA : ClassId) (sz : Nat) (m0 : Nat) (r0 : Nat) (c0 : Nat) (s0 : Nat) (p0 : Nat) (pc : Int32) (st : Int32) (w : Nat) (a0 : Nat) (mo : Nat) (k : Nat) (N : Nat) (f : Nat → Int32) (x : Int32) (y : Int32) (hk : k * 3 ≤ N) (hN3 : N ≤ 216) : Met l yX1_checkLabel wsX1_checkLabel ({ frames := 2, cells := 0, slots := 0, locals := 43 }) (rwP D cA [.ref m0, .int x, .int y] sz [(m0, .inr (1, [.ref r0, .ref c0, .ref s0, .ref p0, .int pc, .int st, .int (nI w)])), (p0, .inr (2, [.ref a0, .int (nI mo), .int (nI k)])), (a0, .inl (cA, N, .inl f))]) (rwV D (va_A [(m0, .inr (1, [.ref r0, .ref c0, .ref s0, .ref p0, .int pc, .int st, .int (nI w)])), (p0, .inr (2, [.ref a0, .int (nI mo), .int (nI k)])), (a0, .inl (cA, N, .inl f))] sz) [(m0, .inr (1, [.ref r0, .ref c0, .ref s0, .ref p0, .int pc, .int (mvG f k x y st), .int (nI w)])), (p0, .inr (2, [.ref a0, .int (nI mo), .int (nI k)])), (a0, .inl (cA, N, .inl f))]) 0 0 (va_A [(m0, .inr (1, [.ref r0, .ref c0, .ref s0, .ref p0, .int pc, .int st, .int (nI w)])), (p0, .inr (2, [.ref a0, .int (nI mo), .int (nI k)])), (a0, .inl (cA, N, .inl f))] sz) := by
  refine Met.ofW (cc := cX1_checkLabel) (maxL := 3) (ret := none) (by decide) rfl ?_
  intro p e s m args below meth c s₁ B hml hv
  obtain ⟨rfl, hsz, hP, hK, hN, hD0⟩ := hv
  have hx := B.exec
  have hb := B.bytes
  have hr := B.returns
  have hts := atoms_spec (ws := wsX1_checkLabel) B.pre
  have hown : s.vm.findClass RX1 = some m.cls := findClass_of_methodNamed B.named
  have hlocks := B.notSynchronized
  subst hsz
  have hD := hD0.self (sz := s.heap.size)
  generalize hAe : va_A [(m0, .inr (1, [.ref r0, .ref c0, .ref s0, .ref p0, .int pc, .int st, .int (nI w)])), (p0, .inr (2, [.ref a0, .int (nI mo), .int (nI k)])), (a0, .inl (cA, N, .inl f))] s.heap.size = A at hD ⊢
  have hA : ∀ q : Nat, s.heap.size ≤ q → A q := fun q h => by rw [← hAe]; exact Or.inr h
  have hS : va_S A s.heap s.heap [] := va_S.rf
  have hl := lv_entry ([.ref m0, .int x, .int y]) (n := 3) (Nat.le_of_ble_eq_true rfl)
  rw [lg_entry_eq]
  generalize (lg_sl ([.ref m0, .int x, .int y]) ++ List.replicate (3 - (lg_sl ([.ref m0, .int x, .int y])).length) Slot.unset).toArray = ls at hl ⊢
  have hl : lv_has ls 3 [(0, .ref m0), (1, .int x), (2, .int y)] := hl
  refine lv_aload_n hx hb dX1_checkLabel_0 rfl (lv_at hl 0 rfl) ?_
  refine va_get (D := D) (ci := 1) (v := .ref p0) (C := RX1) (T := TX1) (N := 7) hx hb hts iw_X1_checkLabel_X1 hown hK hP 0 rfl rfl 3 (by decide) (hts (.fieldLink RX1 26 "JumpGuard$Machine" "program" "LJumpGuard$Program;") (List.mem_of_getElem? (l := wsX1_checkLabel) (i := 1) rfl)) (fun _ h9 => h9) rfl dX1_checkLabel_1 ?_
  refine lv_iload_n hx hb dX1_checkLabel_4 rfl (lv_at hl 1 rfl) ?_
  refine lv_iconst (v := 0) hx hb dX1_checkLabel_5 (by decide) ?_
  refine jr_i (va_runV (As := [.int x, .int 0]) (rest := []) ⟨hx, hb, hml, hown, hts⟩ (c_X2_get l D cA p0 a0 mo k N f x 0 (by first | assumption | omega) (by first | assumption | omega)) (cwV 2 hts gX1_checkLabel_X2_get rfl rfl rfl hv_X2_get ⟨Nat.le_of_ble_eq_true rfl, Nat.le_of_ble_eq_true rfl⟩) (roP.V (va_recv hK hP (ci := 2) (q0 := 1) rfl rfl) (jP_sub (w2 := [(p0, .inr (2, [.ref a0, .int (nI mo), .int (nI k)])), (a0, .inl (cA, N, .inl f))]) hP [1, 2] rfl) hK hN) rfl rfl hl.1 rfl (lv_room (Nat.le_of_ble_eq_true rfl)) dX1_checkLabel_6 ⟨Nat.le_of_ble_eq_true rfl, Nat.le_of_ble_eq_true rfl⟩) ?_
  refine lv_bipush (v := 10) hx hb dX1_checkLabel_9 (by decide) ?_
  refine lv_icmp_ne (tgt := 27) hx hb dX1_checkLabel_11 (by decide) (fun c_11 => ?_) (fun c_11 => ?_)
  · refine lv_aload_n hx hb dX1_checkLabel_27 rfl (lv_at hl 0 rfl) ?_
    refine lv_iconst (v := 2) hx hb dX1_checkLabel_28 (by decide) ?_
    refine va_put (D := D) (ci := 1) (v := .int 2) (ty := .int) (C := RX1) (T := TX1) (N := 7) hx hb hts iw_X1_checkLabel_X1 tyX1 tyX1_ok nmX1 hown hK hP hD hS 0 rfl rfl 5 (by decide) (hts (.fieldLink RX1 30 "JumpGuard$Machine" "condition" "I") (List.mem_of_getElem? (l := wsX1_checkLabel) (i := 2) rfl)) (fun _ h9 => h9) rfl (by decide +kernel) rfl rfl (Nat.le_of_ble_eq_true rfl) dX1_checkLabel_29 (fun H locs hP hD hS => ?_)
    have hP : va_P D vwCl [(m0, .inr (1, [.ref r0, .ref c0, .ref s0, .ref p0, .int pc, .int 2, .int (nI w)])), (p0, .inr (2, [.ref a0, .int (nI mo), .int (nI k)])), (a0, .inl (cA, N, .inl f))] H := hP
    have hD : va_D A [(m0, .inr (1, [.ref r0, .ref c0, .ref s0, .ref p0, .int pc, .int 2, .int (nI w)])), (p0, .inr (2, [.ref a0, .int (nI mo), .int (nI k)])), (a0, .inl (cA, N, .inl f))] := hD
    obtain ⟨hP9, hD9⟩ := jk_end (w2 := [(m0, .inr (1, [.ref r0, .ref c0, .ref s0, .ref p0, .int pc, .int 2, .int (nI w)])), (p0, .inr (2, [.ref a0, .int (nI mo), .int (nI k)])), (a0, .inl (cA, N, .inl f))]) hP hD [0, 1, 2] (by decide) rfl
    have e9 : ([(m0, .inr (1, [.ref r0, .ref c0, .ref s0, .ref p0, .int pc, .int 2, .int (nI w)])), (p0, .inr (2, [.ref a0, .int (nI mo), .int (nI k)])), (a0, .inl (cA, N, .inl f))] : va_W) = [(m0, .inr (1, [.ref r0, .ref c0, .ref s0, .ref p0, .int pc, .int (mvG f k x y st), .int (nI w)])), (p0, .inr (2, [.ref a0, .int (nI mo), .int (nI k)])), (a0, .inl (cA, N, .inl f))] := (by unfold mvG; rw [if_neg (by first | exact fun h => c_11 h.1 | exact fun h => c_24 h.2)])
    rw [e9] at hP9 hD9
    exact W.vret hx hb hr (fun t9 ht9 hW9 => ⟨⟨(), rfl, trivial, by rw [ht9]; exact hP9, hD9⟩, hS.F ht9⟩) hS.2.2 dX1_checkLabel_32
  · refine lv_aload_n hx hb dX1_checkLabel_14 rfl (lv_at hl 0 rfl) ?_
    refine va_get (D := D) (ci := 1) (v := .ref p0) (C := RX1) (T := TX1) (N := 7) hx hb hts iw_X1_checkLabel_X1 hown hK hP 0 rfl rfl 3 (by decide) (hts (.fieldLink RX1 26 "JumpGuard$Machine" "program" "LJumpGuard$Program;") (List.mem_of_getElem? (l := wsX1_checkLabel) (i := 1) rfl)) (fun _ h9 => h9) rfl dX1_checkLabel_15 ?_
    refine lv_iload_n hx hb dX1_checkLabel_18 rfl (lv_at hl 1 rfl) ?_
    refine lv_iconst (v := 1) hx hb dX1_checkLabel_19 (by decide) ?_
    refine jr_i (va_runV (As := [.int x, .int 1]) (rest := []) ⟨hx, hb, hml, hown, hts⟩ (c_X2_get l D cA p0 a0 mo k N f x 1 (by first | assumption | omega) (by first | assumption | omega)) (cwV 2 hts gX1_checkLabel_X2_get rfl rfl rfl hv_X2_get ⟨Nat.le_of_ble_eq_true rfl, Nat.le_of_ble_eq_true rfl⟩) (roP.V (va_recv hK hP (ci := 2) (q0 := 1) rfl rfl) (jP_sub (w2 := [(p0, .inr (2, [.ref a0, .int (nI mo), .int (nI k)])), (a0, .inl (cA, N, .inl f))]) hP [1, 2] rfl) hK hN) rfl rfl hl.1 rfl (lv_room (Nat.le_of_ble_eq_true rfl)) dX1_checkLabel_20 ⟨Nat.le_of_ble_eq_true rfl, Nat.le_of_ble_eq_true rfl⟩) ?_
    refine lv_iload_n hx hb dX1_checkLabel_23 rfl (lv_at hl 2 rfl) ?_
    refine lv_icmp_eq (tgt := 32) hx hb dX1_checkLabel_24 (by decide) (fun c_24 => ?_) (fun c_24 => ?_)
    · obtain ⟨hP9, hD9⟩ := jk_end (w2 := [(m0, .inr (1, [.ref r0, .ref c0, .ref s0, .ref p0, .int pc, .int st, .int (nI w)])), (p0, .inr (2, [.ref a0, .int (nI mo), .int (nI k)])), (a0, .inl (cA, N, .inl f))]) hP hD [0, 1, 2] (by decide) rfl
      have e9 : ([(m0, .inr (1, [.ref r0, .ref c0, .ref s0, .ref p0, .int pc, .int st, .int (nI w)])), (p0, .inr (2, [.ref a0, .int (nI mo), .int (nI k)])), (a0, .inl (cA, N, .inl f))] : va_W) = [(m0, .inr (1, [.ref r0, .ref c0, .ref s0, .ref p0, .int pc, .int (mvG f k x y st), .int (nI w)])), (p0, .inr (2, [.ref a0, .int (nI mo), .int (nI k)])), (a0, .inl (cA, N, .inl f))] := (by unfold mvG; rw [if_pos ⟨c_11, c_24⟩])
      rw [e9] at hP9 hD9
      exact W.vret hx hb hr (fun t9 ht9 hW9 => ⟨⟨(), rfl, trivial, by rw [ht9]; exact hP9, hD9⟩, hS.F ht9⟩) hS.2.2 dX1_checkLabel_32
    · refine lv_aload_n hx hb dX1_checkLabel_27 rfl (lv_at hl 0 rfl) ?_
      refine lv_iconst (v := 2) hx hb dX1_checkLabel_28 (by decide) ?_
      refine va_put (D := D) (ci := 1) (v := .int 2) (ty := .int) (C := RX1) (T := TX1) (N := 7) hx hb hts iw_X1_checkLabel_X1 tyX1 tyX1_ok nmX1 hown hK hP hD hS 0 rfl rfl 5 (by decide) (hts (.fieldLink RX1 30 "JumpGuard$Machine" "condition" "I") (List.mem_of_getElem? (l := wsX1_checkLabel) (i := 2) rfl)) (fun _ h9 => h9) rfl (by decide +kernel) rfl rfl (Nat.le_of_ble_eq_true rfl) dX1_checkLabel_29 (fun H locs hP hD hS => ?_)
      have hP : va_P D vwCl [(m0, .inr (1, [.ref r0, .ref c0, .ref s0, .ref p0, .int pc, .int 2, .int (nI w)])), (p0, .inr (2, [.ref a0, .int (nI mo), .int (nI k)])), (a0, .inl (cA, N, .inl f))] H := hP
      have hD : va_D A [(m0, .inr (1, [.ref r0, .ref c0, .ref s0, .ref p0, .int pc, .int 2, .int (nI w)])), (p0, .inr (2, [.ref a0, .int (nI mo), .int (nI k)])), (a0, .inl (cA, N, .inl f))] := hD
      obtain ⟨hP9, hD9⟩ := jk_end (w2 := [(m0, .inr (1, [.ref r0, .ref c0, .ref s0, .ref p0, .int pc, .int 2, .int (nI w)])), (p0, .inr (2, [.ref a0, .int (nI mo), .int (nI k)])), (a0, .inl (cA, N, .inl f))]) hP hD [0, 1, 2] (by decide) rfl
      have e9 : ([(m0, .inr (1, [.ref r0, .ref c0, .ref s0, .ref p0, .int pc, .int 2, .int (nI w)])), (p0, .inr (2, [.ref a0, .int (nI mo), .int (nI k)])), (a0, .inl (cA, N, .inl f))] : va_W) = [(m0, .inr (1, [.ref r0, .ref c0, .ref s0, .ref p0, .int pc, .int (mvG f k x y st), .int (nI w)])), (p0, .inr (2, [.ref a0, .int (nI mo), .int (nI k)])), (a0, .inl (cA, N, .inl f))] := (by unfold mvG; rw [if_neg (by first | exact fun h => c_11 h.1 | exact fun h => c_24 h.2)])
      rw [e9] at hP9 hD9
      exact W.vret hx hb hr (fun t9 ht9 hW9 => ⟨⟨(), rfl, trivial, by rw [ht9]; exact hP9, hD9⟩, hS.F ht9⟩) hS.2.2 dX1_checkLabel_32
set_option maxHeartbeats 4000000 in
set_option maxRecDepth 100000 in
theorem c_X1_carryOut (l : Launch) (D : va_G) (cA : ClassId) (sz : Nat) (m0 : Nat) (r0 : Nat) (c0 : Nat) (s0 : Nat) (p0 : Nat) (pc : Int32) (st : Int32) (w : Nat) (a0 : Nat) (mo : Nat) (k : Nat) (N : Nat) (f : Nat → Int32) (R : Nat → Int32) (Cm : Nat → Int32) (Ls : Nat → Int32) (o : Nat) (a : Int32) (b : Int32) (ho : o < 12) (hk : k * 3 ≤ N) (hN3 : N ≤ 216) (hw : w < 1000000) : Met l yX1_carryOut wsX1_carryOut ({ frames := 3, cells := 0, slots := 0, locals := 65 }) (rwP D cA [.ref m0, .int (nI o), .int a, .int b] sz [(m0, .inr (1, [.ref r0, .ref c0, .ref s0, .ref p0, .int pc, .int st, .int (nI w)])), (r0, .inl (cA, 4, .inl R)), (c0, .inl (cA, 16, .inl Cm)), (s0, .inl (cA, 8, .inl Ls)), (p0, .inr (2, [.ref a0, .int (nI mo), .int (nI k)])), (a0, .inl (cA, N, .inl f))]) (rwI D (va_A [(m0, .inr (1, [.ref r0, .ref c0, .ref s0, .ref p0, .int pc, .int st, .int (nI w)])), (r0, .inl (cA, 4, .inl R)), (c0, .inl (cA, 16, .inl Cm)), (s0, .inl (cA, 8, .inl Ls)), (p0, .inr (2, [.ref a0, .int (nI mo), .int (nI k)])), (a0, .inl (cA, N, .inl f))] sz) (mvN o a b R pc) [(m0, .inr (1, [.ref r0, .ref c0, .ref s0, .ref p0, .int pc, .int (mvS o a b R f k st), .int (nI (mvW o w))])), (r0, .inl (cA, 4, .inl (mvR o a b R Cm))), (c0, .inl (cA, 16, .inl (mvC o a b R Cm))), (s0, .inl (cA, 8, .inl (mvL o a R Ls w))), (p0, .inr (2, [.ref a0, .int (nI mo), .int (nI k)])), (a0, .inl (cA, N, .inl f))]) 0 0 (va_A [(m0, .inr (1, [.ref r0, .ref c0, .ref s0, .ref p0, .int pc, .int st, .int (nI w)])), (r0, .inl (cA, 4, .inl R)), (c0, .inl (cA, 16, .inl Cm)), (s0, .inl (cA, 8, .inl Ls)), (p0, .inr (2, [.ref a0, .int (nI mo), .int (nI k)])), (a0, .inl (cA, N, .inl f))] sz) := by
  refine Met.ofW (cc := cX1_carryOut) (maxL := 5) (ret := (some .int)) (by decide) rfl ?_
  intro p e s m args below meth c s₁ B hml hv
  obtain ⟨rfl, hsz, hP, hK, hN, hD0⟩ := hv
  have hx := B.exec
  have hb := B.bytes
  have hr := B.returns
  have hts := atoms_spec (ws := wsX1_carryOut) B.pre
  have hown : s.vm.findClass RX1 = some m.cls := findClass_of_methodNamed B.named
  have hlocks := B.notSynchronized
  subst hsz
  have hD := hD0.self (sz := s.heap.size)
  generalize hAe : va_A [(m0, .inr (1, [.ref r0, .ref c0, .ref s0, .ref p0, .int pc, .int st, .int (nI w)])), (r0, .inl (cA, 4, .inl R)), (c0, .inl (cA, 16, .inl Cm)), (s0, .inl (cA, 8, .inl Ls)), (p0, .inr (2, [.ref a0, .int (nI mo), .int (nI k)])), (a0, .inl (cA, N, .inl f))] s.heap.size = A at hD ⊢
  have hA : ∀ q : Nat, s.heap.size ≤ q → A q := fun q h => by rw [← hAe]; exact Or.inr h
  have hS : va_S A s.heap s.heap [] := va_S.rf
  have hl := lv_entry ([.ref m0, .int (nI o), .int a, .int b]) (n := 5) (Nat.le_of_ble_eq_true rfl)
  rw [lg_entry_eq]
  generalize (lg_sl ([.ref m0, .int (nI o), .int a, .int b]) ++ List.replicate (5 - (lg_sl ([.ref m0, .int (nI o), .int a, .int b])).length) Slot.unset).toArray = ls at hl ⊢
  have hl : lv_has ls 5 [(0, .ref m0), (1, .int (nI o)), (2, .int a), (3, .int b)] := hl
  refine lv_aload_n hx hb dX1_carryOut_0 rfl (lv_at hl 0 rfl) ?_
  refine va_get (D := D) (ci := 1) (v := .int pc) (C := RX1) (T := TX1) (N := 7) hx hb hts iw_X1_carryOut_X1 hown hK hP 0 rfl rfl 4 (by decide) (hts (.fieldLink RX1 40 "JumpGuard$Machine" "counter" "I") (List.mem_of_getElem? (l := wsX1_carryOut) (i := 1) rfl)) (fun _ h9 => h9) rfl dX1_carryOut_1 ?_
  refine lv_iconst (v := 1) hx hb dX1_carryOut_4 (by decide) ?_
  refine lv_iadd hx hb dX1_carryOut_5 ?_
  refine lv_istore (lv' := [(4, .int (pc + 1)), (0, .ref m0), (1, .int (nI o)), (2, .int a), (3, .int b)]) hx hb dX1_carryOut_6 hl (by decide) rfl (fun ls hl => ?_)
  refine lv_iload_n hx hb dX1_carryOut_8 rfl (lv_at hl 2 rfl) ?_
  rcases (show o = 0 ∨ o = 1 ∨ o = 2 ∨ o = 3 ∨ o = 4 ∨ o = 5 ∨ o = 6 ∨ o = 7 ∨ o = 8 ∨ o = 9 ∨ o = 10 ∨ o = 11 by omega) with rfl | rfl | rfl | rfl | rfl | rfl | rfl | rfl | rfl | rfl | rfl | rfl
  · refine lv_tableIn (off := 63) (tgt := 72) hx hb dX1_carryOut_9 (by decide) (by decide) rfl (by decide) ?_
    refine lv_aload_n hx hb dX1_carryOut_72 rfl (lv_at hl 1 rfl) ?_
    refine lv_iconst (v := 1) hx hb dX1_carryOut_73 (by decide) ?_
    refine va_put (D := D) (ci := 1) (v := .int 1) (ty := .int) (C := RX1) (T := TX1) (N := 7) hx hb hts iw_X1_carryOut_X1 tyX1 tyX1_ok nmX1 hown hK hP hD hS 0 rfl rfl 5 (by decide) (hts (.fieldLink RX1 30 "JumpGuard$Machine" "condition" "I") (List.mem_of_getElem? (l := wsX1_carryOut) (i := 2) rfl)) (fun _ h9 => h9) rfl (by decide +kernel) rfl rfl (Nat.le_of_ble_eq_true rfl) dX1_carryOut_74 (fun H locs hP hD hS => ?_)
    have hP : va_P D vwCl [(m0, .inr (1, [.ref r0, .ref c0, .ref s0, .ref p0, .int pc, .int 1, .int (nI w)])), (r0, .inl (cA, 4, .inl R)), (c0, .inl (cA, 16, .inl Cm)), (s0, .inl (cA, 8, .inl Ls)), (p0, .inr (2, [.ref a0, .int (nI mo), .int (nI k)])), (a0, .inl (cA, N, .inl f))] H := hP
    have hD : va_D A [(m0, .inr (1, [.ref r0, .ref c0, .ref s0, .ref p0, .int pc, .int 1, .int (nI w)])), (r0, .inl (cA, 4, .inl R)), (c0, .inl (cA, 16, .inl Cm)), (s0, .inl (cA, 8, .inl Ls)), (p0, .inr (2, [.ref a0, .int (nI mo), .int (nI k)])), (a0, .inl (cA, N, .inl f))] := hD
    refine lv_iload hx hb dX1_carryOut_77 (lv_at hl 0 rfl) ?_
    obtain ⟨hP9, hD9⟩ := jk_end (w2 := [(m0, .inr (1, [.ref r0, .ref c0, .ref s0, .ref p0, .int pc, .int 1, .int (nI w)])), (r0, .inl (cA, 4, .inl R)), (c0, .inl (cA, 16, .inl Cm)), (s0, .inl (cA, 8, .inl Ls)), (p0, .inr (2, [.ref a0, .int (nI mo), .int (nI k)])), (a0, .inl (cA, N, .inl f))]) hP hD [0, 1, 2, 3, 4, 5] (by decide) rfl
    have e9 : ([(m0, .inr (1, [.ref r0, .ref c0, .ref s0, .ref p0, .int pc, .int 1, .int (nI w)])), (r0, .inl (cA, 4, .inl R)), (c0, .inl (cA, 16, .inl Cm)), (s0, .inl (cA, 8, .inl Ls)), (p0, .inr (2, [.ref a0, .int (nI mo), .int (nI k)])), (a0, .inl (cA, N, .inl f))] : va_W) = [(m0, .inr (1, [.ref r0, .ref c0, .ref s0, .ref p0, .int pc, .int (mvS 0 a b R f k st), .int (nI (mvW 0 w))])), (r0, .inl (cA, 4, .inl (mvR 0 a b R Cm))), (c0, .inl (cA, 16, .inl (mvC 0 a b R Cm))), (s0, .inl (cA, 8, .inl (mvL 0 a R Ls w))), (p0, .inr (2, [.ref a0, .int (nI mo), .int (nI k)])), (a0, .inl (cA, N, .inl f))] := rfl
    rw [e9] at hP9 hD9
    exact W.iret (v := (pc + 1)) hx hb hr (fun t9 ht9 hW9 => ⟨⟨_, (), rfl, (show (pc + 1) = (mvN 0 a b R pc) from rfl), by rw [ht9]; exact hP9, hD9⟩, hS.F ht9⟩) hS.2.2 dX1_carryOut_79
  · refine lv_tableIn (off := 71) (tgt := 80) hx hb dX1_carryOut_9 (by decide) (by decide) rfl (by decide) ?_
    refine lv_aload_n hx hb dX1_carryOut_80 rfl (lv_at hl 1 rfl) ?_
    refine lv_iload_n hx hb dX1_carryOut_81 rfl (lv_at hl 3 rfl) ?_
    refine lv_iload_n hx hb dX1_carryOut_82 rfl (lv_at hl 4 rfl) ?_
    refine jw_v (va_runV (As := [.int a, .int b]) (rest := []) ⟨hx, hb, hml, hown, hts⟩ (c_X1_setRegister l D cA s.heap.size m0 r0 c0 s0 p0 pc st w R a b) (cwV 2 hts gX1_carryOut_X1_setRegister rfl rfl rfl hv_X1_setRegister ⟨Nat.le_of_ble_eq_true rfl, Nat.le_of_ble_eq_true rfl⟩) (rwP.V (wc := [(m0, .inr (1, [.ref r0, .ref c0, .ref s0, .ref p0, .int pc, .int st, .int (nI w)])), (r0, .inl (cA, 4, .inl R))]) (va_recv hK hP (ci := 1) (q0 := 0) rfl rfl) hP hD hK hN [0, 1] (by decide) rfl) rfl rfl hl.1 rfl (lv_room (Nat.le_of_ble_eq_true rfl)) dX1_carryOut_83 ⟨Nat.le_of_ble_eq_true rfl, Nat.le_of_ble_eq_true rfl⟩) hP hD hS hA [0, 1] [2, 3, 4, 5] [4, 5, 0, 1, 2, 3] (wr := [(c0, .inl (cA, 16, .inl Cm)), (s0, .inl (cA, 8, .inl Ls)), (p0, .inr (2, [.ref a0, .int (nI mo), .int (nI k)])), (a0, .inl (cA, N, .inl f))]) (w2 := [(m0, .inr (1, [.ref r0, .ref c0, .ref s0, .ref p0, .int pc, .int st, .int (nI w)])), (r0, .inl (cA, 4, .inl (jPut R 4 a b))), (c0, .inl (cA, 16, .inl Cm)), (s0, .inl (cA, 8, .inl Ls)), (p0, .inr (2, [.ref a0, .int (nI mo), .int (nI k)])), (a0, .inl (cA, N, .inl f))]) rfl rfl (by decide) (by decide) (by decide) rfl (fun H locs hP hD hS => ?_)
    refine lv_iload hx hb dX1_carryOut_86 (lv_at hl 0 rfl) ?_
    obtain ⟨hP9, hD9⟩ := jk_end (w2 := [(m0, .inr (1, [.ref r0, .ref c0, .ref s0, .ref p0, .int pc, .int st, .int (nI w)])), (r0, .inl (cA, 4, .inl (jPut R 4 a b))), (c0, .inl (cA, 16, .inl Cm)), (s0, .inl (cA, 8, .inl Ls)), (p0, .inr (2, [.ref a0, .int (nI mo), .int (nI k)])), (a0, .inl (cA, N, .inl f))]) hP hD [0, 1, 2, 3, 4, 5] (by decide) rfl
    have e9 : ([(m0, .inr (1, [.ref r0, .ref c0, .ref s0, .ref p0, .int pc, .int st, .int (nI w)])), (r0, .inl (cA, 4, .inl (jPut R 4 a b))), (c0, .inl (cA, 16, .inl Cm)), (s0, .inl (cA, 8, .inl Ls)), (p0, .inr (2, [.ref a0, .int (nI mo), .int (nI k)])), (a0, .inl (cA, N, .inl f))] : va_W) = [(m0, .inr (1, [.ref r0, .ref c0, .ref s0, .ref p0, .int pc, .int (mvS 1 a b R f k st), .int (nI (mvW 1 w))])), (r0, .inl (cA, 4, .inl (mvR 1 a b R Cm))), (c0, .inl (cA, 16, .inl (mvC 1 a b R Cm))), (s0, .inl (cA, 8, .inl (mvL 1 a R Ls w))), (p0, .inr (2, [.ref a0, .int (nI mo), .int (nI k)])), (a0, .inl (cA, N, .inl f))] := rfl
    rw [e9] at hP9 hD9
    exact W.iret (v := (pc + 1)) hx hb hr (fun t9 ht9 hW9 => ⟨⟨_, (), rfl, (show (pc + 1) = (mvN 1 a b R pc) from rfl), by rw [ht9]; exact hP9, hD9⟩, hS.F ht9⟩) hS.2.2 dX1_carryOut_88
  · refine lv_tableIn (off := 80) (tgt := 89) hx hb dX1_carryOut_9 (by decide) (by decide) rfl (by decide) ?_
    refine lv_aload_n hx hb dX1_carryOut_89 rfl (lv_at hl 1 rfl) ?_
    refine lv_iload_n hx hb dX1_carryOut_90 rfl (lv_at hl 3 rfl) ?_
    refine lv_aload_n hx hb dX1_carryOut_91 rfl (lv_at hl 1 rfl) ?_
    refine lv_iload_n hx hb dX1_carryOut_92 rfl (lv_at hl 4 rfl) ?_
    refine jr_i (va_runV (As := [.int b]) (rest := [.int a, .ref m0]) ⟨hx, hb, hml, hown, hts⟩ (c_X1_cellValue l D cA m0 r0 c0 s0 p0 pc st w Cm b) (cwV 1 hts gX1_carryOut_X1_cellValue rfl rfl rfl hv_X1_cellValue ⟨Nat.le_of_ble_eq_true rfl, Nat.le_of_ble_eq_true rfl⟩) (roP.V (va_recv hK hP (ci := 1) (q0 := 0) rfl rfl) (jP_sub (w2 := [(m0, .inr (1, [.ref r0, .ref c0, .ref s0, .ref p0, .int pc, .int st, .int (nI w)])), (c0, .inl (cA, 16, .inl Cm))]) hP [0, 2] rfl) hK hN) rfl rfl hl.1 rfl (lv_room (Nat.le_of_ble_eq_true rfl)) dX1_carryOut_93 ⟨Nat.le_of_ble_eq_true rfl, Nat.le_of_ble_eq_true rfl⟩) ?_
    refine jw_v (va_runV (As := [.int a, .int (jAt Cm 16 b)]) (rest := []) ⟨hx, hb, hml, hown, hts⟩ (c_X1_setRegister l D cA s.heap.size m0 r0 c0 s0 p0 pc st w R a (jAt Cm 16 b)) (cwV 2 hts gX1_carryOut_X1_setRegister rfl rfl rfl hv_X1_setRegister ⟨Nat.le_of_ble_eq_true rfl, Nat.le_of_ble_eq_true rfl⟩) (rwP.V (wc := [(m0, .inr (1, [.ref r0, .ref c0, .ref s0, .ref p0, .int pc, .int st, .int (nI w)])), (r0, .inl (cA, 4, .inl R))]) (va_recv hK hP (ci := 1) (q0 := 0) rfl rfl) hP hD hK hN [0, 1] (by decide) rfl) rfl rfl hl.1 rfl (lv_room (Nat.le_of_ble_eq_true rfl)) dX1_carryOut_96 ⟨Nat.le_of_ble_eq_true rfl, Nat.le_of_ble_eq_true rfl⟩) hP hD hS hA [0, 1] [2, 3, 4, 5] [4, 5, 0, 1, 2, 3] (wr := [(c0, .inl (cA, 16, .inl Cm)), (s0, .inl (cA, 8, .inl Ls)), (p0, .inr (2, [.ref a0, .int (nI mo), .int (nI k)])), (a0, .inl (cA, N, .inl f))]) (w2 := [(m0, .inr (1, [.ref r0, .ref c0, .ref s0, .ref p0, .int pc, .int st, .int (nI w)])), (r0, .inl (cA, 4, .inl (jPut R 4 a (jAt Cm 16 b)))), (c0, .inl (cA, 16, .inl Cm)), (s0, .inl (cA, 8, .inl Ls)), (p0, .inr (2, [.ref a0, .int (nI mo), .int (nI k)])), (a0, .inl (cA, N, .inl f))]) rfl rfl (by decide) (by decide) (by decide) rfl (fun H locs hP hD hS => ?_)
    refine lv_iload hx hb dX1_carryOut_99 (lv_at hl 0 rfl) ?_
    obtain ⟨hP9, hD9⟩ := jk_end (w2 := [(m0, .inr (1, [.ref r0, .ref c0, .ref s0, .ref p0, .int pc, .int st, .int (nI w)])), (r0, .inl (cA, 4, .inl (jPut R 4 a (jAt Cm 16 b)))), (c0, .inl (cA, 16, .inl Cm)), (s0, .inl (cA, 8, .inl Ls)), (p0, .inr (2, [.ref a0, .int (nI mo), .int (nI k)])), (a0, .inl (cA, N, .inl f))]) hP hD [0, 1, 2, 3, 4, 5] (by decide) rfl
    have e9 : ([(m0, .inr (1, [.ref r0, .ref c0, .ref s0, .ref p0, .int pc, .int st, .int (nI w)])), (r0, .inl (cA, 4, .inl (jPut R 4 a (jAt Cm 16 b)))), (c0, .inl (cA, 16, .inl Cm)), (s0, .inl (cA, 8, .inl Ls)), (p0, .inr (2, [.ref a0, .int (nI mo), .int (nI k)])), (a0, .inl (cA, N, .inl f))] : va_W) = [(m0, .inr (1, [.ref r0, .ref c0, .ref s0, .ref p0, .int pc, .int (mvS 2 a b R f k st), .int (nI (mvW 2 w))])), (r0, .inl (cA, 4, .inl (mvR 2 a b R Cm))), (c0, .inl (cA, 16, .inl (mvC 2 a b R Cm))), (s0, .inl (cA, 8, .inl (mvL 2 a R Ls w))), (p0, .inr (2, [.ref a0, .int (nI mo), .int (nI k)])), (a0, .inl (cA, N, .inl f))] := rfl
    rw [e9] at hP9 hD9
    exact W.iret (v := (pc + 1)) hx hb hr (fun t9 ht9 hW9 => ⟨⟨_, (), rfl, (show (pc + 1) = (mvN 2 a b R pc) from rfl), by rw [ht9]; exact hP9, hD9⟩, hS.F ht9⟩) hS.2.2 dX1_carryOut_101
  · refine lv_tableIn (off := 93) (tgt := 102) hx hb dX1_carryOut_9 (by decide) (by decide) rfl (by decide) ?_
    refine lv_aload_n hx hb dX1_carryOut_102 rfl (lv_at hl 1 rfl) ?_
    refine lv_iload_n hx hb dX1_carryOut_103 rfl (lv_at hl 4 rfl) ?_
    refine lv_aload_n hx hb dX1_carryOut_104 rfl (lv_at hl 1 rfl) ?_
    refine lv_iload_n hx hb dX1_carryOut_105 rfl (lv_at hl 3 rfl) ?_
    refine jr_i (va_runV (As := [.int a]) (rest := [.int b, .ref m0]) ⟨hx, hb, hml, hown, hts⟩ (c_X1_registerValue l D cA m0 r0 c0 s0 p0 pc st w R a) (cwV 1 hts gX1_carryOut_X1_registerValue rfl rfl rfl hv_X1_registerValue ⟨Nat.le_of_ble_eq_true rfl, Nat.le_of_ble_eq_true rfl⟩) (roP.V (va_recv hK hP (ci := 1) (q0 := 0) rfl rfl) (jP_sub (w2 := [(m0, .inr (1, [.ref r0, .ref c0, .ref s0, .ref p0, .int pc, .int st, .int (nI w)])), (r0, .inl (cA, 4, .inl R))]) hP [0, 1] rfl) hK hN) rfl rfl hl.1 rfl (lv_room (Nat.le_of_ble_eq_true rfl)) dX1_carryOut_106 ⟨Nat.le_of_ble_eq_true rfl, Nat.le_of_ble_eq_true rfl⟩) ?_
    refine jw_v (va_runV (As := [.int b, .int (jAt R 4 a)]) (rest := []) ⟨hx, hb, hml, hown, hts⟩ (c_X1_setCell l D cA s.heap.size m0 r0 c0 s0 p0 pc st w Cm b (jAt R 4 a)) (cwV 2 hts gX1_carryOut_X1_setCell rfl rfl rfl hv_X1_setCell ⟨Nat.le_of_ble_eq_true rfl, Nat.le_of_ble_eq_true rfl⟩) (rwP.V (wc := [(m0, .inr (1, [.ref r0, .ref c0, .ref s0, .ref p0, .int pc, .int st, .int (nI w)])), (c0, .inl (cA, 16, .inl Cm))]) (va_recv hK hP (ci := 1) (q0 := 0) rfl rfl) hP hD hK hN [0, 2] (by decide) rfl) rfl rfl hl.1 rfl (lv_room (Nat.le_of_ble_eq_true rfl)) dX1_carryOut_109 ⟨Nat.le_of_ble_eq_true rfl, Nat.le_of_ble_eq_true rfl⟩) hP hD hS hA [0, 2] [1, 3, 4, 5] [4, 0, 5, 1, 2, 3] (wr := [(r0, .inl (cA, 4, .inl R)), (s0, .inl (cA, 8, .inl Ls)), (p0, .inr (2, [.ref a0, .int (nI mo), .int (nI k)])), (a0, .inl (cA, N, .inl f))]) (w2 := [(m0, .inr (1, [.ref r0, .ref c0, .ref s0, .ref p0, .int pc, .int st, .int (nI w)])), (r0, .inl (cA, 4, .inl R)), (c0, .inl (cA, 16, .inl (jPut Cm 16 b (jAt R 4 a)))), (s0, .inl (cA, 8, .inl Ls)), (p0, .inr (2, [.ref a0, .int (nI mo), .int (nI k)])), (a0, .inl (cA, N, .inl f))]) rfl rfl (by decide) (by decide) (by decide) rfl (fun H locs hP hD hS => ?_)
    refine lv_iload hx hb dX1_carryOut_112 (lv_at hl 0 rfl) ?_
    obtain ⟨hP9, hD9⟩ := jk_end (w2 := [(m0, .inr (1, [.ref r0, .ref c0, .ref s0, .ref p0, .int pc, .int st, .int (nI w)])), (r0, .inl (cA, 4, .inl R)), (c0, .inl (cA, 16, .inl (jPut Cm 16 b (jAt R 4 a)))), (s0, .inl (cA, 8, .inl Ls)), (p0, .inr (2, [.ref a0, .int (nI mo), .int (nI k)])), (a0, .inl (cA, N, .inl f))]) hP hD [0, 1, 2, 3, 4, 5] (by decide) rfl
    have e9 : ([(m0, .inr (1, [.ref r0, .ref c0, .ref s0, .ref p0, .int pc, .int st, .int (nI w)])), (r0, .inl (cA, 4, .inl R)), (c0, .inl (cA, 16, .inl (jPut Cm 16 b (jAt R 4 a)))), (s0, .inl (cA, 8, .inl Ls)), (p0, .inr (2, [.ref a0, .int (nI mo), .int (nI k)])), (a0, .inl (cA, N, .inl f))] : va_W) = [(m0, .inr (1, [.ref r0, .ref c0, .ref s0, .ref p0, .int pc, .int (mvS 3 a b R f k st), .int (nI (mvW 3 w))])), (r0, .inl (cA, 4, .inl (mvR 3 a b R Cm))), (c0, .inl (cA, 16, .inl (mvC 3 a b R Cm))), (s0, .inl (cA, 8, .inl (mvL 3 a R Ls w))), (p0, .inr (2, [.ref a0, .int (nI mo), .int (nI k)])), (a0, .inl (cA, N, .inl f))] := rfl
    rw [e9] at hP9 hD9
    exact W.iret (v := (pc + 1)) hx hb hr (fun t9 ht9 hW9 => ⟨⟨_, (), rfl, (show (pc + 1) = (mvN 3 a b R pc) from rfl), by rw [ht9]; exact hP9, hD9⟩, hS.F ht9⟩) hS.2.2 dX1_carryOut_114
  · refine lv_tableIn (off := 106) (tgt := 115) hx hb dX1_carryOut_9 (by decide) (by decide) rfl (by decide) ?_
    refine lv_aload_n hx hb dX1_carryOut_115 rfl (lv_at hl 1 rfl) ?_
    refine lv_iload_n hx hb dX1_carryOut_116 rfl (lv_at hl 3 rfl) ?_
    refine lv_aload_n hx hb dX1_carryOut_117 rfl (lv_at hl 1 rfl) ?_
    refine lv_iload_n hx hb dX1_carryOut_118 rfl (lv_at hl 3 rfl) ?_
    refine jr_i (va_runV (As := [.int a]) (rest := [.int a, .ref m0]) ⟨hx, hb, hml, hown, hts⟩ (c_X1_registerValue l D cA m0 r0 c0 s0 p0 pc st w R a) (cwV 1 hts gX1_carryOut_X1_registerValue rfl rfl rfl hv_X1_registerValue ⟨Nat.le_of_ble_eq_true rfl, Nat.le_of_ble_eq_true rfl⟩) (roP.V (va_recv hK hP (ci := 1) (q0 := 0) rfl rfl) (jP_sub (w2 := [(m0, .inr (1, [.ref r0, .ref c0, .ref s0, .ref p0, .int pc, .int st, .int (nI w)])), (r0, .inl (cA, 4, .inl R))]) hP [0, 1] rfl) hK hN) rfl rfl hl.1 rfl (lv_room (Nat.le_of_ble_eq_true rfl)) dX1_carryOut_119 ⟨Nat.le_of_ble_eq_true rfl, Nat.le_of_ble_eq_true rfl⟩) ?_
    refine lv_aload_n hx hb dX1_carryOut_122 rfl (lv_at hl 1 rfl) ?_
    refine lv_iload_n hx hb dX1_carryOut_123 rfl (lv_at hl 4 rfl) ?_
    refine jr_i (va_runV (As := [.int b]) (rest := [.int (jAt R 4 a), .int a, .ref m0]) ⟨hx, hb, hml, hown, hts⟩ (c_X1_registerValue l D cA m0 r0 c0 s0 p0 pc st w R b) (cwV 1 hts gX1_carryOut_X1_registerValue rfl rfl rfl hv_X1_registerValue ⟨Nat.le_of_ble_eq_true rfl, Nat.le_of_ble_eq_true rfl⟩) (roP.V (va_recv hK hP (ci := 1) (q0 := 0) rfl rfl) (jP_sub (w2 := [(m0, .inr (1, [.ref r0, .ref c0, .ref s0, .ref p0, .int pc, .int st, .int (nI w)])), (r0, .inl (cA, 4, .inl R))]) hP [0, 1] rfl) hK hN) rfl rfl hl.1 rfl (lv_room (Nat.le_of_ble_eq_true rfl)) dX1_carryOut_124 ⟨Nat.le_of_ble_eq_true rfl, Nat.le_of_ble_eq_true rfl⟩) ?_
    refine lv_iadd hx hb dX1_carryOut_127 ?_
    refine jw_v (va_runV (As := [.int a, .int ((jAt R 4 a) + (jAt R 4 b))]) (rest := []) ⟨hx, hb, hml, hown, hts⟩ (c_X1_setRegister l D cA s.heap.size m0 r0 c0 s0 p0 pc st w R a ((jAt R 4 a) + (jAt R 4 b))) (cwV 2 hts gX1_carryOut_X1_setRegister rfl rfl rfl hv_X1_setRegister ⟨Nat.le_of_ble_eq_true rfl, Nat.le_of_ble_eq_true rfl⟩) (rwP.V (wc := [(m0, .inr (1, [.ref r0, .ref c0, .ref s0, .ref p0, .int pc, .int st, .int (nI w)])), (r0, .inl (cA, 4, .inl R))]) (va_recv hK hP (ci := 1) (q0 := 0) rfl rfl) hP hD hK hN [0, 1] (by decide) rfl) rfl rfl hl.1 rfl (lv_room (Nat.le_of_ble_eq_true rfl)) dX1_carryOut_128 ⟨Nat.le_of_ble_eq_true rfl, Nat.le_of_ble_eq_true rfl⟩) hP hD hS hA [0, 1] [2, 3, 4, 5] [4, 5, 0, 1, 2, 3] (wr := [(c0, .inl (cA, 16, .inl Cm)), (s0, .inl (cA, 8, .inl Ls)), (p0, .inr (2, [.ref a0, .int (nI mo), .int (nI k)])), (a0, .inl (cA, N, .inl f))]) (w2 := [(m0, .inr (1, [.ref r0, .ref c0, .ref s0, .ref p0, .int pc, .int st, .int (nI w)])), (r0, .inl (cA, 4, .inl (jPut R 4 a ((jAt R 4 a) + (jAt R 4 b))))), (c0, .inl (cA, 16, .inl Cm)), (s0, .inl (cA, 8, .inl Ls)), (p0, .inr (2, [.ref a0, .int (nI mo), .int (nI k)])), (a0, .inl (cA, N, .inl f))]) rfl rfl (by decide) (by decide) (by decide) rfl (fun H locs hP hD hS => ?_)
    refine lv_iload hx hb dX1_carryOut_131 (lv_at hl 0 rfl) ?_
    obtain ⟨hP9, hD9⟩ := jk_end (w2 := [(m0, .inr (1, [.ref r0, .ref c0, .ref s0, .ref p0, .int pc, .int st, .int (nI w)])), (r0, .inl (cA, 4, .inl (jPut R 4 a ((jAt R 4 a) + (jAt R 4 b))))), (c0, .inl (cA, 16, .inl Cm)), (s0, .inl (cA, 8, .inl Ls)), (p0, .inr (2, [.ref a0, .int (nI mo), .int (nI k)])), (a0, .inl (cA, N, .inl f))]) hP hD [0, 1, 2, 3, 4, 5] (by decide) rfl
    have e9 : ([(m0, .inr (1, [.ref r0, .ref c0, .ref s0, .ref p0, .int pc, .int st, .int (nI w)])), (r0, .inl (cA, 4, .inl (jPut R 4 a ((jAt R 4 a) + (jAt R 4 b))))), (c0, .inl (cA, 16, .inl Cm)), (s0, .inl (cA, 8, .inl Ls)), (p0, .inr (2, [.ref a0, .int (nI mo), .int (nI k)])), (a0, .inl (cA, N, .inl f))] : va_W) = [(m0, .inr (1, [.ref r0, .ref c0, .ref s0, .ref p0, .int pc, .int (mvS 4 a b R f k st), .int (nI (mvW 4 w))])), (r0, .inl (cA, 4, .inl (mvR 4 a b R Cm))), (c0, .inl (cA, 16, .inl (mvC 4 a b R Cm))), (s0, .inl (cA, 8, .inl (mvL 4 a R Ls w))), (p0, .inr (2, [.ref a0, .int (nI mo), .int (nI k)])), (a0, .inl (cA, N, .inl f))] := rfl
    rw [e9] at hP9 hD9
    exact W.iret (v := (pc + 1)) hx hb hr (fun t9 ht9 hW9 => ⟨⟨_, (), rfl, (show (pc + 1) = (mvN 4 a b R pc) from rfl), by rw [ht9]; exact hP9, hD9⟩, hS.F ht9⟩) hS.2.2 dX1_carryOut_133
  · refine lv_tableIn (off := 125) (tgt := 134) hx hb dX1_carryOut_9 (by decide) (by decide) rfl (by decide) ?_
    refine lv_aload_n hx hb dX1_carryOut_134 rfl (lv_at hl 1 rfl) ?_
    refine lv_aload_n hx hb dX1_carryOut_135 rfl (lv_at hl 1 rfl) ?_
    refine lv_iload_n hx hb dX1_carryOut_136 rfl (lv_at hl 3 rfl) ?_
    refine jr_i (va_runV (As := [.int a]) (rest := [.ref m0]) ⟨hx, hb, hml, hown, hts⟩ (c_X1_registerValue l D cA m0 r0 c0 s0 p0 pc st w R a) (cwV 1 hts gX1_carryOut_X1_registerValue rfl rfl rfl hv_X1_registerValue ⟨Nat.le_of_ble_eq_true rfl, Nat.le_of_ble_eq_true rfl⟩) (roP.V (va_recv hK hP (ci := 1) (q0 := 0) rfl rfl) (jP_sub (w2 := [(m0, .inr (1, [.ref r0, .ref c0, .ref s0, .ref p0, .int pc, .int st, .int (nI w)])), (r0, .inl (cA, 4, .inl R))]) hP [0, 1] rfl) hK hN) rfl rfl hl.1 rfl (lv_room (Nat.le_of_ble_eq_true rfl)) dX1_carryOut_137 ⟨Nat.le_of_ble_eq_true rfl, Nat.le_of_ble_eq_true rfl⟩) ?_
    refine jw_v (va_runV (As := [.int (jAt R 4 a)]) (rest := []) ⟨hx, hb, hml, hown, hts⟩ (c_X1_keepShown l D cA s.heap.size m0 r0 c0 s0 p0 pc st w Ls (jAt R 4 a) (by first | assumption | omega)) (cwV 1 hts gX1_carryOut_X1_keepShown rfl rfl rfl hv_X1_keepShown ⟨Nat.le_of_ble_eq_true rfl, Nat.le_of_ble_eq_true rfl⟩) (rwP.V (wc := [(m0, .inr (1, [.ref r0, .ref c0, .ref s0, .ref p0, .int pc, .int st, .int (nI w)])), (s0, .inl (cA, 8, .inl Ls))]) (va_recv hK hP (ci := 1) (q0 := 0) rfl rfl) hP hD hK hN [0, 3] (by decide) rfl) rfl rfl hl.1 rfl (lv_room (Nat.le_of_ble_eq_true rfl)) dX1_carryOut_140 ⟨Nat.le_of_ble_eq_true rfl, Nat.le_of_ble_eq_true rfl⟩) hP hD hS hA [0, 3] [1, 2, 4, 5] [4, 0, 1, 5, 2, 3] (wr := [(r0, .inl (cA, 4, .inl R)), (c0, .inl (cA, 16, .inl Cm)), (p0, .inr (2, [.ref a0, .int (nI mo), .int (nI k)])), (a0, .inl (cA, N, .inl f))]) (w2 := [(m0, .inr (1, [.ref r0, .ref c0, .ref s0, .ref p0, .int pc, .int st, .int (nI (w + 1))])), (r0, .inl (cA, 4, .inl R)), (c0, .inl (cA, 16, .inl Cm)), (s0, .inl (cA, 8, .inl (upd Ls (w % 8) (jAt R 4 a)))), (p0, .inr (2, [.ref a0, .int (nI mo), .int (nI k)])), (a0, .inl (cA, N, .inl f))]) rfl rfl (by decide) (by decide) (by decide) rfl (fun H locs hP hD hS => ?_)
    refine lv_iload hx hb dX1_carryOut_143 (lv_at hl 0 rfl) ?_
    obtain ⟨hP9, hD9⟩ := jk_end (w2 := [(m0, .inr (1, [.ref r0, .ref c0, .ref s0, .ref p0, .int pc, .int st, .int (nI (w + 1))])), (r0, .inl (cA, 4, .inl R)), (c0, .inl (cA, 16, .inl Cm)), (s0, .inl (cA, 8, .inl (upd Ls (w % 8) (jAt R 4 a)))), (p0, .inr (2, [.ref a0, .int (nI mo), .int (nI k)])), (a0, .inl (cA, N, .inl f))]) hP hD [0, 1, 2, 3, 4, 5] (by decide) rfl
    have e9 : ([(m0, .inr (1, [.ref r0, .ref c0, .ref s0, .ref p0, .int pc, .int st, .int (nI (w + 1))])), (r0, .inl (cA, 4, .inl R)), (c0, .inl (cA, 16, .inl Cm)), (s0, .inl (cA, 8, .inl (upd Ls (w % 8) (jAt R 4 a)))), (p0, .inr (2, [.ref a0, .int (nI mo), .int (nI k)])), (a0, .inl (cA, N, .inl f))] : va_W) = [(m0, .inr (1, [.ref r0, .ref c0, .ref s0, .ref p0, .int pc, .int (mvS 5 a b R f k st), .int (nI (mvW 5 w))])), (r0, .inl (cA, 4, .inl (mvR 5 a b R Cm))), (c0, .inl (cA, 16, .inl (mvC 5 a b R Cm))), (s0, .inl (cA, 8, .inl (mvL 5 a R Ls w))), (p0, .inr (2, [.ref a0, .int (nI mo), .int (nI k)])), (a0, .inl (cA, N, .inl f))] := rfl
    rw [e9] at hP9 hD9
    exact W.iret (v := (pc + 1)) hx hb hr (fun t9 ht9 hW9 => ⟨⟨_, (), rfl, (show (pc + 1) = (mvN 5 a b R pc) from rfl), by rw [ht9]; exact hP9, hD9⟩, hS.F ht9⟩) hS.2.2 dX1_carryOut_145
  · refine lv_tableIn (off := 137) (tgt := 146) hx hb dX1_carryOut_9 (by decide) (by decide) rfl (by decide) ?_
    refine lv_iload_n hx hb dX1_carryOut_146 rfl (lv_at hl 3 rfl) ?_
    obtain ⟨hP9, hD9⟩ := jk_end (w2 := [(m0, .inr (1, [.ref r0, .ref c0, .ref s0, .ref p0, .int pc, .int st, .int (nI w)])), (r0, .inl (cA, 4, .inl R)), (c0, .inl (cA, 16, .inl Cm)), (s0, .inl (cA, 8, .inl Ls)), (p0, .inr (2, [.ref a0, .int (nI mo), .int (nI k)])), (a0, .inl (cA, N, .inl f))]) hP hD [0, 1, 2, 3, 4, 5] (by decide) rfl
    have e9 : ([(m0, .inr (1, [.ref r0, .ref c0, .ref s0, .ref p0, .int pc, .int st, .int (nI w)])), (r0, .inl (cA, 4, .inl R)), (c0, .inl (cA, 16, .inl Cm)), (s0, .inl (cA, 8, .inl Ls)), (p0, .inr (2, [.ref a0, .int (nI mo), .int (nI k)])), (a0, .inl (cA, N, .inl f))] : va_W) = [(m0, .inr (1, [.ref r0, .ref c0, .ref s0, .ref p0, .int pc, .int (mvS 6 a b R f k st), .int (nI (mvW 6 w))])), (r0, .inl (cA, 4, .inl (mvR 6 a b R Cm))), (c0, .inl (cA, 16, .inl (mvC 6 a b R Cm))), (s0, .inl (cA, 8, .inl (mvL 6 a R Ls w))), (p0, .inr (2, [.ref a0, .int (nI mo), .int (nI k)])), (a0, .inl (cA, N, .inl f))] := rfl
    rw [e9] at hP9 hD9
    exact W.iret (v := a) hx hb hr (fun t9 ht9 hW9 => ⟨⟨_, (), rfl, (show a = (mvN 6 a b R pc) from rfl), by rw [ht9]; exact hP9, hD9⟩, hS.F ht9⟩) hS.2.2 dX1_carryOut_147
  · refine lv_tableIn (off := 139) (tgt := 148) hx hb dX1_carryOut_9 (by decide) (by decide) rfl (by decide) ?_
    refine lv_aload_n hx hb dX1_carryOut_148 rfl (lv_at hl 1 rfl) ?_
    refine lv_iload_n hx hb dX1_carryOut_149 rfl (lv_at hl 3 rfl) ?_
    refine jr_i (va_runV (As := [.int a]) (rest := []) ⟨hx, hb, hml, hown, hts⟩ (c_X1_registerValue l D cA m0 r0 c0 s0 p0 pc st w R a) (cwV 1 hts gX1_carryOut_X1_registerValue rfl rfl rfl hv_X1_registerValue ⟨Nat.le_of_ble_eq_true rfl, Nat.le_of_ble_eq_true rfl⟩) (roP.V (va_recv hK hP (ci := 1) (q0 := 0) rfl rfl) (jP_sub (w2 := [(m0, .inr (1, [.ref r0, .ref c0, .ref s0, .ref p0, .int pc, .int st, .int (nI w)])), (r0, .inl (cA, 4, .inl R))]) hP [0, 1] rfl) hK hN) rfl rfl hl.1 rfl (lv_room (Nat.le_of_ble_eq_true rfl)) dX1_carryOut_150 ⟨Nat.le_of_ble_eq_true rfl, Nat.le_of_ble_eq_true rfl⟩) ?_
    refine lv_if_ne (tgt := 160) hx hb dX1_carryOut_153 (by decide) (fun c_153 => ?_) (fun c_153 => ?_)
    · refine lv_iload hx hb dX1_carryOut_160 (lv_at hl 0 rfl) ?_
      obtain ⟨hP9, hD9⟩ := jk_end (w2 := [(m0, .inr (1, [.ref r0, .ref c0, .ref s0, .ref p0, .int pc, .int st, .int (nI w)])), (r0, .inl (cA, 4, .inl R)), (c0, .inl (cA, 16, .inl Cm)), (s0, .inl (cA, 8, .inl Ls)), (p0, .inr (2, [.ref a0, .int (nI mo), .int (nI k)])), (a0, .inl (cA, N, .inl f))]) hP hD [0, 1, 2, 3, 4, 5] (by decide) rfl
      have e9 : ([(m0, .inr (1, [.ref r0, .ref c0, .ref s0, .ref p0, .int pc, .int st, .int (nI w)])), (r0, .inl (cA, 4, .inl R)), (c0, .inl (cA, 16, .inl Cm)), (s0, .inl (cA, 8, .inl Ls)), (p0, .inr (2, [.ref a0, .int (nI mo), .int (nI k)])), (a0, .inl (cA, N, .inl f))] : va_W) = [(m0, .inr (1, [.ref r0, .ref c0, .ref s0, .ref p0, .int pc, .int (mvS 7 a b R f k st), .int (nI (mvW 7 w))])), (r0, .inl (cA, 4, .inl (mvR 7 a b R Cm))), (c0, .inl (cA, 16, .inl (mvC 7 a b R Cm))), (s0, .inl (cA, 8, .inl (mvL 7 a R Ls w))), (p0, .inr (2, [.ref a0, .int (nI mo), .int (nI k)])), (a0, .inl (cA, N, .inl f))] := rfl
      rw [e9] at hP9 hD9
      exact W.iret (v := (pc + 1)) hx hb hr (fun t9 ht9 hW9 => ⟨⟨_, (), rfl, (show (pc + 1) = (mvN 7 a b R pc) from (by show _ = (if jAt R 4 a = 0 then b else (pc + 1)); rw [if_neg c_153])), by rw [ht9]; exact hP9, hD9⟩, hS.F ht9⟩) hS.2.2 dX1_carryOut_162
    · refine lv_iload_n hx hb dX1_carryOut_156 rfl (lv_at hl 4 rfl) ?_
      refine lv_goto (tgt := 162) hx hb dX1_carryOut_157 (by decide) ?_
      obtain ⟨hP9, hD9⟩ := jk_end (w2 := [(m0, .inr (1, [.ref r0, .ref c0, .ref s0, .ref p0, .int pc, .int st, .int (nI w)])), (r0, .inl (cA, 4, .inl R)), (c0, .inl (cA, 16, .inl Cm)), (s0, .inl (cA, 8, .inl Ls)), (p0, .inr (2, [.ref a0, .int (nI mo), .int (nI k)])), (a0, .inl (cA, N, .inl f))]) hP hD [0, 1, 2, 3, 4, 5] (by decide) rfl
      have e9 : ([(m0, .inr (1, [.ref r0, .ref c0, .ref s0, .ref p0, .int pc, .int st, .int (nI w)])), (r0, .inl (cA, 4, .inl R)), (c0, .inl (cA, 16, .inl Cm)), (s0, .inl (cA, 8, .inl Ls)), (p0, .inr (2, [.ref a0, .int (nI mo), .int (nI k)])), (a0, .inl (cA, N, .inl f))] : va_W) = [(m0, .inr (1, [.ref r0, .ref c0, .ref s0, .ref p0, .int pc, .int (mvS 7 a b R f k st), .int (nI (mvW 7 w))])), (r0, .inl (cA, 4, .inl (mvR 7 a b R Cm))), (c0, .inl (cA, 16, .inl (mvC 7 a b R Cm))), (s0, .inl (cA, 8, .inl (mvL 7 a R Ls w))), (p0, .inr (2, [.ref a0, .int (nI mo), .int (nI k)])), (a0, .inl (cA, N, .inl f))] := rfl
      rw [e9] at hP9 hD9
      exact W.iret (v := b) hx hb hr (fun t9 ht9 hW9 => ⟨⟨_, (), rfl, (show b = (mvN 7 a b R pc) from (by show _ = (if jAt R 4 a = 0 then b else (pc + 1)); rw [if_pos c_153])), by rw [ht9]; exact hP9, hD9⟩, hS.F ht9⟩) hS.2.2 dX1_carryOut_162
  · refine lv_tableIn (off := 154) (tgt := 163) hx hb dX1_carryOut_9 (by decide) (by decide) rfl (by decide) ?_
    refine lv_aload_n hx hb dX1_carryOut_163 rfl (lv_at hl 1 rfl) ?_
    refine lv_aload_n hx hb dX1_carryOut_164 rfl (lv_at hl 1 rfl) ?_
    refine lv_iload_n hx hb dX1_carryOut_165 rfl (lv_at hl 3 rfl) ?_
    refine jr_i (va_runV (As := [.int a]) (rest := [.ref m0]) ⟨hx, hb, hml, hown, hts⟩ (c_X1_registerValue l D cA m0 r0 c0 s0 p0 pc st w R a) (cwV 1 hts gX1_carryOut_X1_registerValue rfl rfl rfl hv_X1_registerValue ⟨Nat.le_of_ble_eq_true rfl, Nat.le_of_ble_eq_true rfl⟩) (roP.V (va_recv hK hP (ci := 1) (q0 := 0) rfl rfl) (jP_sub (w2 := [(m0, .inr (1, [.ref r0, .ref c0, .ref s0, .ref p0, .int pc, .int st, .int (nI w)])), (r0, .inl (cA, 4, .inl R))]) hP [0, 1] rfl) hK hN) rfl rfl hl.1 rfl (lv_room (Nat.le_of_ble_eq_true rfl)) dX1_carryOut_166 ⟨Nat.le_of_ble_eq_true rfl, Nat.le_of_ble_eq_true rfl⟩) ?_
    refine jw_i (va_runV (As := [.int (jAt R 4 a)]) (rest := []) ⟨hx, hb, hml, hown, hts⟩ (c_X1_jumpTo l D cA s.heap.size m0 r0 c0 s0 p0 pc st w a0 mo k f (jAt R 4 a)) (cwV 1 hts gX1_carryOut_X1_jumpTo rfl rfl rfl hv_X1_jumpTo ⟨Nat.le_of_ble_eq_true rfl, Nat.le_of_ble_eq_true rfl⟩) (rwP.V (wc := [(m0, .inr (1, [.ref r0, .ref c0, .ref s0, .ref p0, .int pc, .int st, .int (nI w)])), (p0, .inr (2, [.ref a0, .int (nI mo), .int (nI k)]))]) (va_recv hK hP (ci := 1) (q0 := 0) rfl rfl) hP hD hK hN [0, 4] (by decide) rfl) rfl rfl hl.1 rfl (lv_room (Nat.le_of_ble_eq_true rfl)) dX1_carryOut_169 ⟨Nat.le_of_ble_eq_true rfl, Nat.le_of_ble_eq_true rfl⟩) hP hD hS hA [0, 4] [1, 2, 3, 5] [4, 0, 1, 2, 5, 3] (wr := [(r0, .inl (cA, 4, .inl R)), (c0, .inl (cA, 16, .inl Cm)), (s0, .inl (cA, 8, .inl Ls)), (a0, .inl (cA, N, .inl f))]) (w2 := [(m0, .inr (1, [.ref r0, .ref c0, .ref s0, .ref p0, .int pc, .int (mvJ f k (jAt R 4 a) st), .int (nI w)])), (r0, .inl (cA, 4, .inl R)), (c0, .inl (cA, 16, .inl Cm)), (s0, .inl (cA, 8, .inl Ls)), (p0, .inr (2, [.ref a0, .int (nI mo), .int (nI k)])), (a0, .inl (cA, N, .inl f))]) rfl rfl (by decide) (by decide) (by decide) rfl (fun H locs hP hD hS => ?_)
    obtain ⟨hP9, hD9⟩ := jk_end (w2 := [(m0, .inr (1, [.ref r0, .ref c0, .ref s0, .ref p0, .int pc, .int (mvJ f k (jAt R 4 a) st), .int (nI w)])), (r0, .inl (cA, 4, .inl R)), (c0, .inl (cA, 16, .inl Cm)), (s0, .inl (cA, 8, .inl Ls)), (p0, .inr (2, [.ref a0, .int (nI mo), .int (nI k)])), (a0, .inl (cA, N, .inl f))]) hP hD [0, 1, 2, 3, 4, 5] (by decide) rfl
    have e9 : ([(m0, .inr (1, [.ref r0, .ref c0, .ref s0, .ref p0, .int pc, .int (mvJ f k (jAt R 4 a) st), .int (nI w)])), (r0, .inl (cA, 4, .inl R)), (c0, .inl (cA, 16, .inl Cm)), (s0, .inl (cA, 8, .inl Ls)), (p0, .inr (2, [.ref a0, .int (nI mo), .int (nI k)])), (a0, .inl (cA, N, .inl f))] : va_W) = [(m0, .inr (1, [.ref r0, .ref c0, .ref s0, .ref p0, .int pc, .int (mvS 8 a b R f k st), .int (nI (mvW 8 w))])), (r0, .inl (cA, 4, .inl (mvR 8 a b R Cm))), (c0, .inl (cA, 16, .inl (mvC 8 a b R Cm))), (s0, .inl (cA, 8, .inl (mvL 8 a R Ls w))), (p0, .inr (2, [.ref a0, .int (nI mo), .int (nI k)])), (a0, .inl (cA, N, .inl f))] := rfl
    rw [e9] at hP9 hD9
    exact W.iret (v := (jAt R 4 a)) hx hb hr (fun t9 ht9 hW9 => ⟨⟨_, (), rfl, (show (jAt R 4 a) = (mvN 8 a b R pc) from rfl), by rw [ht9]; exact hP9, hD9⟩, hS.F ht9⟩) hS.2.2 dX1_carryOut_172
  · refine lv_tableIn (off := 71) (tgt := 80) hx hb dX1_carryOut_9 (by decide) (by decide) rfl (by decide) ?_
    refine lv_aload_n hx hb dX1_carryOut_80 rfl (lv_at hl 1 rfl) ?_
    refine lv_iload_n hx hb dX1_carryOut_81 rfl (lv_at hl 3 rfl) ?_
    refine lv_iload_n hx hb dX1_carryOut_82 rfl (lv_at hl 4 rfl) ?_
    refine jw_v (va_runV (As := [.int a, .int b]) (rest := []) ⟨hx, hb, hml, hown, hts⟩ (c_X1_setRegister l D cA s.heap.size m0 r0 c0 s0 p0 pc st w R a b) (cwV 2 hts gX1_carryOut_X1_setRegister rfl rfl rfl hv_X1_setRegister ⟨Nat.le_of_ble_eq_true rfl, Nat.le_of_ble_eq_true rfl⟩) (rwP.V (wc := [(m0, .inr (1, [.ref r0, .ref c0, .ref s0, .ref p0, .int pc, .int st, .int (nI w)])), (r0, .inl (cA, 4, .inl R))]) (va_recv hK hP (ci := 1) (q0 := 0) rfl rfl) hP hD hK hN [0, 1] (by decide) rfl) rfl rfl hl.1 rfl (lv_room (Nat.le_of_ble_eq_true rfl)) dX1_carryOut_83 ⟨Nat.le_of_ble_eq_true rfl, Nat.le_of_ble_eq_true rfl⟩) hP hD hS hA [0, 1] [2, 3, 4, 5] [4, 5, 0, 1, 2, 3] (wr := [(c0, .inl (cA, 16, .inl Cm)), (s0, .inl (cA, 8, .inl Ls)), (p0, .inr (2, [.ref a0, .int (nI mo), .int (nI k)])), (a0, .inl (cA, N, .inl f))]) (w2 := [(m0, .inr (1, [.ref r0, .ref c0, .ref s0, .ref p0, .int pc, .int st, .int (nI w)])), (r0, .inl (cA, 4, .inl (jPut R 4 a b))), (c0, .inl (cA, 16, .inl Cm)), (s0, .inl (cA, 8, .inl Ls)), (p0, .inr (2, [.ref a0, .int (nI mo), .int (nI k)])), (a0, .inl (cA, N, .inl f))]) rfl rfl (by decide) (by decide) (by decide) rfl (fun H locs hP hD hS => ?_)
    refine lv_iload hx hb dX1_carryOut_86 (lv_at hl 0 rfl) ?_
    obtain ⟨hP9, hD9⟩ := jk_end (w2 := [(m0, .inr (1, [.ref r0, .ref c0, .ref s0, .ref p0, .int pc, .int st, .int (nI w)])), (r0, .inl (cA, 4, .inl (jPut R 4 a b))), (c0, .inl (cA, 16, .inl Cm)), (s0, .inl (cA, 8, .inl Ls)), (p0, .inr (2, [.ref a0, .int (nI mo), .int (nI k)])), (a0, .inl (cA, N, .inl f))]) hP hD [0, 1, 2, 3, 4, 5] (by decide) rfl
    have e9 : ([(m0, .inr (1, [.ref r0, .ref c0, .ref s0, .ref p0, .int pc, .int st, .int (nI w)])), (r0, .inl (cA, 4, .inl (jPut R 4 a b))), (c0, .inl (cA, 16, .inl Cm)), (s0, .inl (cA, 8, .inl Ls)), (p0, .inr (2, [.ref a0, .int (nI mo), .int (nI k)])), (a0, .inl (cA, N, .inl f))] : va_W) = [(m0, .inr (1, [.ref r0, .ref c0, .ref s0, .ref p0, .int pc, .int (mvS 9 a b R f k st), .int (nI (mvW 9 w))])), (r0, .inl (cA, 4, .inl (mvR 9 a b R Cm))), (c0, .inl (cA, 16, .inl (mvC 9 a b R Cm))), (s0, .inl (cA, 8, .inl (mvL 9 a R Ls w))), (p0, .inr (2, [.ref a0, .int (nI mo), .int (nI k)])), (a0, .inl (cA, N, .inl f))] := rfl
    rw [e9] at hP9 hD9
    exact W.iret (v := (pc + 1)) hx hb hr (fun t9 ht9 hW9 => ⟨⟨_, (), rfl, (show (pc + 1) = (mvN 9 a b R pc) from rfl), by rw [ht9]; exact hP9, hD9⟩, hS.F ht9⟩) hS.2.2 dX1_carryOut_88
  · refine lv_tableIn (off := 177) (tgt := 186) hx hb dX1_carryOut_9 (by decide) (by decide) rfl (by decide) ?_
    refine lv_iload hx hb dX1_carryOut_186 (lv_at hl 0 rfl) ?_
    obtain ⟨hP9, hD9⟩ := jk_end (w2 := [(m0, .inr (1, [.ref r0, .ref c0, .ref s0, .ref p0, .int pc, .int st, .int (nI w)])), (r0, .inl (cA, 4, .inl R)), (c0, .inl (cA, 16, .inl Cm)), (s0, .inl (cA, 8, .inl Ls)), (p0, .inr (2, [.ref a0, .int (nI mo), .int (nI k)])), (a0, .inl (cA, N, .inl f))]) hP hD [0, 1, 2, 3, 4, 5] (by decide) rfl
    have e9 : ([(m0, .inr (1, [.ref r0, .ref c0, .ref s0, .ref p0, .int pc, .int st, .int (nI w)])), (r0, .inl (cA, 4, .inl R)), (c0, .inl (cA, 16, .inl Cm)), (s0, .inl (cA, 8, .inl Ls)), (p0, .inr (2, [.ref a0, .int (nI mo), .int (nI k)])), (a0, .inl (cA, N, .inl f))] : va_W) = [(m0, .inr (1, [.ref r0, .ref c0, .ref s0, .ref p0, .int pc, .int (mvS 10 a b R f k st), .int (nI (mvW 10 w))])), (r0, .inl (cA, 4, .inl (mvR 10 a b R Cm))), (c0, .inl (cA, 16, .inl (mvC 10 a b R Cm))), (s0, .inl (cA, 8, .inl (mvL 10 a R Ls w))), (p0, .inr (2, [.ref a0, .int (nI mo), .int (nI k)])), (a0, .inl (cA, N, .inl f))] := rfl
    rw [e9] at hP9 hD9
    exact W.iret (v := (pc + 1)) hx hb hr (fun t9 ht9 hW9 => ⟨⟨_, (), rfl, (show (pc + 1) = (mvN 10 a b R pc) from rfl), by rw [ht9]; exact hP9, hD9⟩, hS.F ht9⟩) hS.2.2 dX1_carryOut_188
  · refine lv_tableIn (off := 164) (tgt := 173) hx hb dX1_carryOut_9 (by decide) (by decide) rfl (by decide) ?_
    refine lv_aload_n hx hb dX1_carryOut_173 rfl (lv_at hl 1 rfl) ?_
    refine lv_aload_n hx hb dX1_carryOut_174 rfl (lv_at hl 1 rfl) ?_
    refine lv_iload_n hx hb dX1_carryOut_175 rfl (lv_at hl 3 rfl) ?_
    refine jr_i (va_runV (As := [.int a]) (rest := [.ref m0]) ⟨hx, hb, hml, hown, hts⟩ (c_X1_registerValue l D cA m0 r0 c0 s0 p0 pc st w R a) (cwV 1 hts gX1_carryOut_X1_registerValue rfl rfl rfl hv_X1_registerValue ⟨Nat.le_of_ble_eq_true rfl, Nat.le_of_ble_eq_true rfl⟩) (roP.V (va_recv hK hP (ci := 1) (q0 := 0) rfl rfl) (jP_sub (w2 := [(m0, .inr (1, [.ref r0, .ref c0, .ref s0, .ref p0, .int pc, .int st, .int (nI w)])), (r0, .inl (cA, 4, .inl R))]) hP [0, 1] rfl) hK hN) rfl rfl hl.1 rfl (lv_room (Nat.le_of_ble_eq_true rfl)) dX1_carryOut_176 ⟨Nat.le_of_ble_eq_true rfl, Nat.le_of_ble_eq_true rfl⟩) ?_
    refine lv_iload_n hx hb dX1_carryOut_179 rfl (lv_at hl 4 rfl) ?_
    refine jw_v (va_runV (As := [.int (jAt R 4 a), .int b]) (rest := []) ⟨hx, hb, hml, hown, hts⟩ (c_X1_checkLabel l D cA s.heap.size m0 r0 c0 s0 p0 pc st w a0 mo k N f (jAt R 4 a) b (by first | assumption | omega) (by first | assumption | omega)) (cwV 2 hts gX1_carryOut_X1_checkLabel rfl rfl rfl hv_X1_checkLabel ⟨Nat.le_of_ble_eq_true rfl, Nat.le_of_ble_eq_true rfl⟩) (rwP.V (wc := [(m0, .inr (1, [.ref r0, .ref c0, .ref s0, .ref p0, .int pc, .int st, .int (nI w)])), (p0, .inr (2, [.ref a0, .int (nI mo), .int (nI k)])), (a0, .inl (cA, N, .inl f))]) (va_recv hK hP (ci := 1) (q0 := 0) rfl rfl) hP hD hK hN [0, 4, 5] (by decide) rfl) rfl rfl hl.1 rfl (lv_room (Nat.le_of_ble_eq_true rfl)) dX1_carryOut_180 ⟨Nat.le_of_ble_eq_true rfl, Nat.le_of_ble_eq_true rfl⟩) hP hD hS hA [0, 4, 5] [1, 2, 3] [3, 0, 1, 2, 4, 5] (wr := [(r0, .inl (cA, 4, .inl R)), (c0, .inl (cA, 16, .inl Cm)), (s0, .inl (cA, 8, .inl Ls))]) (w2 := [(m0, .inr (1, [.ref r0, .ref c0, .ref s0, .ref p0, .int pc, .int (mvG f k (jAt R 4 a) b st), .int (nI w)])), (r0, .inl (cA, 4, .inl R)), (c0, .inl (cA, 16, .inl Cm)), (s0, .inl (cA, 8, .inl Ls)), (p0, .inr (2, [.ref a0, .int (nI mo), .int (nI k)])), (a0, .inl (cA, N, .inl f))]) rfl rfl (by decide) (by decide) (by decide) rfl (fun H locs hP hD hS => ?_)
    refine lv_iload hx hb dX1_carryOut_183 (lv_at hl 0 rfl) ?_
    obtain ⟨hP9, hD9⟩ := jk_end (w2 := [(m0, .inr (1, [.ref r0, .ref c0, .ref s0, .ref p0, .int pc, .int (mvG f k (jAt R 4 a) b st), .int (nI w)])), (r0, .inl (cA, 4, .inl R)), (c0, .inl (cA, 16, .inl Cm)), (s0, .inl (cA, 8, .inl Ls)), (p0, .inr (2, [.ref a0, .int (nI mo), .int (nI k)])), (a0, .inl (cA, N, .inl f))]) hP hD [0, 1, 2, 3, 4, 5] (by decide) rfl
    have e9 : ([(m0, .inr (1, [.ref r0, .ref c0, .ref s0, .ref p0, .int pc, .int (mvG f k (jAt R 4 a) b st), .int (nI w)])), (r0, .inl (cA, 4, .inl R)), (c0, .inl (cA, 16, .inl Cm)), (s0, .inl (cA, 8, .inl Ls)), (p0, .inr (2, [.ref a0, .int (nI mo), .int (nI k)])), (a0, .inl (cA, N, .inl f))] : va_W) = [(m0, .inr (1, [.ref r0, .ref c0, .ref s0, .ref p0, .int pc, .int (mvS 11 a b R f k st), .int (nI (mvW 11 w))])), (r0, .inl (cA, 4, .inl (mvR 11 a b R Cm))), (c0, .inl (cA, 16, .inl (mvC 11 a b R Cm))), (s0, .inl (cA, 8, .inl (mvL 11 a R Ls w))), (p0, .inr (2, [.ref a0, .int (nI mo), .int (nI k)])), (a0, .inl (cA, N, .inl f))] := rfl
    rw [e9] at hP9 hD9
    exact W.iret (v := (pc + 1)) hx hb hr (fun t9 ht9 hW9 => ⟨⟨_, (), rfl, (show (pc + 1) = (mvN 11 a b R pc) from rfl), by rw [ht9]; exact hP9, hD9⟩, hS.F ht9⟩) hS.2.2 dX1_carryOut_185
set_option maxHeartbeats 4000000 in
set_option maxRecDepth 100000 in
theorem c_X1_makeStep (l : Launch) (D : va_G) (cA : ClassId) (sz : Nat) (m0 : Nat) (r0 : Nat) (c0 : Nat) (s0 : Nat) (p0 : Nat) (a0 : Nat) (mo : Nat) (k : Nat) (N : Nat) (f : Nat → Int32) (x : MS) (hwf : mWF f k) (hi : x.2.2.2.1 < k) (hk : k * 3 ≤ N) (hN3 : N ≤ 216) (hw : x.2.2.2.2.2 < 1000000) : Met l yX1_makeStep wsX1_makeStep ({ frames := 4, cells := 0, slots := 0, locals := 89 }) (rwP D cA [.ref m0] sz [(m0, .inr (1, [.ref r0, .ref c0, .ref s0, .ref p0, .int (nI x.2.2.2.1), .int x.2.2.2.2.1, .int (nI x.2.2.2.2.2)])), (r0, .inl (cA, 4, .inl x.1)), (c0, .inl (cA, 16, .inl x.2.1)), (s0, .inl (cA, 8, .inl x.2.2.1)), (p0, .inr (2, [.ref a0, .int (nI mo), .int (nI k)])), (a0, .inl (cA, N, .inl f))]) (rwV D (va_A [(m0, .inr (1, [.ref r0, .ref c0, .ref s0, .ref p0, .int (nI x.2.2.2.1), .int x.2.2.2.2.1, .int (nI x.2.2.2.2.2)])), (r0, .inl (cA, 4, .inl x.1)), (c0, .inl (cA, 16, .inl x.2.1)), (s0, .inl (cA, 8, .inl x.2.2.1)), (p0, .inr (2, [.ref a0, .int (nI mo), .int (nI k)])), (a0, .inl (cA, N, .inl f))] sz) [(m0, .inr (1, [.ref r0, .ref c0, .ref s0, .ref p0, .int (nI (mStep f k x).2.2.2.1), .int ((mStep f k x).2.2.2.2.1), .int (nI (mStep f k x).2.2.2.2.2)])), (r0, .inl (cA, 4, .inl ((mStep f k x).1))), (c0, .inl (cA, 16, .inl ((mStep f k x).2.1))), (s0, .inl (cA, 8, .inl ((mStep f k x).2.2.1))), (p0, .inr (2, [.ref a0, .int (nI mo), .int (nI k)])), (a0, .inl (cA, N, .inl f))]) 0 0 (va_A [(m0, .inr (1, [.ref r0, .ref c0, .ref s0, .ref p0, .int (nI x.2.2.2.1), .int x.2.2.2.2.1, .int (nI x.2.2.2.2.2)])), (r0, .inl (cA, 4, .inl x.1)), (c0, .inl (cA, 16, .inl x.2.1)), (s0, .inl (cA, 8, .inl x.2.2.1)), (p0, .inr (2, [.ref a0, .int (nI mo), .int (nI k)])), (a0, .inl (cA, N, .inl f))] sz) := by
  refine Met.ofW (cc := cX1_makeStep) (maxL := 2) (ret := none) (by decide) rfl ?_
  intro p e s m args below meth c s₁ B hml hv
  obtain ⟨rfl, hsz, hP, hK, hN, hD0⟩ := hv
  have hx := B.exec
  have hb := B.bytes
  have hr := B.returns
  have hts := atoms_spec (ws := wsX1_makeStep) B.pre
  have hown : s.vm.findClass RX1 = some m.cls := findClass_of_methodNamed B.named
  have hlocks := B.notSynchronized
  subst hsz
  have hD := hD0.self (sz := s.heap.size)
  generalize hAe : va_A [(m0, .inr (1, [.ref r0, .ref c0, .ref s0, .ref p0, .int (nI x.2.2.2.1), .int x.2.2.2.2.1, .int (nI x.2.2.2.2.2)])), (r0, .inl (cA, 4, .inl x.1)), (c0, .inl (cA, 16, .inl x.2.1)), (s0, .inl (cA, 8, .inl x.2.2.1)), (p0, .inr (2, [.ref a0, .int (nI mo), .int (nI k)])), (a0, .inl (cA, N, .inl f))] s.heap.size = A at hD ⊢
  have hA : ∀ q : Nat, s.heap.size ≤ q → A q := fun q h => by rw [← hAe]; exact Or.inr h
  have hS : va_S A s.heap s.heap [] := va_S.rf
  have hl := lv_entry ([.ref m0]) (n := 2) (Nat.le_of_ble_eq_true rfl)
  rw [lg_entry_eq]
  generalize (lg_sl ([.ref m0]) ++ List.replicate (2 - (lg_sl ([.ref m0])).length) Slot.unset).toArray = ls at hl ⊢
  have hl : lv_has ls 2 [(0, .ref m0)] := hl
  obtain ⟨o, ho, hfo, -⟩ := hwf.2 _ hi
  have hoo := mOp_is ho hfo
  refine lv_aload_n hx hb dX1_makeStep_0 rfl (lv_at hl 0 rfl) ?_
  refine lv_aload_n hx hb dX1_makeStep_1 rfl (lv_at hl 0 rfl) ?_
  refine va_get (D := D) (ci := 1) (v := .ref p0) (C := RX1) (T := TX1) (N := 7) hx hb hts iw_X1_makeStep_X1 hown hK hP 0 rfl rfl 3 (by decide) (hts (.fieldLink RX1 26 "JumpGuard$Machine" "program" "LJumpGuard$Program;") (List.mem_of_getElem? (l := wsX1_makeStep) (i := 1) rfl)) (fun _ h9 => h9) rfl dX1_makeStep_2 ?_
  refine lv_aload_n hx hb dX1_makeStep_5 rfl (lv_at hl 0 rfl) ?_
  refine va_get (D := D) (ci := 1) (v := .int (nI x.2.2.2.1)) (C := RX1) (T := TX1) (N := 7) hx hb hts iw_X1_makeStep_X1 hown hK hP 0 rfl rfl 4 (by decide) (hts (.fieldLink RX1 40 "JumpGuard$Machine" "counter" "I") (List.mem_of_getElem? (l := wsX1_makeStep) (i := 2) rfl)) (fun _ h9 => h9) rfl dX1_makeStep_6 ?_
  refine lv_iconst (v := 0) hx hb dX1_makeStep_9 (by decide) ?_
  refine jr_i (va_runV (As := [.int (nI x.2.2.2.1), .int 0]) (rest := [.ref m0]) ⟨hx, hb, hml, hown, hts⟩ (c_X2_get l D cA p0 a0 mo k N f (nI x.2.2.2.1) 0 (by first | assumption | omega) (by first | assumption | omega)) (cwV 2 hts gX1_makeStep_X2_get rfl rfl rfl hv_X2_get ⟨Nat.le_of_ble_eq_true rfl, Nat.le_of_ble_eq_true rfl⟩) (roP.V (va_recv hK hP (ci := 2) (q0 := 4) rfl rfl) (jP_sub (w2 := [(p0, .inr (2, [.ref a0, .int (nI mo), .int (nI k)])), (a0, .inl (cA, N, .inl f))]) hP [4, 5] rfl) hK hN) rfl rfl hl.1 rfl (lv_room (Nat.le_of_ble_eq_true rfl)) dX1_makeStep_10 ⟨Nat.le_of_ble_eq_true rfl, Nat.le_of_ble_eq_true rfl⟩) ?_
  refine jk_top (show (pGet f k (nI x.2.2.2.1) 0) = (nI o) from (pGet_at (q := 0) hi (by decide) (by omega)).trans hfo) ?_
  refine lv_aload_n hx hb dX1_makeStep_13 rfl (lv_at hl 0 rfl) ?_
  refine va_get (D := D) (ci := 1) (v := .ref p0) (C := RX1) (T := TX1) (N := 7) hx hb hts iw_X1_makeStep_X1 hown hK hP 0 rfl rfl 3 (by decide) (hts (.fieldLink RX1 26 "JumpGuard$Machine" "program" "LJumpGuard$Program;") (List.mem_of_getElem? (l := wsX1_makeStep) (i := 1) rfl)) (fun _ h9 => h9) rfl dX1_makeStep_14 ?_
  refine lv_aload_n hx hb dX1_makeStep_17 rfl (lv_at hl 0 rfl) ?_
  refine va_get (D := D) (ci := 1) (v := .int (nI x.2.2.2.1)) (C := RX1) (T := TX1) (N := 7) hx hb hts iw_X1_makeStep_X1 hown hK hP 0 rfl rfl 4 (by decide) (hts (.fieldLink RX1 40 "JumpGuard$Machine" "counter" "I") (List.mem_of_getElem? (l := wsX1_makeStep) (i := 2) rfl)) (fun _ h9 => h9) rfl dX1_makeStep_18 ?_
  refine lv_iconst (v := 1) hx hb dX1_makeStep_21 (by decide) ?_
  refine jr_i (va_runV (As := [.int (nI x.2.2.2.1), .int 1]) (rest := [.int (nI o), .ref m0]) ⟨hx, hb, hml, hown, hts⟩ (c_X2_get l D cA p0 a0 mo k N f (nI x.2.2.2.1) 1 (by first | assumption | omega) (by first | assumption | omega)) (cwV 2 hts gX1_makeStep_X2_get rfl rfl rfl hv_X2_get ⟨Nat.le_of_ble_eq_true rfl, Nat.le_of_ble_eq_true rfl⟩) (roP.V (va_recv hK hP (ci := 2) (q0 := 4) rfl rfl) (jP_sub (w2 := [(p0, .inr (2, [.ref a0, .int (nI mo), .int (nI k)])), (a0, .inl (cA, N, .inl f))]) hP [4, 5] rfl) hK hN) rfl rfl hl.1 rfl (lv_room (Nat.le_of_ble_eq_true rfl)) dX1_makeStep_22 ⟨Nat.le_of_ble_eq_true rfl, Nat.le_of_ble_eq_true rfl⟩) ?_
  refine jk_top (show (pGet f k (nI x.2.2.2.1) 1) = (f (x.2.2.2.1 * 3 + 1)) from pGet_at (q := 1) hi (by decide) (by omega)) ?_
  refine lv_aload_n hx hb dX1_makeStep_25 rfl (lv_at hl 0 rfl) ?_
  refine va_get (D := D) (ci := 1) (v := .ref p0) (C := RX1) (T := TX1) (N := 7) hx hb hts iw_X1_makeStep_X1 hown hK hP 0 rfl rfl 3 (by decide) (hts (.fieldLink RX1 26 "JumpGuard$Machine" "program" "LJumpGuard$Program;") (List.mem_of_getElem? (l := wsX1_makeStep) (i := 1) rfl)) (fun _ h9 => h9) rfl dX1_makeStep_26 ?_
  refine lv_aload_n hx hb dX1_makeStep_29 rfl (lv_at hl 0 rfl) ?_
  refine va_get (D := D) (ci := 1) (v := .int (nI x.2.2.2.1)) (C := RX1) (T := TX1) (N := 7) hx hb hts iw_X1_makeStep_X1 hown hK hP 0 rfl rfl 4 (by decide) (hts (.fieldLink RX1 40 "JumpGuard$Machine" "counter" "I") (List.mem_of_getElem? (l := wsX1_makeStep) (i := 2) rfl)) (fun _ h9 => h9) rfl dX1_makeStep_30 ?_
  refine lv_iconst (v := 2) hx hb dX1_makeStep_33 (by decide) ?_
  refine jr_i (va_runV (As := [.int (nI x.2.2.2.1), .int 2]) (rest := [.int (f (x.2.2.2.1 * 3 + 1)), .int (nI o), .ref m0]) ⟨hx, hb, hml, hown, hts⟩ (c_X2_get l D cA p0 a0 mo k N f (nI x.2.2.2.1) 2 (by first | assumption | omega) (by first | assumption | omega)) (cwV 2 hts gX1_makeStep_X2_get rfl rfl rfl hv_X2_get ⟨Nat.le_of_ble_eq_true rfl, Nat.le_of_ble_eq_true rfl⟩) (roP.V (va_recv hK hP (ci := 2) (q0 := 4) rfl rfl) (jP_sub (w2 := [(p0, .inr (2, [.ref a0, .int (nI mo), .int (nI k)])), (a0, .inl (cA, N, .inl f))]) hP [4, 5] rfl) hK hN) rfl rfl hl.1 rfl (lv_room (Nat.le_of_ble_eq_true rfl)) dX1_makeStep_34 ⟨Nat.le_of_ble_eq_true rfl, Nat.le_of_ble_eq_true rfl⟩) ?_
  refine jk_top (show (pGet f k (nI x.2.2.2.1) 2) = (f (x.2.2.2.1 * 3 + 2)) from pGet_at (q := 2) hi (by decide) (by omega)) ?_
  refine jw_i (va_runV (As := [.int (nI o), .int (f (x.2.2.2.1 * 3 + 1)), .int (f (x.2.2.2.1 * 3 + 2))]) (rest := []) ⟨hx, hb, hml, hown, hts⟩ (c_X1_carryOut l D cA s.heap.size m0 r0 c0 s0 p0 (nI x.2.2.2.1) x.2.2.2.2.1 x.2.2.2.2.2 a0 mo k N f x.1 x.2.1 x.2.2.1 o (f (x.2.2.2.1 * 3 + 1)) (f (x.2.2.2.1 * 3 + 2)) (by first | assumption | omega) (by first | assumption | omega) (by first | assumption | omega) (by first | assumption | omega)) (cwV 3 hts gX1_makeStep_X1_carryOut rfl rfl rfl hv_X1_carryOut ⟨Nat.le_of_ble_eq_true rfl, Nat.le_of_ble_eq_true rfl⟩) (rwP.V (wc := [(m0, .inr (1, [.ref r0, .ref c0, .ref s0, .ref p0, .int (nI x.2.2.2.1), .int x.2.2.2.2.1, .int (nI x.2.2.2.2.2)])), (r0, .inl (cA, 4, .inl x.1)), (c0, .inl (cA, 16, .inl x.2.1)), (s0, .inl (cA, 8, .inl x.2.2.1)), (p0, .inr (2, [.ref a0, .int (nI mo), .int (nI k)])), (a0, .inl (cA, N, .inl f))]) (va_recv hK hP (ci := 1) (q0 := 0) rfl rfl) hP hD hK hN [0, 1, 2, 3, 4, 5] (by decide) rfl) rfl rfl hl.1 rfl (lv_room (Nat.le_of_ble_eq_true rfl)) dX1_makeStep_37 ⟨Nat.le_of_ble_eq_true rfl, Nat.le_of_ble_eq_true rfl⟩) hP hD hS hA [0, 1, 2, 3, 4, 5] [] [0, 1, 2, 3, 4, 5] (wr := []) (w2 := [(m0, .inr (1, [.ref r0, .ref c0, .ref s0, .ref p0, .int (nI x.2.2.2.1), .int (mvS o (f (x.2.2.2.1 * 3 + 1)) (f (x.2.2.2.1 * 3 + 2)) x.1 f k x.2.2.2.2.1), .int (nI (mvW o x.2.2.2.2.2))])), (r0, .inl (cA, 4, .inl (mvR o (f (x.2.2.2.1 * 3 + 1)) (f (x.2.2.2.1 * 3 + 2)) x.1 x.2.1))), (c0, .inl (cA, 16, .inl (mvC o (f (x.2.2.2.1 * 3 + 1)) (f (x.2.2.2.1 * 3 + 2)) x.1 x.2.1))), (s0, .inl (cA, 8, .inl (mvL o (f (x.2.2.2.1 * 3 + 1)) x.1 x.2.2.1 x.2.2.2.2.2))), (p0, .inr (2, [.ref a0, .int (nI mo), .int (nI k)])), (a0, .inl (cA, N, .inl f))]) rfl rfl (by decide) (by decide) (by decide) rfl (fun H locs hP hD hS => ?_)
  refine lv_istore_n (lv' := [(1, .int (mvN o (f (x.2.2.2.1 * 3 + 1)) (f (x.2.2.2.1 * 3 + 2)) x.1 (nI x.2.2.2.1))), (0, .ref m0)]) hx hb dX1_makeStep_40 rfl hl (by decide) rfl (fun ls hl => ?_)
  refine lv_aload_n hx hb dX1_makeStep_41 rfl (lv_at hl 1 rfl) ?_
  refine va_get (D := D) (ci := 1) (v := .int (mvS o (f (x.2.2.2.1 * 3 + 1)) (f (x.2.2.2.1 * 3 + 2)) x.1 f k x.2.2.2.2.1)) (C := RX1) (T := TX1) (N := 7) hx hb hts iw_X1_makeStep_X1 hown hK hP 0 rfl rfl 5 (by decide) (hts (.fieldLink RX1 30 "JumpGuard$Machine" "condition" "I") (List.mem_of_getElem? (l := wsX1_makeStep) (i := 3) rfl)) (fun _ h9 => h9) rfl dX1_makeStep_42 ?_
  refine lv_if_ne (tgt := 53) hx hb dX1_makeStep_45 (by decide) (fun c_45 => ?_) (fun c_45 => ?_)
  · obtain ⟨hP9, hD9⟩ := jk_end (w2 := [(m0, .inr (1, [.ref r0, .ref c0, .ref s0, .ref p0, .int (nI x.2.2.2.1), .int (mvS o (f (x.2.2.2.1 * 3 + 1)) (f (x.2.2.2.1 * 3 + 2)) x.1 f k x.2.2.2.2.1), .int (nI (mvW o x.2.2.2.2.2))])), (r0, .inl (cA, 4, .inl (mvR o (f (x.2.2.2.1 * 3 + 1)) (f (x.2.2.2.1 * 3 + 2)) x.1 x.2.1))), (c0, .inl (cA, 16, .inl (mvC o (f (x.2.2.2.1 * 3 + 1)) (f (x.2.2.2.1 * 3 + 2)) x.1 x.2.1))), (s0, .inl (cA, 8, .inl (mvL o (f (x.2.2.2.1 * 3 + 1)) x.1 x.2.2.1 x.2.2.2.2.2))), (p0, .inr (2, [.ref a0, .int (nI mo), .int (nI k)])), (a0, .inl (cA, N, .inl f))]) hP hD [0, 1, 2, 3, 4, 5] (by decide) rfl
    have e9 : ([(m0, .inr (1, [.ref r0, .ref c0, .ref s0, .ref p0, .int (nI x.2.2.2.1), .int (mvS o (f (x.2.2.2.1 * 3 + 1)) (f (x.2.2.2.1 * 3 + 2)) x.1 f k x.2.2.2.2.1), .int (nI (mvW o x.2.2.2.2.2))])), (r0, .inl (cA, 4, .inl (mvR o (f (x.2.2.2.1 * 3 + 1)) (f (x.2.2.2.1 * 3 + 2)) x.1 x.2.1))), (c0, .inl (cA, 16, .inl (mvC o (f (x.2.2.2.1 * 3 + 1)) (f (x.2.2.2.1 * 3 + 2)) x.1 x.2.1))), (s0, .inl (cA, 8, .inl (mvL o (f (x.2.2.2.1 * 3 + 1)) x.1 x.2.2.1 x.2.2.2.2.2))), (p0, .inr (2, [.ref a0, .int (nI mo), .int (nI k)])), (a0, .inl (cA, N, .inl f))] : va_W) = [(m0, .inr (1, [.ref r0, .ref c0, .ref s0, .ref p0, .int (nI (mStep f k x).2.2.2.1), .int ((mStep f k x).2.2.2.2.1), .int (nI (mStep f k x).2.2.2.2.2)])), (r0, .inl (cA, 4, .inl ((mStep f k x).1))), (c0, .inl (cA, 16, .inl ((mStep f k x).2.1))), (s0, .inl (cA, 8, .inl ((mStep f k x).2.2.1))), (p0, .inr (2, [.ref a0, .int (nI mo), .int (nI k)])), (a0, .inl (cA, N, .inl f))] := (by unfold mStep; dsimp only; rw [hoo, if_neg c_45])
    rw [e9] at hP9 hD9
    exact W.vret hx hb hr (fun t9 ht9 hW9 => ⟨⟨(), rfl, trivial, by rw [ht9]; exact hP9, hD9⟩, hS.F ht9⟩) hS.2.2 dX1_makeStep_53
  · rw [← hoo] at c_45
    obtain ⟨t, ht, htn⟩ := mStep_in hwf hi _ _ c_45
    refine lv_aload_n hx hb dX1_makeStep_48 rfl (lv_at hl 1 rfl) ?_
    refine lv_iload_n hx hb dX1_makeStep_49 rfl (lv_at hl 0 rfl) ?_
    refine va_put (D := D) (ci := 1) (v := .int (mvN o (f (x.2.2.2.1 * 3 + 1)) (f (x.2.2.2.1 * 3 + 2)) x.1 (nI x.2.2.2.1))) (ty := .int) (C := RX1) (T := TX1) (N := 7) hx hb hts iw_X1_makeStep_X1 tyX1 tyX1_ok nmX1 hown hK hP hD hS 0 rfl rfl 4 (by decide) (hts (.fieldLink RX1 40 "JumpGuard$Machine" "counter" "I") (List.mem_of_getElem? (l := wsX1_makeStep) (i := 2) rfl)) (fun _ h9 => h9) rfl (by decide +kernel) rfl rfl (Nat.le_of_ble_eq_true rfl) dX1_makeStep_50 (fun H locs hP hD hS => ?_)
    have hP : va_P D vwCl [(m0, .inr (1, [.ref r0, .ref c0, .ref s0, .ref p0, .int (mvN o (f (x.2.2.2.1 * 3 + 1)) (f (x.2.2.2.1 * 3 + 2)) x.1 (nI x.2.2.2.1)), .int (mvS o (f (x.2.2.2.1 * 3 + 1)) (f (x.2.2.2.1 * 3 + 2)) x.1 f k x.2.2.2.2.1), .int (nI (mvW o x.2.2.2.2.2))])), (r0, .inl (cA, 4, .inl (mvR o (f (x.2.2.2.1 * 3 + 1)) (f (x.2.2.2.1 * 3 + 2)) x.1 x.2.1))), (c0, .inl (cA, 16, .inl (mvC o (f (x.2.2.2.1 * 3 + 1)) (f (x.2.2.2.1 * 3 + 2)) x.1 x.2.1))), (s0, .inl (cA, 8, .inl (mvL o (f (x.2.2.2.1 * 3 + 1)) x.1 x.2.2.1 x.2.2.2.2.2))), (p0, .inr (2, [.ref a0, .int (nI mo), .int (nI k)])), (a0, .inl (cA, N, .inl f))] H := hP
    have hD : va_D A [(m0, .inr (1, [.ref r0, .ref c0, .ref s0, .ref p0, .int (mvN o (f (x.2.2.2.1 * 3 + 1)) (f (x.2.2.2.1 * 3 + 2)) x.1 (nI x.2.2.2.1)), .int (mvS o (f (x.2.2.2.1 * 3 + 1)) (f (x.2.2.2.1 * 3 + 2)) x.1 f k x.2.2.2.2.1), .int (nI (mvW o x.2.2.2.2.2))])), (r0, .inl (cA, 4, .inl (mvR o (f (x.2.2.2.1 * 3 + 1)) (f (x.2.2.2.1 * 3 + 2)) x.1 x.2.1))), (c0, .inl (cA, 16, .inl (mvC o (f (x.2.2.2.1 * 3 + 1)) (f (x.2.2.2.1 * 3 + 2)) x.1 x.2.1))), (s0, .inl (cA, 8, .inl (mvL o (f (x.2.2.2.1 * 3 + 1)) x.1 x.2.2.1 x.2.2.2.2.2))), (p0, .inr (2, [.ref a0, .int (nI mo), .int (nI k)])), (a0, .inl (cA, N, .inl f))] := hD
    obtain ⟨hP9, hD9⟩ := jk_end (w2 := [(m0, .inr (1, [.ref r0, .ref c0, .ref s0, .ref p0, .int (mvN o (f (x.2.2.2.1 * 3 + 1)) (f (x.2.2.2.1 * 3 + 2)) x.1 (nI x.2.2.2.1)), .int (mvS o (f (x.2.2.2.1 * 3 + 1)) (f (x.2.2.2.1 * 3 + 2)) x.1 f k x.2.2.2.2.1), .int (nI (mvW o x.2.2.2.2.2))])), (r0, .inl (cA, 4, .inl (mvR o (f (x.2.2.2.1 * 3 + 1)) (f (x.2.2.2.1 * 3 + 2)) x.1 x.2.1))), (c0, .inl (cA, 16, .inl (mvC o (f (x.2.2.2.1 * 3 + 1)) (f (x.2.2.2.1 * 3 + 2)) x.1 x.2.1))), (s0, .inl (cA, 8, .inl (mvL o (f (x.2.2.2.1 * 3 + 1)) x.1 x.2.2.1 x.2.2.2.2.2))), (p0, .inr (2, [.ref a0, .int (nI mo), .int (nI k)])), (a0, .inl (cA, N, .inl f))]) hP hD [0, 1, 2, 3, 4, 5] (by decide) rfl
    have e9 : ([(m0, .inr (1, [.ref r0, .ref c0, .ref s0, .ref p0, .int (mvN o (f (x.2.2.2.1 * 3 + 1)) (f (x.2.2.2.1 * 3 + 2)) x.1 (nI x.2.2.2.1)), .int (mvS o (f (x.2.2.2.1 * 3 + 1)) (f (x.2.2.2.1 * 3 + 2)) x.1 f k x.2.2.2.2.1), .int (nI (mvW o x.2.2.2.2.2))])), (r0, .inl (cA, 4, .inl (mvR o (f (x.2.2.2.1 * 3 + 1)) (f (x.2.2.2.1 * 3 + 2)) x.1 x.2.1))), (c0, .inl (cA, 16, .inl (mvC o (f (x.2.2.2.1 * 3 + 1)) (f (x.2.2.2.1 * 3 + 2)) x.1 x.2.1))), (s0, .inl (cA, 8, .inl (mvL o (f (x.2.2.2.1 * 3 + 1)) x.1 x.2.2.1 x.2.2.2.2.2))), (p0, .inr (2, [.ref a0, .int (nI mo), .int (nI k)])), (a0, .inl (cA, N, .inl f))] : va_W) = [(m0, .inr (1, [.ref r0, .ref c0, .ref s0, .ref p0, .int (nI (mStep f k x).2.2.2.1), .int ((mStep f k x).2.2.2.2.1), .int (nI (mStep f k x).2.2.2.2.2)])), (r0, .inl (cA, 4, .inl ((mStep f k x).1))), (c0, .inl (cA, 16, .inl ((mStep f k x).2.1))), (s0, .inl (cA, 8, .inl ((mStep f k x).2.2.1))), (p0, .inr (2, [.ref a0, .int (nI mo), .int (nI k)])), (a0, .inl (cA, N, .inl f))] := (by unfold mStep; dsimp only; rw [if_pos c_45, htn, nI_clamp (by omega), ← htn, hoo])
    rw [e9] at hP9 hD9
    exact W.vret hx hb hr (fun t9 ht9 hW9 => ⟨⟨(), rfl, trivial, by rw [ht9]; exact hP9, hD9⟩, hS.F ht9⟩) hS.2.2 dX1_makeStep_53
set_option maxHeartbeats 4000000 in
set_option maxRecDepth 100000 in
theorem c_X1_makeSteps (l : Launch) (D : va_G) (cA : ClassId) (sz : Nat) (m0 : Nat) (r0 : Nat) (c0 : Nat) (s0 : Nat) (p0 : Nat) (a0 : Nat) (mo : Nat) (k : Nat) (N : Nat) (f : Nat → Int32) (x : MS) (nn : Nat) (hwf : mWF f k) (hi : x.2.2.2.2.1 = 0 → x.2.2.2.1 < k) (hk : k * 3 ≤ N) (hN3 : N ≤ 216) (hw : x.2.2.2.2.2 + nn < 1000000) : Met l yX1_makeSteps wsX1_makeSteps ({ frames := 5, cells := 0, slots := 0, locals := 110 }) (rwP D cA [.ref m0, .int (nI nn)] sz [(m0, .inr (1, [.ref r0, .ref c0, .ref s0, .ref p0, .int (nI x.2.2.2.1), .int x.2.2.2.2.1, .int (nI x.2.2.2.2.2)])), (r0, .inl (cA, 4, .inl x.1)), (c0, .inl (cA, 16, .inl x.2.1)), (s0, .inl (cA, 8, .inl x.2.2.1)), (p0, .inr (2, [.ref a0, .int (nI mo), .int (nI k)])), (a0, .inl (cA, N, .inl f))]) (rwI D (va_A [(m0, .inr (1, [.ref r0, .ref c0, .ref s0, .ref p0, .int (nI x.2.2.2.1), .int x.2.2.2.2.1, .int (nI x.2.2.2.2.2)])), (r0, .inl (cA, 4, .inl x.1)), (c0, .inl (cA, 16, .inl x.2.1)), (s0, .inl (cA, 8, .inl x.2.2.1)), (p0, .inr (2, [.ref a0, .int (nI mo), .int (nI k)])), (a0, .inl (cA, N, .inl f))] sz) (nI (mRun f k nn x).1) [(m0, .inr (1, [.ref r0, .ref c0, .ref s0, .ref p0, .int (nI (mRun f k nn x).2.2.2.2.1), .int ((mRun f k nn x).2.2.2.2.2.1), .int (nI (mRun f k nn x).2.2.2.2.2.2)])), (r0, .inl (cA, 4, .inl ((mRun f k nn x).2.1))), (c0, .inl (cA, 16, .inl ((mRun f k nn x).2.2.1))), (s0, .inl (cA, 8, .inl ((mRun f k nn x).2.2.2.1))), (p0, .inr (2, [.ref a0, .int (nI mo), .int (nI k)])), (a0, .inl (cA, N, .inl f))]) 0 0 (va_A [(m0, .inr (1, [.ref r0, .ref c0, .ref s0, .ref p0, .int (nI x.2.2.2.1), .int x.2.2.2.2.1, .int (nI x.2.2.2.2.2)])), (r0, .inl (cA, 4, .inl x.1)), (c0, .inl (cA, 16, .inl x.2.1)), (s0, .inl (cA, 8, .inl x.2.2.1)), (p0, .inr (2, [.ref a0, .int (nI mo), .int (nI k)])), (a0, .inl (cA, N, .inl f))] sz) := by
  refine Met.ofW (cc := cX1_makeSteps) (maxL := 3) (ret := (some .int)) (by decide) rfl ?_
  intro p e s m args below meth c s₁ B hml hv
  obtain ⟨rfl, hsz, hP, hK, hN, hD0⟩ := hv
  have hx := B.exec
  have hb := B.bytes
  have hr := B.returns
  have hts := atoms_spec (ws := wsX1_makeSteps) B.pre
  have hown : s.vm.findClass RX1 = some m.cls := findClass_of_methodNamed B.named
  have hlocks := B.notSynchronized
  subst hsz
  have hD := hD0.self (sz := s.heap.size)
  generalize hAe : va_A [(m0, .inr (1, [.ref r0, .ref c0, .ref s0, .ref p0, .int (nI x.2.2.2.1), .int x.2.2.2.2.1, .int (nI x.2.2.2.2.2)])), (r0, .inl (cA, 4, .inl x.1)), (c0, .inl (cA, 16, .inl x.2.1)), (s0, .inl (cA, 8, .inl x.2.2.1)), (p0, .inr (2, [.ref a0, .int (nI mo), .int (nI k)])), (a0, .inl (cA, N, .inl f))] s.heap.size = A at hD ⊢
  have hA : ∀ q : Nat, s.heap.size ≤ q → A q := fun q h => by rw [← hAe]; exact Or.inr h
  have hS : va_S A s.heap s.heap [] := va_S.rf
  have hl := lv_entry ([.ref m0, .int (nI nn)]) (n := 3) (Nat.le_of_ble_eq_true rfl)
  rw [lg_entry_eq]
  generalize (lg_sl ([.ref m0, .int (nI nn)]) ++ List.replicate (3 - (lg_sl ([.ref m0, .int (nI nn)])).length) Slot.unset).toArray = ls at hl ⊢
  have hl : lv_has ls 3 [(0, .ref m0), (1, .int (nI nn))] := hl
  refine lv_iconst (v := 0) hx hb dX1_makeSteps_0 (by decide) ?_
  refine lv_istore_n (lv' := [(2, .int 0), (0, .ref m0), (1, .int (nI nn))]) hx hb dX1_makeSteps_1 rfl hl (by decide) rfl (fun ls hl => ?_)
  have loop2 : ∀ (n : Nat) (y : MS) (i : Nat), (i ≤ nn) → (nn + 1 ≤ i + n) → (y.2.2.2.2.1 = 0 → y.2.2.2.1 < k) → (y.2.2.2.2.2 + (nn - i) < 1000000) → (mRun f k nn x = (i + (mRun f k (nn - i) y).1, (mRun f k (nn - i) y).2)) → ∀ (H : Heap) (locs : List Loc), va_P D vwCl [(m0, .inr (1, [.ref r0, .ref c0, .ref s0, .ref p0, .int (nI y.2.2.2.1), .int y.2.2.2.2.1, .int (nI y.2.2.2.2.2)])), (r0, .inl (cA, 4, .inl y.1)), (c0, .inl (cA, 16, .inl y.2.1)), (s0, .inl (cA, 8, .inl y.2.2.1)), (p0, .inr (2, [.ref a0, .int (nI mo), .int (nI k)])), (a0, .inl (cA, N, .inl f))] H → va_D A [(m0, .inr (1, [.ref r0, .ref c0, .ref s0, .ref p0, .int (nI y.2.2.2.1), .int y.2.2.2.2.1, .int (nI y.2.2.2.2.2)])), (r0, .inl (cA, 4, .inl y.1)), (c0, .inl (cA, 16, .inl y.2.1)), (s0, .inl (cA, 8, .inl y.2.2.1)), (p0, .inr (2, [.ref a0, .int (nI mo), .int (nI k)])), (a0, .inl (cA, N, .inl f))] → va_S A s.heap H locs → ∀ (ls : Array Slot), lv_has ls 3 [(0, .ref m0), (1, .int (nI nn)), (2, .int (nI i))] → W p l e (headSpec wsX1_makeSteps ({ frames := 5, cells := 0, slots := 0, locals := 110 })).room s m ([.ref m0, .int (nI nn)] : List Value).toArray below meth c H locs 0 0 (MQ below (rwI D A (nI (mRun f k nn x).1) [(m0, .inr (1, [.ref r0, .ref c0, .ref s0, .ref p0, .int (nI (mRun f k nn x).2.2.2.2.1), .int ((mRun f k nn x).2.2.2.2.2.1), .int (nI (mRun f k nn x).2.2.2.2.2.2)])), (r0, .inl (cA, 4, .inl ((mRun f k nn x).2.1))), (c0, .inl (cA, 16, .inl ((mRun f k nn x).2.2.1))), (s0, .inl (cA, 8, .inl ((mRun f k nn x).2.2.2.1))), (p0, .inr (2, [.ref a0, .int (nI mo), .int (nI k)])), (a0, .inl (cA, N, .inl f))]) ([.ref m0, .int (nI nn)] : List Value).toArray s 0 0 A) (F0 m 2 ls []) := by
    intro n
    induction n with
    | zero => intro y i hin hfu hy hyw hrun; exact absurd hfu (by omega)
    | succ n ih2 =>
      intro y i hin hfu hy hyw hrun H locs hP hD hS ls hl
      refine lv_iload_n hx hb dX1_makeSteps_2 rfl (lv_at hl 2 rfl) ?_
      refine lv_iload_n hx hb dX1_makeSteps_3 rfl (lv_at hl 1 rfl) ?_
      refine lv_icmp_ge (tgt := 24) hx hb dX1_makeSteps_4 (by decide) (fun c_4 => ?_) (fun c_4 => ?_)
      · have hend : nn - i = 0 := by
          rcases Nat.lt_or_ge i nn with q | q
          · exact absurd c_4 (nI_ge q (by omega))
          · omega
        have hfin : mRun f k nn x = (i, y) := by rw [hrun, hend]; rfl
        refine lv_iload_n hx hb dX1_makeSteps_24 rfl (lv_at hl 2 rfl) ?_
        obtain ⟨hP9, hD9⟩ := jk_end (w2 := [(m0, .inr (1, [.ref r0, .ref c0, .ref s0, .ref p0, .int (nI y.2.2.2.1), .int y.2.2.2.2.1, .int (nI y.2.2.2.2.2)])), (r0, .inl (cA, 4, .inl y.1)), (c0, .inl (cA, 16, .inl y.2.1)), (s0, .inl (cA, 8, .inl y.2.2.1)), (p0, .inr (2, [.ref a0, .int (nI mo), .int (nI k)])), (a0, .inl (cA, N, .inl f))]) hP hD [0, 1, 2, 3, 4, 5] (by decide) rfl
        have e9 : ([(m0, .inr (1, [.ref r0, .ref c0, .ref s0, .ref p0, .int (nI y.2.2.2.1), .int y.2.2.2.2.1, .int (nI y.2.2.2.2.2)])), (r0, .inl (cA, 4, .inl y.1)), (c0, .inl (cA, 16, .inl y.2.1)), (s0, .inl (cA, 8, .inl y.2.2.1)), (p0, .inr (2, [.ref a0, .int (nI mo), .int (nI k)])), (a0, .inl (cA, N, .inl f))] : va_W) = [(m0, .inr (1, [.ref r0, .ref c0, .ref s0, .ref p0, .int (nI (mRun f k nn x).2.2.2.2.1), .int ((mRun f k nn x).2.2.2.2.2.1), .int (nI (mRun f k nn x).2.2.2.2.2.2)])), (r0, .inl (cA, 4, .inl ((mRun f k nn x).2.1))), (c0, .inl (cA, 16, .inl ((mRun f k nn x).2.2.1))), (s0, .inl (cA, 8, .inl ((mRun f k nn x).2.2.2.1))), (p0, .inr (2, [.ref a0, .int (nI mo), .int (nI k)])), (a0, .inl (cA, N, .inl f))] := (by rw [hfin])
        rw [e9] at hP9 hD9
        exact W.iret (v := (nI i)) hx hb hr (fun t9 ht9 hW9 => ⟨⟨_, (), rfl, (show (nI i) = (nI (mRun f k nn x).1) from (by rw [hfin])), by rw [ht9]; exact hP9, hD9⟩, hS.F ht9⟩) hS.2.2 dX1_makeSteps_25
      · have hlt : i < nn := by
          rcases Nat.lt_or_ge i nn with q | q
          · exact q
          · exact absurd (nI_le q (by omega)) c_4
        refine lv_aload_n hx hb dX1_makeSteps_7 rfl (lv_at hl 0 rfl) ?_
        refine va_get (D := D) (ci := 1) (v := .int y.2.2.2.2.1) (C := RX1) (T := TX1) (N := 7) hx hb hts iw_X1_makeSteps_X1 hown hK hP 0 rfl rfl 5 (by decide) (hts (.fieldLink RX1 30 "JumpGuard$Machine" "condition" "I") (List.mem_of_getElem? (l := wsX1_makeSteps) (i := 1) rfl)) (fun _ h9 => h9) rfl dX1_makeSteps_8 ?_
        refine lv_if_ne (tgt := 24) hx hb dX1_makeSteps_11 (by decide) (fun c_11 => ?_) (fun c_11 => ?_)
        · have hfin : mRun f k nn x = (i, y) := by rw [hrun, mRun_stop c_11]; rfl
          refine lv_iload_n hx hb dX1_makeSteps_24 rfl (lv_at hl 2 rfl) ?_
          obtain ⟨hP9, hD9⟩ := jk_end (w2 := [(m0, .inr (1, [.ref r0, .ref c0, .ref s0, .ref p0, .int (nI y.2.2.2.1), .int y.2.2.2.2.1, .int (nI y.2.2.2.2.2)])), (r0, .inl (cA, 4, .inl y.1)), (c0, .inl (cA, 16, .inl y.2.1)), (s0, .inl (cA, 8, .inl y.2.2.1)), (p0, .inr (2, [.ref a0, .int (nI mo), .int (nI k)])), (a0, .inl (cA, N, .inl f))]) hP hD [0, 1, 2, 3, 4, 5] (by decide) rfl
          have e9 : ([(m0, .inr (1, [.ref r0, .ref c0, .ref s0, .ref p0, .int (nI y.2.2.2.1), .int y.2.2.2.2.1, .int (nI y.2.2.2.2.2)])), (r0, .inl (cA, 4, .inl y.1)), (c0, .inl (cA, 16, .inl y.2.1)), (s0, .inl (cA, 8, .inl y.2.2.1)), (p0, .inr (2, [.ref a0, .int (nI mo), .int (nI k)])), (a0, .inl (cA, N, .inl f))] : va_W) = [(m0, .inr (1, [.ref r0, .ref c0, .ref s0, .ref p0, .int (nI (mRun f k nn x).2.2.2.2.1), .int ((mRun f k nn x).2.2.2.2.2.1), .int (nI (mRun f k nn x).2.2.2.2.2.2)])), (r0, .inl (cA, 4, .inl ((mRun f k nn x).2.1))), (c0, .inl (cA, 16, .inl ((mRun f k nn x).2.2.1))), (s0, .inl (cA, 8, .inl ((mRun f k nn x).2.2.2.1))), (p0, .inr (2, [.ref a0, .int (nI mo), .int (nI k)])), (a0, .inl (cA, N, .inl f))] := (by rw [hfin])
          rw [e9] at hP9 hD9
          exact W.iret (v := (nI i)) hx hb hr (fun t9 ht9 hW9 => ⟨⟨_, (), rfl, (show (nI i) = (nI (mRun f k nn x).1) from (by rw [hfin])), by rw [ht9]; exact hP9, hD9⟩, hS.F ht9⟩) hS.2.2 dX1_makeSteps_25
        · refine lv_aload_n hx hb dX1_makeSteps_14 rfl (lv_at hl 0 rfl) ?_
          refine jw_v (va_runV (As := []) (rest := []) ⟨hx, hb, hml, hown, hts⟩ (c_X1_makeStep l D cA H.size m0 r0 c0 s0 p0 a0 mo k N f y (by first | assumption | omega) (hy c_11) (by first | assumption | omega) (by first | assumption | omega) (by omega)) (cwV 0 hts gX1_makeSteps_X1_makeStep rfl rfl rfl hv_X1_makeStep ⟨Nat.le_of_ble_eq_true rfl, Nat.le_of_ble_eq_true rfl⟩) (rwP.V (wc := [(m0, .inr (1, [.ref r0, .ref c0, .ref s0, .ref p0, .int (nI y.2.2.2.1), .int y.2.2.2.2.1, .int (nI y.2.2.2.2.2)])), (r0, .inl (cA, 4, .inl y.1)), (c0, .inl (cA, 16, .inl y.2.1)), (s0, .inl (cA, 8, .inl y.2.2.1)), (p0, .inr (2, [.ref a0, .int (nI mo), .int (nI k)])), (a0, .inl (cA, N, .inl f))]) (va_recv hK hP (ci := 1) (q0 := 0) rfl rfl) hP hD hK hN [0, 1, 2, 3, 4, 5] (by decide) rfl) rfl rfl hl.1 rfl (lv_room (Nat.le_of_ble_eq_true rfl)) dX1_makeSteps_15 ⟨Nat.le_of_ble_eq_true rfl, Nat.le_of_ble_eq_true rfl⟩) hP hD hS hA [0, 1, 2, 3, 4, 5] [] [0, 1, 2, 3, 4, 5] (wr := []) (w2 := [(m0, .inr (1, [.ref r0, .ref c0, .ref s0, .ref p0, .int (nI (mStep f k y).2.2.2.1), .int ((mStep f k y).2.2.2.2.1), .int (nI (mStep f k y).2.2.2.2.2)])), (r0, .inl (cA, 4, .inl ((mStep f k y).1))), (c0, .inl (cA, 16, .inl ((mStep f k y).2.1))), (s0, .inl (cA, 8, .inl ((mStep f k y).2.2.1))), (p0, .inr (2, [.ref a0, .int (nI mo), .int (nI k)])), (a0, .inl (cA, N, .inl f))]) rfl rfl (by decide) (by decide) (by decide) rfl (fun H locs hP hD hS => ?_)
          refine lv_iinc (v := (nI (i + 1))) (lv' := [(2, .int (nI (i + 1))), (0, .ref m0), (1, .int (nI nn))]) hx hb dX1_makeSteps_18 hl (k := 2) rfl (jn_a1 i) (by decide) rfl (fun ls hl => ?_)
          refine lv_goto (tgt := 2) hx hb dX1_makeSteps_21 (by decide) ?_
          exact ih2 (mStep f k y) (i + 1) (by omega) (by omega) (mStep_lt hwf (hy c_11)) (by have := mStep_w f k y; omega) (mRun_next hlt hrun c_11) _ _ (jP_sub (w2 := [(m0, .inr (1, [.ref r0, .ref c0, .ref s0, .ref p0, .int (nI (mStep f k y).2.2.2.1), .int ((mStep f k y).2.2.2.2.1), .int (nI (mStep f k y).2.2.2.2.2)])), (r0, .inl (cA, 4, .inl ((mStep f k y).1))), (c0, .inl (cA, 16, .inl ((mStep f k y).2.1))), (s0, .inl (cA, 8, .inl ((mStep f k y).2.2.1))), (p0, .inr (2, [.ref a0, .int (nI mo), .int (nI k)])), (a0, .inl (cA, N, .inl f))]) hP [0, 1, 2, 3, 4, 5] rfl) (hD.sub (ws' := [(m0, .inr (1, [.ref r0, .ref c0, .ref s0, .ref p0, .int (nI (mStep f k y).2.2.2.1), .int ((mStep f k y).2.2.2.2.1), .int (nI (mStep f k y).2.2.2.2.2)])), (r0, .inl (cA, 4, .inl ((mStep f k y).1))), (c0, .inl (cA, 16, .inl ((mStep f k y).2.1))), (s0, .inl (cA, 8, .inl ((mStep f k y).2.2.1))), (p0, .inr (2, [.ref a0, .int (nI mo), .int (nI k)])), (a0, .inl (cA, N, .inl f))]) [0, 1, 2, 3, 4, 5] (by decide) rfl) hS ls (lv_sub hl [1, 2, 0] rfl)
  exact loop2 (nn + 1) x 0 (by omega) (by omega) hi (by omega) (by simp) _ _ (jP_sub (w2 := [(m0, .inr (1, [.ref r0, .ref c0, .ref s0, .ref p0, .int (nI x.2.2.2.1), .int x.2.2.2.2.1, .int (nI x.2.2.2.2.2)])), (r0, .inl (cA, 4, .inl x.1)), (c0, .inl (cA, 16, .inl x.2.1)), (s0, .inl (cA, 8, .inl x.2.2.1)), (p0, .inr (2, [.ref a0, .int (nI mo), .int (nI k)])), (a0, .inl (cA, N, .inl f))]) hP [0, 1, 2, 3, 4, 5] rfl) (hD.sub (ws' := [(m0, .inr (1, [.ref r0, .ref c0, .ref s0, .ref p0, .int (nI x.2.2.2.1), .int x.2.2.2.2.1, .int (nI x.2.2.2.2.2)])), (r0, .inl (cA, 4, .inl x.1)), (c0, .inl (cA, 16, .inl x.2.1)), (s0, .inl (cA, 8, .inl x.2.2.1)), (p0, .inr (2, [.ref a0, .int (nI mo), .int (nI k)])), (a0, .inl (cA, N, .inl f))]) [0, 1, 2, 3, 4, 5] (by decide) rfl) hS ls (lv_sub hl [1, 2, 0] rfl)
