/-! ===== Edges ===== -/
def jAt (f : Nat → Int32) (n x : Int32) : Int32 := if jIn x n then f x.toNatClampNeg else 0
def jPut (f : Nat → Int32) (n x v : Int32) : Nat → Int32 := if jIn x n then upd f x.toNatClampNeg v else f
theorem jAt_no {f : Nat → Int32} {n x : Int32} (h : ¬ jIn x n) : jAt f n x = 0 := if_neg h
theorem jPut_no {f : Nat → Int32} {n x v : Int32} (h : ¬ jIn x n) : jPut f n x v = f := if_neg h
theorem jAt_n {f : Nat → Int32} {j n : Nat} (hj : j < n) (hn : n < 2 ^ 31) : jAt f (nI n) (nI j) = f j := by
  unfold jAt
  rw [if_pos ((jIn_n hn).mpr hj).1, nI_clamp (by omega)]
theorem jPut_n {f : Nat → Int32} {j n : Nat} {v : Int32} (hj : j < n) (hn : n < 2 ^ 31) : jPut f (nI n) (nI j) v = upd f j v := by
  unfold jPut
  rw [if_pos ((jIn_n hn).mpr hj).1, nI_clamp (by omega)]
def jMax (x y : Int32) : Int32 := if x < y then y else x
def jMin (x y : Int32) : Int32 := if y < x then y else x
/-- renumbered up to n -/
def jRen (f : Nat → Int32) (g k : Int32) (n : Nat) : Nat → Int32 := fun i => if i < n ∧ f i = g then k else f i
theorem jRen_0 (f : Nat → Int32) (g k : Int32) : f = jRen f g k 0 := by
  funext i; unfold jRen; rw [if_neg (by omega)]
theorem jRen_at {f : Nat → Int32} {g k : Int32} {n : Nat} : jRen f g k n n = f n := by
  unfold jRen; rw [if_neg (by omega)]
theorem jRen_y {f : Nat → Int32} {g k : Int32} {n : Nat} (h : f n = g) : upd (jRen f g k n) n k = jRen f g k (n + 1) := by
  funext i
  unfold upd jRen
  by_cases h1 : i = n
  · subst h1; rw [if_pos rfl, if_pos ⟨by omega, h⟩]
  · rw [if_neg h1]
    by_cases h2 : i < n ∧ f i = g
    · rw [if_pos h2, if_pos ⟨by omega, h2.2⟩]
    · rw [if_neg h2, if_neg (fun q => h2 ⟨by omega, q.2⟩)]
theorem jRen_n {f : Nat → Int32} {g k : Int32} {n : Nat} (h : ¬ f n = g) : jRen f g k n = jRen f g k (n + 1) := by
  funext i
  unfold jRen
  by_cases h2 : i < n ∧ f i = g
  · rw [if_pos h2, if_pos ⟨by omega, h2.2⟩]
  · rw [if_neg h2, if_neg (fun q => h2 ⟨by
      rcases Nat.lt_or_ge i n with h3 | h3
      · exact h3
      · have : i = n := by omega
        subst this; exact absurd q.2 h, q.2⟩)]
abbrev eBit (t : Nat) : Int32 := (1 : Int32) <<< (nI t &&& 31)
abbrev eOk (tg : Nat → Int32) (ec j t : Nat) : Prop := ec < 48 ∧ (tg j &&& eBit t) = 0
def eT1 (tn : Nat → Int32) (t : Nat) : Nat → Int32 := if tn t = 0 then upd tn t (nI (t + 1)) else tn
def eTn (tn jn : Nat → Int32) (j t : Nat) : Nat → Int32 := if jn j = 0 then tn else jRen tn (jMax (jn j) (tn t)) (jMin (jn j) (tn t)) 24
def eJn (tn jn : Nat → Int32) (j t : Nat) : Nat → Int32 := if jn j = 0 then upd jn j (tn t) else jRen jn (jMax (jn j) (tn t)) (jMin (jn j) (tn t)) 24
theorem iw_X0_connect_X0 : ∀ w ∈ wsX00, w ∈ wsX0_connect := by decide +kernel
theorem iw_X0_joinClasses_X0 : ∀ w ∈ wsX00, w ∈ wsX0_joinClasses := by decide +kernel
theorem iw_X0_numberOfJump_X0 : ∀ w ∈ wsX00, w ∈ wsX0_numberOfJump := by decide +kernel
theorem iw_X0_numberOfTarget_X0 : ∀ w ∈ wsX00, w ∈ wsX0_numberOfTarget := by decide +kernel
theorem hv_X0_joinClasses : yX0_joinClasses.cls = RX0 ∧ yX0_joinClasses.cls ≠ "java/lang/invoke/MethodHandle" ∧ yX0_joinClasses.cls ≠ "java/lang/invoke/VarHandle" ∧ (parseMethodDescriptor yX0_joinClasses.desc).map (fun d => d.parameters.length) = some 2 := by decide +kernel
theorem hv_X0_numberOfJump : yX0_numberOfJump.cls = RX0 ∧ yX0_numberOfJump.cls ≠ "java/lang/invoke/MethodHandle" ∧ yX0_numberOfJump.cls ≠ "java/lang/invoke/VarHandle" ∧ (parseMethodDescriptor yX0_numberOfJump.desc).map (fun d => d.parameters.length) = some 1 := by decide +kernel
theorem hv_X0_numberOfTarget : yX0_numberOfTarget.cls = RX0 ∧ yX0_numberOfTarget.cls ≠ "java/lang/invoke/MethodHandle" ∧ yX0_numberOfTarget.cls ≠ "java/lang/invoke/VarHandle" ∧ (parseMethodDescriptor yX0_numberOfTarget.desc).map (fun d => d.parameters.length) = some 1 := by decide +kernel
theorem hv_X0_renumber : yX0_renumber.cls = RX0 ∧ yX0_renumber.cls ≠ "java/lang/invoke/MethodHandle" ∧ yX0_renumber.cls ≠ "java/lang/invoke/VarHandle" ∧ (parseMethodDescriptor yX0_renumber.desc).map (fun d => d.parameters.length) = some 3 := by decide +kernel
theorem hv_X3_isAddress : yX3_isAddress.cls = RX3 ∧ yX3_isAddress.cls ≠ "java/lang/invoke/MethodHandle" ∧ yX3_isAddress.cls ≠ "java/lang/invoke/VarHandle" ∧ (parseMethodDescriptor yX3_isAddress.desc).map (fun d => d.parameters.length) = some 1 := by decide +kernel
set_option maxHeartbeats 4000000 in
set_option maxRecDepth 100000 in
theorem c_X0_numberOfTarget (l : Launch) (D : va_G) (cA : ClassId) (e0 : Nat) (t0 : Nat) (n0 : Nat) (j0 : Nat) (ec : Nat) (tn : Nat → Int32) (x : Int32) : Met l yX0_numberOfTarget wsX0_numberOfTarget ({ frames := 1, cells := 0, slots := 0, locals := 20 }) (roP D cA [.ref e0, .int x] [(e0, .inr (0, [.ref t0, .ref n0, .ref j0, .int (nI ec)])), (n0, .inl (cA, 24, .inl tn))]) (QcRead (jAt tn 24 x)) 0 0 (fun _ => False) := by
  refine Met.ofW (cc := cX0_numberOfTarget) (maxL := 2) (ret := (some .int)) (by decide) rfl ?_
  intro p e s m args below meth c s₁ B hml hv
  obtain ⟨rfl, hP, hK, hN⟩ := hv
  have hx := B.exec
  have hb := B.bytes
  have hr := B.returns
  have hts := atoms_spec (ws := wsX0_numberOfTarget) B.pre
  have hown : s.vm.findClass RX0 = some m.cls := findClass_of_methodNamed B.named
  have hlocks := B.notSynchronized
  have hl := lv_entry ([.ref e0, .int x]) (n := 2) (Nat.le_of_ble_eq_true rfl)
  rw [lg_entry_eq]
  generalize (lg_sl ([.ref e0, .int x]) ++ List.replicate (2 - (lg_sl ([.ref e0, .int x])).length) Slot.unset).toArray = ls at hl ⊢
  have hl : lv_has ls 2 [(0, .ref e0), (1, .int x)] := hl
  refine lv_iload_n hx hb dX0_numberOfTarget_0 rfl (lv_at hl 1 rfl) ?_
  refine jr_i (va_runSN (As := [.int x]) (rest := []) ⟨hx, hb, hml, hown, hts⟩ (c_X3_isAddress l D cA x) ⟨(va_cnB 1 hts gX0_numberOfTarget_X3_isAddress_n21 rfl rfl rfl hN.2.2.2.2.2.1 (hts (.initialized RX3) (List.mem_of_getElem? (l := wsX0_numberOfTarget) (i := 3) rfl)) hv_X3_isAddress.2 ⟨Nat.le_of_ble_eq_true rfl, Nat.le_of_ble_eq_true rfl⟩), (hts (.static yX3_isAddress) (List.mem_of_getElem? (l := wsX0_numberOfTarget) (i := 2) rfl)), trivial⟩ (roP.S (av := [.int x]) (jP_sub (w2 := []) hP [] rfl) hK hN) rfl rfl hl.1 rfl (lv_room (Nat.le_of_ble_eq_true rfl)) dX0_numberOfTarget_1 ⟨Nat.le_of_ble_eq_true rfl, Nat.le_of_ble_eq_true rfl⟩) ?_
  refine lv_if_eq (tgt := 16) hx hb dX0_numberOfTarget_4 (by decide) (fun c_4 => ?_) (fun c_4 => ?_)
  · replace c_4 := jB_z.mp c_4
    refine lv_iconst (v := 0) hx hb dX0_numberOfTarget_16 (by decide) ?_
    exact W.iret (v := 0) hx hb hr (fun t9 ht9 hW9 => ⟨jk_ret (show 0 = (jAt tn 24 x) from (jAt_no c_4).symm), ht9⟩) (fun q h => absurd h List.not_mem_nil) dX0_numberOfTarget_17
  · replace c_4 := jB_nz.mp c_4
    obtain ⟨j, hj, rfl⟩ := jN_of (n := 24) (by decide) c_4
    refine lv_aload_n hx hb dX0_numberOfTarget_7 rfl (lv_at hl 0 rfl) ?_
    refine va_get (D := D) (ci := 0) (v := .ref n0) (C := RX0) (T := TX0) (N := 4) hx hb hts iw_X0_numberOfTarget_X0 hown hK hP 0 rfl rfl 1 (by decide) (hts (.fieldLink RX0 15 "JumpGuard$Edges" "targetNumbers" "[I") (List.mem_of_getElem? (l := wsX0_numberOfTarget) (i := 1) rfl)) (fun _ h9 => h9) rfl dX0_numberOfTarget_8 ?_
    refine lv_iload_n hx hb dX0_numberOfTarget_11 rfl (lv_at hl 1 rfl) ?_
    refine jk_ald hx hb hK hP 1 0 rfl rfl (k := j) rfl (by omega) (by omega) dX0_numberOfTarget_12 ?_
    refine lv_goto (tgt := 17) hx hb dX0_numberOfTarget_13 (by decide) ?_
    exact W.iret (v := (tn j)) hx hb hr (fun t9 ht9 hW9 => ⟨jk_ret (show (tn j) = (jAt tn 24 (nI j)) from (jAt_n (n := 24) hj (by decide)).symm), ht9⟩) (fun q h => absurd h List.not_mem_nil) dX0_numberOfTarget_17
set_option maxHeartbeats 4000000 in
set_option maxRecDepth 100000 in
theorem c_X0_numberOfJump (l : Launch) (D : va_G) (cA : ClassId) (e0 : Nat) (t0 : Nat) (n0 : Nat) (j0 : Nat) (ec : Nat) (jn : Nat → Int32) (x : Int32) : Met l yX0_numberOfJump wsX0_numberOfJump ({ frames := 1, cells := 0, slots := 0, locals := 20 }) (roP D cA [.ref e0, .int x] [(e0, .inr (0, [.ref t0, .ref n0, .ref j0, .int (nI ec)])), (j0, .inl (cA, 24, .inl jn))]) (QcRead (jAt jn 24 x)) 0 0 (fun _ => False) := by
  refine Met.ofW (cc := cX0_numberOfJump) (maxL := 2) (ret := (some .int)) (by decide) rfl ?_
  intro p e s m args below meth c s₁ B hml hv
  obtain ⟨rfl, hP, hK, hN⟩ := hv
  have hx := B.exec
  have hb := B.bytes
  have hr := B.returns
  have hts := atoms_spec (ws := wsX0_numberOfJump) B.pre
  have hown : s.vm.findClass RX0 = some m.cls := findClass_of_methodNamed B.named
  have hlocks := B.notSynchronized
  have hl := lv_entry ([.ref e0, .int x]) (n := 2) (Nat.le_of_ble_eq_true rfl)
  rw [lg_entry_eq]
  generalize (lg_sl ([.ref e0, .int x]) ++ List.replicate (2 - (lg_sl ([.ref e0, .int x])).length) Slot.unset).toArray = ls at hl ⊢
  have hl : lv_has ls 2 [(0, .ref e0), (1, .int x)] := hl
  refine lv_iload_n hx hb dX0_numberOfJump_0 rfl (lv_at hl 1 rfl) ?_
  refine jr_i (va_runSN (As := [.int x]) (rest := []) ⟨hx, hb, hml, hown, hts⟩ (c_X3_isAddress l D cA x) ⟨(va_cnB 1 hts gX0_numberOfJump_X3_isAddress_n21 rfl rfl rfl hN.2.2.2.2.2.1 (hts (.initialized RX3) (List.mem_of_getElem? (l := wsX0_numberOfJump) (i := 3) rfl)) hv_X3_isAddress.2 ⟨Nat.le_of_ble_eq_true rfl, Nat.le_of_ble_eq_true rfl⟩), (hts (.static yX3_isAddress) (List.mem_of_getElem? (l := wsX0_numberOfJump) (i := 2) rfl)), trivial⟩ (roP.S (av := [.int x]) (jP_sub (w2 := []) hP [] rfl) hK hN) rfl rfl hl.1 rfl (lv_room (Nat.le_of_ble_eq_true rfl)) dX0_numberOfJump_1 ⟨Nat.le_of_ble_eq_true rfl, Nat.le_of_ble_eq_true rfl⟩) ?_
  refine lv_if_eq (tgt := 16) hx hb dX0_numberOfJump_4 (by decide) (fun c_4 => ?_) (fun c_4 => ?_)
  · replace c_4 := jB_z.mp c_4
    refine lv_iconst (v := 0) hx hb dX0_numberOfJump_16 (by decide) ?_
    exact W.iret (v := 0) hx hb hr (fun t9 ht9 hW9 => ⟨jk_ret (show 0 = (jAt jn 24 x) from (jAt_no c_4).symm), ht9⟩) (fun q h => absurd h List.not_mem_nil) dX0_numberOfJump_17
  · replace c_4 := jB_nz.mp c_4
    obtain ⟨j, hj, rfl⟩ := jN_of (n := 24) (by decide) c_4
    refine lv_aload_n hx hb dX0_numberOfJump_7 rfl (lv_at hl 0 rfl) ?_
    refine va_get (D := D) (ci := 0) (v := .ref j0) (C := RX0) (T := TX0) (N := 4) hx hb hts iw_X0_numberOfJump_X0 hown hK hP 0 rfl rfl 2 (by decide) (hts (.fieldLink RX0 18 "JumpGuard$Edges" "jumpNumbers" "[I") (List.mem_of_getElem? (l := wsX0_numberOfJump) (i := 1) rfl)) (fun _ h9 => h9) rfl dX0_numberOfJump_8 ?_
    refine lv_iload_n hx hb dX0_numberOfJump_11 rfl (lv_at hl 1 rfl) ?_
    refine jk_ald hx hb hK hP 1 0 rfl rfl (k := j) rfl (by omega) (by omega) dX0_numberOfJump_12 ?_
    refine lv_goto (tgt := 17) hx hb dX0_numberOfJump_13 (by decide) ?_
    exact W.iret (v := (jn j)) hx hb hr (fun t9 ht9 hW9 => ⟨jk_ret (show (jn j) = (jAt jn 24 (nI j)) from (jAt_n (n := 24) hj (by decide)).symm), ht9⟩) (fun q h => absurd h List.not_mem_nil) dX0_numberOfJump_17
set_option maxHeartbeats 4000000 in
set_option maxRecDepth 100000 in
theorem c_X0_renumber (l : Launch) (D : va_G) (cA : ClassId) (sz : Nat) (a0 : Nat) (f : Nat → Int32) (g : Int32) (k : Int32) : Met l yX0_renumber wsX0_renumber ({ frames := 0, cells := 0, slots := 0, locals := 0 }) (rwP D cA [.ref a0, .int g, .int k] sz [(a0, .inl (cA, 24, .inl f))]) (rwV D (va_A [(a0, .inl (cA, 24, .inl f))] sz) [(a0, .inl (cA, 24, .inl (jRen f g k 24)))]) 0 0 (va_A [(a0, .inl (cA, 24, .inl f))] sz) := by
  refine Met.ofW (cc := cX0_renumber) (maxL := 4) (ret := none) (by decide) rfl ?_
  intro p e s m args below meth c s₁ B hml hv
  obtain ⟨rfl, hsz, hP, hK, hN, hD0⟩ := hv
  have hx := B.exec
  have hb := B.bytes
  have hr := B.returns
  have hts := atoms_spec (ws := wsX0_renumber) B.pre
  have hown : s.vm.findClass RX0 = some m.cls := findClass_of_methodNamed B.named
  have hlocks := B.notSynchronized
  subst hsz
  have hD := hD0.self (sz := s.heap.size)
  generalize hAe : va_A [(a0, .inl (cA, 24, .inl f))] s.heap.size = A at hD ⊢
  have hA : ∀ q : Nat, s.heap.size ≤ q → A q := fun q h => by rw [← hAe]; exact Or.inr h
  have hS : va_S A s.heap s.heap [] := va_S.rf
  have hl := lv_entry ([.ref a0, .int g, .int k]) (n := 4) (Nat.le_of_ble_eq_true rfl)
  rw [lg_entry_eq]
  generalize (lg_sl ([.ref a0, .int g, .int k]) ++ List.replicate (4 - (lg_sl ([.ref a0, .int g, .int k])).length) Slot.unset).toArray = ls at hl ⊢
  have hl : lv_has ls 4 [(0, .ref a0), (1, .int g), (2, .int k)] := hl
  refine lv_iconst (v := 0) hx hb dX0_renumber_0 (by decide) ?_
  refine lv_istore_n (lv' := [(3, .int 0), (0, .ref a0), (1, .int g), (2, .int k)]) hx hb dX0_renumber_1 rfl hl (by decide) rfl (fun ls hl => ?_)
  have loop2 : ∀ (n : Nat) (i : Nat) (F : Nat → Int32), (i ≤ 24) → (25 ≤ i + n) → (F = jRen f g k i) → ∀ (H : Heap) (locs : List Loc), va_P D vwCl [(a0, .inl (cA, 24, .inl F))] H → va_D A [(a0, .inl (cA, 24, .inl F))] → va_S A s.heap H locs → ∀ (ls : Array Slot), lv_has ls 4 [(0, .ref a0), (1, .int g), (2, .int k), (3, .int (nI i))] → W p l e (headSpec wsX0_renumber ({ frames := 0, cells := 0, slots := 0, locals := 0 })).room s m ([.ref a0, .int g, .int k] : List Value).toArray below meth c H locs 0 0 (MQ below (rwV D A [(a0, .inl (cA, 24, .inl (jRen f g k 24)))]) ([.ref a0, .int g, .int k] : List Value).toArray s 0 0 A) (F0 m 2 ls []) := by
    intro n
    induction n with
    | zero => intro i F hi hfu hF; exact absurd hfu (by omega)
    | succ n ih2 =>
      intro i F hi hfu hF H locs hP hD hS ls hl
      refine lv_iload_n hx hb dX0_renumber_2 rfl (lv_at hl 3 rfl) ?_
      refine lv_aload_n hx hb dX0_renumber_3 rfl (lv_at hl 0 rfl) ?_
      refine va_alen (v := nI 24) hx hb hK hP 0 0 rfl rfl rfl dX0_renumber_4 ?_
      refine lv_icmp_ge (tgt := 25) hx hb dX0_renumber_5 (by decide) (fun c_5 => ?_) (fun c_5 => ?_)
      · have hi2 : i = 24 := by
          rcases Nat.lt_or_ge i 24 with q | q
          · exact absurd c_5 (nI_ge q (by decide))
          · omega
        subst hi2
        obtain ⟨hP9, hD9⟩ := jk_end (w2 := [(a0, .inl (cA, 24, .inl F))]) hP hD [0] (by decide) rfl
        have e9 : ([(a0, .inl (cA, 24, .inl F))] : va_W) = [(a0, .inl (cA, 24, .inl (jRen f g k 24)))] := (by rw [hF])
        rw [e9] at hP9 hD9
        exact W.vret hx hb hr (fun t9 ht9 hW9 => ⟨⟨(), rfl, trivial, by rw [ht9]; exact hP9, hD9⟩, hS.F ht9⟩) hS.2.2 dX0_renumber_25
      · have hi2 : i < 24 := by
          rcases Nat.lt_or_ge i 24 with q | q
          · exact q
          · exact absurd (nI_le q (by omega)) c_5
        refine lv_aload_n hx hb dX0_renumber_8 rfl (lv_at hl 0 rfl) ?_
        refine lv_iload_n hx hb dX0_renumber_9 rfl (lv_at hl 3 rfl) ?_
        refine jk_ald hx hb hK hP 0 0 rfl rfl (k := i) rfl (by omega) (by omega) dX0_renumber_10 ?_
        refine lv_iload_n hx hb dX0_renumber_11 rfl (lv_at hl 1 rfl) ?_
        refine lv_icmp_ne (tgt := 19) hx hb dX0_renumber_12 (by decide) (fun c_12 => ?_) (fun c_12 => ?_)
        · refine lv_iinc (v := (nI (i + 1))) (lv' := [(3, .int (nI (i + 1))), (0, .ref a0), (1, .int g), (2, .int k)]) hx hb dX0_renumber_19 hl (k := 3) rfl (jn_a1 i) (by decide) rfl (fun ls hl => ?_)
          refine lv_goto (tgt := 2) hx hb dX0_renumber_22 (by decide) ?_
          exact ih2 (i + 1) F (by omega) (by omega) (by first | (subst hF; rw [jRen_at] at c_12; exact jRen_y c_12) | (subst hF; rw [jRen_at] at c_12; exact jRen_n c_12)) _ _ (jP_sub (w2 := [(a0, .inl (cA, 24, .inl F))]) hP [0] rfl) (hD.sub (ws' := [(a0, .inl (cA, 24, .inl F))]) [0] (by decide) rfl) hS ls (lv_sub hl [1, 2, 3, 0] rfl)
        · refine lv_aload_n hx hb dX0_renumber_15 rfl (lv_at hl 0 rfl) ?_
          refine lv_iload_n hx hb dX0_renumber_16 rfl (lv_at hl 3 rfl) ?_
          refine lv_iload_n hx hb dX0_renumber_17 rfl (lv_at hl 2 rfl) ?_
          refine jk_ast hx hb hK hP hD hS 0 0 rfl rfl (k := i) rfl (by omega) (by omega) dX0_renumber_18 (fun H locs hP hD hS => ?_)
          have hP : va_P D vwCl [(a0, .inl (cA, 24, .inl (upd F i k)))] H := hP
          have hD : va_D A [(a0, .inl (cA, 24, .inl (upd F i k)))] := hD
          refine lv_iinc (v := (nI (i + 1))) (lv' := [(3, .int (nI (i + 1))), (0, .ref a0), (1, .int g), (2, .int k)]) hx hb dX0_renumber_19 hl (k := 3) rfl (jn_a1 i) (by decide) rfl (fun ls hl => ?_)
          refine lv_goto (tgt := 2) hx hb dX0_renumber_22 (by decide) ?_
          exact ih2 (i + 1) (upd F i k) (by omega) (by omega) (by first | (subst hF; rw [jRen_at] at c_12; exact jRen_y c_12) | (subst hF; rw [jRen_at] at c_12; exact jRen_n c_12)) _ _ (jP_sub (w2 := [(a0, .inl (cA, 24, .inl (upd F i k)))]) hP [0] rfl) (hD.sub (ws' := [(a0, .inl (cA, 24, .inl (upd F i k)))]) [0] (by decide) rfl) hS ls (lv_sub hl [1, 2, 3, 0] rfl)
  exact loop2 25 0 f (by omega) (by omega) (jRen_0 f g k) _ _ (jP_sub (w2 := [(a0, .inl (cA, 24, .inl f))]) hP [0] rfl) (hD.sub (ws' := [(a0, .inl (cA, 24, .inl f))]) [0] (by decide) rfl) hS ls (lv_sub hl [1, 2, 3, 0] rfl)
set_option maxHeartbeats 4000000 in
set_option maxRecDepth 100000 in
theorem c_X0_joinClasses (l : Launch) (D : va_G) (cA : ClassId) (sz : Nat) (e0 : Nat) (t0 : Nat) (n0 : Nat) (j0 : Nat) (ec : Nat) (tn : Nat → Int32) (jn : Nat → Int32) (j : Nat) (t : Nat) (hj : j < 24) (ht : t < 24) : Met l yX0_joinClasses wsX0_joinClasses ({ frames := 2, cells := 0, slots := 0, locals := 41 }) (rwP D cA [.ref e0, .int (nI j), .int (nI t)] sz [(e0, .inr (0, [.ref t0, .ref n0, .ref j0, .int (nI ec)])), (n0, .inl (cA, 24, .inl tn)), (j0, .inl (cA, 24, .inl jn))]) (rwV D (va_A [(e0, .inr (0, [.ref t0, .ref n0, .ref j0, .int (nI ec)])), (n0, .inl (cA, 24, .inl tn)), (j0, .inl (cA, 24, .inl jn))] sz) [(e0, .inr (0, [.ref t0, .ref n0, .ref j0, .int (nI ec)])), (n0, .inl (cA, 24, .inl (eTn tn jn j t))), (j0, .inl (cA, 24, .inl (eJn tn jn j t)))]) 0 0 (va_A [(e0, .inr (0, [.ref t0, .ref n0, .ref j0, .int (nI ec)])), (n0, .inl (cA, 24, .inl tn)), (j0, .inl (cA, 24, .inl jn))] sz) := by
  refine Met.ofW (cc := cX0_joinClasses) (maxL := 7) (ret := none) (by decide) rfl ?_
  intro p e s m args below meth c s₁ B hml hv
  obtain ⟨rfl, hsz, hP, hK, hN, hD0⟩ := hv
  have hx := B.exec
  have hb := B.bytes
  have hr := B.returns
  have hts := atoms_spec (ws := wsX0_joinClasses) B.pre
  have hown : s.vm.findClass RX0 = some m.cls := findClass_of_methodNamed B.named
  have hlocks := B.notSynchronized
  subst hsz
  have hD := hD0.self (sz := s.heap.size)
  generalize hAe : va_A [(e0, .inr (0, [.ref t0, .ref n0, .ref j0, .int (nI ec)])), (n0, .inl (cA, 24, .inl tn)), (j0, .inl (cA, 24, .inl jn))] s.heap.size = A at hD ⊢
  have hA : ∀ q : Nat, s.heap.size ≤ q → A q := fun q h => by rw [← hAe]; exact Or.inr h
  have hS : va_S A s.heap s.heap [] := va_S.rf
  have hl := lv_entry ([.ref e0, .int (nI j), .int (nI t)]) (n := 7) (Nat.le_of_ble_eq_true rfl)
  rw [lg_entry_eq]
  generalize (lg_sl ([.ref e0, .int (nI j), .int (nI t)]) ++ List.replicate (7 - (lg_sl ([.ref e0, .int (nI j), .int (nI t)])).length) Slot.unset).toArray = ls at hl ⊢
  have hl : lv_has ls 7 [(0, .ref e0), (1, .int (nI j)), (2, .int (nI t))] := hl
  refine lv_aload_n hx hb dX0_joinClasses_0 rfl (lv_at hl 0 rfl) ?_
  refine lv_iload_n hx hb dX0_joinClasses_1 rfl (lv_at hl 1 rfl) ?_
  refine jr_i (va_runV (As := [.int (nI j)]) (rest := []) ⟨hx, hb, hml, hown, hts⟩ (c_X0_numberOfJump l D cA e0 t0 n0 j0 ec jn (nI j)) (cwV 1 hts gX0_joinClasses_X0_numberOfJump rfl rfl rfl hv_X0_numberOfJump ⟨Nat.le_of_ble_eq_true rfl, Nat.le_of_ble_eq_true rfl⟩) (roP.V (va_recv hK hP (ci := 0) (q0 := 0) rfl rfl) (jP_sub (w2 := [(e0, .inr (0, [.ref t0, .ref n0, .ref j0, .int (nI ec)])), (j0, .inl (cA, 24, .inl jn))]) hP [0, 2] rfl) hK hN) rfl rfl hl.1 rfl (lv_room (Nat.le_of_ble_eq_true rfl)) dX0_joinClasses_2 ⟨Nat.le_of_ble_eq_true rfl, Nat.le_of_ble_eq_true rfl⟩) ?_
  refine jk_top (show (jAt jn 24 (nI j)) = (jn j) from jAt_n (n := 24) hj (by decide)) ?_
  refine lv_istore_n (lv' := [(3, .int (jn j)), (0, .ref e0), (1, .int (nI j)), (2, .int (nI t))]) hx hb dX0_joinClasses_5 rfl hl (by decide) rfl (fun ls hl => ?_)
  refine lv_aload_n hx hb dX0_joinClasses_6 rfl (lv_at hl 1 rfl) ?_
  refine lv_iload_n hx hb dX0_joinClasses_7 rfl (lv_at hl 3 rfl) ?_
  refine jr_i (va_runV (As := [.int (nI t)]) (rest := []) ⟨hx, hb, hml, hown, hts⟩ (c_X0_numberOfTarget l D cA e0 t0 n0 j0 ec tn (nI t)) (cwV 1 hts gX0_joinClasses_X0_numberOfTarget rfl rfl rfl hv_X0_numberOfTarget ⟨Nat.le_of_ble_eq_true rfl, Nat.le_of_ble_eq_true rfl⟩) (roP.V (va_recv hK hP (ci := 0) (q0 := 0) rfl rfl) (jP_sub (w2 := [(e0, .inr (0, [.ref t0, .ref n0, .ref j0, .int (nI ec)])), (n0, .inl (cA, 24, .inl tn))]) hP [0, 1] rfl) hK hN) rfl rfl hl.1 rfl (lv_room (Nat.le_of_ble_eq_true rfl)) dX0_joinClasses_8 ⟨Nat.le_of_ble_eq_true rfl, Nat.le_of_ble_eq_true rfl⟩) ?_
  refine jk_top (show (jAt tn 24 (nI t)) = (tn t) from jAt_n (n := 24) ht (by decide)) ?_
  refine lv_istore (lv' := [(4, .int (tn t)), (3, .int (jn j)), (0, .ref e0), (1, .int (nI j)), (2, .int (nI t))]) hx hb dX0_joinClasses_11 hl (by decide) rfl (fun ls hl => ?_)
  refine lv_iload_n hx hb dX0_joinClasses_13 rfl (lv_at hl 1 rfl) ?_
  refine lv_if_ne (tgt := 26) hx hb dX0_joinClasses_14 (by decide) (fun c_14 => ?_) (fun c_14 => ?_)
  · refine lv_iload_n hx hb dX0_joinClasses_26 rfl (lv_at hl 1 rfl) ?_
    refine lv_iload hx hb dX0_joinClasses_27 (lv_at hl 0 rfl) ?_
    refine va_mmin hx hb (by rw [hml]; exact hl.1.symm) hown (hts (.methodLink RX0 40 Lib.Math.min.name) (List.mem_of_getElem? (l := wsX0_joinClasses) (i := 2) rfl)) (hts (.static Lib.Math.min.name) (List.mem_of_getElem? (l := wsX0_joinClasses) (i := 3) rfl)) (hts (.initialized "java/lang/Math") (List.mem_of_getElem? (l := wsX0_joinClasses) (i := 4) rfl)) (hts (.code Lib.Math.min.name Lib.Math.min.code 2 (some .int)) (List.mem_of_getElem? (l := wsX0_joinClasses) (i := 5) rfl)) (Nat.le_of_ble_eq_true rfl) (Nat.le_of_ble_eq_true rfl) (Nat.le_of_ble_eq_true rfl) (Nat.le_of_ble_eq_true rfl) dX0_joinClasses_29 ?_
    refine lv_istore (lv' := [(5, .int (jMin (jn j) (tn t))), (4, .int (tn t)), (3, .int (jn j)), (0, .ref e0), (1, .int (nI j)), (2, .int (nI t))]) hx hb dX0_joinClasses_32 hl (by decide) rfl (fun ls hl => ?_)
    refine lv_iload_n hx hb dX0_joinClasses_34 rfl (lv_at hl 2 rfl) ?_
    refine lv_iload hx hb dX0_joinClasses_35 (lv_at hl 1 rfl) ?_
    refine va_mmax hx hb (by rw [hml]; exact hl.1.symm) hown (hts (.methodLink RX0 46 Lib.Math.max.name) (List.mem_of_getElem? (l := wsX0_joinClasses) (i := 6) rfl)) (hts (.static Lib.Math.max.name) (List.mem_of_getElem? (l := wsX0_joinClasses) (i := 7) rfl)) (hts (.initialized "java/lang/Math") (List.mem_of_getElem? (l := wsX0_joinClasses) (i := 4) rfl)) (hts (.code Lib.Math.max.name Lib.Math.max.code 2 (some .int)) (List.mem_of_getElem? (l := wsX0_joinClasses) (i := 8) rfl)) (Nat.le_of_ble_eq_true rfl) (Nat.le_of_ble_eq_true rfl) (Nat.le_of_ble_eq_true rfl) (Nat.le_of_ble_eq_true rfl) dX0_joinClasses_37 ?_
    refine lv_istore (lv' := [(6, .int (jMax (jn j) (tn t))), (5, .int (jMin (jn j) (tn t))), (4, .int (tn t)), (3, .int (jn j)), (0, .ref e0), (1, .int (nI j)), (2, .int (nI t))]) hx hb dX0_joinClasses_40 hl (by decide) rfl (fun ls hl => ?_)
    refine lv_aload_n hx hb dX0_joinClasses_42 rfl (lv_at hl 4 rfl) ?_
    refine va_get (D := D) (ci := 0) (v := .ref n0) (C := RX0) (T := TX0) (N := 4) hx hb hts iw_X0_joinClasses_X0 hown hK hP 0 rfl rfl 1 (by decide) (hts (.fieldLink RX0 15 "JumpGuard$Edges" "targetNumbers" "[I") (List.mem_of_getElem? (l := wsX0_joinClasses) (i := 9) rfl)) (fun _ h9 => h9) rfl dX0_joinClasses_43 ?_
    refine lv_iload hx hb dX0_joinClasses_46 (lv_at hl 0 rfl) ?_
    refine lv_iload hx hb dX0_joinClasses_48 (lv_at hl 1 rfl) ?_
    refine jw_v (va_runS (As := [.ref n0, .int (jMax (jn j) (tn t)), .int (jMin (jn j) (tn t))]) (rest := []) ⟨hx, hb, hml, hown, hts⟩ (c_X0_renumber l D cA s.heap.size n0 tn (jMax (jn j) (tn t)) (jMin (jn j) (tn t))) (va_cwS 3 hts gX0_joinClasses_X0_renumber rfl rfl rfl hv_X0_renumber.2 ⟨Nat.le_of_ble_eq_true rfl, Nat.le_of_ble_eq_true rfl⟩) (rwP.S (av := [.ref n0, .int (jMax (jn j) (tn t)), .int (jMin (jn j) (tn t))]) (wc := [(n0, .inl (cA, 24, .inl tn))]) hP hD hK hN [1] (by decide) rfl) rfl rfl hl.1 rfl (lv_room (Nat.le_of_ble_eq_true rfl)) dX0_joinClasses_50 ⟨Nat.le_of_ble_eq_true rfl, Nat.le_of_ble_eq_true rfl⟩) hP hD hS hA [1] [0, 2] [0, 2, 1] (wr := [(e0, .inr (0, [.ref t0, .ref n0, .ref j0, .int (nI ec)])), (j0, .inl (cA, 24, .inl jn))]) (w2 := [(e0, .inr (0, [.ref t0, .ref n0, .ref j0, .int (nI ec)])), (n0, .inl (cA, 24, .inl (jRen tn (jMax (jn j) (tn t)) (jMin (jn j) (tn t)) 24))), (j0, .inl (cA, 24, .inl jn))]) rfl rfl (by decide) (by decide) (by decide) rfl (fun H locs hP hD hS => ?_)
    refine lv_aload_n hx hb dX0_joinClasses_53 rfl (lv_at hl 4 rfl) ?_
    refine va_get (D := D) (ci := 0) (v := .ref j0) (C := RX0) (T := TX0) (N := 4) hx hb hts iw_X0_joinClasses_X0 hown hK hP 0 rfl rfl 2 (by decide) (hts (.fieldLink RX0 18 "JumpGuard$Edges" "jumpNumbers" "[I") (List.mem_of_getElem? (l := wsX0_joinClasses) (i := 1) rfl)) (fun _ h9 => h9) rfl dX0_joinClasses_54 ?_
    refine lv_iload hx hb dX0_joinClasses_57 (lv_at hl 0 rfl) ?_
    refine lv_iload hx hb dX0_joinClasses_59 (lv_at hl 1 rfl) ?_
    refine jw_v (va_runS (As := [.ref j0, .int (jMax (jn j) (tn t)), .int (jMin (jn j) (tn t))]) (rest := []) ⟨hx, hb, hml, hown, hts⟩ (c_X0_renumber l D cA H.size j0 jn (jMax (jn j) (tn t)) (jMin (jn j) (tn t))) (va_cwS 3 hts gX0_joinClasses_X0_renumber rfl rfl rfl hv_X0_renumber.2 ⟨Nat.le_of_ble_eq_true rfl, Nat.le_of_ble_eq_true rfl⟩) (rwP.S (av := [.ref j0, .int (jMax (jn j) (tn t)), .int (jMin (jn j) (tn t))]) (wc := [(j0, .inl (cA, 24, .inl jn))]) hP hD hK hN [2] (by decide) rfl) rfl rfl hl.1 rfl (lv_room (Nat.le_of_ble_eq_true rfl)) dX0_joinClasses_61 ⟨Nat.le_of_ble_eq_true rfl, Nat.le_of_ble_eq_true rfl⟩) hP hD hS hA [2] [0, 1] [0, 1, 2] (wr := [(e0, .inr (0, [.ref t0, .ref n0, .ref j0, .int (nI ec)])), (n0, .inl (cA, 24, .inl (jRen tn (jMax (jn j) (tn t)) (jMin (jn j) (tn t)) 24)))]) (w2 := [(e0, .inr (0, [.ref t0, .ref n0, .ref j0, .int (nI ec)])), (n0, .inl (cA, 24, .inl (jRen tn (jMax (jn j) (tn t)) (jMin (jn j) (tn t)) 24))), (j0, .inl (cA, 24, .inl (jRen jn (jMax (jn j) (tn t)) (jMin (jn j) (tn t)) 24)))]) rfl rfl (by decide) (by decide) (by decide) rfl (fun H locs hP hD hS => ?_)
    obtain ⟨hP9, hD9⟩ := jk_end (w2 := [(e0, .inr (0, [.ref t0, .ref n0, .ref j0, .int (nI ec)])), (n0, .inl (cA, 24, .inl (jRen tn (jMax (jn j) (tn t)) (jMin (jn j) (tn t)) 24))), (j0, .inl (cA, 24, .inl (jRen jn (jMax (jn j) (tn t)) (jMin (jn j) (tn t)) 24)))]) hP hD [0, 1, 2] (by decide) rfl
    have e9 : ([(e0, .inr (0, [.ref t0, .ref n0, .ref j0, .int (nI ec)])), (n0, .inl (cA, 24, .inl (jRen tn (jMax (jn j) (tn t)) (jMin (jn j) (tn t)) 24))), (j0, .inl (cA, 24, .inl (jRen jn (jMax (jn j) (tn t)) (jMin (jn j) (tn t)) 24)))] : va_W) = [(e0, .inr (0, [.ref t0, .ref n0, .ref j0, .int (nI ec)])), (n0, .inl (cA, 24, .inl (eTn tn jn j t))), (j0, .inl (cA, 24, .inl (eJn tn jn j t)))] := (by unfold eTn eJn; rw [if_neg c_14, if_neg c_14])
    rw [e9] at hP9 hD9
    exact W.vret hx hb hr (fun t9 ht9 hW9 => ⟨⟨(), rfl, trivial, by rw [ht9]; exact hP9, hD9⟩, hS.F ht9⟩) hS.2.2 dX0_joinClasses_64
  · refine lv_aload_n hx hb dX0_joinClasses_17 rfl (lv_at hl 2 rfl) ?_
    refine va_get (D := D) (ci := 0) (v := .ref j0) (C := RX0) (T := TX0) (N := 4) hx hb hts iw_X0_joinClasses_X0 hown hK hP 0 rfl rfl 2 (by decide) (hts (.fieldLink RX0 18 "JumpGuard$Edges" "jumpNumbers" "[I") (List.mem_of_getElem? (l := wsX0_joinClasses) (i := 1) rfl)) (fun _ h9 => h9) rfl dX0_joinClasses_18 ?_
    refine lv_iload_n hx hb dX0_joinClasses_21 rfl (lv_at hl 3 rfl) ?_
    refine lv_iload hx hb dX0_joinClasses_22 (lv_at hl 0 rfl) ?_
    refine jk_ast hx hb hK hP hD hS 2 0 rfl rfl (k := j) rfl (by omega) (by omega) dX0_joinClasses_24 (fun H locs hP hD hS => ?_)
    have hP : va_P D vwCl [(e0, .inr (0, [.ref t0, .ref n0, .ref j0, .int (nI ec)])), (n0, .inl (cA, 24, .inl tn)), (j0, .inl (cA, 24, .inl (upd jn j (tn t))))] H := hP
    have hD : va_D A [(e0, .inr (0, [.ref t0, .ref n0, .ref j0, .int (nI ec)])), (n0, .inl (cA, 24, .inl tn)), (j0, .inl (cA, 24, .inl (upd jn j (tn t))))] := hD
    obtain ⟨hP9, hD9⟩ := jk_end (w2 := [(e0, .inr (0, [.ref t0, .ref n0, .ref j0, .int (nI ec)])), (n0, .inl (cA, 24, .inl tn)), (j0, .inl (cA, 24, .inl (upd jn j (tn t))))]) hP hD [0, 1, 2] (by decide) rfl
    have e9 : ([(e0, .inr (0, [.ref t0, .ref n0, .ref j0, .int (nI ec)])), (n0, .inl (cA, 24, .inl tn)), (j0, .inl (cA, 24, .inl (upd jn j (tn t))))] : va_W) = [(e0, .inr (0, [.ref t0, .ref n0, .ref j0, .int (nI ec)])), (n0, .inl (cA, 24, .inl (eTn tn jn j t))), (j0, .inl (cA, 24, .inl (eJn tn jn j t)))] := (by unfold eTn eJn; rw [if_pos c_14, if_pos c_14])
    rw [e9] at hP9 hD9
    exact W.vret hx hb hr (fun t9 ht9 hW9 => ⟨⟨(), rfl, trivial, by rw [ht9]; exact hP9, hD9⟩, hS.F ht9⟩) hS.2.2 dX0_joinClasses_25
set_option maxHeartbeats 4000000 in
set_option maxRecDepth 100000 in
theorem c_X0_connect (l : Launch) (D : va_G) (cA : ClassId) (sz : Nat) (e0 : Nat) (t0 : Nat) (n0 : Nat) (j0 : Nat) (ec : Nat) (tg : Nat → Int32) (tn : Nat → Int32) (jn : Nat → Int32) (j : Nat) (t : Nat) (hj : j < 24) (ht : t < 24) (hec : ec ≤ 48) : Met l yX0_connect wsX0_connect ({ frames := 3, cells := 0, slots := 0, locals := 67 }) (rwP D cA [.ref e0, .int (nI j), .int (nI t)] sz [(e0, .inr (0, [.ref t0, .ref n0, .ref j0, .int (nI ec)])), (t0, .inl (cA, 24, .inl tg)), (n0, .inl (cA, 24, .inl tn)), (j0, .inl (cA, 24, .inl jn))]) (rwI D (va_A [(e0, .inr (0, [.ref t0, .ref n0, .ref j0, .int (nI ec)])), (t0, .inl (cA, 24, .inl tg)), (n0, .inl (cA, 24, .inl tn)), (j0, .inl (cA, 24, .inl jn))] sz) (jB (eOk tg ec j t)) [(e0, .inr (0, [.ref t0, .ref n0, .ref j0, .int (nI (if eOk tg ec j t then ec + 1 else ec))])), (t0, .inl (cA, 24, .inl (if eOk tg ec j t then upd tg j (tg j ||| eBit t) else tg))), (n0, .inl (cA, 24, .inl (if eOk tg ec j t then eTn (eT1 tn t) jn j t else tn))), (j0, .inl (cA, 24, .inl (if eOk tg ec j t then eJn (eT1 tn t) jn j t else jn)))]) 0 0 (va_A [(e0, .inr (0, [.ref t0, .ref n0, .ref j0, .int (nI ec)])), (t0, .inl (cA, 24, .inl tg)), (n0, .inl (cA, 24, .inl tn)), (j0, .inl (cA, 24, .inl jn))] sz) := by
  refine Met.ofW (cc := cX0_connect) (maxL := 4) (ret := (some .boolean)) (by decide) rfl ?_
  intro p e s m args below meth c s₁ B hml hv
  obtain ⟨rfl, hsz, hP, hK, hN, hD0⟩ := hv
  have hx := B.exec
  have hb := B.bytes
  have hr := B.returns
  have hts := atoms_spec (ws := wsX0_connect) B.pre
  have hown : s.vm.findClass RX0 = some m.cls := findClass_of_methodNamed B.named
  have hlocks := B.notSynchronized
  subst hsz
  have hD := hD0.self (sz := s.heap.size)
  generalize hAe : va_A [(e0, .inr (0, [.ref t0, .ref n0, .ref j0, .int (nI ec)])), (t0, .inl (cA, 24, .inl tg)), (n0, .inl (cA, 24, .inl tn)), (j0, .inl (cA, 24, .inl jn))] s.heap.size = A at hD ⊢
  have hA : ∀ q : Nat, s.heap.size ≤ q → A q := fun q h => by rw [← hAe]; exact Or.inr h
  have hS : va_S A s.heap s.heap [] := va_S.rf
  have hl := lv_entry ([.ref e0, .int (nI j), .int (nI t)]) (n := 4) (Nat.le_of_ble_eq_true rfl)
  rw [lg_entry_eq]
  generalize (lg_sl ([.ref e0, .int (nI j), .int (nI t)]) ++ List.replicate (4 - (lg_sl ([.ref e0, .int (nI j), .int (nI t)])).length) Slot.unset).toArray = ls at hl ⊢
  have hl : lv_has ls 4 [(0, .ref e0), (1, .int (nI j)), (2, .int (nI t))] := hl
  refine lv_iload_n hx hb dX0_connect_0 rfl (lv_at hl 1 rfl) ?_
  refine jr_i (va_runSN (As := [.int (nI j)]) (rest := []) ⟨hx, hb, hml, hown, hts⟩ (c_X3_isAddress l D cA (nI j)) ⟨(va_cnB 1 hts gX0_connect_X3_isAddress_n21 rfl rfl rfl hN.2.2.2.2.2.1 (hts (.initialized RX3) (List.mem_of_getElem? (l := wsX0_connect) (i := 5) rfl)) hv_X3_isAddress.2 ⟨Nat.le_of_ble_eq_true rfl, Nat.le_of_ble_eq_true rfl⟩), (hts (.static yX3_isAddress) (List.mem_of_getElem? (l := wsX0_connect) (i := 4) rfl)), trivial⟩ (roP.S (av := [.int (nI j)]) (jP_sub (w2 := []) hP [] rfl) hK hN) rfl rfl hl.1 rfl (lv_room (Nat.le_of_ble_eq_true rfl)) dX0_connect_1 ⟨Nat.le_of_ble_eq_true rfl, Nat.le_of_ble_eq_true rfl⟩) ?_
  refine lv_if_eq (tgt := 23) hx hb dX0_connect_4 (by decide) (fun c_4 => ?_) (fun c_4 => ?_)
  · replace c_4 := jB_z.mp c_4
    exact absurd ((jIn_n (n := 24) (by decide)).mpr hj).1 c_4
  · replace c_4 := jB_nz.mp c_4
    refine lv_iload_n hx hb dX0_connect_7 rfl (lv_at hl 2 rfl) ?_
    refine jr_i (va_runSN (As := [.int (nI t)]) (rest := []) ⟨hx, hb, hml, hown, hts⟩ (c_X3_isAddress l D cA (nI t)) ⟨(va_cnB 1 hts gX0_connect_X3_isAddress_n21 rfl rfl rfl hN.2.2.2.2.2.1 (hts (.initialized RX3) (List.mem_of_getElem? (l := wsX0_connect) (i := 5) rfl)) hv_X3_isAddress.2 ⟨Nat.le_of_ble_eq_true rfl, Nat.le_of_ble_eq_true rfl⟩), (hts (.static yX3_isAddress) (List.mem_of_getElem? (l := wsX0_connect) (i := 4) rfl)), trivial⟩ (roP.S (av := [.int (nI t)]) (jP_sub (w2 := []) hP [] rfl) hK hN) rfl rfl hl.1 rfl (lv_room (Nat.le_of_ble_eq_true rfl)) dX0_connect_8 ⟨Nat.le_of_ble_eq_true rfl, Nat.le_of_ble_eq_true rfl⟩) ?_
    refine lv_if_eq (tgt := 23) hx hb dX0_connect_11 (by decide) (fun c_11 => ?_) (fun c_11 => ?_)
    · replace c_11 := jB_z.mp c_11
      exact absurd ((jIn_n (n := 24) (by decide)).mpr ht).1 c_11
    · replace c_11 := jB_nz.mp c_11
      refine lv_aload_n hx hb dX0_connect_14 rfl (lv_at hl 0 rfl) ?_
      refine va_get (D := D) (ci := 0) (v := .int (nI ec)) (C := RX0) (T := TX0) (N := 4) hx hb hts iw_X0_connect_X0 hown hK hP 0 rfl rfl 3 (by decide) (hts (.fieldLink RX0 25 "JumpGuard$Edges" "count" "I") (List.mem_of_getElem? (l := wsX0_connect) (i := 1) rfl)) (fun _ h9 => h9) rfl dX0_connect_15 ?_
      refine lv_bipush (v := 48) hx hb dX0_connect_18 (by decide) ?_
      refine lv_icmp_lt (tgt := 25) hx hb dX0_connect_20 (by decide) (fun c_20 => ?_) (fun c_20 => ?_)
      · have h48 : ec < 48 := (nI_ltI (b := 48) (by omega) (by decide)).mp c_20
        refine lv_iconst (v := 1) hx hb dX0_connect_25 (by decide) ?_
        refine lv_iload_n hx hb dX0_connect_26 rfl (lv_at hl 2 rfl) ?_
        refine lv_ishl hx hb dX0_connect_27 ?_
        refine lv_istore_n (lv' := [(3, .int (1 <<< ((nI t) &&& 31))), (0, .ref e0), (1, .int (nI j)), (2, .int (nI t))]) hx hb dX0_connect_28 rfl hl (by decide) rfl (fun ls hl => ?_)
        refine lv_aload_n hx hb dX0_connect_29 rfl (lv_at hl 1 rfl) ?_
        refine va_get (D := D) (ci := 0) (v := .ref t0) (C := RX0) (T := TX0) (N := 4) hx hb hts iw_X0_connect_X0 hown hK hP 0 rfl rfl 0 (by decide) (hts (.fieldLink RX0 9 "JumpGuard$Edges" "targets" "[I") (List.mem_of_getElem? (l := wsX0_connect) (i := 2) rfl)) (fun _ h9 => h9) rfl dX0_connect_30 ?_
        refine lv_iload_n hx hb dX0_connect_33 rfl (lv_at hl 2 rfl) ?_
        refine jk_ald hx hb hK hP 1 0 rfl rfl (k := j) rfl (by omega) (by omega) dX0_connect_34 ?_
        refine lv_iload_n hx hb dX0_connect_35 rfl (lv_at hl 0 rfl) ?_
        refine lv_iand hx hb dX0_connect_36 ?_
        refine lv_if_eq (tgt := 42) hx hb dX0_connect_37 (by decide) (fun c_37 => ?_) (fun c_37 => ?_)
        · have hE : eOk tg ec j t := ⟨h48, c_37⟩
          refine lv_aload_n hx hb dX0_connect_42 rfl (lv_at hl 1 rfl) ?_
          refine va_get (D := D) (ci := 0) (v := .ref t0) (C := RX0) (T := TX0) (N := 4) hx hb hts iw_X0_connect_X0 hown hK hP 0 rfl rfl 0 (by decide) (hts (.fieldLink RX0 9 "JumpGuard$Edges" "targets" "[I") (List.mem_of_getElem? (l := wsX0_connect) (i := 2) rfl)) (fun _ h9 => h9) rfl dX0_connect_43 ?_
          refine lv_iload_n hx hb dX0_connect_46 rfl (lv_at hl 2 rfl) ?_
          refine lv_dup2_11 hx hb dX0_connect_47 rfl rfl ?_
          refine jk_ald hx hb hK hP 1 0 rfl rfl (k := j) rfl (by omega) (by omega) dX0_connect_48 ?_
          refine lv_iload_n hx hb dX0_connect_49 rfl (lv_at hl 0 rfl) ?_
          refine lv_ior hx hb dX0_connect_50 ?_
          refine jk_ast hx hb hK hP hD hS 1 0 rfl rfl (k := j) rfl (by omega) (by omega) dX0_connect_51 (fun H locs hP hD hS => ?_)
          have hP : va_P D vwCl [(e0, .inr (0, [.ref t0, .ref n0, .ref j0, .int (nI ec)])), (t0, .inl (cA, 24, .inl (upd tg j ((tg j) ||| (1 <<< ((nI t) &&& 31)))))), (n0, .inl (cA, 24, .inl tn)), (j0, .inl (cA, 24, .inl jn))] H := hP
          have hD : va_D A [(e0, .inr (0, [.ref t0, .ref n0, .ref j0, .int (nI ec)])), (t0, .inl (cA, 24, .inl (upd tg j ((tg j) ||| (1 <<< ((nI t) &&& 31)))))), (n0, .inl (cA, 24, .inl tn)), (j0, .inl (cA, 24, .inl jn))] := hD
          refine lv_aload_n hx hb dX0_connect_52 rfl (lv_at hl 1 rfl) ?_
          refine lv_dup hx hb dX0_connect_53 rfl ?_
          refine va_get (D := D) (ci := 0) (v := .int (nI ec)) (C := RX0) (T := TX0) (N := 4) hx hb hts iw_X0_connect_X0 hown hK hP 0 rfl rfl 3 (by decide) (hts (.fieldLink RX0 25 "JumpGuard$Edges" "count" "I") (List.mem_of_getElem? (l := wsX0_connect) (i := 1) rfl)) (fun _ h9 => h9) rfl dX0_connect_54 ?_
          refine lv_iconst (v := 1) hx hb dX0_connect_57 (by decide) ?_
          refine lv_iadd hx hb dX0_connect_58 ?_
          refine jk_top (show ((nI ec) + 1) = (nI (ec + 1)) from jn_a1 ec) ?_
          refine va_put (D := D) (ci := 0) (v := .int (nI (ec + 1))) (ty := .int) (C := RX0) (T := TX0) (N := 4) hx hb hts iw_X0_connect_X0 tyX0 tyX0_ok nmX0 hown hK hP hD hS 0 rfl rfl 3 (by decide) (hts (.fieldLink RX0 25 "JumpGuard$Edges" "count" "I") (List.mem_of_getElem? (l := wsX0_connect) (i := 1) rfl)) (fun _ h9 => h9) rfl (by decide +kernel) rfl rfl (Nat.le_of_ble_eq_true rfl) dX0_connect_59 (fun H locs hP hD hS => ?_)
          have hP : va_P D vwCl [(e0, .inr (0, [.ref t0, .ref n0, .ref j0, .int (nI (ec + 1))])), (t0, .inl (cA, 24, .inl (upd tg j ((tg j) ||| (1 <<< ((nI t) &&& 31)))))), (n0, .inl (cA, 24, .inl tn)), (j0, .inl (cA, 24, .inl jn))] H := hP
          have hD : va_D A [(e0, .inr (0, [.ref t0, .ref n0, .ref j0, .int (nI (ec + 1))])), (t0, .inl (cA, 24, .inl (upd tg j ((tg j) ||| (1 <<< ((nI t) &&& 31)))))), (n0, .inl (cA, 24, .inl tn)), (j0, .inl (cA, 24, .inl jn))] := hD
          refine lv_aload_n hx hb dX0_connect_62 rfl (lv_at hl 1 rfl) ?_
          refine va_get (D := D) (ci := 0) (v := .ref n0) (C := RX0) (T := TX0) (N := 4) hx hb hts iw_X0_connect_X0 hown hK hP 0 rfl rfl 1 (by decide) (hts (.fieldLink RX0 15 "JumpGuard$Edges" "targetNumbers" "[I") (List.mem_of_getElem? (l := wsX0_connect) (i := 3) rfl)) (fun _ h9 => h9) rfl dX0_connect_63 ?_
          refine lv_iload_n hx hb dX0_connect_66 rfl (lv_at hl 3 rfl) ?_
          refine jk_ald hx hb hK hP 2 0 rfl rfl (k := t) rfl (by omega) (by omega) dX0_connect_67 ?_
          refine lv_if_ne (tgt := 80) hx hb dX0_connect_68 (by decide) (fun c_68 => ?_) (fun c_68 => ?_)
          · have h1 : tn = eT1 tn t := by unfold eT1; rw [if_neg c_68]
            refine lv_aload_n hx hb dX0_connect_80 rfl (lv_at hl 1 rfl) ?_
            refine lv_iload_n hx hb dX0_connect_81 rfl (lv_at hl 2 rfl) ?_
            refine lv_iload_n hx hb dX0_connect_82 rfl (lv_at hl 3 rfl) ?_
            refine jw_v (va_runV (As := [.int (nI j), .int (nI t)]) (rest := []) ⟨hx, hb, hml, hown, hts⟩ (c_X0_joinClasses l D cA H.size e0 t0 n0 j0 (ec + 1) tn jn j t (by first | assumption | omega) (by first | assumption | omega)) (cwV 2 hts gX0_connect_X0_joinClasses rfl rfl rfl hv_X0_joinClasses ⟨Nat.le_of_ble_eq_true rfl, Nat.le_of_ble_eq_true rfl⟩) (rwP.V (wc := [(e0, .inr (0, [.ref t0, .ref n0, .ref j0, .int (nI (ec + 1))])), (n0, .inl (cA, 24, .inl tn)), (j0, .inl (cA, 24, .inl jn))]) (va_recv hK hP (ci := 0) (q0 := 0) rfl rfl) hP hD hK hN [0, 2, 3] (by decide) rfl) rfl rfl hl.1 rfl (lv_room (Nat.le_of_ble_eq_true rfl)) dX0_connect_83 ⟨Nat.le_of_ble_eq_true rfl, Nat.le_of_ble_eq_true rfl⟩) hP hD hS hA [0, 2, 3] [1] [1, 0, 2, 3] (wr := [(t0, .inl (cA, 24, .inl (upd tg j ((tg j) ||| (1 <<< ((nI t) &&& 31))))))]) (w2 := [(e0, .inr (0, [.ref t0, .ref n0, .ref j0, .int (nI (ec + 1))])), (t0, .inl (cA, 24, .inl (upd tg j ((tg j) ||| (1 <<< ((nI t) &&& 31)))))), (n0, .inl (cA, 24, .inl (eTn tn jn j t))), (j0, .inl (cA, 24, .inl (eJn tn jn j t)))]) rfl rfl (by decide) (by decide) (by decide) rfl (fun H locs hP hD hS => ?_)
            refine lv_iconst (v := 1) hx hb dX0_connect_86 (by decide) ?_
            obtain ⟨hP9, hD9⟩ := jk_end (w2 := [(e0, .inr (0, [.ref t0, .ref n0, .ref j0, .int (nI (ec + 1))])), (t0, .inl (cA, 24, .inl (upd tg j ((tg j) ||| (1 <<< ((nI t) &&& 31)))))), (n0, .inl (cA, 24, .inl (eTn tn jn j t))), (j0, .inl (cA, 24, .inl (eJn tn jn j t)))]) hP hD [0, 1, 2, 3] (by decide) rfl
            have e9 : ([(e0, .inr (0, [.ref t0, .ref n0, .ref j0, .int (nI (ec + 1))])), (t0, .inl (cA, 24, .inl (upd tg j ((tg j) ||| (1 <<< ((nI t) &&& 31)))))), (n0, .inl (cA, 24, .inl (eTn tn jn j t))), (j0, .inl (cA, 24, .inl (eJn tn jn j t)))] : va_W) = [(e0, .inr (0, [.ref t0, .ref n0, .ref j0, .int (nI (if eOk tg ec j t then ec + 1 else ec))])), (t0, .inl (cA, 24, .inl (if eOk tg ec j t then upd tg j (tg j ||| eBit t) else tg))), (n0, .inl (cA, 24, .inl (if eOk tg ec j t then eTn (eT1 tn t) jn j t else tn))), (j0, .inl (cA, 24, .inl (if eOk tg ec j t then eJn (eT1 tn t) jn j t else jn)))] := (by simp only [if_pos hE]; rw [← h1])
            rw [e9] at hP9 hD9
            exact W.zret (ty := .boolean) (v := 1) hx hb hr rfl (fun t9 ht9 hW9 => ⟨⟨_, (), rfl, (show 1 = (jB (eOk tg ec j t)) from (jB_t hE).symm), by rw [ht9]; exact hP9, hD9⟩, hS.F ht9⟩) hS.2.2 dX0_connect_87
          · have h1 : upd tn t (nI (t + 1)) = eT1 tn t := by unfold eT1; rw [if_pos c_68]
            refine lv_aload_n hx hb dX0_connect_71 rfl (lv_at hl 1 rfl) ?_
            refine va_get (D := D) (ci := 0) (v := .ref n0) (C := RX0) (T := TX0) (N := 4) hx hb hts iw_X0_connect_X0 hown hK hP 0 rfl rfl 1 (by decide) (hts (.fieldLink RX0 15 "JumpGuard$Edges" "targetNumbers" "[I") (List.mem_of_getElem? (l := wsX0_connect) (i := 3) rfl)) (fun _ h9 => h9) rfl dX0_connect_72 ?_
            refine lv_iload_n hx hb dX0_connect_75 rfl (lv_at hl 3 rfl) ?_
            refine lv_iload_n hx hb dX0_connect_76 rfl (lv_at hl 3 rfl) ?_
            refine lv_iconst (v := 1) hx hb dX0_connect_77 (by decide) ?_
            refine lv_iadd hx hb dX0_connect_78 ?_
            refine jk_top (show ((nI t) + 1) = (nI (t + 1)) from jn_a1 t) ?_
            refine jk_ast hx hb hK hP hD hS 2 0 rfl rfl (k := t) rfl (by omega) (by omega) dX0_connect_79 (fun H locs hP hD hS => ?_)
            have hP : va_P D vwCl [(e0, .inr (0, [.ref t0, .ref n0, .ref j0, .int (nI (ec + 1))])), (t0, .inl (cA, 24, .inl (upd tg j ((tg j) ||| (1 <<< ((nI t) &&& 31)))))), (n0, .inl (cA, 24, .inl (upd tn t (nI (t + 1))))), (j0, .inl (cA, 24, .inl jn))] H := hP
            have hD : va_D A [(e0, .inr (0, [.ref t0, .ref n0, .ref j0, .int (nI (ec + 1))])), (t0, .inl (cA, 24, .inl (upd tg j ((tg j) ||| (1 <<< ((nI t) &&& 31)))))), (n0, .inl (cA, 24, .inl (upd tn t (nI (t + 1))))), (j0, .inl (cA, 24, .inl jn))] := hD
            refine lv_aload_n hx hb dX0_connect_80 rfl (lv_at hl 1 rfl) ?_
            refine lv_iload_n hx hb dX0_connect_81 rfl (lv_at hl 2 rfl) ?_
            refine lv_iload_n hx hb dX0_connect_82 rfl (lv_at hl 3 rfl) ?_
            refine jw_v (va_runV (As := [.int (nI j), .int (nI t)]) (rest := []) ⟨hx, hb, hml, hown, hts⟩ (c_X0_joinClasses l D cA H.size e0 t0 n0 j0 (ec + 1) (upd tn t (nI (t + 1))) jn j t (by first | assumption | omega) (by first | assumption | omega)) (cwV 2 hts gX0_connect_X0_joinClasses rfl rfl rfl hv_X0_joinClasses ⟨Nat.le_of_ble_eq_true rfl, Nat.le_of_ble_eq_true rfl⟩) (rwP.V (wc := [(e0, .inr (0, [.ref t0, .ref n0, .ref j0, .int (nI (ec + 1))])), (n0, .inl (cA, 24, .inl (upd tn t (nI (t + 1))))), (j0, .inl (cA, 24, .inl jn))]) (va_recv hK hP (ci := 0) (q0 := 0) rfl rfl) hP hD hK hN [0, 2, 3] (by decide) rfl) rfl rfl hl.1 rfl (lv_room (Nat.le_of_ble_eq_true rfl)) dX0_connect_83 ⟨Nat.le_of_ble_eq_true rfl, Nat.le_of_ble_eq_true rfl⟩) hP hD hS hA [0, 2, 3] [1] [1, 0, 2, 3] (wr := [(t0, .inl (cA, 24, .inl (upd tg j ((tg j) ||| (1 <<< ((nI t) &&& 31))))))]) (w2 := [(e0, .inr (0, [.ref t0, .ref n0, .ref j0, .int (nI (ec + 1))])), (t0, .inl (cA, 24, .inl (upd tg j ((tg j) ||| (1 <<< ((nI t) &&& 31)))))), (n0, .inl (cA, 24, .inl (eTn (upd tn t (nI (t + 1))) jn j t))), (j0, .inl (cA, 24, .inl (eJn (upd tn t (nI (t + 1))) jn j t)))]) rfl rfl (by decide) (by decide) (by decide) rfl (fun H locs hP hD hS => ?_)
            refine lv_iconst (v := 1) hx hb dX0_connect_86 (by decide) ?_
            obtain ⟨hP9, hD9⟩ := jk_end (w2 := [(e0, .inr (0, [.ref t0, .ref n0, .ref j0, .int (nI (ec + 1))])), (t0, .inl (cA, 24, .inl (upd tg j ((tg j) ||| (1 <<< ((nI t) &&& 31)))))), (n0, .inl (cA, 24, .inl (eTn (upd tn t (nI (t + 1))) jn j t))), (j0, .inl (cA, 24, .inl (eJn (upd tn t (nI (t + 1))) jn j t)))]) hP hD [0, 1, 2, 3] (by decide) rfl
            have e9 : ([(e0, .inr (0, [.ref t0, .ref n0, .ref j0, .int (nI (ec + 1))])), (t0, .inl (cA, 24, .inl (upd tg j ((tg j) ||| (1 <<< ((nI t) &&& 31)))))), (n0, .inl (cA, 24, .inl (eTn (upd tn t (nI (t + 1))) jn j t))), (j0, .inl (cA, 24, .inl (eJn (upd tn t (nI (t + 1))) jn j t)))] : va_W) = [(e0, .inr (0, [.ref t0, .ref n0, .ref j0, .int (nI (if eOk tg ec j t then ec + 1 else ec))])), (t0, .inl (cA, 24, .inl (if eOk tg ec j t then upd tg j (tg j ||| eBit t) else tg))), (n0, .inl (cA, 24, .inl (if eOk tg ec j t then eTn (eT1 tn t) jn j t else tn))), (j0, .inl (cA, 24, .inl (if eOk tg ec j t then eJn (eT1 tn t) jn j t else jn)))] := (by simp only [if_pos hE]; rw [← h1])
            rw [e9] at hP9 hD9
            exact W.zret (ty := .boolean) (v := 1) hx hb hr rfl (fun t9 ht9 hW9 => ⟨⟨_, (), rfl, (show 1 = (jB (eOk tg ec j t)) from (jB_t hE).symm), by rw [ht9]; exact hP9, hD9⟩, hS.F ht9⟩) hS.2.2 dX0_connect_87
        · have hE : ¬ eOk tg ec j t := fun h => c_37 h.2
          refine lv_iconst (v := 0) hx hb dX0_connect_40 (by decide) ?_
          obtain ⟨hP9, hD9⟩ := jk_end (w2 := [(e0, .inr (0, [.ref t0, .ref n0, .ref j0, .int (nI ec)])), (t0, .inl (cA, 24, .inl tg)), (n0, .inl (cA, 24, .inl tn)), (j0, .inl (cA, 24, .inl jn))]) hP hD [0, 1, 2, 3] (by decide) rfl
          have e9 : ([(e0, .inr (0, [.ref t0, .ref n0, .ref j0, .int (nI ec)])), (t0, .inl (cA, 24, .inl tg)), (n0, .inl (cA, 24, .inl tn)), (j0, .inl (cA, 24, .inl jn))] : va_W) = [(e0, .inr (0, [.ref t0, .ref n0, .ref j0, .int (nI (if eOk tg ec j t then ec + 1 else ec))])), (t0, .inl (cA, 24, .inl (if eOk tg ec j t then upd tg j (tg j ||| eBit t) else tg))), (n0, .inl (cA, 24, .inl (if eOk tg ec j t then eTn (eT1 tn t) jn j t else tn))), (j0, .inl (cA, 24, .inl (if eOk tg ec j t then eJn (eT1 tn t) jn j t else jn)))] := (by simp only [if_neg hE])
          rw [e9] at hP9 hD9
          exact W.zret (ty := .boolean) (v := 0) hx hb hr rfl (fun t9 ht9 hW9 => ⟨⟨_, (), rfl, (show 0 = (jB (eOk tg ec j t)) from (jB_f hE).symm), by rw [ht9]; exact hP9, hD9⟩, hS.F ht9⟩) hS.2.2 dX0_connect_41
      · have hE : ¬ eOk tg ec j t := fun h => c_20 ((nI_ltI (b := 48) (by omega) (by decide)).mpr h.1)
        refine lv_iconst (v := 0) hx hb dX0_connect_23 (by decide) ?_
        obtain ⟨hP9, hD9⟩ := jk_end (w2 := [(e0, .inr (0, [.ref t0, .ref n0, .ref j0, .int (nI ec)])), (t0, .inl (cA, 24, .inl tg)), (n0, .inl (cA, 24, .inl tn)), (j0, .inl (cA, 24, .inl jn))]) hP hD [0, 1, 2, 3] (by decide) rfl
        have e9 : ([(e0, .inr (0, [.ref t0, .ref n0, .ref j0, .int (nI ec)])), (t0, .inl (cA, 24, .inl tg)), (n0, .inl (cA, 24, .inl tn)), (j0, .inl (cA, 24, .inl jn))] : va_W) = [(e0, .inr (0, [.ref t0, .ref n0, .ref j0, .int (nI (if eOk tg ec j t then ec + 1 else ec))])), (t0, .inl (cA, 24, .inl (if eOk tg ec j t then upd tg j (tg j ||| eBit t) else tg))), (n0, .inl (cA, 24, .inl (if eOk tg ec j t then eTn (eT1 tn t) jn j t else tn))), (j0, .inl (cA, 24, .inl (if eOk tg ec j t then eJn (eT1 tn t) jn j t else jn)))] := (by simp only [if_neg hE])
        rw [e9] at hP9 hD9
        exact W.zret (ty := .boolean) (v := 0) hx hb hr rfl (fun t9 ht9 hW9 => ⟨⟨_, (), rfl, (show 0 = (jB (eOk tg ec j t)) from (jB_f hE).symm), by rw [ht9]; exact hP9, hD9⟩, hS.F ht9⟩) hS.2.2 dX0_connect_24
