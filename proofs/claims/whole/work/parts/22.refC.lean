/-! ===== the reference: protect, questions ===== -/
def rPl (cd T : Nat → Int32) : Nat → Nat
  | 0 => 0
  | i + 1 => rPl cd T i + 1 + (if T i ≤ 0 then 0 else 1) + (if cd (3 * i) = 8 then 1 else 0)
theorem rPl_le (cd T : Nat → Int32) (i : Nat) : rPl cd T i ≤ 3 * i := by
  induction i with
  | zero => exact Nat.le_refl 0
  | succ i ih =>
    show rPl cd T i + 1 + (if T i ≤ 0 then 0 else 1) + (if cd (3 * i) = 8 then 1 else 0) ≤ 3 * (i + 1)
    split <;> split <;> omega
def rAt (cd T P : Nat → Int32) (n : Nat) : Nat → Int32 := fun i => if i < n then nI (rPl cd T i) else P i
theorem rAt_0 (cd T P : Nat → Int32) : P = rAt cd T P 0 := by
  funext i; unfold rAt; rw [if_neg (by omega)]
theorem rAt_s (cd T P : Nat → Int32) (n : Nat) : upd (rAt cd T P n) n (nI (rPl cd T n)) = rAt cd T P (n + 1) := by
  funext i; unfold upd rAt
  by_cases h : i = n
  · rw [if_pos h, if_pos (by omega), h]
  · rw [if_neg h]
    by_cases h2 : i < n
    · rw [if_pos h2, if_pos (by omega)]
    · rw [if_neg h2, if_neg (by omega)]
def rA1 (T : Nat → Int32) (i : Nat) (g : GS) : GS := if T i ≤ 0 then g else (g.1 + 1, rPut g.2 g.1 10 (T i) 0)
def rA2 (o a v : Int32) (g : GS) : GS := if o = 8 then (g.1 + 1, rPut g.2 g.1 11 a v) else g
def rA3 (o a b : Int32) (F : Nat → Int32) (g : GS) : GS := (g.1 + 1, if o = 6 then rPut g.2 g.1 o (F a.toNatClampNeg) b else if o = 7 ∨ o = 9 then rPut g.2 g.1 o a (F b.toNatClampNeg) else rPut g.2 g.1 o a b)
def rA (T J F : Nat → Int32) (i : Nat) (g : GS) : GS := rA3 (g.2 (3 * i)) (g.2 (3 * i + 1)) (g.2 (3 * i + 2)) F (rA2 (g.2 (3 * i)) (g.2 (3 * i + 1)) (J i) (rA1 T i g))
def rN (cd T J F : Nat → Int32) : Nat → GS
  | 0 => (0, cd)
  | i + 1 => rA T J F i (rN cd T J F i)
theorem rPut_low {cd : Nat → Int32} {k j : Nat} {x y z : Int32} (h : j < 72) : rPut cd k x y z j = cd j := by
  unfold rPut
  rw [pk_un (by omega), pk_un (by omega), pk_un (by omega)]
theorem rA1_low {T : Nat → Int32} {i j : Nat} {g : GS} (h : j < 72) : (rA1 T i g).2 j = g.2 j := by
  unfold rA1
  by_cases q : T i ≤ 0
  · rw [if_pos q]
  · rw [if_neg q]; exact rPut_low h
theorem rA2_low {o a v : Int32} {j : Nat} {g : GS} (h : j < 72) : (rA2 o a v g).2 j = g.2 j := by
  unfold rA2
  by_cases q : o = 8
  · rw [if_pos q]; exact rPut_low h
  · rw [if_neg q]
theorem rA3_low {o a b : Int32} {F : Nat → Int32} {j : Nat} {g : GS} (h : j < 72) : (rA3 o a b F g).2 j = g.2 j := by
  unfold rA3
  by_cases q : o = 6
  · simp only [if_pos q]; exact rPut_low h
  · by_cases q2 : o = 7 ∨ o = 9
    · simp only [if_neg q, if_pos q2]; exact rPut_low h
    · simp only [if_neg q, if_neg q2]; exact rPut_low h
theorem rN_low (cd T J F : Nat → Int32) (i : Nat) {j : Nat} (h : j < 72) : (rN cd T J F i).2 j = cd j := by
  induction i with
  | zero => rfl
  | succ i ih =>
    show (rA T J F i (rN cd T J F i)).2 j = cd j
    unfold rA
    rw [rA3_low h, rA2_low h, rA1_low h, ih]
theorem rA_1 (T J F : Nat → Int32) (i : Nat) (g : GS) : (rA T J F i g).1 = g.1 + 1 + (if T i ≤ 0 then 0 else 1) + (if g.2 (3 * i) = 8 then 1 else 0) := by
  unfold rA rA3 rA2 rA1
  by_cases h1 : T i ≤ 0
  · by_cases h2 : g.2 (3 * i) = 8
    · simp only [if_pos h1, if_pos h2]; try omega
    · simp only [if_pos h1, if_neg h2]; try omega
  · by_cases h2 : g.2 (3 * i) = 8
    · simp only [if_neg h1, if_pos h2]; try omega
    · simp only [if_neg h1, if_neg h2]; try omega
theorem rN_1 (cd T J F : Nat → Int32) {n : Nat} (hn : n ≤ 24) : ∀ i, i ≤ n → (rN cd T J F i).1 = rPl cd T i := by
  intro i
  induction i with
  | zero => intro _; rfl
  | succ i ih =>
    intro h
    show (rA T J F i (rN cd T J F i)).1 = rPl cd T i + 1 + (if T i ≤ 0 then 0 else 1) + (if cd (3 * i) = 8 then 1 else 0)
    rw [rA_1, ih (by omega), rN_low cd T J F i (by omega)]
def rFit (cd : Nat → Int32) (nn : Nat) : Prop := ∀ i, i < nn → (cd (3 * i) = 6 → ∃ t, t < 24 ∧ cd (3 * i + 1) = nI t) ∧ (cd (3 * i) = 7 ∨ cd (3 * i) = 9 → ∃ t, t < 24 ∧ cd (3 * i + 2) = nI t)
def rGet (cd : Nat → Int32) (ba nn : Nat) (x y : Int32) : Int32 := if jIn x (nI nn) ∧ jIn y 3 then cd (ba + 3 * x.toNatClampNeg + y.toNatClampNeg) else -9
theorem rGet_no {cd : Nat → Int32} {ba nn : Nat} {x y : Int32} (h : ¬ (jIn x (nI nn) ∧ jIn y 3)) : rGet cd ba nn x y = -9 := if_neg h
theorem rGet_at {cd : Nat → Int32} {ba nn j q : Nat} (hj : j < nn) (hq : q < 3) (hk : nn < 2 ^ 31) : rGet cd ba nn (nI j) (nI q) = cd (ba + 3 * j + q) := by
  have h1 : jIn (nI j) (nI nn) := ((jIn_n hk).mpr hj).1
  have h2 : jIn (nI q) (nI 3) := ((jIn_n (by decide)).mpr hq).1
  unfold rGet
  rw [if_pos ⟨h1, h2⟩, nI_clamp (by omega), nI_clamp (by omega)]
def rShown (T : Nat → Int32) (w : Nat) (x : Int32) : Int32 := if jIn x 8 ∧ ¬ nI w ≤ x then T x.toNatClampNeg else 0
theorem rShown_no {T : Nat → Int32} {w : Nat} {x : Int32} (h : ¬ (jIn x 8 ∧ ¬ nI w ≤ x)) : rShown T w x = 0 := if_neg h
theorem rShown_at {T : Nat → Int32} {w j : Nat} (h : j < 8) (hw : j < w) (h3 : w < 2 ^ 31) : rShown T w (nI j) = T j := by
  unfold rShown
  rw [if_pos ⟨((jIn_n (n := 8) (by decide)).mpr h).1, nI_ge hw h3⟩, nI_clamp (by omega)]
theorem iw_X4_guarded_X4 : ∀ w ∈ wsX40, w ∈ wsX4_guarded := by decide +kernel
theorem iw_X4_label_X4 : ∀ w ∈ wsX40, w ∈ wsX4_label := by decide +kernel
theorem iw_X4_memory_X4 : ∀ w ∈ wsX40, w ∈ wsX4_memory := by decide +kernel
theorem iw_X4_overwrite_X4 : ∀ w ∈ wsX40, w ∈ wsX4_overwrite := by decide +kernel
theorem iw_X4_pc_X4 : ∀ w ∈ wsX40, w ∈ wsX4_pc := by decide +kernel
theorem iw_X4_place_X4 : ∀ w ∈ wsX40, w ∈ wsX4_place := by decide +kernel
theorem iw_X4_protect_X4 : ∀ w ∈ wsX40, w ∈ wsX4_protect := by decide +kernel
theorem iw_X4_register_X4 : ∀ w ∈ wsX40, w ∈ wsX4_register := by decide +kernel
theorem iw_X4_shown_X4 : ∀ w ∈ wsX40, w ∈ wsX4_shown := by decide +kernel
theorem iw_X4_shows_X4 : ∀ w ∈ wsX40, w ∈ wsX4_shows := by decide +kernel
theorem iw_X4_source_X4 : ∀ w ∈ wsX40, w ∈ wsX4_source := by decide +kernel
theorem iw_X4_state_X4 : ∀ w ∈ wsX40, w ∈ wsX4_state := by decide +kernel
theorem hv_X4_classes : yX4_classes.cls = RX4 ∧ yX4_classes.cls ≠ "java/lang/invoke/MethodHandle" ∧ yX4_classes.cls ≠ "java/lang/invoke/VarHandle" ∧ (parseMethodDescriptor yX4_classes.desc).map (fun d => d.parameters.length) = some 0 := by decide +kernel
theorem hv_X4_put : yX4_put.cls = RX4 ∧ yX4_put.cls ≠ "java/lang/invoke/MethodHandle" ∧ yX4_put.cls ≠ "java/lang/invoke/VarHandle" ∧ (parseMethodDescriptor yX4_put.desc).map (fun d => d.parameters.length) = some 3 := by decide +kernel
theorem hv_X4_whole : yX4_whole.cls = RX4 ∧ yX4_whole.cls ≠ "java/lang/invoke/MethodHandle" ∧ yX4_whole.cls ≠ "java/lang/invoke/VarHandle" ∧ (parseMethodDescriptor yX4_whole.desc).map (fun d => d.parameters.length) = some 0 := by decide +kernel
set_option maxHeartbeats 4000000 in
set_option maxRecDepth 100000 in
theorem c_X4_protect (l : Launch) (D : va_G) (cA : ClassId) (sz : Nat) (h4 : Nat) (zc : Nat) (zj : Nat) (ze : Nat) (zt : Nat) (zo : Nat) (za : Nat) (zr : Nat) (zm : Nat) (zl : Nat) (nn : Nat) (zz : Nat) (ed : Nat) (qc : Int32) (qs : Int32) (qw : Nat) (qb : Nat) (ql : Nat) (cd : Nat → Int32) (ju : Nat → Int32) (en : Nat → Int32) (ot : Nat → Int32) (oj : Nat → Int32) (at9 : Nat → Int32) (hnn : nn ≤ 24) (hed : ed ≤ 48) (hE : rEd ju en ed) (hfit : rFit cd nn) : Met l yX4_protect wsX4_protect ({ frames := 1, cells := 0, slots := 0, locals := 24 }) (rwP D cA [.ref h4] sz [(h4, .inr (4, [.ref zc, .int (nI nn), .int (nI zz), .ref zj, .ref ze, .int (nI ed), .ref zt, .ref zo, .ref za, .ref zr, .ref zm, .ref zl, .int qc, .int qs, .int (nI qw), .int (nI qb), .int (nI ql)])), (zc, .inl (cA, 288, .inl cd)), (zj, .inl (cA, 48, .inl ju)), (ze, .inl (cA, 48, .inl en)), (zt, .inl (cA, 24, .inl ot)), (zo, .inl (cA, 24, .inl oj)), (za, .inl (cA, 24, .inl at9))]) (rwI D (va_A [(h4, .inr (4, [.ref zc, .int (nI nn), .int (nI zz), .ref zj, .ref ze, .int (nI ed), .ref zt, .ref zo, .ref za, .ref zr, .ref zm, .ref zl, .int qc, .int qs, .int (nI qw), .int (nI qb), .int (nI ql)])), (zc, .inl (cA, 288, .inl cd)), (zj, .inl (cA, 48, .inl ju)), (ze, .inl (cA, 48, .inl en)), (zt, .inl (cA, 24, .inl ot)), (zo, .inl (cA, 24, .inl oj)), (za, .inl (cA, 24, .inl at9))] sz) (if rWh cd nn then nI (rN cd (cls ju en ot oj ed).1 (cls ju en ot oj ed).2 (rAt cd (cls ju en ot oj ed).1 at9 nn) nn).1 else -1) [(h4, .inr (4, [.ref zc, .int (nI nn), .int (nI (if rWh cd nn then (rN cd (cls ju en ot oj ed).1 (cls ju en ot oj ed).2 (rAt cd (cls ju en ot oj ed).1 at9 nn) nn).1 else 0)), .ref zj, .ref ze, .int (nI ed), .ref zt, .ref zo, .ref za, .ref zr, .ref zm, .ref zl, .int qc, .int (-1), .int (nI qw), .int (nI qb), .int (nI ql)])), (zc, .inl (cA, 288, .inl (if rWh cd nn then (rN cd (cls ju en ot oj ed).1 (cls ju en ot oj ed).2 (rAt cd (cls ju en ot oj ed).1 at9 nn) nn).2 else cd))), (zj, .inl (cA, 48, .inl ju)), (ze, .inl (cA, 48, .inl en)), (zt, .inl (cA, 24, .inl (if rWh cd nn then (cls ju en ot oj ed).1 else ot))), (zo, .inl (cA, 24, .inl (if rWh cd nn then (cls ju en ot oj ed).2 else oj))), (za, .inl (cA, 24, .inl (if rWh cd nn then rAt cd (cls ju en ot oj ed).1 at9 nn else at9)))]) 0 0 (va_A [(h4, .inr (4, [.ref zc, .int (nI nn), .int (nI zz), .ref zj, .ref ze, .int (nI ed), .ref zt, .ref zo, .ref za, .ref zr, .ref zm, .ref zl, .int qc, .int qs, .int (nI qw), .int (nI qb), .int (nI ql)])), (zc, .inl (cA, 288, .inl cd)), (zj, .inl (cA, 48, .inl ju)), (ze, .inl (cA, 48, .inl en)), (zt, .inl (cA, 24, .inl ot)), (zo, .inl (cA, 24, .inl oj)), (za, .inl (cA, 24, .inl at9))] sz) := by
  refine Met.ofW (cc := cX4_protect) (maxL := 6) (ret := (some .int)) (by decide) rfl ?_
  intro p e s m args below meth c s₁ B hml hv
  obtain ⟨rfl, hsz, hP, hK, hN, hD0⟩ := hv
  have hx := B.exec
  have hb := B.bytes
  have hr := B.returns
  have hts := atoms_spec (ws := wsX4_protect) B.pre
  have hown : s.vm.findClass RX4 = some m.cls := findClass_of_methodNamed B.named
  have hlocks := B.notSynchronized
  subst hsz
  have hD := hD0.self (sz := s.heap.size)
  generalize hAe : va_A [(h4, .inr (4, [.ref zc, .int (nI nn), .int (nI zz), .ref zj, .ref ze, .int (nI ed), .ref zt, .ref zo, .ref za, .ref zr, .ref zm, .ref zl, .int qc, .int qs, .int (nI qw), .int (nI qb), .int (nI ql)])), (zc, .inl (cA, 288, .inl cd)), (zj, .inl (cA, 48, .inl ju)), (ze, .inl (cA, 48, .inl en)), (zt, .inl (cA, 24, .inl ot)), (zo, .inl (cA, 24, .inl oj)), (za, .inl (cA, 24, .inl at9))] s.heap.size = A at hD ⊢
  have hA : ∀ q : Nat, s.heap.size ≤ q → A q := fun q h => by rw [← hAe]; exact Or.inr h
  have hS : va_S A s.heap s.heap [] := va_S.rf
  have hl := lv_entry ([.ref h4]) (n := 6) (Nat.le_of_ble_eq_true rfl)
  rw [lg_entry_eq]
  generalize (lg_sl ([.ref h4]) ++ List.replicate (6 - (lg_sl ([.ref h4])).length) Slot.unset).toArray = ls at hl ⊢
  have hl : lv_has ls 6 [(0, .ref h4)] := hl
  refine lv_aload_n hx hb dX4_protect_0 rfl (lv_at hl 0 rfl) ?_
  refine jw_v (va_runV (As := []) (rest := []) ⟨hx, hb, hml, hown, hts⟩ (c_X4_undo l D cA s.heap.size h4 zc zj ze zt zo za zr zm zl nn zz ed qc qs qw qb ql) (cwV 0 hts gX4_protect_X4_undo rfl rfl rfl hv_X4_undo ⟨Nat.le_of_ble_eq_true rfl, Nat.le_of_ble_eq_true rfl⟩) (rwP.V (wc := [(h4, .inr (4, [.ref zc, .int (nI nn), .int (nI zz), .ref zj, .ref ze, .int (nI ed), .ref zt, .ref zo, .ref za, .ref zr, .ref zm, .ref zl, .int qc, .int qs, .int (nI qw), .int (nI qb), .int (nI ql)]))]) (va_recv hK hP (ci := 4) (q0 := 0) rfl rfl) hP hD hK hN [0] (by decide) rfl) rfl rfl hl.1 rfl (lv_room (Nat.le_of_ble_eq_true rfl)) dX4_protect_1 ⟨Nat.le_of_ble_eq_true rfl, Nat.le_of_ble_eq_true rfl⟩) hP hD hS hA [0] [1, 2, 3, 4, 5, 6] [6, 0, 1, 2, 3, 4, 5] (wr := [(zc, .inl (cA, 288, .inl cd)), (zj, .inl (cA, 48, .inl ju)), (ze, .inl (cA, 48, .inl en)), (zt, .inl (cA, 24, .inl ot)), (zo, .inl (cA, 24, .inl oj)), (za, .inl (cA, 24, .inl at9))]) (w2 := [(h4, .inr (4, [.ref zc, .int (nI nn), .int (nI 0), .ref zj, .ref ze, .int (nI ed), .ref zt, .ref zo, .ref za, .ref zr, .ref zm, .ref zl, .int qc, .int (-1), .int (nI qw), .int (nI qb), .int (nI ql)])), (zc, .inl (cA, 288, .inl cd)), (zj, .inl (cA, 48, .inl ju)), (ze, .inl (cA, 48, .inl en)), (zt, .inl (cA, 24, .inl ot)), (zo, .inl (cA, 24, .inl oj)), (za, .inl (cA, 24, .inl at9))]) rfl rfl (by decide) (by decide) (by decide) rfl (fun H locs hP hD hS => ?_)
  refine lv_aload_n hx hb dX4_protect_4 rfl (lv_at hl 0 rfl) ?_
  refine jr_i (va_runV (As := []) (rest := []) ⟨hx, hb, hml, hown, hts⟩ (c_X4_whole l D cA h4 zc zj ze zt zo za zr zm zl nn 0 ed qc (-1) qw qb ql cd (by first | assumption | omega)) (cwV 0 hts gX4_protect_X4_whole rfl rfl rfl hv_X4_whole ⟨Nat.le_of_ble_eq_true rfl, Nat.le_of_ble_eq_true rfl⟩) (roP.V (va_recv hK hP (ci := 4) (q0 := 0) rfl rfl) (jP_sub (w2 := [(h4, .inr (4, [.ref zc, .int (nI nn), .int (nI 0), .ref zj, .ref ze, .int (nI ed), .ref zt, .ref zo, .ref za, .ref zr, .ref zm, .ref zl, .int qc, .int (-1), .int (nI qw), .int (nI qb), .int (nI ql)])), (zc, .inl (cA, 288, .inl cd))]) hP [0, 1] rfl) hK hN) rfl rfl hl.1 rfl (lv_room (Nat.le_of_ble_eq_true rfl)) dX4_protect_5 ⟨Nat.le_of_ble_eq_true rfl, Nat.le_of_ble_eq_true rfl⟩) ?_
  refine lv_if_ne (tgt := 13) hx hb dX4_protect_8 (by decide) (fun c_8 => ?_) (fun c_8 => ?_)
  · replace c_8 := jB_nz.mp c_8
    refine lv_aload_n hx hb dX4_protect_13 rfl (lv_at hl 0 rfl) ?_
    refine jw_v (va_runV (As := []) (rest := []) ⟨hx, hb, hml, hown, hts⟩ (c_X4_classes l D cA H.size h4 zc zj ze zt zo za zr zm zl nn 0 ed qc (-1) qw qb ql ju en ot oj (by first | assumption | omega) (by first | assumption | omega)) (cwV 0 hts gX4_protect_X4_classes rfl rfl rfl hv_X4_classes ⟨Nat.le_of_ble_eq_true rfl, Nat.le_of_ble_eq_true rfl⟩) (rwP.V (wc := [(h4, .inr (4, [.ref zc, .int (nI nn), .int (nI 0), .ref zj, .ref ze, .int (nI ed), .ref zt, .ref zo, .ref za, .ref zr, .ref zm, .ref zl, .int qc, .int (-1), .int (nI qw), .int (nI qb), .int (nI ql)])), (zj, .inl (cA, 48, .inl ju)), (ze, .inl (cA, 48, .inl en)), (zt, .inl (cA, 24, .inl ot)), (zo, .inl (cA, 24, .inl oj))]) (va_recv hK hP (ci := 4) (q0 := 0) rfl rfl) hP hD hK hN [0, 2, 3, 4, 5] (by decide) rfl) rfl rfl hl.1 rfl (lv_room (Nat.le_of_ble_eq_true rfl)) dX4_protect_14 ⟨Nat.le_of_ble_eq_true rfl, Nat.le_of_ble_eq_true rfl⟩) hP hD hS hA [0, 2, 3, 4, 5] [1, 6] [2, 0, 3, 4, 5, 6, 1] (wr := [(zc, .inl (cA, 288, .inl cd)), (za, .inl (cA, 24, .inl at9))]) (w2 := [(h4, .inr (4, [.ref zc, .int (nI nn), .int (nI 0), .ref zj, .ref ze, .int (nI ed), .ref zt, .ref zo, .ref za, .ref zr, .ref zm, .ref zl, .int qc, .int (-1), .int (nI qw), .int (nI qb), .int (nI ql)])), (zc, .inl (cA, 288, .inl cd)), (zj, .inl (cA, 48, .inl ju)), (ze, .inl (cA, 48, .inl en)), (zt, .inl (cA, 24, .inl ((cls ju en ot oj ed).1))), (zo, .inl (cA, 24, .inl ((cls ju en ot oj ed).2))), (za, .inl (cA, 24, .inl at9))]) rfl rfl (by decide) (by decide) (by decide) rfl (fun H locs hP hD hS => ?_)
    obtain ⟨T, hT⟩ : ∃ T, T = (cls ju en ot oj ed).1 := ⟨_, rfl⟩
    obtain ⟨J, hJ⟩ : ∃ J, J = (cls ju en ot oj ed).2 := ⟨_, rfl⟩
    rw [← hT, ← hJ] at hP hD
    refine lv_iconst (v := 0) hx hb dX4_protect_17 (by decide) ?_
    refine lv_istore_n (lv' := [(1, .int 0), (0, .ref h4)]) hx hb dX4_protect_18 rfl hl (by decide) rfl (fun ls hl => ?_)
    refine lv_iconst (v := 0) hx hb dX4_protect_19 (by decide) ?_
    refine lv_istore_n (lv' := [(2, .int 0), (1, .int 0), (0, .ref h4)]) hx hb dX4_protect_20 rfl hl (by decide) rfl (fun ls hl => ?_)
    have loop21 : ∀ (n : Nat) (i : Nat) (kk : Nat) (F : Nat → Int32), (i ≤ nn) → (nn + 1 ≤ i + n) → (kk = rPl cd T i) → (F = rAt cd T at9 i) → ∀ (H : Heap) (locs : List Loc), va_P D vwCl [(h4, .inr (4, [.ref zc, .int (nI nn), .int (nI 0), .ref zj, .ref ze, .int (nI ed), .ref zt, .ref zo, .ref za, .ref zr, .ref zm, .ref zl, .int qc, .int (-1), .int (nI qw), .int (nI qb), .int (nI ql)])), (zc, .inl (cA, 288, .inl cd)), (zj, .inl (cA, 48, .inl ju)), (ze, .inl (cA, 48, .inl en)), (zt, .inl (cA, 24, .inl T)), (zo, .inl (cA, 24, .inl J)), (za, .inl (cA, 24, .inl F))] H → va_D A [(h4, .inr (4, [.ref zc, .int (nI nn), .int (nI 0), .ref zj, .ref ze, .int (nI ed), .ref zt, .ref zo, .ref za, .ref zr, .ref zm, .ref zl, .int qc, .int (-1), .int (nI qw), .int (nI qb), .int (nI ql)])), (zc, .inl (cA, 288, .inl cd)), (zj, .inl (cA, 48, .inl ju)), (ze, .inl (cA, 48, .inl en)), (zt, .inl (cA, 24, .inl T)), (zo, .inl (cA, 24, .inl J)), (za, .inl (cA, 24, .inl F))] → va_S A s.heap H locs → ∀ (ls : Array Slot), lv_has ls 6 [(0, .ref h4), (1, .int (nI kk)), (2, .int (nI i))] → W p l e (headSpec wsX4_protect ({ frames := 1, cells := 0, slots := 0, locals := 24 })).room s m ([.ref h4] : List Value).toArray below meth c H locs 0 0 (MQ below (rwI D A (if rWh cd nn then nI (rN cd (cls ju en ot oj ed).1 (cls ju en ot oj ed).2 (rAt cd (cls ju en ot oj ed).1 at9 nn) nn).1 else -1) [(h4, .inr (4, [.ref zc, .int (nI nn), .int (nI (if rWh cd nn then (rN cd (cls ju en ot oj ed).1 (cls ju en ot oj ed).2 (rAt cd (cls ju en ot oj ed).1 at9 nn) nn).1 else 0)), .ref zj, .ref ze, .int (nI ed), .ref zt, .ref zo, .ref za, .ref zr, .ref zm, .ref zl, .int qc, .int (-1), .int (nI qw), .int (nI qb), .int (nI ql)])), (zc, .inl (cA, 288, .inl (if rWh cd nn then (rN cd (cls ju en ot oj ed).1 (cls ju en ot oj ed).2 (rAt cd (cls ju en ot oj ed).1 at9 nn) nn).2 else cd))), (zj, .inl (cA, 48, .inl ju)), (ze, .inl (cA, 48, .inl en)), (zt, .inl (cA, 24, .inl (if rWh cd nn then (cls ju en ot oj ed).1 else ot))), (zo, .inl (cA, 24, .inl (if rWh cd nn then (cls ju en ot oj ed).2 else oj))), (za, .inl (cA, 24, .inl (if rWh cd nn then rAt cd (cls ju en ot oj ed).1 at9 nn else at9)))]) ([.ref h4] : List Value).toArray s 0 0 A) (F0 m 21 ls []) := by
      intro n
      induction n with
      | zero => intro i kk F hi hfu hkk hF; exact absurd hfu (by omega)
      | succ n ih21 =>
        intro i kk F hi hfu hkk hF H locs hP hD hS ls hl
        refine lv_iload_n hx hb dX4_protect_21 rfl (lv_at hl 2 rfl) ?_
        refine lv_aload_n hx hb dX4_protect_22 rfl (lv_at hl 0 rfl) ?_
        refine va_get (D := D) (ci := 4) (v := .int (nI nn)) (C := RX4) (T := TX4) (N := 17) hx hb hts iw_X4_protect_X4 hown hK hP 0 rfl rfl 1 (by decide) (hts (.fieldLink RX4 52 "JumpGuardModel" "n" "I") (List.mem_of_getElem? (l := wsX4_protect) (i := 1) rfl)) (fun _ h9 => h9) rfl dX4_protect_23 ?_
        refine lv_icmp_ge (tgt := 80) hx hb dX4_protect_26 (by decide) (fun c_26 => ?_) (fun c_26 => ?_)
        · have hi2 : i = nn := by
            rcases Nat.lt_or_ge i nn with q | q
            · exact absurd c_26 (nI_ge q (by omega))
            · omega
          have hF9 : F = rAt cd T at9 nn := by rw [hF, hi2]
          refine lv_iconst (v := 0) hx hb dX4_protect_80 (by decide) ?_
          refine lv_istore_n (lv' := [(2, .int 0), (0, .ref h4), (1, .int (nI kk))]) hx hb dX4_protect_81 rfl hl (by decide) rfl (fun ls hl => ?_)
          have loop82 : ∀ (n : Nat) (i : Nat) (g : GS), (i ≤ nn) → (nn + 1 ≤ i + n) → (g = rN cd T J F i) → ∀ (H : Heap) (locs : List Loc), va_P D vwCl [(h4, .inr (4, [.ref zc, .int (nI nn), .int (nI g.1), .ref zj, .ref ze, .int (nI ed), .ref zt, .ref zo, .ref za, .ref zr, .ref zm, .ref zl, .int qc, .int (-1), .int (nI qw), .int (nI qb), .int (nI ql)])), (zc, .inl (cA, 288, .inl g.2)), (zj, .inl (cA, 48, .inl ju)), (ze, .inl (cA, 48, .inl en)), (zt, .inl (cA, 24, .inl T)), (zo, .inl (cA, 24, .inl J)), (za, .inl (cA, 24, .inl F))] H → va_D A [(h4, .inr (4, [.ref zc, .int (nI nn), .int (nI g.1), .ref zj, .ref ze, .int (nI ed), .ref zt, .ref zo, .ref za, .ref zr, .ref zm, .ref zl, .int qc, .int (-1), .int (nI qw), .int (nI qb), .int (nI ql)])), (zc, .inl (cA, 288, .inl g.2)), (zj, .inl (cA, 48, .inl ju)), (ze, .inl (cA, 48, .inl en)), (zt, .inl (cA, 24, .inl T)), (zo, .inl (cA, 24, .inl J)), (za, .inl (cA, 24, .inl F))] → va_S A s.heap H locs → ∀ (ls : Array Slot), lv_has ls 6 [(0, .ref h4), (2, .int (nI i))] → W p l e (headSpec wsX4_protect ({ frames := 1, cells := 0, slots := 0, locals := 24 })).room s m ([.ref h4] : List Value).toArray below meth c H locs 0 0 (MQ below (rwI D A (if rWh cd nn then nI (rN cd (cls ju en ot oj ed).1 (cls ju en ot oj ed).2 (rAt cd (cls ju en ot oj ed).1 at9 nn) nn).1 else -1) [(h4, .inr (4, [.ref zc, .int (nI nn), .int (nI (if rWh cd nn then (rN cd (cls ju en ot oj ed).1 (cls ju en ot oj ed).2 (rAt cd (cls ju en ot oj ed).1 at9 nn) nn).1 else 0)), .ref zj, .ref ze, .int (nI ed), .ref zt, .ref zo, .ref za, .ref zr, .ref zm, .ref zl, .int qc, .int (-1), .int (nI qw), .int (nI qb), .int (nI ql)])), (zc, .inl (cA, 288, .inl (if rWh cd nn then (rN cd (cls ju en ot oj ed).1 (cls ju en ot oj ed).2 (rAt cd (cls ju en ot oj ed).1 at9 nn) nn).2 else cd))), (zj, .inl (cA, 48, .inl ju)), (ze, .inl (cA, 48, .inl en)), (zt, .inl (cA, 24, .inl (if rWh cd nn then (cls ju en ot oj ed).1 else ot))), (zo, .inl (cA, 24, .inl (if rWh cd nn then (cls ju en ot oj ed).2 else oj))), (za, .inl (cA, 24, .inl (if rWh cd nn then rAt cd (cls ju en ot oj ed).1 at9 nn else at9)))]) ([.ref h4] : List Value).toArray s 0 0 A) (F0 m 82 ls []) := by
            intro n
            induction n with
            | zero => intro i g hi hfu hg; exact absurd hfu (by omega)
            | succ n ih82 =>
              intro i g hi hfu hg H locs hP hD hS ls hl
              refine lv_iload_n hx hb dX4_protect_82 rfl (lv_at hl 1 rfl) ?_
              refine lv_aload_n hx hb dX4_protect_83 rfl (lv_at hl 0 rfl) ?_
              refine va_get (D := D) (ci := 4) (v := .int (nI nn)) (C := RX4) (T := TX4) (N := 17) hx hb hts iw_X4_protect_X4 hown hK hP 0 rfl rfl 1 (by decide) (hts (.fieldLink RX4 52 "JumpGuardModel" "n" "I") (List.mem_of_getElem? (l := wsX4_protect) (i := 1) rfl)) (fun _ h9 => h9) rfl dX4_protect_84 ?_
              refine lv_icmp_ge (tgt := 232) hx hb dX4_protect_87 (by decide) (fun c_87 => ?_) (fun c_87 => ?_)
              · have hi2 : i = nn := by
                  rcases Nat.lt_or_ge i nn with q | q
                  · exact absurd c_87 (nI_ge q (by omega))
                  · omega
                refine lv_aload_n hx hb dX4_protect_232 rfl (lv_at hl 0 rfl) ?_
                refine va_get (D := D) (ci := 4) (v := .int (nI g.1)) (C := RX4) (T := TX4) (N := 17) hx hb hts iw_X4_protect_X4 hown hK hP 0 rfl rfl 2 (by decide) (hts (.fieldLink RX4 45 "JumpGuardModel" "size" "I") (List.mem_of_getElem? (l := wsX4_protect) (i := 6) rfl)) (fun _ h9 => h9) rfl dX4_protect_233 ?_
                obtain ⟨hP9, hD9⟩ := jk_end (w2 := [(h4, .inr (4, [.ref zc, .int (nI nn), .int (nI g.1), .ref zj, .ref ze, .int (nI ed), .ref zt, .ref zo, .ref za, .ref zr, .ref zm, .ref zl, .int qc, .int (-1), .int (nI qw), .int (nI qb), .int (nI ql)])), (zc, .inl (cA, 288, .inl g.2)), (zj, .inl (cA, 48, .inl ju)), (ze, .inl (cA, 48, .inl en)), (zt, .inl (cA, 24, .inl T)), (zo, .inl (cA, 24, .inl J)), (za, .inl (cA, 24, .inl F))]) hP hD [0, 1, 2, 3, 4, 5, 6] (by decide) rfl
                have e9 : ([(h4, .inr (4, [.ref zc, .int (nI nn), .int (nI g.1), .ref zj, .ref ze, .int (nI ed), .ref zt, .ref zo, .ref za, .ref zr, .ref zm, .ref zl, .int qc, .int (-1), .int (nI qw), .int (nI qb), .int (nI ql)])), (zc, .inl (cA, 288, .inl g.2)), (zj, .inl (cA, 48, .inl ju)), (ze, .inl (cA, 48, .inl en)), (zt, .inl (cA, 24, .inl T)), (zo, .inl (cA, 24, .inl J)), (za, .inl (cA, 24, .inl F))] : va_W) = [(h4, .inr (4, [.ref zc, .int (nI nn), .int (nI (if rWh cd nn then (rN cd (cls ju en ot oj ed).1 (cls ju en ot oj ed).2 (rAt cd (cls ju en ot oj ed).1 at9 nn) nn).1 else 0)), .ref zj, .ref ze, .int (nI ed), .ref zt, .ref zo, .ref za, .ref zr, .ref zm, .ref zl, .int qc, .int (-1), .int (nI qw), .int (nI qb), .int (nI ql)])), (zc, .inl (cA, 288, .inl (if rWh cd nn then (rN cd (cls ju en ot oj ed).1 (cls ju en ot oj ed).2 (rAt cd (cls ju en ot oj ed).1 at9 nn) nn).2 else cd))), (zj, .inl (cA, 48, .inl ju)), (ze, .inl (cA, 48, .inl en)), (zt, .inl (cA, 24, .inl (if rWh cd nn then (cls ju en ot oj ed).1 else ot))), (zo, .inl (cA, 24, .inl (if rWh cd nn then (cls ju en ot oj ed).2 else oj))), (za, .inl (cA, 24, .inl (if rWh cd nn then rAt cd (cls ju en ot oj ed).1 at9 nn else at9)))] := (by simp only [if_pos c_8]; rw [hg, hi2, hF9, hT, hJ])
                rw [e9] at hP9 hD9
                exact W.iret (v := (nI g.1)) hx hb hr (fun t9 ht9 hW9 => ⟨⟨_, (), rfl, (show (nI g.1) = (if rWh cd nn then nI (rN cd (cls ju en ot oj ed).1 (cls ju en ot oj ed).2 (rAt cd (cls ju en ot oj ed).1 at9 nn) nn).1 else -1) from (by rw [if_pos c_8, hg, hi2, hF9, hT, hJ])), by rw [ht9]; exact hP9, hD9⟩, hS.F ht9⟩) hS.2.2 dX4_protect_236
              · have hi2 : i < nn := by
                  rcases Nat.lt_or_ge i nn with q | q
                  · exact q
                  · exact absurd (nI_le q (by omega)) c_87
                have hg1 : g.1 ≤ 3 * i := by rw [hg, rN_1 cd T J F hnn i (by omega)]; exact rPl_le cd T i
                have hlow : ∀ j, j < 72 → g.2 j = cd j := fun j hj => by rw [hg]; exact rN_low cd T J F i hj
                refine lv_aload_n hx hb dX4_protect_90 rfl (lv_at hl 0 rfl) ?_
                refine va_get (D := D) (ci := 4) (v := .ref zc) (C := RX4) (T := TX4) (N := 17) hx hb hts iw_X4_protect_X4 hown hK hP 0 rfl rfl 0 (by decide) (hts (.fieldLink RX4 7 "JumpGuardModel" "code" "[I") (List.mem_of_getElem? (l := wsX4_protect) (i := 4) rfl)) (fun _ h9 => h9) rfl dX4_protect_91 ?_
                refine lv_iconst (v := 3) hx hb dX4_protect_94 (by decide) ?_
                refine lv_iload_n hx hb dX4_protect_95 rfl (lv_at hl 1 rfl) ?_
                refine lv_imul hx hb dX4_protect_96 ?_
                refine jk_top (show (3 * (nI i)) = (nI (3 * i)) from jn_3m i) ?_
                refine jk_ald hx hb hK hP 1 0 rfl rfl (k := (3 * i)) rfl (by omega) (by omega) dX4_protect_97 ?_
                refine lv_istore_n (lv' := [(3, .int (g.2 (3 * i))), (0, .ref h4), (2, .int (nI i))]) hx hb dX4_protect_98 rfl hl (by decide) rfl (fun ls hl => ?_)
                refine lv_aload_n hx hb dX4_protect_99 rfl (lv_at hl 1 rfl) ?_
                refine va_get (D := D) (ci := 4) (v := .ref zc) (C := RX4) (T := TX4) (N := 17) hx hb hts iw_X4_protect_X4 hown hK hP 0 rfl rfl 0 (by decide) (hts (.fieldLink RX4 7 "JumpGuardModel" "code" "[I") (List.mem_of_getElem? (l := wsX4_protect) (i := 4) rfl)) (fun _ h9 => h9) rfl dX4_protect_100 ?_
                refine lv_iconst (v := 3) hx hb dX4_protect_103 (by decide) ?_
                refine lv_iload_n hx hb dX4_protect_104 rfl (lv_at hl 2 rfl) ?_
                refine lv_imul hx hb dX4_protect_105 ?_
                refine jk_top (show (3 * (nI i)) = (nI (3 * i)) from jn_3m i) ?_
                refine lv_iconst (v := 1) hx hb dX4_protect_106 (by decide) ?_
                refine lv_iadd hx hb dX4_protect_107 ?_
                refine jk_top (show ((nI (3 * i)) + 1) = (nI (3 * i + 1)) from jn_a1 _) ?_
                refine jk_ald hx hb hK hP 1 0 rfl rfl (k := (3 * i + 1)) rfl (by omega) (by omega) dX4_protect_108 ?_
                refine lv_istore (lv' := [(4, .int (g.2 (3 * i + 1))), (3, .int (g.2 (3 * i))), (0, .ref h4), (2, .int (nI i))]) hx hb dX4_protect_109 hl (by decide) rfl (fun ls hl => ?_)
                refine lv_aload_n hx hb dX4_protect_111 rfl (lv_at hl 2 rfl) ?_
                refine va_get (D := D) (ci := 4) (v := .ref zc) (C := RX4) (T := TX4) (N := 17) hx hb hts iw_X4_protect_X4 hown hK hP 0 rfl rfl 0 (by decide) (hts (.fieldLink RX4 7 "JumpGuardModel" "code" "[I") (List.mem_of_getElem? (l := wsX4_protect) (i := 4) rfl)) (fun _ h9 => h9) rfl dX4_protect_112 ?_
                refine lv_iconst (v := 3) hx hb dX4_protect_115 (by decide) ?_
                refine lv_iload_n hx hb dX4_protect_116 rfl (lv_at hl 3 rfl) ?_
                refine lv_imul hx hb dX4_protect_117 ?_
                refine jk_top (show (3 * (nI i)) = (nI (3 * i)) from jn_3m i) ?_
                refine lv_iconst (v := 2) hx hb dX4_protect_118 (by decide) ?_
                refine lv_iadd hx hb dX4_protect_119 ?_
                refine jk_top (show ((nI (3 * i)) + 2) = (nI (3 * i + 2)) from jn_a2 _) ?_
                refine jk_ald hx hb hK hP 1 0 rfl rfl (k := (3 * i + 2)) rfl (by omega) (by omega) dX4_protect_120 ?_
                refine lv_istore (lv' := [(5, .int (g.2 (3 * i + 2))), (4, .int (g.2 (3 * i + 1))), (3, .int (g.2 (3 * i))), (0, .ref h4), (2, .int (nI i))]) hx hb dX4_protect_121 hl (by decide) rfl (fun ls hl => ?_)
                refine lv_aload_n hx hb dX4_protect_123 rfl (lv_at hl 3 rfl) ?_
                refine va_get (D := D) (ci := 4) (v := .ref zt) (C := RX4) (T := TX4) (N := 17) hx hb hts iw_X4_protect_X4 hown hK hP 0 rfl rfl 6 (by decide) (hts (.fieldLink RX4 19 "JumpGuardModel" "ofTarget" "[I") (List.mem_of_getElem? (l := wsX4_protect) (i := 3) rfl)) (fun _ h9 => h9) rfl dX4_protect_124 ?_
                refine lv_iload_n hx hb dX4_protect_127 rfl (lv_at hl 4 rfl) ?_
                refine jk_ald hx hb hK hP 4 0 rfl rfl (k := i) rfl (by omega) (by omega) dX4_protect_128 ?_
                refine lv_if_le (tgt := 145) hx hb dX4_protect_129 (by decide) (fun c_129 => ?_) (fun c_129 => ?_)
                · refine lv_iload_n hx hb dX4_protect_145 rfl (lv_at hl 2 rfl) ?_
                  refine lv_bipush (v := 8) hx hb dX4_protect_146 (by decide) ?_
                  refine lv_icmp_ne (tgt := 165) hx hb dX4_protect_148 (by decide) (fun c_148 => ?_) (fun c_148 => ?_)
                  · refine lv_iload_n hx hb dX4_protect_165 rfl (lv_at hl 2 rfl) ?_
                    refine lv_bipush (v := 6) hx hb dX4_protect_166 (by decide) ?_
                    refine lv_icmp_ne (tgt := 188) hx hb dX4_protect_168 (by decide) (fun c_168 => ?_) (fun c_168 => ?_)
                    · refine lv_iload_n hx hb dX4_protect_188 rfl (lv_at hl 2 rfl) ?_
                      refine lv_bipush (v := 7) hx hb dX4_protect_189 (by decide) ?_
                      refine lv_icmp_eq (tgt := 200) hx hb dX4_protect_191 (by decide) (fun c_191 => ?_) (fun c_191 => ?_)
                      · obtain ⟨t, ht, eb⟩ : ∃ t, t < 24 ∧ g.2 (3 * i + 2) = nI t := by
                          have c9 := c_191
                          rw [hlow _ (by omega)] at c9
                          rw [hlow _ (by omega)]
                          exact (hfit i hi2).2 (Or.inl c9)
                        refine lv_aload_n hx hb dX4_protect_200 rfl (lv_at hl 3 rfl) ?_
                        refine lv_iload_n hx hb dX4_protect_201 rfl (lv_at hl 2 rfl) ?_
                        refine lv_iload hx hb dX4_protect_202 (lv_at hl 1 rfl) ?_
                        refine lv_aload_n hx hb dX4_protect_204 rfl (lv_at hl 3 rfl) ?_
                        refine va_get (D := D) (ci := 4) (v := .ref za) (C := RX4) (T := TX4) (N := 17) hx hb hts iw_X4_protect_X4 hown hK hP 0 rfl rfl 8 (by decide) (hts (.fieldLink RX4 25 "JumpGuardModel" "at" "[I") (List.mem_of_getElem? (l := wsX4_protect) (i := 2) rfl)) (fun _ h9 => h9) rfl dX4_protect_205 ?_
                        refine lv_iload hx hb dX4_protect_208 (lv_at hl 0 rfl) ?_
                        refine jk_ald hx hb hK hP 6 0 rfl rfl (k := t) eb (by omega) (by omega) dX4_protect_210 ?_
                        refine jw_v (va_runV (As := [.int (g.2 (3 * i)), .int (g.2 (3 * i + 1)), .int (F t)]) (rest := []) ⟨hx, hb, hml, hown, hts⟩ (c_X4_put l D cA H.size h4 zc zj ze zt zo za zr zm zl nn g.1 ed qc (-1) qw qb ql g.2 (g.2 (3 * i)) (g.2 (3 * i + 1)) (F t) (by omega)) (cwV 3 hts gX4_protect_X4_put rfl rfl rfl hv_X4_put ⟨Nat.le_of_ble_eq_true rfl, Nat.le_of_ble_eq_true rfl⟩) (rwP.V (wc := [(h4, .inr (4, [.ref zc, .int (nI nn), .int (nI g.1), .ref zj, .ref ze, .int (nI ed), .ref zt, .ref zo, .ref za, .ref zr, .ref zm, .ref zl, .int qc, .int (-1), .int (nI qw), .int (nI qb), .int (nI ql)])), (zc, .inl (cA, 288, .inl g.2))]) (va_recv hK hP (ci := 4) (q0 := 0) rfl rfl) hP hD hK hN [0, 1] (by decide) rfl) rfl rfl hl.1 rfl (lv_room (Nat.le_of_ble_eq_true rfl)) dX4_protect_211 ⟨Nat.le_of_ble_eq_true rfl, Nat.le_of_ble_eq_true rfl⟩) hP hD hS hA [0, 1] [2, 3, 4, 5, 6] [5, 6, 0, 1, 2, 3, 4] (wr := [(zj, .inl (cA, 48, .inl ju)), (ze, .inl (cA, 48, .inl en)), (zt, .inl (cA, 24, .inl T)), (zo, .inl (cA, 24, .inl J)), (za, .inl (cA, 24, .inl F))]) (w2 := [(h4, .inr (4, [.ref zc, .int (nI nn), .int (nI (g.1 + 1)), .ref zj, .ref ze, .int (nI ed), .ref zt, .ref zo, .ref za, .ref zr, .ref zm, .ref zl, .int qc, .int (-1), .int (nI qw), .int (nI qb), .int (nI ql)])), (zc, .inl (cA, 288, .inl (rPut g.2 g.1 (g.2 (3 * i)) (g.2 (3 * i + 1)) (F t)))), (zj, .inl (cA, 48, .inl ju)), (ze, .inl (cA, 48, .inl en)), (zt, .inl (cA, 24, .inl T)), (zo, .inl (cA, 24, .inl J)), (za, .inl (cA, 24, .inl F))]) rfl rfl (by decide) (by decide) (by decide) rfl (fun H locs hP hD hS => ?_)
                        refine lv_goto (tgt := 226) hx hb dX4_protect_214 (by decide) ?_
                        refine lv_iinc (v := (nI (i + 1))) (lv' := [(2, .int (nI (i + 1))), (5, .int (g.2 (3 * i + 2))), (4, .int (g.2 (3 * i + 1))), (3, .int (g.2 (3 * i))), (0, .ref h4)]) hx hb dX4_protect_226 hl (k := 4) rfl (jn_a1 _) (by decide) rfl (fun ls hl => ?_)
                        refine lv_goto (tgt := 82) hx hb dX4_protect_229 (by decide) ?_
                        have e9 : ([(h4, .inr (4, [.ref zc, .int (nI nn), .int (nI (g.1 + 1)), .ref zj, .ref ze, .int (nI ed), .ref zt, .ref zo, .ref za, .ref zr, .ref zm, .ref zl, .int qc, .int (-1), .int (nI qw), .int (nI qb), .int (nI ql)])), (zc, .inl (cA, 288, .inl (rPut g.2 g.1 (g.2 (3 * i)) (g.2 (3 * i + 1)) (F t)))), (zj, .inl (cA, 48, .inl ju)), (ze, .inl (cA, 48, .inl en)), (zt, .inl (cA, 24, .inl T)), (zo, .inl (cA, 24, .inl J)), (za, .inl (cA, 24, .inl F))] : va_W) = [(h4, .inr (4, [.ref zc, .int (nI nn), .int (nI (rA T J F i g).1), .ref zj, .ref ze, .int (nI ed), .ref zt, .ref zo, .ref za, .ref zr, .ref zm, .ref zl, .int qc, .int (-1), .int (nI qw), .int (nI qb), .int (nI ql)])), (zc, .inl (cA, 288, .inl ((rA T J F i g).2))), (zj, .inl (cA, 48, .inl ju)), (ze, .inl (cA, 48, .inl en)), (zt, .inl (cA, 24, .inl T)), (zo, .inl (cA, 24, .inl J)), (za, .inl (cA, 24, .inl F))] := by unfold rA rA3 rA2 rA1; simp only [if_pos c_129, if_neg c_148, if_neg c_168, if_pos (Or.inl c_191 : g.2 (3 * i) = 7 ∨ g.2 (3 * i) = 9)]; rw [eb, nI_clamp (by omega)]
                        rw [e9] at hP hD
                        exact ih82 (i + 1) (rA T J F i g) (by omega) (by omega) (by rw [hg]; rfl) _ _ (jP_sub (w2 := [(h4, .inr (4, [.ref zc, .int (nI nn), .int (nI (rA T J F i g).1), .ref zj, .ref ze, .int (nI ed), .ref zt, .ref zo, .ref za, .ref zr, .ref zm, .ref zl, .int qc, .int (-1), .int (nI qw), .int (nI qb), .int (nI ql)])), (zc, .inl (cA, 288, .inl ((rA T J F i g).2))), (zj, .inl (cA, 48, .inl ju)), (ze, .inl (cA, 48, .inl en)), (zt, .inl (cA, 24, .inl T)), (zo, .inl (cA, 24, .inl J)), (za, .inl (cA, 24, .inl F))]) hP [0, 1, 2, 3, 4, 5, 6] rfl) (hD.sub (ws' := [(h4, .inr (4, [.ref zc, .int (nI nn), .int (nI (rA T J F i g).1), .ref zj, .ref ze, .int (nI ed), .ref zt, .ref zo, .ref za, .ref zr, .ref zm, .ref zl, .int qc, .int (-1), .int (nI qw), .int (nI qb), .int (nI ql)])), (zc, .inl (cA, 288, .inl ((rA T J F i g).2))), (zj, .inl (cA, 48, .inl ju)), (ze, .inl (cA, 48, .inl en)), (zt, .inl (cA, 24, .inl T)), (zo, .inl (cA, 24, .inl J)), (za, .inl (cA, 24, .inl F))]) [0, 1, 2, 3, 4, 5, 6] (by decide) rfl) hS ls (lv_sub hl [4, 0] rfl)
                      · refine lv_iload_n hx hb dX4_protect_194 rfl (lv_at hl 2 rfl) ?_
                        refine lv_bipush (v := 9) hx hb dX4_protect_195 (by decide) ?_
                        refine lv_icmp_ne (tgt := 217) hx hb dX4_protect_197 (by decide) (fun c_197 => ?_) (fun c_197 => ?_)
                        · refine lv_aload_n hx hb dX4_protect_217 rfl (lv_at hl 3 rfl) ?_
                          refine lv_iload_n hx hb dX4_protect_218 rfl (lv_at hl 2 rfl) ?_
                          refine lv_iload hx hb dX4_protect_219 (lv_at hl 1 rfl) ?_
                          refine lv_iload hx hb dX4_protect_221 (lv_at hl 0 rfl) ?_
                          refine jw_v (va_runV (As := [.int (g.2 (3 * i)), .int (g.2 (3 * i + 1)), .int (g.2 (3 * i + 2))]) (rest := []) ⟨hx, hb, hml, hown, hts⟩ (c_X4_put l D cA H.size h4 zc zj ze zt zo za zr zm zl nn g.1 ed qc (-1) qw qb ql g.2 (g.2 (3 * i)) (g.2 (3 * i + 1)) (g.2 (3 * i + 2)) (by omega)) (cwV 3 hts gX4_protect_X4_put rfl rfl rfl hv_X4_put ⟨Nat.le_of_ble_eq_true rfl, Nat.le_of_ble_eq_true rfl⟩) (rwP.V (wc := [(h4, .inr (4, [.ref zc, .int (nI nn), .int (nI g.1), .ref zj, .ref ze, .int (nI ed), .ref zt, .ref zo, .ref za, .ref zr, .ref zm, .ref zl, .int qc, .int (-1), .int (nI qw), .int (nI qb), .int (nI ql)])), (zc, .inl (cA, 288, .inl g.2))]) (va_recv hK hP (ci := 4) (q0 := 0) rfl rfl) hP hD hK hN [0, 1] (by decide) rfl) rfl rfl hl.1 rfl (lv_room (Nat.le_of_ble_eq_true rfl)) dX4_protect_223 ⟨Nat.le_of_ble_eq_true rfl, Nat.le_of_ble_eq_true rfl⟩) hP hD hS hA [0, 1] [2, 3, 4, 5, 6] [5, 6, 0, 1, 2, 3, 4] (wr := [(zj, .inl (cA, 48, .inl ju)), (ze, .inl (cA, 48, .inl en)), (zt, .inl (cA, 24, .inl T)), (zo, .inl (cA, 24, .inl J)), (za, .inl (cA, 24, .inl F))]) (w2 := [(h4, .inr (4, [.ref zc, .int (nI nn), .int (nI (g.1 + 1)), .ref zj, .ref ze, .int (nI ed), .ref zt, .ref zo, .ref za, .ref zr, .ref zm, .ref zl, .int qc, .int (-1), .int (nI qw), .int (nI qb), .int (nI ql)])), (zc, .inl (cA, 288, .inl (rPut g.2 g.1 (g.2 (3 * i)) (g.2 (3 * i + 1)) (g.2 (3 * i + 2))))), (zj, .inl (cA, 48, .inl ju)), (ze, .inl (cA, 48, .inl en)), (zt, .inl (cA, 24, .inl T)), (zo, .inl (cA, 24, .inl J)), (za, .inl (cA, 24, .inl F))]) rfl rfl (by decide) (by decide) (by decide) rfl (fun H locs hP hD hS => ?_)
                          refine lv_iinc (v := (nI (i + 1))) (lv' := [(2, .int (nI (i + 1))), (5, .int (g.2 (3 * i + 2))), (4, .int (g.2 (3 * i + 1))), (3, .int (g.2 (3 * i))), (0, .ref h4)]) hx hb dX4_protect_226 hl (k := 4) rfl (jn_a1 _) (by decide) rfl (fun ls hl => ?_)
                          refine lv_goto (tgt := 82) hx hb dX4_protect_229 (by decide) ?_
                          have e9 : ([(h4, .inr (4, [.ref zc, .int (nI nn), .int (nI (g.1 + 1)), .ref zj, .ref ze, .int (nI ed), .ref zt, .ref zo, .ref za, .ref zr, .ref zm, .ref zl, .int qc, .int (-1), .int (nI qw), .int (nI qb), .int (nI ql)])), (zc, .inl (cA, 288, .inl (rPut g.2 g.1 (g.2 (3 * i)) (g.2 (3 * i + 1)) (g.2 (3 * i + 2))))), (zj, .inl (cA, 48, .inl ju)), (ze, .inl (cA, 48, .inl en)), (zt, .inl (cA, 24, .inl T)), (zo, .inl (cA, 24, .inl J)), (za, .inl (cA, 24, .inl F))] : va_W) = [(h4, .inr (4, [.ref zc, .int (nI nn), .int (nI (rA T J F i g).1), .ref zj, .ref ze, .int (nI ed), .ref zt, .ref zo, .ref za, .ref zr, .ref zm, .ref zl, .int qc, .int (-1), .int (nI qw), .int (nI qb), .int (nI ql)])), (zc, .inl (cA, 288, .inl ((rA T J F i g).2))), (zj, .inl (cA, 48, .inl ju)), (ze, .inl (cA, 48, .inl en)), (zt, .inl (cA, 24, .inl T)), (zo, .inl (cA, 24, .inl J)), (za, .inl (cA, 24, .inl F))] := by unfold rA rA3 rA2 rA1; simp only [if_pos c_129, if_neg c_148, if_neg c_168, if_neg (fun h => h.elim c_191 c_197 : ¬ (g.2 (3 * i) = 7 ∨ g.2 (3 * i) = 9))]
                          rw [e9] at hP hD
                          exact ih82 (i + 1) (rA T J F i g) (by omega) (by omega) (by rw [hg]; rfl) _ _ (jP_sub (w2 := [(h4, .inr (4, [.ref zc, .int (nI nn), .int (nI (rA T J F i g).1), .ref zj, .ref ze, .int (nI ed), .ref zt, .ref zo, .ref za, .ref zr, .ref zm, .ref zl, .int qc, .int (-1), .int (nI qw), .int (nI qb), .int (nI ql)])), (zc, .inl (cA, 288, .inl ((rA T J F i g).2))), (zj, .inl (cA, 48, .inl ju)), (ze, .inl (cA, 48, .inl en)), (zt, .inl (cA, 24, .inl T)), (zo, .inl (cA, 24, .inl J)), (za, .inl (cA, 24, .inl F))]) hP [0, 1, 2, 3, 4, 5, 6] rfl) (hD.sub (ws' := [(h4, .inr (4, [.ref zc, .int (nI nn), .int (nI (rA T J F i g).1), .ref zj, .ref ze, .int (nI ed), .ref zt, .ref zo, .ref za, .ref zr, .ref zm, .ref zl, .int qc, .int (-1), .int (nI qw), .int (nI qb), .int (nI ql)])), (zc, .inl (cA, 288, .inl ((rA T J F i g).2))), (zj, .inl (cA, 48, .inl ju)), (ze, .inl (cA, 48, .inl en)), (zt, .inl (cA, 24, .inl T)), (zo, .inl (cA, 24, .inl J)), (za, .inl (cA, 24, .inl F))]) [0, 1, 2, 3, 4, 5, 6] (by decide) rfl) hS ls (lv_sub hl [4, 0] rfl)
                        · obtain ⟨t, ht, eb⟩ : ∃ t, t < 24 ∧ g.2 (3 * i + 2) = nI t := by
                            have c9 := c_197
                            rw [hlow _ (by omega)] at c9
                            rw [hlow _ (by omega)]
                            exact (hfit i hi2).2 (Or.inr c9)
                          refine lv_aload_n hx hb dX4_protect_200 rfl (lv_at hl 3 rfl) ?_
                          refine lv_iload_n hx hb dX4_protect_201 rfl (lv_at hl 2 rfl) ?_
                          refine lv_iload hx hb dX4_protect_202 (lv_at hl 1 rfl) ?_
                          refine lv_aload_n hx hb dX4_protect_204 rfl (lv_at hl 3 rfl) ?_
                          refine va_get (D := D) (ci := 4) (v := .ref za) (C := RX4) (T := TX4) (N := 17) hx hb hts iw_X4_protect_X4 hown hK hP 0 rfl rfl 8 (by decide) (hts (.fieldLink RX4 25 "JumpGuardModel" "at" "[I") (List.mem_of_getElem? (l := wsX4_protect) (i := 2) rfl)) (fun _ h9 => h9) rfl dX4_protect_205 ?_
                          refine lv_iload hx hb dX4_protect_208 (lv_at hl 0 rfl) ?_
                          refine jk_ald hx hb hK hP 6 0 rfl rfl (k := t) eb (by omega) (by omega) dX4_protect_210 ?_
                          refine jw_v (va_runV (As := [.int (g.2 (3 * i)), .int (g.2 (3 * i + 1)), .int (F t)]) (rest := []) ⟨hx, hb, hml, hown, hts⟩ (c_X4_put l D cA H.size h4 zc zj ze zt zo za zr zm zl nn g.1 ed qc (-1) qw qb ql g.2 (g.2 (3 * i)) (g.2 (3 * i + 1)) (F t) (by omega)) (cwV 3 hts gX4_protect_X4_put rfl rfl rfl hv_X4_put ⟨Nat.le_of_ble_eq_true rfl, Nat.le_of_ble_eq_true rfl⟩) (rwP.V (wc := [(h4, .inr (4, [.ref zc, .int (nI nn), .int (nI g.1), .ref zj, .ref ze, .int (nI ed), .ref zt, .ref zo, .ref za, .ref zr, .ref zm, .ref zl, .int qc, .int (-1), .int (nI qw), .int (nI qb), .int (nI ql)])), (zc, .inl (cA, 288, .inl g.2))]) (va_recv hK hP (ci := 4) (q0 := 0) rfl rfl) hP hD hK hN [0, 1] (by decide) rfl) rfl rfl hl.1 rfl (lv_room (Nat.le_of_ble_eq_true rfl)) dX4_protect_211 ⟨Nat.le_of_ble_eq_true rfl, Nat.le_of_ble_eq_true rfl⟩) hP hD hS hA [0, 1] [2, 3, 4, 5, 6] [5, 6, 0, 1, 2, 3, 4] (wr := [(zj, .inl (cA, 48, .inl ju)), (ze, .inl (cA, 48, .inl en)), (zt, .inl (cA, 24, .inl T)), (zo, .inl (cA, 24, .inl J)), (za, .inl (cA, 24, .inl F))]) (w2 := [(h4, .inr (4, [.ref zc, .int (nI nn), .int (nI (g.1 + 1)), .ref zj, .ref ze, .int (nI ed), .ref zt, .ref zo, .ref za, .ref zr, .ref zm, .ref zl, .int qc, .int (-1), .int (nI qw), .int (nI qb), .int (nI ql)])), (zc, .inl (cA, 288, .inl (rPut g.2 g.1 (g.2 (3 * i)) (g.2 (3 * i + 1)) (F t)))), (zj, .inl (cA, 48, .inl ju)), (ze, .inl (cA, 48, .inl en)), (zt, .inl (cA, 24, .inl T)), (zo, .inl (cA, 24, .inl J)), (za, .inl (cA, 24, .inl F))]) rfl rfl (by decide) (by decide) (by decide) rfl (fun H locs hP hD hS => ?_)
                          refine lv_goto (tgt := 226) hx hb dX4_protect_214 (by decide) ?_
                          refine lv_iinc (v := (nI (i + 1))) (lv' := [(2, .int (nI (i + 1))), (5, .int (g.2 (3 * i + 2))), (4, .int (g.2 (3 * i + 1))), (3, .int (g.2 (3 * i))), (0, .ref h4)]) hx hb dX4_protect_226 hl (k := 4) rfl (jn_a1 _) (by decide) rfl (fun ls hl => ?_)
                          refine lv_goto (tgt := 82) hx hb dX4_protect_229 (by decide) ?_
                          have e9 : ([(h4, .inr (4, [.ref zc, .int (nI nn), .int (nI (g.1 + 1)), .ref zj, .ref ze, .int (nI ed), .ref zt, .ref zo, .ref za, .ref zr, .ref zm, .ref zl, .int qc, .int (-1), .int (nI qw), .int (nI qb), .int (nI ql)])), (zc, .inl (cA, 288, .inl (rPut g.2 g.1 (g.2 (3 * i)) (g.2 (3 * i + 1)) (F t)))), (zj, .inl (cA, 48, .inl ju)), (ze, .inl (cA, 48, .inl en)), (zt, .inl (cA, 24, .inl T)), (zo, .inl (cA, 24, .inl J)), (za, .inl (cA, 24, .inl F))] : va_W) = [(h4, .inr (4, [.ref zc, .int (nI nn), .int (nI (rA T J F i g).1), .ref zj, .ref ze, .int (nI ed), .ref zt, .ref zo, .ref za, .ref zr, .ref zm, .ref zl, .int qc, .int (-1), .int (nI qw), .int (nI qb), .int (nI ql)])), (zc, .inl (cA, 288, .inl ((rA T J F i g).2))), (zj, .inl (cA, 48, .inl ju)), (ze, .inl (cA, 48, .inl en)), (zt, .inl (cA, 24, .inl T)), (zo, .inl (cA, 24, .inl J)), (za, .inl (cA, 24, .inl F))] := by unfold rA rA3 rA2 rA1; simp only [if_pos c_129, if_neg c_148, if_neg c_168, if_pos (Or.inr c_197 : g.2 (3 * i) = 7 ∨ g.2 (3 * i) = 9)]; rw [eb, nI_clamp (by omega)]
                          rw [e9] at hP hD
                          exact ih82 (i + 1) (rA T J F i g) (by omega) (by omega) (by rw [hg]; rfl) _ _ (jP_sub (w2 := [(h4, .inr (4, [.ref zc, .int (nI nn), .int (nI (rA T J F i g).1), .ref zj, .ref ze, .int (nI ed), .ref zt, .ref zo, .ref za, .ref zr, .ref zm, .ref zl, .int qc, .int (-1), .int (nI qw), .int (nI qb), .int (nI ql)])), (zc, .inl (cA, 288, .inl ((rA T J F i g).2))), (zj, .inl (cA, 48, .inl ju)), (ze, .inl (cA, 48, .inl en)), (zt, .inl (cA, 24, .inl T)), (zo, .inl (cA, 24, .inl J)), (za, .inl (cA, 24, .inl F))]) hP [0, 1, 2, 3, 4, 5, 6] rfl) (hD.sub (ws' := [(h4, .inr (4, [.ref zc, .int (nI nn), .int (nI (rA T J F i g).1), .ref zj, .ref ze, .int (nI ed), .ref zt, .ref zo, .ref za, .ref zr, .ref zm, .ref zl, .int qc, .int (-1), .int (nI qw), .int (nI qb), .int (nI ql)])), (zc, .inl (cA, 288, .inl ((rA T J F i g).2))), (zj, .inl (cA, 48, .inl ju)), (ze, .inl (cA, 48, .inl en)), (zt, .inl (cA, 24, .inl T)), (zo, .inl (cA, 24, .inl J)), (za, .inl (cA, 24, .inl F))]) [0, 1, 2, 3, 4, 5, 6] (by decide) rfl) hS ls (lv_sub hl [4, 0] rfl)
                    · obtain ⟨t, ht, ea⟩ : ∃ t, t < 24 ∧ g.2 (3 * i + 1) = nI t := by
                        rw [hlow _ (by omega)] at c_168
                        rw [hlow _ (by omega)]
                        exact (hfit i hi2).1 c_168
                      refine lv_aload_n hx hb dX4_protect_171 rfl (lv_at hl 3 rfl) ?_
                      refine lv_iload_n hx hb dX4_protect_172 rfl (lv_at hl 2 rfl) ?_
                      refine lv_aload_n hx hb dX4_protect_173 rfl (lv_at hl 3 rfl) ?_
                      refine va_get (D := D) (ci := 4) (v := .ref za) (C := RX4) (T := TX4) (N := 17) hx hb hts iw_X4_protect_X4 hown hK hP 0 rfl rfl 8 (by decide) (hts (.fieldLink RX4 25 "JumpGuardModel" "at" "[I") (List.mem_of_getElem? (l := wsX4_protect) (i := 2) rfl)) (fun _ h9 => h9) rfl dX4_protect_174 ?_
                      refine lv_iload hx hb dX4_protect_177 (lv_at hl 1 rfl) ?_
                      refine jk_ald hx hb hK hP 6 0 rfl rfl (k := t) ea (by omega) (by omega) dX4_protect_179 ?_
                      refine lv_iload hx hb dX4_protect_180 (lv_at hl 0 rfl) ?_
                      refine jw_v (va_runV (As := [.int (g.2 (3 * i)), .int (F t), .int (g.2 (3 * i + 2))]) (rest := []) ⟨hx, hb, hml, hown, hts⟩ (c_X4_put l D cA H.size h4 zc zj ze zt zo za zr zm zl nn g.1 ed qc (-1) qw qb ql g.2 (g.2 (3 * i)) (F t) (g.2 (3 * i + 2)) (by omega)) (cwV 3 hts gX4_protect_X4_put rfl rfl rfl hv_X4_put ⟨Nat.le_of_ble_eq_true rfl, Nat.le_of_ble_eq_true rfl⟩) (rwP.V (wc := [(h4, .inr (4, [.ref zc, .int (nI nn), .int (nI g.1), .ref zj, .ref ze, .int (nI ed), .ref zt, .ref zo, .ref za, .ref zr, .ref zm, .ref zl, .int qc, .int (-1), .int (nI qw), .int (nI qb), .int (nI ql)])), (zc, .inl (cA, 288, .inl g.2))]) (va_recv hK hP (ci := 4) (q0 := 0) rfl rfl) hP hD hK hN [0, 1] (by decide) rfl) rfl rfl hl.1 rfl (lv_room (Nat.le_of_ble_eq_true rfl)) dX4_protect_182 ⟨Nat.le_of_ble_eq_true rfl, Nat.le_of_ble_eq_true rfl⟩) hP hD hS hA [0, 1] [2, 3, 4, 5, 6] [5, 6, 0, 1, 2, 3, 4] (wr := [(zj, .inl (cA, 48, .inl ju)), (ze, .inl (cA, 48, .inl en)), (zt, .inl (cA, 24, .inl T)), (zo, .inl (cA, 24, .inl J)), (za, .inl (cA, 24, .inl F))]) (w2 := [(h4, .inr (4, [.ref zc, .int (nI nn), .int (nI (g.1 + 1)), .ref zj, .ref ze, .int (nI ed), .ref zt, .ref zo, .ref za, .ref zr, .ref zm, .ref zl, .int qc, .int (-1), .int (nI qw), .int (nI qb), .int (nI ql)])), (zc, .inl (cA, 288, .inl (rPut g.2 g.1 (g.2 (3 * i)) (F t) (g.2 (3 * i + 2))))), (zj, .inl (cA, 48, .inl ju)), (ze, .inl (cA, 48, .inl en)), (zt, .inl (cA, 24, .inl T)), (zo, .inl (cA, 24, .inl J)), (za, .inl (cA, 24, .inl F))]) rfl rfl (by decide) (by decide) (by decide) rfl (fun H locs hP hD hS => ?_)
                      refine lv_goto (tgt := 226) hx hb dX4_protect_185 (by decide) ?_
                      refine lv_iinc (v := (nI (i + 1))) (lv' := [(2, .int (nI (i + 1))), (5, .int (g.2 (3 * i + 2))), (4, .int (g.2 (3 * i + 1))), (3, .int (g.2 (3 * i))), (0, .ref h4)]) hx hb dX4_protect_226 hl (k := 4) rfl (jn_a1 _) (by decide) rfl (fun ls hl => ?_)
                      refine lv_goto (tgt := 82) hx hb dX4_protect_229 (by decide) ?_
                      have e9 : ([(h4, .inr (4, [.ref zc, .int (nI nn), .int (nI (g.1 + 1)), .ref zj, .ref ze, .int (nI ed), .ref zt, .ref zo, .ref za, .ref zr, .ref zm, .ref zl, .int qc, .int (-1), .int (nI qw), .int (nI qb), .int (nI ql)])), (zc, .inl (cA, 288, .inl (rPut g.2 g.1 (g.2 (3 * i)) (F t) (g.2 (3 * i + 2))))), (zj, .inl (cA, 48, .inl ju)), (ze, .inl (cA, 48, .inl en)), (zt, .inl (cA, 24, .inl T)), (zo, .inl (cA, 24, .inl J)), (za, .inl (cA, 24, .inl F))] : va_W) = [(h4, .inr (4, [.ref zc, .int (nI nn), .int (nI (rA T J F i g).1), .ref zj, .ref ze, .int (nI ed), .ref zt, .ref zo, .ref za, .ref zr, .ref zm, .ref zl, .int qc, .int (-1), .int (nI qw), .int (nI qb), .int (nI ql)])), (zc, .inl (cA, 288, .inl ((rA T J F i g).2))), (zj, .inl (cA, 48, .inl ju)), (ze, .inl (cA, 48, .inl en)), (zt, .inl (cA, 24, .inl T)), (zo, .inl (cA, 24, .inl J)), (za, .inl (cA, 24, .inl F))] := by unfold rA rA3 rA2 rA1; simp only [if_pos c_129, if_neg c_148, if_pos c_168]; rw [ea, nI_clamp (by omega)]
                      rw [e9] at hP hD
                      exact ih82 (i + 1) (rA T J F i g) (by omega) (by omega) (by rw [hg]; rfl) _ _ (jP_sub (w2 := [(h4, .inr (4, [.ref zc, .int (nI nn), .int (nI (rA T J F i g).1), .ref zj, .ref ze, .int (nI ed), .ref zt, .ref zo, .ref za, .ref zr, .ref zm, .ref zl, .int qc, .int (-1), .int (nI qw), .int (nI qb), .int (nI ql)])), (zc, .inl (cA, 288, .inl ((rA T J F i g).2))), (zj, .inl (cA, 48, .inl ju)), (ze, .inl (cA, 48, .inl en)), (zt, .inl (cA, 24, .inl T)), (zo, .inl (cA, 24, .inl J)), (za, .inl (cA, 24, .inl F))]) hP [0, 1, 2, 3, 4, 5, 6] rfl) (hD.sub (ws' := [(h4, .inr (4, [.ref zc, .int (nI nn), .int (nI (rA T J F i g).1), .ref zj, .ref ze, .int (nI ed), .ref zt, .ref zo, .ref za, .ref zr, .ref zm, .ref zl, .int qc, .int (-1), .int (nI qw), .int (nI qb), .int (nI ql)])), (zc, .inl (cA, 288, .inl ((rA T J F i g).2))), (zj, .inl (cA, 48, .inl ju)), (ze, .inl (cA, 48, .inl en)), (zt, .inl (cA, 24, .inl T)), (zo, .inl (cA, 24, .inl J)), (za, .inl (cA, 24, .inl F))]) [0, 1, 2, 3, 4, 5, 6] (by decide) rfl) hS ls (lv_sub hl [4, 0] rfl)
                  · refine lv_aload_n hx hb dX4_protect_151 rfl (lv_at hl 3 rfl) ?_
                    refine lv_bipush (v := 11) hx hb dX4_protect_152 (by decide) ?_
                    refine lv_iload hx hb dX4_protect_154 (lv_at hl 1 rfl) ?_
                    refine lv_aload_n hx hb dX4_protect_156 rfl (lv_at hl 3 rfl) ?_
                    refine va_get (D := D) (ci := 4) (v := .ref zo) (C := RX4) (T := TX4) (N := 17) hx hb hts iw_X4_protect_X4 hown hK hP 0 rfl rfl 7 (by decide) (hts (.fieldLink RX4 22 "JumpGuardModel" "ofJump" "[I") (List.mem_of_getElem? (l := wsX4_protect) (i := 5) rfl)) (fun _ h9 => h9) rfl dX4_protect_157 ?_
                    refine lv_iload_n hx hb dX4_protect_160 rfl (lv_at hl 4 rfl) ?_
                    refine jk_ald hx hb hK hP 5 0 rfl rfl (k := i) rfl (by omega) (by omega) dX4_protect_161 ?_
                    refine jw_v (va_runV (As := [.int 11, .int (g.2 (3 * i + 1)), .int (J i)]) (rest := []) ⟨hx, hb, hml, hown, hts⟩ (c_X4_put l D cA H.size h4 zc zj ze zt zo za zr zm zl nn g.1 ed qc (-1) qw qb ql g.2 11 (g.2 (3 * i + 1)) (J i) (by omega)) (cwV 3 hts gX4_protect_X4_put rfl rfl rfl hv_X4_put ⟨Nat.le_of_ble_eq_true rfl, Nat.le_of_ble_eq_true rfl⟩) (rwP.V (wc := [(h4, .inr (4, [.ref zc, .int (nI nn), .int (nI g.1), .ref zj, .ref ze, .int (nI ed), .ref zt, .ref zo, .ref za, .ref zr, .ref zm, .ref zl, .int qc, .int (-1), .int (nI qw), .int (nI qb), .int (nI ql)])), (zc, .inl (cA, 288, .inl g.2))]) (va_recv hK hP (ci := 4) (q0 := 0) rfl rfl) hP hD hK hN [0, 1] (by decide) rfl) rfl rfl hl.1 rfl (lv_room (Nat.le_of_ble_eq_true rfl)) dX4_protect_162 ⟨Nat.le_of_ble_eq_true rfl, Nat.le_of_ble_eq_true rfl⟩) hP hD hS hA [0, 1] [2, 3, 4, 5, 6] [5, 6, 0, 1, 2, 3, 4] (wr := [(zj, .inl (cA, 48, .inl ju)), (ze, .inl (cA, 48, .inl en)), (zt, .inl (cA, 24, .inl T)), (zo, .inl (cA, 24, .inl J)), (za, .inl (cA, 24, .inl F))]) (w2 := [(h4, .inr (4, [.ref zc, .int (nI nn), .int (nI (g.1 + 1)), .ref zj, .ref ze, .int (nI ed), .ref zt, .ref zo, .ref za, .ref zr, .ref zm, .ref zl, .int qc, .int (-1), .int (nI qw), .int (nI qb), .int (nI ql)])), (zc, .inl (cA, 288, .inl (rPut g.2 g.1 11 (g.2 (3 * i + 1)) (J i)))), (zj, .inl (cA, 48, .inl ju)), (ze, .inl (cA, 48, .inl en)), (zt, .inl (cA, 24, .inl T)), (zo, .inl (cA, 24, .inl J)), (za, .inl (cA, 24, .inl F))]) rfl rfl (by decide) (by decide) (by decide) rfl (fun H locs hP hD hS => ?_)
                    refine lv_iload_n hx hb dX4_protect_165 rfl (lv_at hl 2 rfl) ?_
                    refine lv_bipush (v := 6) hx hb dX4_protect_166 (by decide) ?_
                    refine lv_icmp_ne (tgt := 188) hx hb dX4_protect_168 (by decide) (fun c_168 => ?_) (fun c_168 => ?_)
                    · refine lv_iload_n hx hb dX4_protect_188 rfl (lv_at hl 2 rfl) ?_
                      refine lv_bipush (v := 7) hx hb dX4_protect_189 (by decide) ?_
                      refine lv_icmp_eq (tgt := 200) hx hb dX4_protect_191 (by decide) (fun c_191 => ?_) (fun c_191 => ?_)
                      · obtain ⟨t, ht, eb⟩ : ∃ t, t < 24 ∧ g.2 (3 * i + 2) = nI t := by
                          have c9 := c_191
                          rw [hlow _ (by omega)] at c9
                          rw [hlow _ (by omega)]
                          exact (hfit i hi2).2 (Or.inl c9)
                        refine lv_aload_n hx hb dX4_protect_200 rfl (lv_at hl 3 rfl) ?_
                        refine lv_iload_n hx hb dX4_protect_201 rfl (lv_at hl 2 rfl) ?_
                        refine lv_iload hx hb dX4_protect_202 (lv_at hl 1 rfl) ?_
                        refine lv_aload_n hx hb dX4_protect_204 rfl (lv_at hl 3 rfl) ?_
                        refine va_get (D := D) (ci := 4) (v := .ref za) (C := RX4) (T := TX4) (N := 17) hx hb hts iw_X4_protect_X4 hown hK hP 0 rfl rfl 8 (by decide) (hts (.fieldLink RX4 25 "JumpGuardModel" "at" "[I") (List.mem_of_getElem? (l := wsX4_protect) (i := 2) rfl)) (fun _ h9 => h9) rfl dX4_protect_205 ?_
                        refine lv_iload hx hb dX4_protect_208 (lv_at hl 0 rfl) ?_
                        refine jk_ald hx hb hK hP 6 0 rfl rfl (k := t) eb (by omega) (by omega) dX4_protect_210 ?_
                        refine jw_v (va_runV (As := [.int (g.2 (3 * i)), .int (g.2 (3 * i + 1)), .int (F t)]) (rest := []) ⟨hx, hb, hml, hown, hts⟩ (c_X4_put l D cA H.size h4 zc zj ze zt zo za zr zm zl nn (g.1 + 1) ed qc (-1) qw qb ql (rPut g.2 g.1 11 (g.2 (3 * i + 1)) (J i)) (g.2 (3 * i)) (g.2 (3 * i + 1)) (F t) (by omega)) (cwV 3 hts gX4_protect_X4_put rfl rfl rfl hv_X4_put ⟨Nat.le_of_ble_eq_true rfl, Nat.le_of_ble_eq_true rfl⟩) (rwP.V (wc := [(h4, .inr (4, [.ref zc, .int (nI nn), .int (nI (g.1 + 1)), .ref zj, .ref ze, .int (nI ed), .ref zt, .ref zo, .ref za, .ref zr, .ref zm, .ref zl, .int qc, .int (-1), .int (nI qw), .int (nI qb), .int (nI ql)])), (zc, .inl (cA, 288, .inl (rPut g.2 g.1 11 (g.2 (3 * i + 1)) (J i))))]) (va_recv hK hP (ci := 4) (q0 := 0) rfl rfl) hP hD hK hN [0, 1] (by decide) rfl) rfl rfl hl.1 rfl (lv_room (Nat.le_of_ble_eq_true rfl)) dX4_protect_211 ⟨Nat.le_of_ble_eq_true rfl, Nat.le_of_ble_eq_true rfl⟩) hP hD hS hA [0, 1] [2, 3, 4, 5, 6] [5, 6, 0, 1, 2, 3, 4] (wr := [(zj, .inl (cA, 48, .inl ju)), (ze, .inl (cA, 48, .inl en)), (zt, .inl (cA, 24, .inl T)), (zo, .inl (cA, 24, .inl J)), (za, .inl (cA, 24, .inl F))]) (w2 := [(h4, .inr (4, [.ref zc, .int (nI nn), .int (nI ((g.1 + 1) + 1)), .ref zj, .ref ze, .int (nI ed), .ref zt, .ref zo, .ref za, .ref zr, .ref zm, .ref zl, .int qc, .int (-1), .int (nI qw), .int (nI qb), .int (nI ql)])), (zc, .inl (cA, 288, .inl (rPut (rPut g.2 g.1 11 (g.2 (3 * i + 1)) (J i)) (g.1 + 1) (g.2 (3 * i)) (g.2 (3 * i + 1)) (F t)))), (zj, .inl (cA, 48, .inl ju)), (ze, .inl (cA, 48, .inl en)), (zt, .inl (cA, 24, .inl T)), (zo, .inl (cA, 24, .inl J)), (za, .inl (cA, 24, .inl F))]) rfl rfl (by decide) (by decide) (by decide) rfl (fun H locs hP hD hS => ?_)
                        refine lv_goto (tgt := 226) hx hb dX4_protect_214 (by decide) ?_
                        refine lv_iinc (v := (nI (i + 1))) (lv' := [(2, .int (nI (i + 1))), (5, .int (g.2 (3 * i + 2))), (4, .int (g.2 (3 * i + 1))), (3, .int (g.2 (3 * i))), (0, .ref h4)]) hx hb dX4_protect_226 hl (k := 4) rfl (jn_a1 _) (by decide) rfl (fun ls hl => ?_)
                        refine lv_goto (tgt := 82) hx hb dX4_protect_229 (by decide) ?_
                        have e9 : ([(h4, .inr (4, [.ref zc, .int (nI nn), .int (nI ((g.1 + 1) + 1)), .ref zj, .ref ze, .int (nI ed), .ref zt, .ref zo, .ref za, .ref zr, .ref zm, .ref zl, .int qc, .int (-1), .int (nI qw), .int (nI qb), .int (nI ql)])), (zc, .inl (cA, 288, .inl (rPut (rPut g.2 g.1 11 (g.2 (3 * i + 1)) (J i)) (g.1 + 1) (g.2 (3 * i)) (g.2 (3 * i + 1)) (F t)))), (zj, .inl (cA, 48, .inl ju)), (ze, .inl (cA, 48, .inl en)), (zt, .inl (cA, 24, .inl T)), (zo, .inl (cA, 24, .inl J)), (za, .inl (cA, 24, .inl F))] : va_W) = [(h4, .inr (4, [.ref zc, .int (nI nn), .int (nI (rA T J F i g).1), .ref zj, .ref ze, .int (nI ed), .ref zt, .ref zo, .ref za, .ref zr, .ref zm, .ref zl, .int qc, .int (-1), .int (nI qw), .int (nI qb), .int (nI ql)])), (zc, .inl (cA, 288, .inl ((rA T J F i g).2))), (zj, .inl (cA, 48, .inl ju)), (ze, .inl (cA, 48, .inl en)), (zt, .inl (cA, 24, .inl T)), (zo, .inl (cA, 24, .inl J)), (za, .inl (cA, 24, .inl F))] := by unfold rA rA3 rA2 rA1; simp only [if_pos c_129, if_pos c_148, if_neg c_168, if_pos (Or.inl c_191 : g.2 (3 * i) = 7 ∨ g.2 (3 * i) = 9)]; rw [eb, nI_clamp (by omega)]
                        rw [e9] at hP hD
                        exact ih82 (i + 1) (rA T J F i g) (by omega) (by omega) (by rw [hg]; rfl) _ _ (jP_sub (w2 := [(h4, .inr (4, [.ref zc, .int (nI nn), .int (nI (rA T J F i g).1), .ref zj, .ref ze, .int (nI ed), .ref zt, .ref zo, .ref za, .ref zr, .ref zm, .ref zl, .int qc, .int (-1), .int (nI qw), .int (nI qb), .int (nI ql)])), (zc, .inl (cA, 288, .inl ((rA T J F i g).2))), (zj, .inl (cA, 48, .inl ju)), (ze, .inl (cA, 48, .inl en)), (zt, .inl (cA, 24, .inl T)), (zo, .inl (cA, 24, .inl J)), (za, .inl (cA, 24, .inl F))]) hP [0, 1, 2, 3, 4, 5, 6] rfl) (hD.sub (ws' := [(h4, .inr (4, [.ref zc, .int (nI nn), .int (nI (rA T J F i g).1), .ref zj, .ref ze, .int (nI ed), .ref zt, .ref zo, .ref za, .ref zr, .ref zm, .ref zl, .int qc, .int (-1), .int (nI qw), .int (nI qb), .int (nI ql)])), (zc, .inl (cA, 288, .inl ((rA T J F i g).2))), (zj, .inl (cA, 48, .inl ju)), (ze, .inl (cA, 48, .inl en)), (zt, .inl (cA, 24, .inl T)), (zo, .inl (cA, 24, .inl J)), (za, .inl (cA, 24, .inl F))]) [0, 1, 2, 3, 4, 5, 6] (by decide) rfl) hS ls (lv_sub hl [4, 0] rfl)
                      · refine lv_iload_n hx hb dX4_protect_194 rfl (lv_at hl 2 rfl) ?_
                        refine lv_bipush (v := 9) hx hb dX4_protect_195 (by decide) ?_
                        refine lv_icmp_ne (tgt := 217) hx hb dX4_protect_197 (by decide) (fun c_197 => ?_) (fun c_197 => ?_)
                        · refine lv_aload_n hx hb dX4_protect_217 rfl (lv_at hl 3 rfl) ?_
                          refine lv_iload_n hx hb dX4_protect_218 rfl (lv_at hl 2 rfl) ?_
                          refine lv_iload hx hb dX4_protect_219 (lv_at hl 1 rfl) ?_
                          refine lv_iload hx hb dX4_protect_221 (lv_at hl 0 rfl) ?_
                          refine jw_v (va_runV (As := [.int (g.2 (3 * i)), .int (g.2 (3 * i + 1)), .int (g.2 (3 * i + 2))]) (rest := []) ⟨hx, hb, hml, hown, hts⟩ (c_X4_put l D cA H.size h4 zc zj ze zt zo za zr zm zl nn (g.1 + 1) ed qc (-1) qw qb ql (rPut g.2 g.1 11 (g.2 (3 * i + 1)) (J i)) (g.2 (3 * i)) (g.2 (3 * i + 1)) (g.2 (3 * i + 2)) (by omega)) (cwV 3 hts gX4_protect_X4_put rfl rfl rfl hv_X4_put ⟨Nat.le_of_ble_eq_true rfl, Nat.le_of_ble_eq_true rfl⟩) (rwP.V (wc := [(h4, .inr (4, [.ref zc, .int (nI nn), .int (nI (g.1 + 1)), .ref zj, .ref ze, .int (nI ed), .ref zt, .ref zo, .ref za, .ref zr, .ref zm, .ref zl, .int qc, .int (-1), .int (nI qw), .int (nI qb), .int (nI ql)])), (zc, .inl (cA, 288, .inl (rPut g.2 g.1 11 (g.2 (3 * i + 1)) (J i))))]) (va_recv hK hP (ci := 4) (q0 := 0) rfl rfl) hP hD hK hN [0, 1] (by decide) rfl) rfl rfl hl.1 rfl (lv_room (Nat.le_of_ble_eq_true rfl)) dX4_protect_223 ⟨Nat.le_of_ble_eq_true rfl, Nat.le_of_ble_eq_true rfl⟩) hP hD hS hA [0, 1] [2, 3, 4, 5, 6] [5, 6, 0, 1, 2, 3, 4] (wr := [(zj, .inl (cA, 48, .inl ju)), (ze, .inl (cA, 48, .inl en)), (zt, .inl (cA, 24, .inl T)), (zo, .inl (cA, 24, .inl J)), (za, .inl (cA, 24, .inl F))]) (w2 := [(h4, .inr (4, [.ref zc, .int (nI nn), .int (nI ((g.1 + 1) + 1)), .ref zj, .ref ze, .int (nI ed), .ref zt, .ref zo, .ref za, .ref zr, .ref zm, .ref zl, .int qc, .int (-1), .int (nI qw), .int (nI qb), .int (nI ql)])), (zc, .inl (cA, 288, .inl (rPut (rPut g.2 g.1 11 (g.2 (3 * i + 1)) (J i)) (g.1 + 1) (g.2 (3 * i)) (g.2 (3 * i + 1)) (g.2 (3 * i + 2))))), (zj, .inl (cA, 48, .inl ju)), (ze, .inl (cA, 48, .inl en)), (zt, .inl (cA, 24, .inl T)), (zo, .inl (cA, 24, .inl J)), (za, .inl (cA, 24, .inl F))]) rfl rfl (by decide) (by decide) (by decide) rfl (fun H locs hP hD hS => ?_)
                          refine lv_iinc (v := (nI (i + 1))) (lv' := [(2, .int (nI (i + 1))), (5, .int (g.2 (3 * i + 2))), (4, .int (g.2 (3 * i + 1))), (3, .int (g.2 (3 * i))), (0, .ref h4)]) hx hb dX4_protect_226 hl (k := 4) rfl (jn_a1 _) (by decide) rfl (fun ls hl => ?_)
                          refine lv_goto (tgt := 82) hx hb dX4_protect_229 (by decide) ?_
                          have e9 : ([(h4, .inr (4, [.ref zc, .int (nI nn), .int (nI ((g.1 + 1) + 1)), .ref zj, .ref ze, .int (nI ed), .ref zt, .ref zo, .ref za, .ref zr, .ref zm, .ref zl, .int qc, .int (-1), .int (nI qw), .int (nI qb), .int (nI ql)])), (zc, .inl (cA, 288, .inl (rPut (rPut g.2 g.1 11 (g.2 (3 * i + 1)) (J i)) (g.1 + 1) (g.2 (3 * i)) (g.2 (3 * i + 1)) (g.2 (3 * i + 2))))), (zj, .inl (cA, 48, .inl ju)), (ze, .inl (cA, 48, .inl en)), (zt, .inl (cA, 24, .inl T)), (zo, .inl (cA, 24, .inl J)), (za, .inl (cA, 24, .inl F))] : va_W) = [(h4, .inr (4, [.ref zc, .int (nI nn), .int (nI (rA T J F i g).1), .ref zj, .ref ze, .int (nI ed), .ref zt, .ref zo, .ref za, .ref zr, .ref zm, .ref zl, .int qc, .int (-1), .int (nI qw), .int (nI qb), .int (nI ql)])), (zc, .inl (cA, 288, .inl ((rA T J F i g).2))), (zj, .inl (cA, 48, .inl ju)), (ze, .inl (cA, 48, .inl en)), (zt, .inl (cA, 24, .inl T)), (zo, .inl (cA, 24, .inl J)), (za, .inl (cA, 24, .inl F))] := by unfold rA rA3 rA2 rA1; simp only [if_pos c_129, if_pos c_148, if_neg c_168, if_neg (fun h => h.elim c_191 c_197 : ¬ (g.2 (3 * i) = 7 ∨ g.2 (3 * i) = 9))]
                          rw [e9] at hP hD
                          exact ih82 (i + 1) (rA T J F i g) (by omega) (by omega) (by rw [hg]; rfl) _ _ (jP_sub (w2 := [(h4, .inr (4, [.ref zc, .int (nI nn), .int (nI (rA T J F i g).1), .ref zj, .ref ze, .int (nI ed), .ref zt, .ref zo, .ref za, .ref zr, .ref zm, .ref zl, .int qc, .int (-1), .int (nI qw), .int (nI qb), .int (nI ql)])), (zc, .inl (cA, 288, .inl ((rA T J F i g).2))), (zj, .inl (cA, 48, .inl ju)), (ze, .inl (cA, 48, .inl en)), (zt, .inl (cA, 24, .inl T)), (zo, .inl (cA, 24, .inl J)), (za, .inl (cA, 24, .inl F))]) hP [0, 1, 2, 3, 4, 5, 6] rfl) (hD.sub (ws' := [(h4, .inr (4, [.ref zc, .int (nI nn), .int (nI (rA T J F i g).1), .ref zj, .ref ze, .int (nI ed), .ref zt, .ref zo, .ref za, .ref zr, .ref zm, .ref zl, .int qc, .int (-1), .int (nI qw), .int (nI qb), .int (nI ql)])), (zc, .inl (cA, 288, .inl ((rA T J F i g).2))), (zj, .inl (cA, 48, .inl ju)), (ze, .inl (cA, 48, .inl en)), (zt, .inl (cA, 24, .inl T)), (zo, .inl (cA, 24, .inl J)), (za, .inl (cA, 24, .inl F))]) [0, 1, 2, 3, 4, 5, 6] (by decide) rfl) hS ls (lv_sub hl [4, 0] rfl)
                        · obtain ⟨t, ht, eb⟩ : ∃ t, t < 24 ∧ g.2 (3 * i + 2) = nI t := by
                            have c9 := c_197
                            rw [hlow _ (by omega)] at c9
                            rw [hlow _ (by omega)]
                            exact (hfit i hi2).2 (Or.inr c9)
                          refine lv_aload_n hx hb dX4_protect_200 rfl (lv_at hl 3 rfl) ?_
                          refine lv_iload_n hx hb dX4_protect_201 rfl (lv_at hl 2 rfl) ?_
                          refine lv_iload hx hb dX4_protect_202 (lv_at hl 1 rfl) ?_
                          refine lv_aload_n hx hb dX4_protect_204 rfl (lv_at hl 3 rfl) ?_
                          refine va_get (D := D) (ci := 4) (v := .ref za) (C := RX4) (T := TX4) (N := 17) hx hb hts iw_X4_protect_X4 hown hK hP 0 rfl rfl 8 (by decide) (hts (.fieldLink RX4 25 "JumpGuardModel" "at" "[I") (List.mem_of_getElem? (l := wsX4_protect) (i := 2) rfl)) (fun _ h9 => h9) rfl dX4_protect_205 ?_
                          refine lv_iload hx hb dX4_protect_208 (lv_at hl 0 rfl) ?_
                          refine jk_ald hx hb hK hP 6 0 rfl rfl (k := t) eb (by omega) (by omega) dX4_protect_210 ?_
                          refine jw_v (va_runV (As := [.int (g.2 (3 * i)), .int (g.2 (3 * i + 1)), .int (F t)]) (rest := []) ⟨hx, hb, hml, hown, hts⟩ (c_X4_put l D cA H.size h4 zc zj ze zt zo za zr zm zl nn (g.1 + 1) ed qc (-1) qw qb ql (rPut g.2 g.1 11 (g.2 (3 * i + 1)) (J i)) (g.2 (3 * i)) (g.2 (3 * i + 1)) (F t) (by omega)) (cwV 3 hts gX4_protect_X4_put rfl rfl rfl hv_X4_put ⟨Nat.le_of_ble_eq_true rfl, Nat.le_of_ble_eq_true rfl⟩) (rwP.V (wc := [(h4, .inr (4, [.ref zc, .int (nI nn), .int (nI (g.1 + 1)), .ref zj, .ref ze, .int (nI ed), .ref zt, .ref zo, .ref za, .ref zr, .ref zm, .ref zl, .int qc, .int (-1), .int (nI qw), .int (nI qb), .int (nI ql)])), (zc, .inl (cA, 288, .inl (rPut g.2 g.1 11 (g.2 (3 * i + 1)) (J i))))]) (va_recv hK hP (ci := 4) (q0 := 0) rfl rfl) hP hD hK hN [0, 1] (by decide) rfl) rfl rfl hl.1 rfl (lv_room (Nat.le_of_ble_eq_true rfl)) dX4_protect_211 ⟨Nat.le_of_ble_eq_true rfl, Nat.le_of_ble_eq_true rfl⟩) hP hD hS hA [0, 1] [2, 3, 4, 5, 6] [5, 6, 0, 1, 2, 3, 4] (wr := [(zj, .inl (cA, 48, .inl ju)), (ze, .inl (cA, 48, .inl en)), (zt, .inl (cA, 24, .inl T)), (zo, .inl (cA, 24, .inl J)), (za, .inl (cA, 24, .inl F))]) (w2 := [(h4, .inr (4, [.ref zc, .int (nI nn), .int (nI ((g.1 + 1) + 1)), .ref zj, .ref ze, .int (nI ed), .ref zt, .ref zo, .ref za, .ref zr, .ref zm, .ref zl, .int qc, .int (-1), .int (nI qw), .int (nI qb), .int (nI ql)])), (zc, .inl (cA, 288, .inl (rPut (rPut g.2 g.1 11 (g.2 (3 * i + 1)) (J i)) (g.1 + 1) (g.2 (3 * i)) (g.2 (3 * i + 1)) (F t)))), (zj, .inl (cA, 48, .inl ju)), (ze, .inl (cA, 48, .inl en)), (zt, .inl (cA, 24, .inl T)), (zo, .inl (cA, 24, .inl J)), (za, .inl (cA, 24, .inl F))]) rfl rfl (by decide) (by decide) (by decide) rfl (fun H locs hP hD hS => ?_)
                          refine lv_goto (tgt := 226) hx hb dX4_protect_214 (by decide) ?_
                          refine lv_iinc (v := (nI (i + 1))) (lv' := [(2, .int (nI (i + 1))), (5, .int (g.2 (3 * i + 2))), (4, .int (g.2 (3 * i + 1))), (3, .int (g.2 (3 * i))), (0, .ref h4)]) hx hb dX4_protect_226 hl (k := 4) rfl (jn_a1 _) (by decide) rfl (fun ls hl => ?_)
                          refine lv_goto (tgt := 82) hx hb dX4_protect_229 (by decide) ?_
                          have e9 : ([(h4, .inr (4, [.ref zc, .int (nI nn), .int (nI ((g.1 + 1) + 1)), .ref zj, .ref ze, .int (nI ed), .ref zt, .ref zo, .ref za, .ref zr, .ref zm, .ref zl, .int qc, .int (-1), .int (nI qw), .int (nI qb), .int (nI ql)])), (zc, .inl (cA, 288, .inl (rPut (rPut g.2 g.1 11 (g.2 (3 * i + 1)) (J i)) (g.1 + 1) (g.2 (3 * i)) (g.2 (3 * i + 1)) (F t)))), (zj, .inl (cA, 48, .inl ju)), (ze, .inl (cA, 48, .inl en)), (zt, .inl (cA, 24, .inl T)), (zo, .inl (cA, 24, .inl J)), (za, .inl (cA, 24, .inl F))] : va_W) = [(h4, .inr (4, [.ref zc, .int (nI nn), .int (nI (rA T J F i g).1), .ref zj, .ref ze, .int (nI ed), .ref zt, .ref zo, .ref za, .ref zr, .ref zm, .ref zl, .int qc, .int (-1), .int (nI qw), .int (nI qb), .int (nI ql)])), (zc, .inl (cA, 288, .inl ((rA T J F i g).2))), (zj, .inl (cA, 48, .inl ju)), (ze, .inl (cA, 48, .inl en)), (zt, .inl (cA, 24, .inl T)), (zo, .inl (cA, 24, .inl J)), (za, .inl (cA, 24, .inl F))] := by unfold rA rA3 rA2 rA1; simp only [if_pos c_129, if_pos c_148, if_neg c_168, if_pos (Or.inr c_197 : g.2 (3 * i) = 7 ∨ g.2 (3 * i) = 9)]; rw [eb, nI_clamp (by omega)]
                          rw [e9] at hP hD
                          exact ih82 (i + 1) (rA T J F i g) (by omega) (by omega) (by rw [hg]; rfl) _ _ (jP_sub (w2 := [(h4, .inr (4, [.ref zc, .int (nI nn), .int (nI (rA T J F i g).1), .ref zj, .ref ze, .int (nI ed), .ref zt, .ref zo, .ref za, .ref zr, .ref zm, .ref zl, .int qc, .int (-1), .int (nI qw), .int (nI qb), .int (nI ql)])), (zc, .inl (cA, 288, .inl ((rA T J F i g).2))), (zj, .inl (cA, 48, .inl ju)), (ze, .inl (cA, 48, .inl en)), (zt, .inl (cA, 24, .inl T)), (zo, .inl (cA, 24, .inl J)), (za, .inl (cA, 24, .inl F))]) hP [0, 1, 2, 3, 4, 5, 6] rfl) (hD.sub (ws' := [(h4, .inr (4, [.ref zc, .int (nI nn), .int (nI (rA T J F i g).1), .ref zj, .ref ze, .int (nI ed), .ref zt, .ref zo, .ref za, .ref zr, .ref zm, .ref zl, .int qc, .int (-1), .int (nI qw), .int (nI qb), .int (nI ql)])), (zc, .inl (cA, 288, .inl ((rA T J F i g).2))), (zj, .inl (cA, 48, .inl ju)), (ze, .inl (cA, 48, .inl en)), (zt, .inl (cA, 24, .inl T)), (zo, .inl (cA, 24, .inl J)), (za, .inl (cA, 24, .inl F))]) [0, 1, 2, 3, 4, 5, 6] (by decide) rfl) hS ls (lv_sub hl [4, 0] rfl)
                    · obtain ⟨t, ht, ea⟩ : ∃ t, t < 24 ∧ g.2 (3 * i + 1) = nI t := by
                        rw [hlow _ (by omega)] at c_168
                        rw [hlow _ (by omega)]
                        exact (hfit i hi2).1 c_168
                      refine lv_aload_n hx hb dX4_protect_171 rfl (lv_at hl 3 rfl) ?_
                      refine lv_iload_n hx hb dX4_protect_172 rfl (lv_at hl 2 rfl) ?_
                      refine lv_aload_n hx hb dX4_protect_173 rfl (lv_at hl 3 rfl) ?_
                      refine va_get (D := D) (ci := 4) (v := .ref za) (C := RX4) (T := TX4) (N := 17) hx hb hts iw_X4_protect_X4 hown hK hP 0 rfl rfl 8 (by decide) (hts (.fieldLink RX4 25 "JumpGuardModel" "at" "[I") (List.mem_of_getElem? (l := wsX4_protect) (i := 2) rfl)) (fun _ h9 => h9) rfl dX4_protect_174 ?_
                      refine lv_iload hx hb dX4_protect_177 (lv_at hl 1 rfl) ?_
                      refine jk_ald hx hb hK hP 6 0 rfl rfl (k := t) ea (by omega) (by omega) dX4_protect_179 ?_
                      refine lv_iload hx hb dX4_protect_180 (lv_at hl 0 rfl) ?_
                      refine jw_v (va_runV (As := [.int (g.2 (3 * i)), .int (F t), .int (g.2 (3 * i + 2))]) (rest := []) ⟨hx, hb, hml, hown, hts⟩ (c_X4_put l D cA H.size h4 zc zj ze zt zo za zr zm zl nn (g.1 + 1) ed qc (-1) qw qb ql (rPut g.2 g.1 11 (g.2 (3 * i + 1)) (J i)) (g.2 (3 * i)) (F t) (g.2 (3 * i + 2)) (by omega)) (cwV 3 hts gX4_protect_X4_put rfl rfl rfl hv_X4_put ⟨Nat.le_of_ble_eq_true rfl, Nat.le_of_ble_eq_true rfl⟩) (rwP.V (wc := [(h4, .inr (4, [.ref zc, .int (nI nn), .int (nI (g.1 + 1)), .ref zj, .ref ze, .int (nI ed), .ref zt, .ref zo, .ref za, .ref zr, .ref zm, .ref zl, .int qc, .int (-1), .int (nI qw), .int (nI qb), .int (nI ql)])), (zc, .inl (cA, 288, .inl (rPut g.2 g.1 11 (g.2 (3 * i + 1)) (J i))))]) (va_recv hK hP (ci := 4) (q0 := 0) rfl rfl) hP hD hK hN [0, 1] (by decide) rfl) rfl rfl hl.1 rfl (lv_room (Nat.le_of_ble_eq_true rfl)) dX4_protect_182 ⟨Nat.le_of_ble_eq_true rfl, Nat.le_of_ble_eq_true rfl⟩) hP hD hS hA [0, 1] [2, 3, 4, 5, 6] [5, 6, 0, 1, 2, 3, 4] (wr := [(zj, .inl (cA, 48, .inl ju)), (ze, .inl (cA, 48, .inl en)), (zt, .inl (cA, 24, .inl T)), (zo, .inl (cA, 24, .inl J)), (za, .inl (cA, 24, .inl F))]) (w2 := [(h4, .inr (4, [.ref zc, .int (nI nn), .int (nI ((g.1 + 1) + 1)), .ref zj, .ref ze, .int (nI ed), .ref zt, .ref zo, .ref za, .ref zr, .ref zm, .ref zl, .int qc, .int (-1), .int (nI qw), .int (nI qb), .int (nI ql)])), (zc, .inl (cA, 288, .inl (rPut (rPut g.2 g.1 11 (g.2 (3 * i + 1)) (J i)) (g.1 + 1) (g.2 (3 * i)) (F t) (g.2 (3 * i + 2))))), (zj, .inl (cA, 48, .inl ju)), (ze, .inl (cA, 48, .inl en)), (zt, .inl (cA, 24, .inl T)), (zo, .inl (cA, 24, .inl J)), (za, .inl (cA, 24, .inl F))]) rfl rfl (by decide) (by decide) (by decide) rfl (fun H locs hP hD hS => ?_)
                      refine lv_goto (tgt := 226) hx hb dX4_protect_185 (by decide) ?_
                      refine lv_iinc (v := (nI (i + 1))) (lv' := [(2, .int (nI (i + 1))), (5, .int (g.2 (3 * i + 2))), (4, .int (g.2 (3 * i + 1))), (3, .int (g.2 (3 * i))), (0, .ref h4)]) hx hb dX4_protect_226 hl (k := 4) rfl (jn_a1 _) (by decide) rfl (fun ls hl => ?_)
                      refine lv_goto (tgt := 82) hx hb dX4_protect_229 (by decide) ?_
                      have e9 : ([(h4, .inr (4, [.ref zc, .int (nI nn), .int (nI ((g.1 + 1) + 1)), .ref zj, .ref ze, .int (nI ed), .ref zt, .ref zo, .ref za, .ref zr, .ref zm, .ref zl, .int qc, .int (-1), .int (nI qw), .int (nI qb), .int (nI ql)])), (zc, .inl (cA, 288, .inl (rPut (rPut g.2 g.1 11 (g.2 (3 * i + 1)) (J i)) (g.1 + 1) (g.2 (3 * i)) (F t) (g.2 (3 * i + 2))))), (zj, .inl (cA, 48, .inl ju)), (ze, .inl (cA, 48, .inl en)), (zt, .inl (cA, 24, .inl T)), (zo, .inl (cA, 24, .inl J)), (za, .inl (cA, 24, .inl F))] : va_W) = [(h4, .inr (4, [.ref zc, .int (nI nn), .int (nI (rA T J F i g).1), .ref zj, .ref ze, .int (nI ed), .ref zt, .ref zo, .ref za, .ref zr, .ref zm, .ref zl, .int qc, .int (-1), .int (nI qw), .int (nI qb), .int (nI ql)])), (zc, .inl (cA, 288, .inl ((rA T J F i g).2))), (zj, .inl (cA, 48, .inl ju)), (ze, .inl (cA, 48, .inl en)), (zt, .inl (cA, 24, .inl T)), (zo, .inl (cA, 24, .inl J)), (za, .inl (cA, 24, .inl F))] := by unfold rA rA3 rA2 rA1; simp only [if_pos c_129, if_pos c_148, if_pos c_168]; rw [ea, nI_clamp (by omega)]
                      rw [e9] at hP hD
                      exact ih82 (i + 1) (rA T J F i g) (by omega) (by omega) (by rw [hg]; rfl) _ _ (jP_sub (w2 := [(h4, .inr (4, [.ref zc, .int (nI nn), .int (nI (rA T J F i g).1), .ref zj, .ref ze, .int (nI ed), .ref zt, .ref zo, .ref za, .ref zr, .ref zm, .ref zl, .int qc, .int (-1), .int (nI qw), .int (nI qb), .int (nI ql)])), (zc, .inl (cA, 288, .inl ((rA T J F i g).2))), (zj, .inl (cA, 48, .inl ju)), (ze, .inl (cA, 48, .inl en)), (zt, .inl (cA, 24, .inl T)), (zo, .inl (cA, 24, .inl J)), (za, .inl (cA, 24, .inl F))]) hP [0, 1, 2, 3, 4, 5, 6] rfl) (hD.sub (ws' := [(h4, .inr (4, [.ref zc, .int (nI nn), .int (nI (rA T J F i g).1), .ref zj, .ref ze, .int (nI ed), .ref zt, .ref zo, .ref za, .ref zr, .ref zm, .ref zl, .int qc, .int (-1), .int (nI qw), .int (nI qb), .int (nI ql)])), (zc, .inl (cA, 288, .inl ((rA T J F i g).2))), (zj, .inl (cA, 48, .inl ju)), (ze, .inl (cA, 48, .inl en)), (zt, .inl (cA, 24, .inl T)), (zo, .inl (cA, 24, .inl J)), (za, .inl (cA, 24, .inl F))]) [0, 1, 2, 3, 4, 5, 6] (by decide) rfl) hS ls (lv_sub hl [4, 0] rfl)
                · refine lv_aload_n hx hb dX4_protect_132 rfl (lv_at hl 3 rfl) ?_
                  refine lv_bipush (v := 10) hx hb dX4_protect_133 (by decide) ?_
                  refine lv_aload_n hx hb dX4_protect_135 rfl (lv_at hl 3 rfl) ?_
                  refine va_get (D := D) (ci := 4) (v := .ref zt) (C := RX4) (T := TX4) (N := 17) hx hb hts iw_X4_protect_X4 hown hK hP 0 rfl rfl 6 (by decide) (hts (.fieldLink RX4 19 "JumpGuardModel" "ofTarget" "[I") (List.mem_of_getElem? (l := wsX4_protect) (i := 3) rfl)) (fun _ h9 => h9) rfl dX4_protect_136 ?_
                  refine lv_iload_n hx hb dX4_protect_139 rfl (lv_at hl 4 rfl) ?_
                  refine jk_ald hx hb hK hP 4 0 rfl rfl (k := i) rfl (by omega) (by omega) dX4_protect_140 ?_
                  refine lv_iconst (v := 0) hx hb dX4_protect_141 (by decide) ?_
                  refine jw_v (va_runV (As := [.int 10, .int (T i), .int 0]) (rest := []) ⟨hx, hb, hml, hown, hts⟩ (c_X4_put l D cA H.size h4 zc zj ze zt zo za zr zm zl nn g.1 ed qc (-1) qw qb ql g.2 10 (T i) 0 (by omega)) (cwV 3 hts gX4_protect_X4_put rfl rfl rfl hv_X4_put ⟨Nat.le_of_ble_eq_true rfl, Nat.le_of_ble_eq_true rfl⟩) (rwP.V (wc := [(h4, .inr (4, [.ref zc, .int (nI nn), .int (nI g.1), .ref zj, .ref ze, .int (nI ed), .ref zt, .ref zo, .ref za, .ref zr, .ref zm, .ref zl, .int qc, .int (-1), .int (nI qw), .int (nI qb), .int (nI ql)])), (zc, .inl (cA, 288, .inl g.2))]) (va_recv hK hP (ci := 4) (q0 := 0) rfl rfl) hP hD hK hN [0, 1] (by decide) rfl) rfl rfl hl.1 rfl (lv_room (Nat.le_of_ble_eq_true rfl)) dX4_protect_142 ⟨Nat.le_of_ble_eq_true rfl, Nat.le_of_ble_eq_true rfl⟩) hP hD hS hA [0, 1] [2, 3, 4, 5, 6] [5, 6, 0, 1, 2, 3, 4] (wr := [(zj, .inl (cA, 48, .inl ju)), (ze, .inl (cA, 48, .inl en)), (zt, .inl (cA, 24, .inl T)), (zo, .inl (cA, 24, .inl J)), (za, .inl (cA, 24, .inl F))]) (w2 := [(h4, .inr (4, [.ref zc, .int (nI nn), .int (nI (g.1 + 1)), .ref zj, .ref ze, .int (nI ed), .ref zt, .ref zo, .ref za, .ref zr, .ref zm, .ref zl, .int qc, .int (-1), .int (nI qw), .int (nI qb), .int (nI ql)])), (zc, .inl (cA, 288, .inl (rPut g.2 g.1 10 (T i) 0))), (zj, .inl (cA, 48, .inl ju)), (ze, .inl (cA, 48, .inl en)), (zt, .inl (cA, 24, .inl T)), (zo, .inl (cA, 24, .inl J)), (za, .inl (cA, 24, .inl F))]) rfl rfl (by decide) (by decide) (by decide) rfl (fun H locs hP hD hS => ?_)
                  refine lv_iload_n hx hb dX4_protect_145 rfl (lv_at hl 2 rfl) ?_
                  refine lv_bipush (v := 8) hx hb dX4_protect_146 (by decide) ?_
                  refine lv_icmp_ne (tgt := 165) hx hb dX4_protect_148 (by decide) (fun c_148 => ?_) (fun c_148 => ?_)
                  · refine lv_iload_n hx hb dX4_protect_165 rfl (lv_at hl 2 rfl) ?_
                    refine lv_bipush (v := 6) hx hb dX4_protect_166 (by decide) ?_
                    refine lv_icmp_ne (tgt := 188) hx hb dX4_protect_168 (by decide) (fun c_168 => ?_) (fun c_168 => ?_)
                    · refine lv_iload_n hx hb dX4_protect_188 rfl (lv_at hl 2 rfl) ?_
                      refine lv_bipush (v := 7) hx hb dX4_protect_189 (by decide) ?_
                      refine lv_icmp_eq (tgt := 200) hx hb dX4_protect_191 (by decide) (fun c_191 => ?_) (fun c_191 => ?_)
                      · obtain ⟨t, ht, eb⟩ : ∃ t, t < 24 ∧ g.2 (3 * i + 2) = nI t := by
                          have c9 := c_191
                          rw [hlow _ (by omega)] at c9
                          rw [hlow _ (by omega)]
                          exact (hfit i hi2).2 (Or.inl c9)
                        refine lv_aload_n hx hb dX4_protect_200 rfl (lv_at hl 3 rfl) ?_
                        refine lv_iload_n hx hb dX4_protect_201 rfl (lv_at hl 2 rfl) ?_
                        refine lv_iload hx hb dX4_protect_202 (lv_at hl 1 rfl) ?_
                        refine lv_aload_n hx hb dX4_protect_204 rfl (lv_at hl 3 rfl) ?_
                        refine va_get (D := D) (ci := 4) (v := .ref za) (C := RX4) (T := TX4) (N := 17) hx hb hts iw_X4_protect_X4 hown hK hP 0 rfl rfl 8 (by decide) (hts (.fieldLink RX4 25 "JumpGuardModel" "at" "[I") (List.mem_of_getElem? (l := wsX4_protect) (i := 2) rfl)) (fun _ h9 => h9) rfl dX4_protect_205 ?_
                        refine lv_iload hx hb dX4_protect_208 (lv_at hl 0 rfl) ?_
                        refine jk_ald hx hb hK hP 6 0 rfl rfl (k := t) eb (by omega) (by omega) dX4_protect_210 ?_
                        refine jw_v (va_runV (As := [.int (g.2 (3 * i)), .int (g.2 (3 * i + 1)), .int (F t)]) (rest := []) ⟨hx, hb, hml, hown, hts⟩ (c_X4_put l D cA H.size h4 zc zj ze zt zo za zr zm zl nn (g.1 + 1) ed qc (-1) qw qb ql (rPut g.2 g.1 10 (T i) 0) (g.2 (3 * i)) (g.2 (3 * i + 1)) (F t) (by omega)) (cwV 3 hts gX4_protect_X4_put rfl rfl rfl hv_X4_put ⟨Nat.le_of_ble_eq_true rfl, Nat.le_of_ble_eq_true rfl⟩) (rwP.V (wc := [(h4, .inr (4, [.ref zc, .int (nI nn), .int (nI (g.1 + 1)), .ref zj, .ref ze, .int (nI ed), .ref zt, .ref zo, .ref za, .ref zr, .ref zm, .ref zl, .int qc, .int (-1), .int (nI qw), .int (nI qb), .int (nI ql)])), (zc, .inl (cA, 288, .inl (rPut g.2 g.1 10 (T i) 0)))]) (va_recv hK hP (ci := 4) (q0 := 0) rfl rfl) hP hD hK hN [0, 1] (by decide) rfl) rfl rfl hl.1 rfl (lv_room (Nat.le_of_ble_eq_true rfl)) dX4_protect_211 ⟨Nat.le_of_ble_eq_true rfl, Nat.le_of_ble_eq_true rfl⟩) hP hD hS hA [0, 1] [2, 3, 4, 5, 6] [5, 6, 0, 1, 2, 3, 4] (wr := [(zj, .inl (cA, 48, .inl ju)), (ze, .inl (cA, 48, .inl en)), (zt, .inl (cA, 24, .inl T)), (zo, .inl (cA, 24, .inl J)), (za, .inl (cA, 24, .inl F))]) (w2 := [(h4, .inr (4, [.ref zc, .int (nI nn), .int (nI ((g.1 + 1) + 1)), .ref zj, .ref ze, .int (nI ed), .ref zt, .ref zo, .ref za, .ref zr, .ref zm, .ref zl, .int qc, .int (-1), .int (nI qw), .int (nI qb), .int (nI ql)])), (zc, .inl (cA, 288, .inl (rPut (rPut g.2 g.1 10 (T i) 0) (g.1 + 1) (g.2 (3 * i)) (g.2 (3 * i + 1)) (F t)))), (zj, .inl (cA, 48, .inl ju)), (ze, .inl (cA, 48, .inl en)), (zt, .inl (cA, 24, .inl T)), (zo, .inl (cA, 24, .inl J)), (za, .inl (cA, 24, .inl F))]) rfl rfl (by decide) (by decide) (by decide) rfl (fun H locs hP hD hS => ?_)
                        refine lv_goto (tgt := 226) hx hb dX4_protect_214 (by decide) ?_
                        refine lv_iinc (v := (nI (i + 1))) (lv' := [(2, .int (nI (i + 1))), (5, .int (g.2 (3 * i + 2))), (4, .int (g.2 (3 * i + 1))), (3, .int (g.2 (3 * i))), (0, .ref h4)]) hx hb dX4_protect_226 hl (k := 4) rfl (jn_a1 _) (by decide) rfl (fun ls hl => ?_)
                        refine lv_goto (tgt := 82) hx hb dX4_protect_229 (by decide) ?_
                        have e9 : ([(h4, .inr (4, [.ref zc, .int (nI nn), .int (nI ((g.1 + 1) + 1)), .ref zj, .ref ze, .int (nI ed), .ref zt, .ref zo, .ref za, .ref zr, .ref zm, .ref zl, .int qc, .int (-1), .int (nI qw), .int (nI qb), .int (nI ql)])), (zc, .inl (cA, 288, .inl (rPut (rPut g.2 g.1 10 (T i) 0) (g.1 + 1) (g.2 (3 * i)) (g.2 (3 * i + 1)) (F t)))), (zj, .inl (cA, 48, .inl ju)), (ze, .inl (cA, 48, .inl en)), (zt, .inl (cA, 24, .inl T)), (zo, .inl (cA, 24, .inl J)), (za, .inl (cA, 24, .inl F))] : va_W) = [(h4, .inr (4, [.ref zc, .int (nI nn), .int (nI (rA T J F i g).1), .ref zj, .ref ze, .int (nI ed), .ref zt, .ref zo, .ref za, .ref zr, .ref zm, .ref zl, .int qc, .int (-1), .int (nI qw), .int (nI qb), .int (nI ql)])), (zc, .inl (cA, 288, .inl ((rA T J F i g).2))), (zj, .inl (cA, 48, .inl ju)), (ze, .inl (cA, 48, .inl en)), (zt, .inl (cA, 24, .inl T)), (zo, .inl (cA, 24, .inl J)), (za, .inl (cA, 24, .inl F))] := by unfold rA rA3 rA2 rA1; simp only [if_neg c_129, if_neg c_148, if_neg c_168, if_pos (Or.inl c_191 : g.2 (3 * i) = 7 ∨ g.2 (3 * i) = 9)]; rw [eb, nI_clamp (by omega)]
                        rw [e9] at hP hD
                        exact ih82 (i + 1) (rA T J F i g) (by omega) (by omega) (by rw [hg]; rfl) _ _ (jP_sub (w2 := [(h4, .inr (4, [.ref zc, .int (nI nn), .int (nI (rA T J F i g).1), .ref zj, .ref ze, .int (nI ed), .ref zt, .ref zo, .ref za, .ref zr, .ref zm, .ref zl, .int qc, .int (-1), .int (nI qw), .int (nI qb), .int (nI ql)])), (zc, .inl (cA, 288, .inl ((rA T J F i g).2))), (zj, .inl (cA, 48, .inl ju)), (ze, .inl (cA, 48, .inl en)), (zt, .inl (cA, 24, .inl T)), (zo, .inl (cA, 24, .inl J)), (za, .inl (cA, 24, .inl F))]) hP [0, 1, 2, 3, 4, 5, 6] rfl) (hD.sub (ws' := [(h4, .inr (4, [.ref zc, .int (nI nn), .int (nI (rA T J F i g).1), .ref zj, .ref ze, .int (nI ed), .ref zt, .ref zo, .ref za, .ref zr, .ref zm, .ref zl, .int qc, .int (-1), .int (nI qw), .int (nI qb), .int (nI ql)])), (zc, .inl (cA, 288, .inl ((rA T J F i g).2))), (zj, .inl (cA, 48, .inl ju)), (ze, .inl (cA, 48, .inl en)), (zt, .inl (cA, 24, .inl T)), (zo, .inl (cA, 24, .inl J)), (za, .inl (cA, 24, .inl F))]) [0, 1, 2, 3, 4, 5, 6] (by decide) rfl) hS ls (lv_sub hl [4, 0] rfl)
                      · refine lv_iload_n hx hb dX4_protect_194 rfl (lv_at hl 2 rfl) ?_
                        refine lv_bipush (v := 9) hx hb dX4_protect_195 (by decide) ?_
                        refine lv_icmp_ne (tgt := 217) hx hb dX4_protect_197 (by decide) (fun c_197 => ?_) (fun c_197 => ?_)
                        · refine lv_aload_n hx hb dX4_protect_217 rfl (lv_at hl 3 rfl) ?_
                          refine lv_iload_n hx hb dX4_protect_218 rfl (lv_at hl 2 rfl) ?_
                          refine lv_iload hx hb dX4_protect_219 (lv_at hl 1 rfl) ?_
                          refine lv_iload hx hb dX4_protect_221 (lv_at hl 0 rfl) ?_
                          refine jw_v (va_runV (As := [.int (g.2 (3 * i)), .int (g.2 (3 * i + 1)), .int (g.2 (3 * i + 2))]) (rest := []) ⟨hx, hb, hml, hown, hts⟩ (c_X4_put l D cA H.size h4 zc zj ze zt zo za zr zm zl nn (g.1 + 1) ed qc (-1) qw qb ql (rPut g.2 g.1 10 (T i) 0) (g.2 (3 * i)) (g.2 (3 * i + 1)) (g.2 (3 * i + 2)) (by omega)) (cwV 3 hts gX4_protect_X4_put rfl rfl rfl hv_X4_put ⟨Nat.le_of_ble_eq_true rfl, Nat.le_of_ble_eq_true rfl⟩) (rwP.V (wc := [(h4, .inr (4, [.ref zc, .int (nI nn), .int (nI (g.1 + 1)), .ref zj, .ref ze, .int (nI ed), .ref zt, .ref zo, .ref za, .ref zr, .ref zm, .ref zl, .int qc, .int (-1), .int (nI qw), .int (nI qb), .int (nI ql)])), (zc, .inl (cA, 288, .inl (rPut g.2 g.1 10 (T i) 0)))]) (va_recv hK hP (ci := 4) (q0 := 0) rfl rfl) hP hD hK hN [0, 1] (by decide) rfl) rfl rfl hl.1 rfl (lv_room (Nat.le_of_ble_eq_true rfl)) dX4_protect_223 ⟨Nat.le_of_ble_eq_true rfl, Nat.le_of_ble_eq_true rfl⟩) hP hD hS hA [0, 1] [2, 3, 4, 5, 6] [5, 6, 0, 1, 2, 3, 4] (wr := [(zj, .inl (cA, 48, .inl ju)), (ze, .inl (cA, 48, .inl en)), (zt, .inl (cA, 24, .inl T)), (zo, .inl (cA, 24, .inl J)), (za, .inl (cA, 24, .inl F))]) (w2 := [(h4, .inr (4, [.ref zc, .int (nI nn), .int (nI ((g.1 + 1) + 1)), .ref zj, .ref ze, .int (nI ed), .ref zt, .ref zo, .ref za, .ref zr, .ref zm, .ref zl, .int qc, .int (-1), .int (nI qw), .int (nI qb), .int (nI ql)])), (zc, .inl (cA, 288, .inl (rPut (rPut g.2 g.1 10 (T i) 0) (g.1 + 1) (g.2 (3 * i)) (g.2 (3 * i + 1)) (g.2 (3 * i + 2))))), (zj, .inl (cA, 48, .inl ju)), (ze, .inl (cA, 48, .inl en)), (zt, .inl (cA, 24, .inl T)), (zo, .inl (cA, 24, .inl J)), (za, .inl (cA, 24, .inl F))]) rfl rfl (by decide) (by decide) (by decide) rfl (fun H locs hP hD hS => ?_)
                          refine lv_iinc (v := (nI (i + 1))) (lv' := [(2, .int (nI (i + 1))), (5, .int (g.2 (3 * i + 2))), (4, .int (g.2 (3 * i + 1))), (3, .int (g.2 (3 * i))), (0, .ref h4)]) hx hb dX4_protect_226 hl (k := 4) rfl (jn_a1 _) (by decide) rfl (fun ls hl => ?_)
                          refine lv_goto (tgt := 82) hx hb dX4_protect_229 (by decide) ?_
                          have e9 : ([(h4, .inr (4, [.ref zc, .int (nI nn), .int (nI ((g.1 + 1) + 1)), .ref zj, .ref ze, .int (nI ed), .ref zt, .ref zo, .ref za, .ref zr, .ref zm, .ref zl, .int qc, .int (-1), .int (nI qw), .int (nI qb), .int (nI ql)])), (zc, .inl (cA, 288, .inl (rPut (rPut g.2 g.1 10 (T i) 0) (g.1 + 1) (g.2 (3 * i)) (g.2 (3 * i + 1)) (g.2 (3 * i + 2))))), (zj, .inl (cA, 48, .inl ju)), (ze, .inl (cA, 48, .inl en)), (zt, .inl (cA, 24, .inl T)), (zo, .inl (cA, 24, .inl J)), (za, .inl (cA, 24, .inl F))] : va_W) = [(h4, .inr (4, [.ref zc, .int (nI nn), .int (nI (rA T J F i g).1), .ref zj, .ref ze, .int (nI ed), .ref zt, .ref zo, .ref za, .ref zr, .ref zm, .ref zl, .int qc, .int (-1), .int (nI qw), .int (nI qb), .int (nI ql)])), (zc, .inl (cA, 288, .inl ((rA T J F i g).2))), (zj, .inl (cA, 48, .inl ju)), (ze, .inl (cA, 48, .inl en)), (zt, .inl (cA, 24, .inl T)), (zo, .inl (cA, 24, .inl J)), (za, .inl (cA, 24, .inl F))] := by unfold rA rA3 rA2 rA1; simp only [if_neg c_129, if_neg c_148, if_neg c_168, if_neg (fun h => h.elim c_191 c_197 : ¬ (g.2 (3 * i) = 7 ∨ g.2 (3 * i) = 9))]
                          rw [e9] at hP hD
                          exact ih82 (i + 1) (rA T J F i g) (by omega) (by omega) (by rw [hg]; rfl) _ _ (jP_sub (w2 := [(h4, .inr (4, [.ref zc, .int (nI nn), .int (nI (rA T J F i g).1), .ref zj, .ref ze, .int (nI ed), .ref zt, .ref zo, .ref za, .ref zr, .ref zm, .ref zl, .int qc, .int (-1), .int (nI qw), .int (nI qb), .int (nI ql)])), (zc, .inl (cA, 288, .inl ((rA T J F i g).2))), (zj, .inl (cA, 48, .inl ju)), (ze, .inl (cA, 48, .inl en)), (zt, .inl (cA, 24, .inl T)), (zo, .inl (cA, 24, .inl J)), (za, .inl (cA, 24, .inl F))]) hP [0, 1, 2, 3, 4, 5, 6] rfl) (hD.sub (ws' := [(h4, .inr (4, [.ref zc, .int (nI nn), .int (nI (rA T J F i g).1), .ref zj, .ref ze, .int (nI ed), .ref zt, .ref zo, .ref za, .ref zr, .ref zm, .ref zl, .int qc, .int (-1), .int (nI qw), .int (nI qb), .int (nI ql)])), (zc, .inl (cA, 288, .inl ((rA T J F i g).2))), (zj, .inl (cA, 48, .inl ju)), (ze, .inl (cA, 48, .inl en)), (zt, .inl (cA, 24, .inl T)), (zo, .inl (cA, 24, .inl J)), (za, .inl (cA, 24, .inl F))]) [0, 1, 2, 3, 4, 5, 6] (by decide) rfl) hS ls (lv_sub hl [4, 0] rfl)
                        · obtain ⟨t, ht, eb⟩ : ∃ t, t < 24 ∧ g.2 (3 * i + 2) = nI t := by
                            have c9 := c_197
                            rw [hlow _ (by omega)] at c9
                            rw [hlow _ (by omega)]
                            exact (hfit i hi2).2 (Or.inr c9)
                          refine lv_aload_n hx hb dX4_protect_200 rfl (lv_at hl 3 rfl) ?_
                          refine lv_iload_n hx hb dX4_protect_201 rfl (lv_at hl 2 rfl) ?_
                          refine lv_iload hx hb dX4_protect_202 (lv_at hl 1 rfl) ?_
                          refine lv_aload_n hx hb dX4_protect_204 rfl (lv_at hl 3 rfl) ?_
                          refine va_get (D := D) (ci := 4) (v := .ref za) (C := RX4) (T := TX4) (N := 17) hx hb hts iw_X4_protect_X4 hown hK hP 0 rfl rfl 8 (by decide) (hts (.fieldLink RX4 25 "JumpGuardModel" "at" "[I") (List.mem_of_getElem? (l := wsX4_protect) (i := 2) rfl)) (fun _ h9 => h9) rfl dX4_protect_205 ?_
                          refine lv_iload hx hb dX4_protect_208 (lv_at hl 0 rfl) ?_
                          refine jk_ald hx hb hK hP 6 0 rfl rfl (k := t) eb (by omega) (by omega) dX4_protect_210 ?_
                          refine jw_v (va_runV (As := [.int (g.2 (3 * i)), .int (g.2 (3 * i + 1)), .int (F t)]) (rest := []) ⟨hx, hb, hml, hown, hts⟩ (c_X4_put l D cA H.size h4 zc zj ze zt zo za zr zm zl nn (g.1 + 1) ed qc (-1) qw qb ql (rPut g.2 g.1 10 (T i) 0) (g.2 (3 * i)) (g.2 (3 * i + 1)) (F t) (by omega)) (cwV 3 hts gX4_protect_X4_put rfl rfl rfl hv_X4_put ⟨Nat.le_of_ble_eq_true rfl, Nat.le_of_ble_eq_true rfl⟩) (rwP.V (wc := [(h4, .inr (4, [.ref zc, .int (nI nn), .int (nI (g.1 + 1)), .ref zj, .ref ze, .int (nI ed), .ref zt, .ref zo, .ref za, .ref zr, .ref zm, .ref zl, .int qc, .int (-1), .int (nI qw), .int (nI qb), .int (nI ql)])), (zc, .inl (cA, 288, .inl (rPut g.2 g.1 10 (T i) 0)))]) (va_recv hK hP (ci := 4) (q0 := 0) rfl rfl) hP hD hK hN [0, 1] (by decide) rfl) rfl rfl hl.1 rfl (lv_room (Nat.le_of_ble_eq_true rfl)) dX4_protect_211 ⟨Nat.le_of_ble_eq_true rfl, Nat.le_of_ble_eq_true rfl⟩) hP hD hS hA [0, 1] [2, 3, 4, 5, 6] [5, 6, 0, 1, 2, 3, 4] (wr := [(zj, .inl (cA, 48, .inl ju)), (ze, .inl (cA, 48, .inl en)), (zt, .inl (cA, 24, .inl T)), (zo, .inl (cA, 24, .inl J)), (za, .inl (cA, 24, .inl F))]) (w2 := [(h4, .inr (4, [.ref zc, .int (nI nn), .int (nI ((g.1 + 1) + 1)), .ref zj, .ref ze, .int (nI ed), .ref zt, .ref zo, .ref za, .ref zr, .ref zm, .ref zl, .int qc, .int (-1), .int (nI qw), .int (nI qb), .int (nI ql)])), (zc, .inl (cA, 288, .inl (rPut (rPut g.2 g.1 10 (T i) 0) (g.1 + 1) (g.2 (3 * i)) (g.2 (3 * i + 1)) (F t)))), (zj, .inl (cA, 48, .inl ju)), (ze, .inl (cA, 48, .inl en)), (zt, .inl (cA, 24, .inl T)), (zo, .inl (cA, 24, .inl J)), (za, .inl (cA, 24, .inl F))]) rfl rfl (by decide) (by decide) (by decide) rfl (fun H locs hP hD hS => ?_)
                          refine lv_goto (tgt := 226) hx hb dX4_protect_214 (by decide) ?_
                          refine lv_iinc (v := (nI (i + 1))) (lv' := [(2, .int (nI (i + 1))), (5, .int (g.2 (3 * i + 2))), (4, .int (g.2 (3 * i + 1))), (3, .int (g.2 (3 * i))), (0, .ref h4)]) hx hb dX4_protect_226 hl (k := 4) rfl (jn_a1 _) (by decide) rfl (fun ls hl => ?_)
                          refine lv_goto (tgt := 82) hx hb dX4_protect_229 (by decide) ?_
                          have e9 : ([(h4, .inr (4, [.ref zc, .int (nI nn), .int (nI ((g.1 + 1) + 1)), .ref zj, .ref ze, .int (nI ed), .ref zt, .ref zo, .ref za, .ref zr, .ref zm, .ref zl, .int qc, .int (-1), .int (nI qw), .int (nI qb), .int (nI ql)])), (zc, .inl (cA, 288, .inl (rPut (rPut g.2 g.1 10 (T i) 0) (g.1 + 1) (g.2 (3 * i)) (g.2 (3 * i + 1)) (F t)))), (zj, .inl (cA, 48, .inl ju)), (ze, .inl (cA, 48, .inl en)), (zt, .inl (cA, 24, .inl T)), (zo, .inl (cA, 24, .inl J)), (za, .inl (cA, 24, .inl F))] : va_W) = [(h4, .inr (4, [.ref zc, .int (nI nn), .int (nI (rA T J F i g).1), .ref zj, .ref ze, .int (nI ed), .ref zt, .ref zo, .ref za, .ref zr, .ref zm, .ref zl, .int qc, .int (-1), .int (nI qw), .int (nI qb), .int (nI ql)])), (zc, .inl (cA, 288, .inl ((rA T J F i g).2))), (zj, .inl (cA, 48, .inl ju)), (ze, .inl (cA, 48, .inl en)), (zt, .inl (cA, 24, .inl T)), (zo, .inl (cA, 24, .inl J)), (za, .inl (cA, 24, .inl F))] := by unfold rA rA3 rA2 rA1; simp only [if_neg c_129, if_neg c_148, if_neg c_168, if_pos (Or.inr c_197 : g.2 (3 * i) = 7 ∨ g.2 (3 * i) = 9)]; rw [eb, nI_clamp (by omega)]
                          rw [e9] at hP hD
                          exact ih82 (i + 1) (rA T J F i g) (by omega) (by omega) (by rw [hg]; rfl) _ _ (jP_sub (w2 := [(h4, .inr (4, [.ref zc, .int (nI nn), .int (nI (rA T J F i g).1), .ref zj, .ref ze, .int (nI ed), .ref zt, .ref zo, .ref za, .ref zr, .ref zm, .ref zl, .int qc, .int (-1), .int (nI qw), .int (nI qb), .int (nI ql)])), (zc, .inl (cA, 288, .inl ((rA T J F i g).2))), (zj, .inl (cA, 48, .inl ju)), (ze, .inl (cA, 48, .inl en)), (zt, .inl (cA, 24, .inl T)), (zo, .inl (cA, 24, .inl J)), (za, .inl (cA, 24, .inl F))]) hP [0, 1, 2, 3, 4, 5, 6] rfl) (hD.sub (ws' := [(h4, .inr (4, [.ref zc, .int (nI nn), .int (nI (rA T J F i g).1), .ref zj, .ref ze, .int (nI ed), .ref zt, .ref zo, .ref za, .ref zr, .ref zm, .ref zl, .int qc, .int (-1), .int (nI qw), .int (nI qb), .int (nI ql)])), (zc, .inl (cA, 288, .inl ((rA T J F i g).2))), (zj, .inl (cA, 48, .inl ju)), (ze, .inl (cA, 48, .inl en)), (zt, .inl (cA, 24, .inl T)), (zo, .inl (cA, 24, .inl J)), (za, .inl (cA, 24, .inl F))]) [0, 1, 2, 3, 4, 5, 6] (by decide) rfl) hS ls (lv_sub hl [4, 0] rfl)
                    · obtain ⟨t, ht, ea⟩ : ∃ t, t < 24 ∧ g.2 (3 * i + 1) = nI t := by
                        rw [hlow _ (by omega)] at c_168
                        rw [hlow _ (by omega)]
                        exact (hfit i hi2).1 c_168
                      refine lv_aload_n hx hb dX4_protect_171 rfl (lv_at hl 3 rfl) ?_
                      refine lv_iload_n hx hb dX4_protect_172 rfl (lv_at hl 2 rfl) ?_
                      refine lv_aload_n hx hb dX4_protect_173 rfl (lv_at hl 3 rfl) ?_
                      refine va_get (D := D) (ci := 4) (v := .ref za) (C := RX4) (T := TX4) (N := 17) hx hb hts iw_X4_protect_X4 hown hK hP 0 rfl rfl 8 (by decide) (hts (.fieldLink RX4 25 "JumpGuardModel" "at" "[I") (List.mem_of_getElem? (l := wsX4_protect) (i := 2) rfl)) (fun _ h9 => h9) rfl dX4_protect_174 ?_
                      refine lv_iload hx hb dX4_protect_177 (lv_at hl 1 rfl) ?_
                      refine jk_ald hx hb hK hP 6 0 rfl rfl (k := t) ea (by omega) (by omega) dX4_protect_179 ?_
                      refine lv_iload hx hb dX4_protect_180 (lv_at hl 0 rfl) ?_
                      refine jw_v (va_runV (As := [.int (g.2 (3 * i)), .int (F t), .int (g.2 (3 * i + 2))]) (rest := []) ⟨hx, hb, hml, hown, hts⟩ (c_X4_put l D cA H.size h4 zc zj ze zt zo za zr zm zl nn (g.1 + 1) ed qc (-1) qw qb ql (rPut g.2 g.1 10 (T i) 0) (g.2 (3 * i)) (F t) (g.2 (3 * i + 2)) (by omega)) (cwV 3 hts gX4_protect_X4_put rfl rfl rfl hv_X4_put ⟨Nat.le_of_ble_eq_true rfl, Nat.le_of_ble_eq_true rfl⟩) (rwP.V (wc := [(h4, .inr (4, [.ref zc, .int (nI nn), .int (nI (g.1 + 1)), .ref zj, .ref ze, .int (nI ed), .ref zt, .ref zo, .ref za, .ref zr, .ref zm, .ref zl, .int qc, .int (-1), .int (nI qw), .int (nI qb), .int (nI ql)])), (zc, .inl (cA, 288, .inl (rPut g.2 g.1 10 (T i) 0)))]) (va_recv hK hP (ci := 4) (q0 := 0) rfl rfl) hP hD hK hN [0, 1] (by decide) rfl) rfl rfl hl.1 rfl (lv_room (Nat.le_of_ble_eq_true rfl)) dX4_protect_182 ⟨Nat.le_of_ble_eq_true rfl, Nat.le_of_ble_eq_true rfl⟩) hP hD hS hA [0, 1] [2, 3, 4, 5, 6] [5, 6, 0, 1, 2, 3, 4] (wr := [(zj, .inl (cA, 48, .inl ju)), (ze, .inl (cA, 48, .inl en)), (zt, .inl (cA, 24, .inl T)), (zo, .inl (cA, 24, .inl J)), (za, .inl (cA, 24, .inl F))]) (w2 := [(h4, .inr (4, [.ref zc, .int (nI nn), .int (nI ((g.1 + 1) + 1)), .ref zj, .ref ze, .int (nI ed), .ref zt, .ref zo, .ref za, .ref zr, .ref zm, .ref zl, .int qc, .int (-1), .int (nI qw), .int (nI qb), .int (nI ql)])), (zc, .inl (cA, 288, .inl (rPut (rPut g.2 g.1 10 (T i) 0) (g.1 + 1) (g.2 (3 * i)) (F t) (g.2 (3 * i + 2))))), (zj, .inl (cA, 48, .inl ju)), (ze, .inl (cA, 48, .inl en)), (zt, .inl (cA, 24, .inl T)), (zo, .inl (cA, 24, .inl J)), (za, .inl (cA, 24, .inl F))]) rfl rfl (by decide) (by decide) (by decide) rfl (fun H locs hP hD hS => ?_)
                      refine lv_goto (tgt := 226) hx hb dX4_protect_185 (by decide) ?_
                      refine lv_iinc (v := (nI (i + 1))) (lv' := [(2, .int (nI (i + 1))), (5, .int (g.2 (3 * i + 2))), (4, .int (g.2 (3 * i + 1))), (3, .int (g.2 (3 * i))), (0, .ref h4)]) hx hb dX4_protect_226 hl (k := 4) rfl (jn_a1 _) (by decide) rfl (fun ls hl => ?_)
                      refine lv_goto (tgt := 82) hx hb dX4_protect_229 (by decide) ?_
                      have e9 : ([(h4, .inr (4, [.ref zc, .int (nI nn), .int (nI ((g.1 + 1) + 1)), .ref zj, .ref ze, .int (nI ed), .ref zt, .ref zo, .ref za, .ref zr, .ref zm, .ref zl, .int qc, .int (-1), .int (nI qw), .int (nI qb), .int (nI ql)])), (zc, .inl (cA, 288, .inl (rPut (rPut g.2 g.1 10 (T i) 0) (g.1 + 1) (g.2 (3 * i)) (F t) (g.2 (3 * i + 2))))), (zj, .inl (cA, 48, .inl ju)), (ze, .inl (cA, 48, .inl en)), (zt, .inl (cA, 24, .inl T)), (zo, .inl (cA, 24, .inl J)), (za, .inl (cA, 24, .inl F))] : va_W) = [(h4, .inr (4, [.ref zc, .int (nI nn), .int (nI (rA T J F i g).1), .ref zj, .ref ze, .int (nI ed), .ref zt, .ref zo, .ref za, .ref zr, .ref zm, .ref zl, .int qc, .int (-1), .int (nI qw), .int (nI qb), .int (nI ql)])), (zc, .inl (cA, 288, .inl ((rA T J F i g).2))), (zj, .inl (cA, 48, .inl ju)), (ze, .inl (cA, 48, .inl en)), (zt, .inl (cA, 24, .inl T)), (zo, .inl (cA, 24, .inl J)), (za, .inl (cA, 24, .inl F))] := by unfold rA rA3 rA2 rA1; simp only [if_neg c_129, if_neg c_148, if_pos c_168]; rw [ea, nI_clamp (by omega)]
                      rw [e9] at hP hD
                      exact ih82 (i + 1) (rA T J F i g) (by omega) (by omega) (by rw [hg]; rfl) _ _ (jP_sub (w2 := [(h4, .inr (4, [.ref zc, .int (nI nn), .int (nI (rA T J F i g).1), .ref zj, .ref ze, .int (nI ed), .ref zt, .ref zo, .ref za, .ref zr, .ref zm, .ref zl, .int qc, .int (-1), .int (nI qw), .int (nI qb), .int (nI ql)])), (zc, .inl (cA, 288, .inl ((rA T J F i g).2))), (zj, .inl (cA, 48, .inl ju)), (ze, .inl (cA, 48, .inl en)), (zt, .inl (cA, 24, .inl T)), (zo, .inl (cA, 24, .inl J)), (za, .inl (cA, 24, .inl F))]) hP [0, 1, 2, 3, 4, 5, 6] rfl) (hD.sub (ws' := [(h4, .inr (4, [.ref zc, .int (nI nn), .int (nI (rA T J F i g).1), .ref zj, .ref ze, .int (nI ed), .ref zt, .ref zo, .ref za, .ref zr, .ref zm, .ref zl, .int qc, .int (-1), .int (nI qw), .int (nI qb), .int (nI ql)])), (zc, .inl (cA, 288, .inl ((rA T J F i g).2))), (zj, .inl (cA, 48, .inl ju)), (ze, .inl (cA, 48, .inl en)), (zt, .inl (cA, 24, .inl T)), (zo, .inl (cA, 24, .inl J)), (za, .inl (cA, 24, .inl F))]) [0, 1, 2, 3, 4, 5, 6] (by decide) rfl) hS ls (lv_sub hl [4, 0] rfl)
                  · refine lv_aload_n hx hb dX4_protect_151 rfl (lv_at hl 3 rfl) ?_
                    refine lv_bipush (v := 11) hx hb dX4_protect_152 (by decide) ?_
                    refine lv_iload hx hb dX4_protect_154 (lv_at hl 1 rfl) ?_
                    refine lv_aload_n hx hb dX4_protect_156 rfl (lv_at hl 3 rfl) ?_
                    refine va_get (D := D) (ci := 4) (v := .ref zo) (C := RX4) (T := TX4) (N := 17) hx hb hts iw_X4_protect_X4 hown hK hP 0 rfl rfl 7 (by decide) (hts (.fieldLink RX4 22 "JumpGuardModel" "ofJump" "[I") (List.mem_of_getElem? (l := wsX4_protect) (i := 5) rfl)) (fun _ h9 => h9) rfl dX4_protect_157 ?_
                    refine lv_iload_n hx hb dX4_protect_160 rfl (lv_at hl 4 rfl) ?_
                    refine jk_ald hx hb hK hP 5 0 rfl rfl (k := i) rfl (by omega) (by omega) dX4_protect_161 ?_
                    refine jw_v (va_runV (As := [.int 11, .int (g.2 (3 * i + 1)), .int (J i)]) (rest := []) ⟨hx, hb, hml, hown, hts⟩ (c_X4_put l D cA H.size h4 zc zj ze zt zo za zr zm zl nn (g.1 + 1) ed qc (-1) qw qb ql (rPut g.2 g.1 10 (T i) 0) 11 (g.2 (3 * i + 1)) (J i) (by omega)) (cwV 3 hts gX4_protect_X4_put rfl rfl rfl hv_X4_put ⟨Nat.le_of_ble_eq_true rfl, Nat.le_of_ble_eq_true rfl⟩) (rwP.V (wc := [(h4, .inr (4, [.ref zc, .int (nI nn), .int (nI (g.1 + 1)), .ref zj, .ref ze, .int (nI ed), .ref zt, .ref zo, .ref za, .ref zr, .ref zm, .ref zl, .int qc, .int (-1), .int (nI qw), .int (nI qb), .int (nI ql)])), (zc, .inl (cA, 288, .inl (rPut g.2 g.1 10 (T i) 0)))]) (va_recv hK hP (ci := 4) (q0 := 0) rfl rfl) hP hD hK hN [0, 1] (by decide) rfl) rfl rfl hl.1 rfl (lv_room (Nat.le_of_ble_eq_true rfl)) dX4_protect_162 ⟨Nat.le_of_ble_eq_true rfl, Nat.le_of_ble_eq_true rfl⟩) hP hD hS hA [0, 1] [2, 3, 4, 5, 6] [5, 6, 0, 1, 2, 3, 4] (wr := [(zj, .inl (cA, 48, .inl ju)), (ze, .inl (cA, 48, .inl en)), (zt, .inl (cA, 24, .inl T)), (zo, .inl (cA, 24, .inl J)), (za, .inl (cA, 24, .inl F))]) (w2 := [(h4, .inr (4, [.ref zc, .int (nI nn), .int (nI ((g.1 + 1) + 1)), .ref zj, .ref ze, .int (nI ed), .ref zt, .ref zo, .ref za, .ref zr, .ref zm, .ref zl, .int qc, .int (-1), .int (nI qw), .int (nI qb), .int (nI ql)])), (zc, .inl (cA, 288, .inl (rPut (rPut g.2 g.1 10 (T i) 0) (g.1 + 1) 11 (g.2 (3 * i + 1)) (J i)))), (zj, .inl (cA, 48, .inl ju)), (ze, .inl (cA, 48, .inl en)), (zt, .inl (cA, 24, .inl T)), (zo, .inl (cA, 24, .inl J)), (za, .inl (cA, 24, .inl F))]) rfl rfl (by decide) (by decide) (by decide) rfl (fun H locs hP hD hS => ?_)
                    refine lv_iload_n hx hb dX4_protect_165 rfl (lv_at hl 2 rfl) ?_
                    refine lv_bipush (v := 6) hx hb dX4_protect_166 (by decide) ?_
                    refine lv_icmp_ne (tgt := 188) hx hb dX4_protect_168 (by decide) (fun c_168 => ?_) (fun c_168 => ?_)
                    · refine lv_iload_n hx hb dX4_protect_188 rfl (lv_at hl 2 rfl) ?_
                      refine lv_bipush (v := 7) hx hb dX4_protect_189 (by decide) ?_
                      refine lv_icmp_eq (tgt := 200) hx hb dX4_protect_191 (by decide) (fun c_191 => ?_) (fun c_191 => ?_)
                      · obtain ⟨t, ht, eb⟩ : ∃ t, t < 24 ∧ g.2 (3 * i + 2) = nI t := by
                          have c9 := c_191
                          rw [hlow _ (by omega)] at c9
                          rw [hlow _ (by omega)]
                          exact (hfit i hi2).2 (Or.inl c9)
                        refine lv_aload_n hx hb dX4_protect_200 rfl (lv_at hl 3 rfl) ?_
                        refine lv_iload_n hx hb dX4_protect_201 rfl (lv_at hl 2 rfl) ?_
                        refine lv_iload hx hb dX4_protect_202 (lv_at hl 1 rfl) ?_
                        refine lv_aload_n hx hb dX4_protect_204 rfl (lv_at hl 3 rfl) ?_
                        refine va_get (D := D) (ci := 4) (v := .ref za) (C := RX4) (T := TX4) (N := 17) hx hb hts iw_X4_protect_X4 hown hK hP 0 rfl rfl 8 (by decide) (hts (.fieldLink RX4 25 "JumpGuardModel" "at" "[I") (List.mem_of_getElem? (l := wsX4_protect) (i := 2) rfl)) (fun _ h9 => h9) rfl dX4_protect_205 ?_
                        refine lv_iload hx hb dX4_protect_208 (lv_at hl 0 rfl) ?_
                        refine jk_ald hx hb hK hP 6 0 rfl rfl (k := t) eb (by omega) (by omega) dX4_protect_210 ?_
                        refine jw_v (va_runV (As := [.int (g.2 (3 * i)), .int (g.2 (3 * i + 1)), .int (F t)]) (rest := []) ⟨hx, hb, hml, hown, hts⟩ (c_X4_put l D cA H.size h4 zc zj ze zt zo za zr zm zl nn ((g.1 + 1) + 1) ed qc (-1) qw qb ql (rPut (rPut g.2 g.1 10 (T i) 0) (g.1 + 1) 11 (g.2 (3 * i + 1)) (J i)) (g.2 (3 * i)) (g.2 (3 * i + 1)) (F t) (by omega)) (cwV 3 hts gX4_protect_X4_put rfl rfl rfl hv_X4_put ⟨Nat.le_of_ble_eq_true rfl, Nat.le_of_ble_eq_true rfl⟩) (rwP.V (wc := [(h4, .inr (4, [.ref zc, .int (nI nn), .int (nI ((g.1 + 1) + 1)), .ref zj, .ref ze, .int (nI ed), .ref zt, .ref zo, .ref za, .ref zr, .ref zm, .ref zl, .int qc, .int (-1), .int (nI qw), .int (nI qb), .int (nI ql)])), (zc, .inl (cA, 288, .inl (rPut (rPut g.2 g.1 10 (T i) 0) (g.1 + 1) 11 (g.2 (3 * i + 1)) (J i))))]) (va_recv hK hP (ci := 4) (q0 := 0) rfl rfl) hP hD hK hN [0, 1] (by decide) rfl) rfl rfl hl.1 rfl (lv_room (Nat.le_of_ble_eq_true rfl)) dX4_protect_211 ⟨Nat.le_of_ble_eq_true rfl, Nat.le_of_ble_eq_true rfl⟩) hP hD hS hA [0, 1] [2, 3, 4, 5, 6] [5, 6, 0, 1, 2, 3, 4] (wr := [(zj, .inl (cA, 48, .inl ju)), (ze, .inl (cA, 48, .inl en)), (zt, .inl (cA, 24, .inl T)), (zo, .inl (cA, 24, .inl J)), (za, .inl (cA, 24, .inl F))]) (w2 := [(h4, .inr (4, [.ref zc, .int (nI nn), .int (nI (((g.1 + 1) + 1) + 1)), .ref zj, .ref ze, .int (nI ed), .ref zt, .ref zo, .ref za, .ref zr, .ref zm, .ref zl, .int qc, .int (-1), .int (nI qw), .int (nI qb), .int (nI ql)])), (zc, .inl (cA, 288, .inl (rPut (rPut (rPut g.2 g.1 10 (T i) 0) (g.1 + 1) 11 (g.2 (3 * i + 1)) (J i)) ((g.1 + 1) + 1) (g.2 (3 * i)) (g.2 (3 * i + 1)) (F t)))), (zj, .inl (cA, 48, .inl ju)), (ze, .inl (cA, 48, .inl en)), (zt, .inl (cA, 24, .inl T)), (zo, .inl (cA, 24, .inl J)), (za, .inl (cA, 24, .inl F))]) rfl rfl (by decide) (by decide) (by decide) rfl (fun H locs hP hD hS => ?_)
                        refine lv_goto (tgt := 226) hx hb dX4_protect_214 (by decide) ?_
                        refine lv_iinc (v := (nI (i + 1))) (lv' := [(2, .int (nI (i + 1))), (5, .int (g.2 (3 * i + 2))), (4, .int (g.2 (3 * i + 1))), (3, .int (g.2 (3 * i))), (0, .ref h4)]) hx hb dX4_protect_226 hl (k := 4) rfl (jn_a1 _) (by decide) rfl (fun ls hl => ?_)
                        refine lv_goto (tgt := 82) hx hb dX4_protect_229 (by decide) ?_
                        have e9 : ([(h4, .inr (4, [.ref zc, .int (nI nn), .int (nI (((g.1 + 1) + 1) + 1)), .ref zj, .ref ze, .int (nI ed), .ref zt, .ref zo, .ref za, .ref zr, .ref zm, .ref zl, .int qc, .int (-1), .int (nI qw), .int (nI qb), .int (nI ql)])), (zc, .inl (cA, 288, .inl (rPut (rPut (rPut g.2 g.1 10 (T i) 0) (g.1 + 1) 11 (g.2 (3 * i + 1)) (J i)) ((g.1 + 1) + 1) (g.2 (3 * i)) (g.2 (3 * i + 1)) (F t)))), (zj, .inl (cA, 48, .inl ju)), (ze, .inl (cA, 48, .inl en)), (zt, .inl (cA, 24, .inl T)), (zo, .inl (cA, 24, .inl J)), (za, .inl (cA, 24, .inl F))] : va_W) = [(h4, .inr (4, [.ref zc, .int (nI nn), .int (nI (rA T J F i g).1), .ref zj, .ref ze, .int (nI ed), .ref zt, .ref zo, .ref za, .ref zr, .ref zm, .ref zl, .int qc, .int (-1), .int (nI qw), .int (nI qb), .int (nI ql)])), (zc, .inl (cA, 288, .inl ((rA T J F i g).2))), (zj, .inl (cA, 48, .inl ju)), (ze, .inl (cA, 48, .inl en)), (zt, .inl (cA, 24, .inl T)), (zo, .inl (cA, 24, .inl J)), (za, .inl (cA, 24, .inl F))] := by unfold rA rA3 rA2 rA1; simp only [if_neg c_129, if_pos c_148, if_neg c_168, if_pos (Or.inl c_191 : g.2 (3 * i) = 7 ∨ g.2 (3 * i) = 9)]; rw [eb, nI_clamp (by omega)]
                        rw [e9] at hP hD
                        exact ih82 (i + 1) (rA T J F i g) (by omega) (by omega) (by rw [hg]; rfl) _ _ (jP_sub (w2 := [(h4, .inr (4, [.ref zc, .int (nI nn), .int (nI (rA T J F i g).1), .ref zj, .ref ze, .int (nI ed), .ref zt, .ref zo, .ref za, .ref zr, .ref zm, .ref zl, .int qc, .int (-1), .int (nI qw), .int (nI qb), .int (nI ql)])), (zc, .inl (cA, 288, .inl ((rA T J F i g).2))), (zj, .inl (cA, 48, .inl ju)), (ze, .inl (cA, 48, .inl en)), (zt, .inl (cA, 24, .inl T)), (zo, .inl (cA, 24, .inl J)), (za, .inl (cA, 24, .inl F))]) hP [0, 1, 2, 3, 4, 5, 6] rfl) (hD.sub (ws' := [(h4, .inr (4, [.ref zc, .int (nI nn), .int (nI (rA T J F i g).1), .ref zj, .ref ze, .int (nI ed), .ref zt, .ref zo, .ref za, .ref zr, .ref zm, .ref zl, .int qc, .int (-1), .int (nI qw), .int (nI qb), .int (nI ql)])), (zc, .inl (cA, 288, .inl ((rA T J F i g).2))), (zj, .inl (cA, 48, .inl ju)), (ze, .inl (cA, 48, .inl en)), (zt, .inl (cA, 24, .inl T)), (zo, .inl (cA, 24, .inl J)), (za, .inl (cA, 24, .inl F))]) [0, 1, 2, 3, 4, 5, 6] (by decide) rfl) hS ls (lv_sub hl [4, 0] rfl)
                      · refine lv_iload_n hx hb dX4_protect_194 rfl (lv_at hl 2 rfl) ?_
                        refine lv_bipush (v := 9) hx hb dX4_protect_195 (by decide) ?_
                        refine lv_icmp_ne (tgt := 217) hx hb dX4_protect_197 (by decide) (fun c_197 => ?_) (fun c_197 => ?_)
                        · refine lv_aload_n hx hb dX4_protect_217 rfl (lv_at hl 3 rfl) ?_
                          refine lv_iload_n hx hb dX4_protect_218 rfl (lv_at hl 2 rfl) ?_
                          refine lv_iload hx hb dX4_protect_219 (lv_at hl 1 rfl) ?_
                          refine lv_iload hx hb dX4_protect_221 (lv_at hl 0 rfl) ?_
                          refine jw_v (va_runV (As := [.int (g.2 (3 * i)), .int (g.2 (3 * i + 1)), .int (g.2 (3 * i + 2))]) (rest := []) ⟨hx, hb, hml, hown, hts⟩ (c_X4_put l D cA H.size h4 zc zj ze zt zo za zr zm zl nn ((g.1 + 1) + 1) ed qc (-1) qw qb ql (rPut (rPut g.2 g.1 10 (T i) 0) (g.1 + 1) 11 (g.2 (3 * i + 1)) (J i)) (g.2 (3 * i)) (g.2 (3 * i + 1)) (g.2 (3 * i + 2)) (by omega)) (cwV 3 hts gX4_protect_X4_put rfl rfl rfl hv_X4_put ⟨Nat.le_of_ble_eq_true rfl, Nat.le_of_ble_eq_true rfl⟩) (rwP.V (wc := [(h4, .inr (4, [.ref zc, .int (nI nn), .int (nI ((g.1 + 1) + 1)), .ref zj, .ref ze, .int (nI ed), .ref zt, .ref zo, .ref za, .ref zr, .ref zm, .ref zl, .int qc, .int (-1), .int (nI qw), .int (nI qb), .int (nI ql)])), (zc, .inl (cA, 288, .inl (rPut (rPut g.2 g.1 10 (T i) 0) (g.1 + 1) 11 (g.2 (3 * i + 1)) (J i))))]) (va_recv hK hP (ci := 4) (q0 := 0) rfl rfl) hP hD hK hN [0, 1] (by decide) rfl) rfl rfl hl.1 rfl (lv_room (Nat.le_of_ble_eq_true rfl)) dX4_protect_223 ⟨Nat.le_of_ble_eq_true rfl, Nat.le_of_ble_eq_true rfl⟩) hP hD hS hA [0, 1] [2, 3, 4, 5, 6] [5, 6, 0, 1, 2, 3, 4] (wr := [(zj, .inl (cA, 48, .inl ju)), (ze, .inl (cA, 48, .inl en)), (zt, .inl (cA, 24, .inl T)), (zo, .inl (cA, 24, .inl J)), (za, .inl (cA, 24, .inl F))]) (w2 := [(h4, .inr (4, [.ref zc, .int (nI nn), .int (nI (((g.1 + 1) + 1) + 1)), .ref zj, .ref ze, .int (nI ed), .ref zt, .ref zo, .ref za, .ref zr, .ref zm, .ref zl, .int qc, .int (-1), .int (nI qw), .int (nI qb), .int (nI ql)])), (zc, .inl (cA, 288, .inl (rPut (rPut (rPut g.2 g.1 10 (T i) 0) (g.1 + 1) 11 (g.2 (3 * i + 1)) (J i)) ((g.1 + 1) + 1) (g.2 (3 * i)) (g.2 (3 * i + 1)) (g.2 (3 * i + 2))))), (zj, .inl (cA, 48, .inl ju)), (ze, .inl (cA, 48, .inl en)), (zt, .inl (cA, 24, .inl T)), (zo, .inl (cA, 24, .inl J)), (za, .inl (cA, 24, .inl F))]) rfl rfl (by decide) (by decide) (by decide) rfl (fun H locs hP hD hS => ?_)
                          refine lv_iinc (v := (nI (i + 1))) (lv' := [(2, .int (nI (i + 1))), (5, .int (g.2 (3 * i + 2))), (4, .int (g.2 (3 * i + 1))), (3, .int (g.2 (3 * i))), (0, .ref h4)]) hx hb dX4_protect_226 hl (k := 4) rfl (jn_a1 _) (by decide) rfl (fun ls hl => ?_)
                          refine lv_goto (tgt := 82) hx hb dX4_protect_229 (by decide) ?_
                          have e9 : ([(h4, .inr (4, [.ref zc, .int (nI nn), .int (nI (((g.1 + 1) + 1) + 1)), .ref zj, .ref ze, .int (nI ed), .ref zt, .ref zo, .ref za, .ref zr, .ref zm, .ref zl, .int qc, .int (-1), .int (nI qw), .int (nI qb), .int (nI ql)])), (zc, .inl (cA, 288, .inl (rPut (rPut (rPut g.2 g.1 10 (T i) 0) (g.1 + 1) 11 (g.2 (3 * i + 1)) (J i)) ((g.1 + 1) + 1) (g.2 (3 * i)) (g.2 (3 * i + 1)) (g.2 (3 * i + 2))))), (zj, .inl (cA, 48, .inl ju)), (ze, .inl (cA, 48, .inl en)), (zt, .inl (cA, 24, .inl T)), (zo, .inl (cA, 24, .inl J)), (za, .inl (cA, 24, .inl F))] : va_W) = [(h4, .inr (4, [.ref zc, .int (nI nn), .int (nI (rA T J F i g).1), .ref zj, .ref ze, .int (nI ed), .ref zt, .ref zo, .ref za, .ref zr, .ref zm, .ref zl, .int qc, .int (-1), .int (nI qw), .int (nI qb), .int (nI ql)])), (zc, .inl (cA, 288, .inl ((rA T J F i g).2))), (zj, .inl (cA, 48, .inl ju)), (ze, .inl (cA, 48, .inl en)), (zt, .inl (cA, 24, .inl T)), (zo, .inl (cA, 24, .inl J)), (za, .inl (cA, 24, .inl F))] := by unfold rA rA3 rA2 rA1; simp only [if_neg c_129, if_pos c_148, if_neg c_168, if_neg (fun h => h.elim c_191 c_197 : ¬ (g.2 (3 * i) = 7 ∨ g.2 (3 * i) = 9))]
                          rw [e9] at hP hD
                          exact ih82 (i + 1) (rA T J F i g) (by omega) (by omega) (by rw [hg]; rfl) _ _ (jP_sub (w2 := [(h4, .inr (4, [.ref zc, .int (nI nn), .int (nI (rA T J F i g).1), .ref zj, .ref ze, .int (nI ed), .ref zt, .ref zo, .ref za, .ref zr, .ref zm, .ref zl, .int qc, .int (-1), .int (nI qw), .int (nI qb), .int (nI ql)])), (zc, .inl (cA, 288, .inl ((rA T J F i g).2))), (zj, .inl (cA, 48, .inl ju)), (ze, .inl (cA, 48, .inl en)), (zt, .inl (cA, 24, .inl T)), (zo, .inl (cA, 24, .inl J)), (za, .inl (cA, 24, .inl F))]) hP [0, 1, 2, 3, 4, 5, 6] rfl) (hD.sub (ws' := [(h4, .inr (4, [.ref zc, .int (nI nn), .int (nI (rA T J F i g).1), .ref zj, .ref ze, .int (nI ed), .ref zt, .ref zo, .ref za, .ref zr, .ref zm, .ref zl, .int qc, .int (-1), .int (nI qw), .int (nI qb), .int (nI ql)])), (zc, .inl (cA, 288, .inl ((rA T J F i g).2))), (zj, .inl (cA, 48, .inl ju)), (ze, .inl (cA, 48, .inl en)), (zt, .inl (cA, 24, .inl T)), (zo, .inl (cA, 24, .inl J)), (za, .inl (cA, 24, .inl F))]) [0, 1, 2, 3, 4, 5, 6] (by decide) rfl) hS ls (lv_sub hl [4, 0] rfl)
                        · obtain ⟨t, ht, eb⟩ : ∃ t, t < 24 ∧ g.2 (3 * i + 2) = nI t := by
                            have c9 := c_197
                            rw [hlow _ (by omega)] at c9
                            rw [hlow _ (by omega)]
                            exact (hfit i hi2).2 (Or.inr c9)
                          refine lv_aload_n hx hb dX4_protect_200 rfl (lv_at hl 3 rfl) ?_
                          refine lv_iload_n hx hb dX4_protect_201 rfl (lv_at hl 2 rfl) ?_
                          refine lv_iload hx hb dX4_protect_202 (lv_at hl 1 rfl) ?_
                          refine lv_aload_n hx hb dX4_protect_204 rfl (lv_at hl 3 rfl) ?_
                          refine va_get (D := D) (ci := 4) (v := .ref za) (C := RX4) (T := TX4) (N := 17) hx hb hts iw_X4_protect_X4 hown hK hP 0 rfl rfl 8 (by decide) (hts (.fieldLink RX4 25 "JumpGuardModel" "at" "[I") (List.mem_of_getElem? (l := wsX4_protect) (i := 2) rfl)) (fun _ h9 => h9) rfl dX4_protect_205 ?_
                          refine lv_iload hx hb dX4_protect_208 (lv_at hl 0 rfl) ?_
                          refine jk_ald hx hb hK hP 6 0 rfl rfl (k := t) eb (by omega) (by omega) dX4_protect_210 ?_
                          refine jw_v (va_runV (As := [.int (g.2 (3 * i)), .int (g.2 (3 * i + 1)), .int (F t)]) (rest := []) ⟨hx, hb, hml, hown, hts⟩ (c_X4_put l D cA H.size h4 zc zj ze zt zo za zr zm zl nn ((g.1 + 1) + 1) ed qc (-1) qw qb ql (rPut (rPut g.2 g.1 10 (T i) 0) (g.1 + 1) 11 (g.2 (3 * i + 1)) (J i)) (g.2 (3 * i)) (g.2 (3 * i + 1)) (F t) (by omega)) (cwV 3 hts gX4_protect_X4_put rfl rfl rfl hv_X4_put ⟨Nat.le_of_ble_eq_true rfl, Nat.le_of_ble_eq_true rfl⟩) (rwP.V (wc := [(h4, .inr (4, [.ref zc, .int (nI nn), .int (nI ((g.1 + 1) + 1)), .ref zj, .ref ze, .int (nI ed), .ref zt, .ref zo, .ref za, .ref zr, .ref zm, .ref zl, .int qc, .int (-1), .int (nI qw), .int (nI qb), .int (nI ql)])), (zc, .inl (cA, 288, .inl (rPut (rPut g.2 g.1 10 (T i) 0) (g.1 + 1) 11 (g.2 (3 * i + 1)) (J i))))]) (va_recv hK hP (ci := 4) (q0 := 0) rfl rfl) hP hD hK hN [0, 1] (by decide) rfl) rfl rfl hl.1 rfl (lv_room (Nat.le_of_ble_eq_true rfl)) dX4_protect_211 ⟨Nat.le_of_ble_eq_true rfl, Nat.le_of_ble_eq_true rfl⟩) hP hD hS hA [0, 1] [2, 3, 4, 5, 6] [5, 6, 0, 1, 2, 3, 4] (wr := [(zj, .inl (cA, 48, .inl ju)), (ze, .inl (cA, 48, .inl en)), (zt, .inl (cA, 24, .inl T)), (zo, .inl (cA, 24, .inl J)), (za, .inl (cA, 24, .inl F))]) (w2 := [(h4, .inr (4, [.ref zc, .int (nI nn), .int (nI (((g.1 + 1) + 1) + 1)), .ref zj, .ref ze, .int (nI ed), .ref zt, .ref zo, .ref za, .ref zr, .ref zm, .ref zl, .int qc, .int (-1), .int (nI qw), .int (nI qb), .int (nI ql)])), (zc, .inl (cA, 288, .inl (rPut (rPut (rPut g.2 g.1 10 (T i) 0) (g.1 + 1) 11 (g.2 (3 * i + 1)) (J i)) ((g.1 + 1) + 1) (g.2 (3 * i)) (g.2 (3 * i + 1)) (F t)))), (zj, .inl (cA, 48, .inl ju)), (ze, .inl (cA, 48, .inl en)), (zt, .inl (cA, 24, .inl T)), (zo, .inl (cA, 24, .inl J)), (za, .inl (cA, 24, .inl F))]) rfl rfl (by decide) (by decide) (by decide) rfl (fun H locs hP hD hS => ?_)
                          refine lv_goto (tgt := 226) hx hb dX4_protect_214 (by decide) ?_
                          refine lv_iinc (v := (nI (i + 1))) (lv' := [(2, .int (nI (i + 1))), (5, .int (g.2 (3 * i + 2))), (4, .int (g.2 (3 * i + 1))), (3, .int (g.2 (3 * i))), (0, .ref h4)]) hx hb dX4_protect_226 hl (k := 4) rfl (jn_a1 _) (by decide) rfl (fun ls hl => ?_)
                          refine lv_goto (tgt := 82) hx hb dX4_protect_229 (by decide) ?_
                          have e9 : ([(h4, .inr (4, [.ref zc, .int (nI nn), .int (nI (((g.1 + 1) + 1) + 1)), .ref zj, .ref ze, .int (nI ed), .ref zt, .ref zo, .ref za, .ref zr, .ref zm, .ref zl, .int qc, .int (-1), .int (nI qw), .int (nI qb), .int (nI ql)])), (zc, .inl (cA, 288, .inl (rPut (rPut (rPut g.2 g.1 10 (T i) 0) (g.1 + 1) 11 (g.2 (3 * i + 1)) (J i)) ((g.1 + 1) + 1) (g.2 (3 * i)) (g.2 (3 * i + 1)) (F t)))), (zj, .inl (cA, 48, .inl ju)), (ze, .inl (cA, 48, .inl en)), (zt, .inl (cA, 24, .inl T)), (zo, .inl (cA, 24, .inl J)), (za, .inl (cA, 24, .inl F))] : va_W) = [(h4, .inr (4, [.ref zc, .int (nI nn), .int (nI (rA T J F i g).1), .ref zj, .ref ze, .int (nI ed), .ref zt, .ref zo, .ref za, .ref zr, .ref zm, .ref zl, .int qc, .int (-1), .int (nI qw), .int (nI qb), .int (nI ql)])), (zc, .inl (cA, 288, .inl ((rA T J F i g).2))), (zj, .inl (cA, 48, .inl ju)), (ze, .inl (cA, 48, .inl en)), (zt, .inl (cA, 24, .inl T)), (zo, .inl (cA, 24, .inl J)), (za, .inl (cA, 24, .inl F))] := by unfold rA rA3 rA2 rA1; simp only [if_neg c_129, if_pos c_148, if_neg c_168, if_pos (Or.inr c_197 : g.2 (3 * i) = 7 ∨ g.2 (3 * i) = 9)]; rw [eb, nI_clamp (by omega)]
                          rw [e9] at hP hD
                          exact ih82 (i + 1) (rA T J F i g) (by omega) (by omega) (by rw [hg]; rfl) _ _ (jP_sub (w2 := [(h4, .inr (4, [.ref zc, .int (nI nn), .int (nI (rA T J F i g).1), .ref zj, .ref ze, .int (nI ed), .ref zt, .ref zo, .ref za, .ref zr, .ref zm, .ref zl, .int qc, .int (-1), .int (nI qw), .int (nI qb), .int (nI ql)])), (zc, .inl (cA, 288, .inl ((rA T J F i g).2))), (zj, .inl (cA, 48, .inl ju)), (ze, .inl (cA, 48, .inl en)), (zt, .inl (cA, 24, .inl T)), (zo, .inl (cA, 24, .inl J)), (za, .inl (cA, 24, .inl F))]) hP [0, 1, 2, 3, 4, 5, 6] rfl) (hD.sub (ws' := [(h4, .inr (4, [.ref zc, .int (nI nn), .int (nI (rA T J F i g).1), .ref zj, .ref ze, .int (nI ed), .ref zt, .ref zo, .ref za, .ref zr, .ref zm, .ref zl, .int qc, .int (-1), .int (nI qw), .int (nI qb), .int (nI ql)])), (zc, .inl (cA, 288, .inl ((rA T J F i g).2))), (zj, .inl (cA, 48, .inl ju)), (ze, .inl (cA, 48, .inl en)), (zt, .inl (cA, 24, .inl T)), (zo, .inl (cA, 24, .inl J)), (za, .inl (cA, 24, .inl F))]) [0, 1, 2, 3, 4, 5, 6] (by decide) rfl) hS ls (lv_sub hl [4, 0] rfl)
                    · obtain ⟨t, ht, ea⟩ : ∃ t, t < 24 ∧ g.2 (3 * i + 1) = nI t := by
                        rw [hlow _ (by omega)] at c_168
                        rw [hlow _ (by omega)]
                        exact (hfit i hi2).1 c_168
                      refine lv_aload_n hx hb dX4_protect_171 rfl (lv_at hl 3 rfl) ?_
                      refine lv_iload_n hx hb dX4_protect_172 rfl (lv_at hl 2 rfl) ?_
                      refine lv_aload_n hx hb dX4_protect_173 rfl (lv_at hl 3 rfl) ?_
                      refine va_get (D := D) (ci := 4) (v := .ref za) (C := RX4) (T := TX4) (N := 17) hx hb hts iw_X4_protect_X4 hown hK hP 0 rfl rfl 8 (by decide) (hts (.fieldLink RX4 25 "JumpGuardModel" "at" "[I") (List.mem_of_getElem? (l := wsX4_protect) (i := 2) rfl)) (fun _ h9 => h9) rfl dX4_protect_174 ?_
                      refine lv_iload hx hb dX4_protect_177 (lv_at hl 1 rfl) ?_
                      refine jk_ald hx hb hK hP 6 0 rfl rfl (k := t) ea (by omega) (by omega) dX4_protect_179 ?_
                      refine lv_iload hx hb dX4_protect_180 (lv_at hl 0 rfl) ?_
                      refine jw_v (va_runV (As := [.int (g.2 (3 * i)), .int (F t), .int (g.2 (3 * i + 2))]) (rest := []) ⟨hx, hb, hml, hown, hts⟩ (c_X4_put l D cA H.size h4 zc zj ze zt zo za zr zm zl nn ((g.1 + 1) + 1) ed qc (-1) qw qb ql (rPut (rPut g.2 g.1 10 (T i) 0) (g.1 + 1) 11 (g.2 (3 * i + 1)) (J i)) (g.2 (3 * i)) (F t) (g.2 (3 * i + 2)) (by omega)) (cwV 3 hts gX4_protect_X4_put rfl rfl rfl hv_X4_put ⟨Nat.le_of_ble_eq_true rfl, Nat.le_of_ble_eq_true rfl⟩) (rwP.V (wc := [(h4, .inr (4, [.ref zc, .int (nI nn), .int (nI ((g.1 + 1) + 1)), .ref zj, .ref ze, .int (nI ed), .ref zt, .ref zo, .ref za, .ref zr, .ref zm, .ref zl, .int qc, .int (-1), .int (nI qw), .int (nI qb), .int (nI ql)])), (zc, .inl (cA, 288, .inl (rPut (rPut g.2 g.1 10 (T i) 0) (g.1 + 1) 11 (g.2 (3 * i + 1)) (J i))))]) (va_recv hK hP (ci := 4) (q0 := 0) rfl rfl) hP hD hK hN [0, 1] (by decide) rfl) rfl rfl hl.1 rfl (lv_room (Nat.le_of_ble_eq_true rfl)) dX4_protect_182 ⟨Nat.le_of_ble_eq_true rfl, Nat.le_of_ble_eq_true rfl⟩) hP hD hS hA [0, 1] [2, 3, 4, 5, 6] [5, 6, 0, 1, 2, 3, 4] (wr := [(zj, .inl (cA, 48, .inl ju)), (ze, .inl (cA, 48, .inl en)), (zt, .inl (cA, 24, .inl T)), (zo, .inl (cA, 24, .inl J)), (za, .inl (cA, 24, .inl F))]) (w2 := [(h4, .inr (4, [.ref zc, .int (nI nn), .int (nI (((g.1 + 1) + 1) + 1)), .ref zj, .ref ze, .int (nI ed), .ref zt, .ref zo, .ref za, .ref zr, .ref zm, .ref zl, .int qc, .int (-1), .int (nI qw), .int (nI qb), .int (nI ql)])), (zc, .inl (cA, 288, .inl (rPut (rPut (rPut g.2 g.1 10 (T i) 0) (g.1 + 1) 11 (g.2 (3 * i + 1)) (J i)) ((g.1 + 1) + 1) (g.2 (3 * i)) (F t) (g.2 (3 * i + 2))))), (zj, .inl (cA, 48, .inl ju)), (ze, .inl (cA, 48, .inl en)), (zt, .inl (cA, 24, .inl T)), (zo, .inl (cA, 24, .inl J)), (za, .inl (cA, 24, .inl F))]) rfl rfl (by decide) (by decide) (by decide) rfl (fun H locs hP hD hS => ?_)
                      refine lv_goto (tgt := 226) hx hb dX4_protect_185 (by decide) ?_
                      refine lv_iinc (v := (nI (i + 1))) (lv' := [(2, .int (nI (i + 1))), (5, .int (g.2 (3 * i + 2))), (4, .int (g.2 (3 * i + 1))), (3, .int (g.2 (3 * i))), (0, .ref h4)]) hx hb dX4_protect_226 hl (k := 4) rfl (jn_a1 _) (by decide) rfl (fun ls hl => ?_)
                      refine lv_goto (tgt := 82) hx hb dX4_protect_229 (by decide) ?_
                      have e9 : ([(h4, .inr (4, [.ref zc, .int (nI nn), .int (nI (((g.1 + 1) + 1) + 1)), .ref zj, .ref ze, .int (nI ed), .ref zt, .ref zo, .ref za, .ref zr, .ref zm, .ref zl, .int qc, .int (-1), .int (nI qw), .int (nI qb), .int (nI ql)])), (zc, .inl (cA, 288, .inl (rPut (rPut (rPut g.2 g.1 10 (T i) 0) (g.1 + 1) 11 (g.2 (3 * i + 1)) (J i)) ((g.1 + 1) + 1) (g.2 (3 * i)) (F t) (g.2 (3 * i + 2))))), (zj, .inl (cA, 48, .inl ju)), (ze, .inl (cA, 48, .inl en)), (zt, .inl (cA, 24, .inl T)), (zo, .inl (cA, 24, .inl J)), (za, .inl (cA, 24, .inl F))] : va_W) = [(h4, .inr (4, [.ref zc, .int (nI nn), .int (nI (rA T J F i g).1), .ref zj, .ref ze, .int (nI ed), .ref zt, .ref zo, .ref za, .ref zr, .ref zm, .ref zl, .int qc, .int (-1), .int (nI qw), .int (nI qb), .int (nI ql)])), (zc, .inl (cA, 288, .inl ((rA T J F i g).2))), (zj, .inl (cA, 48, .inl ju)), (ze, .inl (cA, 48, .inl en)), (zt, .inl (cA, 24, .inl T)), (zo, .inl (cA, 24, .inl J)), (za, .inl (cA, 24, .inl F))] := by unfold rA rA3 rA2 rA1; simp only [if_neg c_129, if_pos c_148, if_pos c_168]; rw [ea, nI_clamp (by omega)]
                      rw [e9] at hP hD
                      exact ih82 (i + 1) (rA T J F i g) (by omega) (by omega) (by rw [hg]; rfl) _ _ (jP_sub (w2 := [(h4, .inr (4, [.ref zc, .int (nI nn), .int (nI (rA T J F i g).1), .ref zj, .ref ze, .int (nI ed), .ref zt, .ref zo, .ref za, .ref zr, .ref zm, .ref zl, .int qc, .int (-1), .int (nI qw), .int (nI qb), .int (nI ql)])), (zc, .inl (cA, 288, .inl ((rA T J F i g).2))), (zj, .inl (cA, 48, .inl ju)), (ze, .inl (cA, 48, .inl en)), (zt, .inl (cA, 24, .inl T)), (zo, .inl (cA, 24, .inl J)), (za, .inl (cA, 24, .inl F))]) hP [0, 1, 2, 3, 4, 5, 6] rfl) (hD.sub (ws' := [(h4, .inr (4, [.ref zc, .int (nI nn), .int (nI (rA T J F i g).1), .ref zj, .ref ze, .int (nI ed), .ref zt, .ref zo, .ref za, .ref zr, .ref zm, .ref zl, .int qc, .int (-1), .int (nI qw), .int (nI qb), .int (nI ql)])), (zc, .inl (cA, 288, .inl ((rA T J F i g).2))), (zj, .inl (cA, 48, .inl ju)), (ze, .inl (cA, 48, .inl en)), (zt, .inl (cA, 24, .inl T)), (zo, .inl (cA, 24, .inl J)), (za, .inl (cA, 24, .inl F))]) [0, 1, 2, 3, 4, 5, 6] (by decide) rfl) hS ls (lv_sub hl [4, 0] rfl)
          exact loop82 (nn + 1) 0 (0, cd) (by omega) (by omega) rfl _ _ (jP_sub (w2 := [(h4, .inr (4, [.ref zc, .int (nI nn), .int (nI (0, cd).1), .ref zj, .ref ze, .int (nI ed), .ref zt, .ref zo, .ref za, .ref zr, .ref zm, .ref zl, .int qc, .int (-1), .int (nI qw), .int (nI qb), .int (nI ql)])), (zc, .inl (cA, 288, .inl ((0, cd).2))), (zj, .inl (cA, 48, .inl ju)), (ze, .inl (cA, 48, .inl en)), (zt, .inl (cA, 24, .inl T)), (zo, .inl (cA, 24, .inl J)), (za, .inl (cA, 24, .inl F))]) hP [0, 1, 2, 3, 4, 5, 6] rfl) (hD.sub (ws' := [(h4, .inr (4, [.ref zc, .int (nI nn), .int (nI (0, cd).1), .ref zj, .ref ze, .int (nI ed), .ref zt, .ref zo, .ref za, .ref zr, .ref zm, .ref zl, .int qc, .int (-1), .int (nI qw), .int (nI qb), .int (nI ql)])), (zc, .inl (cA, 288, .inl ((0, cd).2))), (zj, .inl (cA, 48, .inl ju)), (ze, .inl (cA, 48, .inl en)), (zt, .inl (cA, 24, .inl T)), (zo, .inl (cA, 24, .inl J)), (za, .inl (cA, 24, .inl F))]) [0, 1, 2, 3, 4, 5, 6] (by decide) rfl) hS ls (lv_sub hl [1, 0] rfl)
        · have hi2 : i < nn := by
            rcases Nat.lt_or_ge i nn with q | q
            · exact q
            · exact absurd (nI_le q (by omega)) c_26
          refine lv_aload_n hx hb dX4_protect_29 rfl (lv_at hl 0 rfl) ?_
          refine va_get (D := D) (ci := 4) (v := .ref za) (C := RX4) (T := TX4) (N := 17) hx hb hts iw_X4_protect_X4 hown hK hP 0 rfl rfl 8 (by decide) (hts (.fieldLink RX4 25 "JumpGuardModel" "at" "[I") (List.mem_of_getElem? (l := wsX4_protect) (i := 2) rfl)) (fun _ h9 => h9) rfl dX4_protect_30 ?_
          refine lv_iload_n hx hb dX4_protect_33 rfl (lv_at hl 2 rfl) ?_
          refine lv_iload_n hx hb dX4_protect_34 rfl (lv_at hl 1 rfl) ?_
          refine jk_ast hx hb hK hP hD hS 6 0 rfl rfl (k := i) rfl (by omega) (by omega) dX4_protect_35 (fun H locs hP hD hS => ?_)
          have hP : va_P D vwCl [(h4, .inr (4, [.ref zc, .int (nI nn), .int (nI 0), .ref zj, .ref ze, .int (nI ed), .ref zt, .ref zo, .ref za, .ref zr, .ref zm, .ref zl, .int qc, .int (-1), .int (nI qw), .int (nI qb), .int (nI ql)])), (zc, .inl (cA, 288, .inl cd)), (zj, .inl (cA, 48, .inl ju)), (ze, .inl (cA, 48, .inl en)), (zt, .inl (cA, 24, .inl T)), (zo, .inl (cA, 24, .inl J)), (za, .inl (cA, 24, .inl (upd F i (nI kk))))] H := hP
          have hD : va_D A [(h4, .inr (4, [.ref zc, .int (nI nn), .int (nI 0), .ref zj, .ref ze, .int (nI ed), .ref zt, .ref zo, .ref za, .ref zr, .ref zm, .ref zl, .int qc, .int (-1), .int (nI qw), .int (nI qb), .int (nI ql)])), (zc, .inl (cA, 288, .inl cd)), (zj, .inl (cA, 48, .inl ju)), (ze, .inl (cA, 48, .inl en)), (zt, .inl (cA, 24, .inl T)), (zo, .inl (cA, 24, .inl J)), (za, .inl (cA, 24, .inl (upd F i (nI kk))))] := hD
          refine lv_iload_n hx hb dX4_protect_36 rfl (lv_at hl 1 rfl) ?_
          refine lv_iconst (v := 1) hx hb dX4_protect_37 (by decide) ?_
          refine lv_iadd hx hb dX4_protect_38 ?_
          refine jk_top (show ((nI kk) + 1) = (nI (kk + 1)) from jn_a1 _) ?_
          refine lv_aload_n hx hb dX4_protect_39 rfl (lv_at hl 0 rfl) ?_
          refine va_get (D := D) (ci := 4) (v := .ref zt) (C := RX4) (T := TX4) (N := 17) hx hb hts iw_X4_protect_X4 hown hK hP 0 rfl rfl 6 (by decide) (hts (.fieldLink RX4 19 "JumpGuardModel" "ofTarget" "[I") (List.mem_of_getElem? (l := wsX4_protect) (i := 3) rfl)) (fun _ h9 => h9) rfl dX4_protect_40 ?_
          refine lv_iload_n hx hb dX4_protect_43 rfl (lv_at hl 2 rfl) ?_
          refine jk_ald hx hb hK hP 4 0 rfl rfl (k := i) rfl (by omega) (by omega) dX4_protect_44 ?_
          refine lv_if_le (tgt := 52) hx hb dX4_protect_45 (by decide) (fun c_45 => ?_) (fun c_45 => ?_)
          · refine lv_iconst (v := 0) hx hb dX4_protect_52 (by decide) ?_
            refine lv_iadd hx hb dX4_protect_53 ?_
            refine jk_top (show ((nI (kk + 1)) + 0) = (nI (kk + 1)) from jn_a0 _) ?_
            refine lv_aload_n hx hb dX4_protect_54 rfl (lv_at hl 0 rfl) ?_
            refine va_get (D := D) (ci := 4) (v := .ref zc) (C := RX4) (T := TX4) (N := 17) hx hb hts iw_X4_protect_X4 hown hK hP 0 rfl rfl 0 (by decide) (hts (.fieldLink RX4 7 "JumpGuardModel" "code" "[I") (List.mem_of_getElem? (l := wsX4_protect) (i := 4) rfl)) (fun _ h9 => h9) rfl dX4_protect_55 ?_
            refine lv_iconst (v := 3) hx hb dX4_protect_58 (by decide) ?_
            refine lv_iload_n hx hb dX4_protect_59 rfl (lv_at hl 2 rfl) ?_
            refine lv_imul hx hb dX4_protect_60 ?_
            refine jk_top (show (3 * (nI i)) = (nI (3 * i)) from jn_3m i) ?_
            refine jk_ald hx hb hK hP 1 0 rfl rfl (k := (3 * i)) rfl (by omega) (by omega) dX4_protect_61 ?_
            refine lv_bipush (v := 8) hx hb dX4_protect_62 (by decide) ?_
            refine lv_icmp_ne (tgt := 71) hx hb dX4_protect_64 (by decide) (fun c_64 => ?_) (fun c_64 => ?_)
            · refine lv_iconst (v := 0) hx hb dX4_protect_71 (by decide) ?_
              refine lv_iadd hx hb dX4_protect_72 ?_
              refine jk_top (show ((nI (kk + 1)) + 0) = (nI (kk + 1)) from jn_a0 _) ?_
              refine lv_istore_n (lv' := [(1, .int (nI (kk + 1))), (0, .ref h4), (2, .int (nI i))]) hx hb dX4_protect_73 rfl hl (by decide) rfl (fun ls hl => ?_)
              refine lv_iinc (v := (nI (i + 1))) (lv' := [(2, .int (nI (i + 1))), (1, .int (nI (kk + 1))), (0, .ref h4)]) hx hb dX4_protect_74 hl (k := 2) rfl (jn_a1 _) (by decide) rfl (fun ls hl => ?_)
              refine lv_goto (tgt := 21) hx hb dX4_protect_77 (by decide) ?_
              exact ih21 (i + 1) (kk + 1) (upd F i (nI kk)) (by omega) (by omega) (by subst hkk; show _ = rPl cd T i + 1 + (if T i ≤ 0 then 0 else 1) + (if cd (3 * i) = 8 then 1 else 0); rw [if_pos c_45, if_neg c_64]) (by subst hF; subst hkk; exact rAt_s cd T at9 i) _ _ (jP_sub (w2 := [(h4, .inr (4, [.ref zc, .int (nI nn), .int (nI 0), .ref zj, .ref ze, .int (nI ed), .ref zt, .ref zo, .ref za, .ref zr, .ref zm, .ref zl, .int qc, .int (-1), .int (nI qw), .int (nI qb), .int (nI ql)])), (zc, .inl (cA, 288, .inl cd)), (zj, .inl (cA, 48, .inl ju)), (ze, .inl (cA, 48, .inl en)), (zt, .inl (cA, 24, .inl T)), (zo, .inl (cA, 24, .inl J)), (za, .inl (cA, 24, .inl (upd F i (nI kk))))]) hP [0, 1, 2, 3, 4, 5, 6] rfl) (hD.sub (ws' := [(h4, .inr (4, [.ref zc, .int (nI nn), .int (nI 0), .ref zj, .ref ze, .int (nI ed), .ref zt, .ref zo, .ref za, .ref zr, .ref zm, .ref zl, .int qc, .int (-1), .int (nI qw), .int (nI qb), .int (nI ql)])), (zc, .inl (cA, 288, .inl cd)), (zj, .inl (cA, 48, .inl ju)), (ze, .inl (cA, 48, .inl en)), (zt, .inl (cA, 24, .inl T)), (zo, .inl (cA, 24, .inl J)), (za, .inl (cA, 24, .inl (upd F i (nI kk))))]) [0, 1, 2, 3, 4, 5, 6] (by decide) rfl) hS ls (lv_sub hl [2, 1, 0] rfl)
            · refine lv_iconst (v := 1) hx hb dX4_protect_67 (by decide) ?_
              refine lv_goto (tgt := 72) hx hb dX4_protect_68 (by decide) ?_
              refine lv_iadd hx hb dX4_protect_72 ?_
              refine jk_top (show ((nI (kk + 1)) + 1) = (nI (kk + 1 + 1)) from jn_a1 _) ?_
              refine lv_istore_n (lv' := [(1, .int (nI (kk + 1 + 1))), (0, .ref h4), (2, .int (nI i))]) hx hb dX4_protect_73 rfl hl (by decide) rfl (fun ls hl => ?_)
              refine lv_iinc (v := (nI (i + 1))) (lv' := [(2, .int (nI (i + 1))), (1, .int (nI (kk + 1 + 1))), (0, .ref h4)]) hx hb dX4_protect_74 hl (k := 2) rfl (jn_a1 _) (by decide) rfl (fun ls hl => ?_)
              refine lv_goto (tgt := 21) hx hb dX4_protect_77 (by decide) ?_
              exact ih21 (i + 1) (kk + 1 + 1) (upd F i (nI kk)) (by omega) (by omega) (by subst hkk; show _ = rPl cd T i + 1 + (if T i ≤ 0 then 0 else 1) + (if cd (3 * i) = 8 then 1 else 0); rw [if_pos c_45, if_pos c_64]) (by subst hF; subst hkk; exact rAt_s cd T at9 i) _ _ (jP_sub (w2 := [(h4, .inr (4, [.ref zc, .int (nI nn), .int (nI 0), .ref zj, .ref ze, .int (nI ed), .ref zt, .ref zo, .ref za, .ref zr, .ref zm, .ref zl, .int qc, .int (-1), .int (nI qw), .int (nI qb), .int (nI ql)])), (zc, .inl (cA, 288, .inl cd)), (zj, .inl (cA, 48, .inl ju)), (ze, .inl (cA, 48, .inl en)), (zt, .inl (cA, 24, .inl T)), (zo, .inl (cA, 24, .inl J)), (za, .inl (cA, 24, .inl (upd F i (nI kk))))]) hP [0, 1, 2, 3, 4, 5, 6] rfl) (hD.sub (ws' := [(h4, .inr (4, [.ref zc, .int (nI nn), .int (nI 0), .ref zj, .ref ze, .int (nI ed), .ref zt, .ref zo, .ref za, .ref zr, .ref zm, .ref zl, .int qc, .int (-1), .int (nI qw), .int (nI qb), .int (nI ql)])), (zc, .inl (cA, 288, .inl cd)), (zj, .inl (cA, 48, .inl ju)), (ze, .inl (cA, 48, .inl en)), (zt, .inl (cA, 24, .inl T)), (zo, .inl (cA, 24, .inl J)), (za, .inl (cA, 24, .inl (upd F i (nI kk))))]) [0, 1, 2, 3, 4, 5, 6] (by decide) rfl) hS ls (lv_sub hl [2, 1, 0] rfl)
          · refine lv_iconst (v := 1) hx hb dX4_protect_48 (by decide) ?_
            refine lv_goto (tgt := 53) hx hb dX4_protect_49 (by decide) ?_
            refine lv_iadd hx hb dX4_protect_53 ?_
            refine jk_top (show ((nI (kk + 1)) + 1) = (nI (kk + 1 + 1)) from jn_a1 _) ?_
            refine lv_aload_n hx hb dX4_protect_54 rfl (lv_at hl 0 rfl) ?_
            refine va_get (D := D) (ci := 4) (v := .ref zc) (C := RX4) (T := TX4) (N := 17) hx hb hts iw_X4_protect_X4 hown hK hP 0 rfl rfl 0 (by decide) (hts (.fieldLink RX4 7 "JumpGuardModel" "code" "[I") (List.mem_of_getElem? (l := wsX4_protect) (i := 4) rfl)) (fun _ h9 => h9) rfl dX4_protect_55 ?_
            refine lv_iconst (v := 3) hx hb dX4_protect_58 (by decide) ?_
            refine lv_iload_n hx hb dX4_protect_59 rfl (lv_at hl 2 rfl) ?_
            refine lv_imul hx hb dX4_protect_60 ?_
            refine jk_top (show (3 * (nI i)) = (nI (3 * i)) from jn_3m i) ?_
            refine jk_ald hx hb hK hP 1 0 rfl rfl (k := (3 * i)) rfl (by omega) (by omega) dX4_protect_61 ?_
            refine lv_bipush (v := 8) hx hb dX4_protect_62 (by decide) ?_
            refine lv_icmp_ne (tgt := 71) hx hb dX4_protect_64 (by decide) (fun c_64 => ?_) (fun c_64 => ?_)
            · refine lv_iconst (v := 0) hx hb dX4_protect_71 (by decide) ?_
              refine lv_iadd hx hb dX4_protect_72 ?_
              refine jk_top (show ((nI (kk + 1 + 1)) + 0) = (nI (kk + 1 + 1)) from jn_a0 _) ?_
              refine lv_istore_n (lv' := [(1, .int (nI (kk + 1 + 1))), (0, .ref h4), (2, .int (nI i))]) hx hb dX4_protect_73 rfl hl (by decide) rfl (fun ls hl => ?_)
              refine lv_iinc (v := (nI (i + 1))) (lv' := [(2, .int (nI (i + 1))), (1, .int (nI (kk + 1 + 1))), (0, .ref h4)]) hx hb dX4_protect_74 hl (k := 2) rfl (jn_a1 _) (by decide) rfl (fun ls hl => ?_)
              refine lv_goto (tgt := 21) hx hb dX4_protect_77 (by decide) ?_
              exact ih21 (i + 1) (kk + 1 + 1) (upd F i (nI kk)) (by omega) (by omega) (by subst hkk; show _ = rPl cd T i + 1 + (if T i ≤ 0 then 0 else 1) + (if cd (3 * i) = 8 then 1 else 0); rw [if_neg c_45, if_neg c_64]) (by subst hF; subst hkk; exact rAt_s cd T at9 i) _ _ (jP_sub (w2 := [(h4, .inr (4, [.ref zc, .int (nI nn), .int (nI 0), .ref zj, .ref ze, .int (nI ed), .ref zt, .ref zo, .ref za, .ref zr, .ref zm, .ref zl, .int qc, .int (-1), .int (nI qw), .int (nI qb), .int (nI ql)])), (zc, .inl (cA, 288, .inl cd)), (zj, .inl (cA, 48, .inl ju)), (ze, .inl (cA, 48, .inl en)), (zt, .inl (cA, 24, .inl T)), (zo, .inl (cA, 24, .inl J)), (za, .inl (cA, 24, .inl (upd F i (nI kk))))]) hP [0, 1, 2, 3, 4, 5, 6] rfl) (hD.sub (ws' := [(h4, .inr (4, [.ref zc, .int (nI nn), .int (nI 0), .ref zj, .ref ze, .int (nI ed), .ref zt, .ref zo, .ref za, .ref zr, .ref zm, .ref zl, .int qc, .int (-1), .int (nI qw), .int (nI qb), .int (nI ql)])), (zc, .inl (cA, 288, .inl cd)), (zj, .inl (cA, 48, .inl ju)), (ze, .inl (cA, 48, .inl en)), (zt, .inl (cA, 24, .inl T)), (zo, .inl (cA, 24, .inl J)), (za, .inl (cA, 24, .inl (upd F i (nI kk))))]) [0, 1, 2, 3, 4, 5, 6] (by decide) rfl) hS ls (lv_sub hl [2, 1, 0] rfl)
            · refine lv_iconst (v := 1) hx hb dX4_protect_67 (by decide) ?_
              refine lv_goto (tgt := 72) hx hb dX4_protect_68 (by decide) ?_
              refine lv_iadd hx hb dX4_protect_72 ?_
              refine jk_top (show ((nI (kk + 1 + 1)) + 1) = (nI (kk + 1 + 1 + 1)) from jn_a1 _) ?_
              refine lv_istore_n (lv' := [(1, .int (nI (kk + 1 + 1 + 1))), (0, .ref h4), (2, .int (nI i))]) hx hb dX4_protect_73 rfl hl (by decide) rfl (fun ls hl => ?_)
              refine lv_iinc (v := (nI (i + 1))) (lv' := [(2, .int (nI (i + 1))), (1, .int (nI (kk + 1 + 1 + 1))), (0, .ref h4)]) hx hb dX4_protect_74 hl (k := 2) rfl (jn_a1 _) (by decide) rfl (fun ls hl => ?_)
              refine lv_goto (tgt := 21) hx hb dX4_protect_77 (by decide) ?_
              exact ih21 (i + 1) (kk + 1 + 1 + 1) (upd F i (nI kk)) (by omega) (by omega) (by subst hkk; show _ = rPl cd T i + 1 + (if T i ≤ 0 then 0 else 1) + (if cd (3 * i) = 8 then 1 else 0); rw [if_neg c_45, if_pos c_64]) (by subst hF; subst hkk; exact rAt_s cd T at9 i) _ _ (jP_sub (w2 := [(h4, .inr (4, [.ref zc, .int (nI nn), .int (nI 0), .ref zj, .ref ze, .int (nI ed), .ref zt, .ref zo, .ref za, .ref zr, .ref zm, .ref zl, .int qc, .int (-1), .int (nI qw), .int (nI qb), .int (nI ql)])), (zc, .inl (cA, 288, .inl cd)), (zj, .inl (cA, 48, .inl ju)), (ze, .inl (cA, 48, .inl en)), (zt, .inl (cA, 24, .inl T)), (zo, .inl (cA, 24, .inl J)), (za, .inl (cA, 24, .inl (upd F i (nI kk))))]) hP [0, 1, 2, 3, 4, 5, 6] rfl) (hD.sub (ws' := [(h4, .inr (4, [.ref zc, .int (nI nn), .int (nI 0), .ref zj, .ref ze, .int (nI ed), .ref zt, .ref zo, .ref za, .ref zr, .ref zm, .ref zl, .int qc, .int (-1), .int (nI qw), .int (nI qb), .int (nI ql)])), (zc, .inl (cA, 288, .inl cd)), (zj, .inl (cA, 48, .inl ju)), (ze, .inl (cA, 48, .inl en)), (zt, .inl (cA, 24, .inl T)), (zo, .inl (cA, 24, .inl J)), (za, .inl (cA, 24, .inl (upd F i (nI kk))))]) [0, 1, 2, 3, 4, 5, 6] (by decide) rfl) hS ls (lv_sub hl [2, 1, 0] rfl)
    exact loop21 (nn + 1) 0 0 at9 (by omega) (by omega) rfl (rAt_0 cd T at9) _ _ (jP_sub (w2 := [(h4, .inr (4, [.ref zc, .int (nI nn), .int (nI 0), .ref zj, .ref ze, .int (nI ed), .ref zt, .ref zo, .ref za, .ref zr, .ref zm, .ref zl, .int qc, .int (-1), .int (nI qw), .int (nI qb), .int (nI ql)])), (zc, .inl (cA, 288, .inl cd)), (zj, .inl (cA, 48, .inl ju)), (ze, .inl (cA, 48, .inl en)), (zt, .inl (cA, 24, .inl T)), (zo, .inl (cA, 24, .inl J)), (za, .inl (cA, 24, .inl at9))]) hP [0, 1, 2, 3, 4, 5, 6] rfl) (hD.sub (ws' := [(h4, .inr (4, [.ref zc, .int (nI nn), .int (nI 0), .ref zj, .ref ze, .int (nI ed), .ref zt, .ref zo, .ref za, .ref zr, .ref zm, .ref zl, .int qc, .int (-1), .int (nI qw), .int (nI qb), .int (nI ql)])), (zc, .inl (cA, 288, .inl cd)), (zj, .inl (cA, 48, .inl ju)), (ze, .inl (cA, 48, .inl en)), (zt, .inl (cA, 24, .inl T)), (zo, .inl (cA, 24, .inl J)), (za, .inl (cA, 24, .inl at9))]) [0, 1, 2, 3, 4, 5, 6] (by decide) rfl) hS ls (lv_sub hl [2, 1, 0] rfl)
  · replace c_8 := jB_z.mp c_8
    refine lv_iconst (v := (-1)) hx hb dX4_protect_11 (by decide) ?_
    obtain ⟨hP9, hD9⟩ := jk_end (w2 := [(h4, .inr (4, [.ref zc, .int (nI nn), .int (nI 0), .ref zj, .ref ze, .int (nI ed), .ref zt, .ref zo, .ref za, .ref zr, .ref zm, .ref zl, .int qc, .int (-1), .int (nI qw), .int (nI qb), .int (nI ql)])), (zc, .inl (cA, 288, .inl cd)), (zj, .inl (cA, 48, .inl ju)), (ze, .inl (cA, 48, .inl en)), (zt, .inl (cA, 24, .inl ot)), (zo, .inl (cA, 24, .inl oj)), (za, .inl (cA, 24, .inl at9))]) hP hD [0, 1, 2, 3, 4, 5, 6] (by decide) rfl
    have e9 : ([(h4, .inr (4, [.ref zc, .int (nI nn), .int (nI 0), .ref zj, .ref ze, .int (nI ed), .ref zt, .ref zo, .ref za, .ref zr, .ref zm, .ref zl, .int qc, .int (-1), .int (nI qw), .int (nI qb), .int (nI ql)])), (zc, .inl (cA, 288, .inl cd)), (zj, .inl (cA, 48, .inl ju)), (ze, .inl (cA, 48, .inl en)), (zt, .inl (cA, 24, .inl ot)), (zo, .inl (cA, 24, .inl oj)), (za, .inl (cA, 24, .inl at9))] : va_W) = [(h4, .inr (4, [.ref zc, .int (nI nn), .int (nI (if rWh cd nn then (rN cd (cls ju en ot oj ed).1 (cls ju en ot oj ed).2 (rAt cd (cls ju en ot oj ed).1 at9 nn) nn).1 else 0)), .ref zj, .ref ze, .int (nI ed), .ref zt, .ref zo, .ref za, .ref zr, .ref zm, .ref zl, .int qc, .int (-1), .int (nI qw), .int (nI qb), .int (nI ql)])), (zc, .inl (cA, 288, .inl (if rWh cd nn then (rN cd (cls ju en ot oj ed).1 (cls ju en ot oj ed).2 (rAt cd (cls ju en ot oj ed).1 at9 nn) nn).2 else cd))), (zj, .inl (cA, 48, .inl ju)), (ze, .inl (cA, 48, .inl en)), (zt, .inl (cA, 24, .inl (if rWh cd nn then (cls ju en ot oj ed).1 else ot))), (zo, .inl (cA, 24, .inl (if rWh cd nn then (cls ju en ot oj ed).2 else oj))), (za, .inl (cA, 24, .inl (if rWh cd nn then rAt cd (cls ju en ot oj ed).1 at9 nn else at9)))] := (by simp only [if_neg c_8])
    rw [e9] at hP9 hD9
    exact W.iret (v := (-1)) hx hb hr (fun t9 ht9 hW9 => ⟨⟨_, (), rfl, (show (-1) = (if rWh cd nn then nI (rN cd (cls ju en ot oj ed).1 (cls ju en ot oj ed).2 (rAt cd (cls ju en ot oj ed).1 at9 nn) nn).1 else -1) from (if_neg c_8).symm), by rw [ht9]; exact hP9, hD9⟩, hS.F ht9⟩) hS.2.2 dX4_protect_12
set_option maxHeartbeats 4000000 in
set_option maxRecDepth 100000 in
theorem c_X4_label (l : Launch) (D : va_G) (cA : ClassId) (sz : Nat) (h4 : Nat) (zc : Nat) (zj : Nat) (ze : Nat) (zt : Nat) (zo : Nat) (za : Nat) (zr : Nat) (zm : Nat) (zl : Nat) (nn : Nat) (zz : Nat) (ed : Nat) (qc : Int32) (qs : Int32) (qw : Nat) (qb : Nat) (ql : Nat) (ju : Nat → Int32) (en : Nat → Int32) (ot : Nat → Int32) (oj : Nat → Int32) (x : Int32) (hnn : nn ≤ 24) (hed : ed ≤ 48) (hE : rEd ju en ed) : Met l yX4_label wsX4_label ({ frames := 1, cells := 0, slots := 0, locals := 24 }) (rwP D cA [.ref h4, .int x] sz [(h4, .inr (4, [.ref zc, .int (nI nn), .int (nI zz), .ref zj, .ref ze, .int (nI ed), .ref zt, .ref zo, .ref za, .ref zr, .ref zm, .ref zl, .int qc, .int qs, .int (nI qw), .int (nI qb), .int (nI ql)])), (zj, .inl (cA, 48, .inl ju)), (ze, .inl (cA, 48, .inl en)), (zt, .inl (cA, 24, .inl ot)), (zo, .inl (cA, 24, .inl oj))]) (rwI D (va_A [(h4, .inr (4, [.ref zc, .int (nI nn), .int (nI zz), .ref zj, .ref ze, .int (nI ed), .ref zt, .ref zo, .ref za, .ref zr, .ref zm, .ref zl, .int qc, .int qs, .int (nI qw), .int (nI qb), .int (nI ql)])), (zj, .inl (cA, 48, .inl ju)), (ze, .inl (cA, 48, .inl en)), (zt, .inl (cA, 24, .inl ot)), (zo, .inl (cA, 24, .inl oj))] sz) (if jIn x (nI nn) then (cls ju en ot oj ed).1 x.toNatClampNeg else -1) [(h4, .inr (4, [.ref zc, .int (nI nn), .int (nI zz), .ref zj, .ref ze, .int (nI ed), .ref zt, .ref zo, .ref za, .ref zr, .ref zm, .ref zl, .int qc, .int qs, .int (nI qw), .int (nI qb), .int (nI ql)])), (zj, .inl (cA, 48, .inl ju)), (ze, .inl (cA, 48, .inl en)), (zt, .inl (cA, 24, .inl (if jIn x (nI nn) then (cls ju en ot oj ed).1 else ot))), (zo, .inl (cA, 24, .inl (if jIn x (nI nn) then (cls ju en ot oj ed).2 else oj)))]) 0 0 (va_A [(h4, .inr (4, [.ref zc, .int (nI nn), .int (nI zz), .ref zj, .ref ze, .int (nI ed), .ref zt, .ref zo, .ref za, .ref zr, .ref zm, .ref zl, .int qc, .int qs, .int (nI qw), .int (nI qb), .int (nI ql)])), (zj, .inl (cA, 48, .inl ju)), (ze, .inl (cA, 48, .inl en)), (zt, .inl (cA, 24, .inl ot)), (zo, .inl (cA, 24, .inl oj))] sz) := by
  refine Met.ofW (cc := cX4_label) (maxL := 2) (ret := (some .int)) (by decide) rfl ?_
  intro p e s m args below meth c s₁ B hml hv
  obtain ⟨rfl, hsz, hP, hK, hN, hD0⟩ := hv
  have hx := B.exec
  have hb := B.bytes
  have hr := B.returns
  have hts := atoms_spec (ws := wsX4_label) B.pre
  have hown : s.vm.findClass RX4 = some m.cls := findClass_of_methodNamed B.named
  have hlocks := B.notSynchronized
  subst hsz
  have hD := hD0.self (sz := s.heap.size)
  generalize hAe : va_A [(h4, .inr (4, [.ref zc, .int (nI nn), .int (nI zz), .ref zj, .ref ze, .int (nI ed), .ref zt, .ref zo, .ref za, .ref zr, .ref zm, .ref zl, .int qc, .int qs, .int (nI qw), .int (nI qb), .int (nI ql)])), (zj, .inl (cA, 48, .inl ju)), (ze, .inl (cA, 48, .inl en)), (zt, .inl (cA, 24, .inl ot)), (zo, .inl (cA, 24, .inl oj))] s.heap.size = A at hD ⊢
  have hA : ∀ q : Nat, s.heap.size ≤ q → A q := fun q h => by rw [← hAe]; exact Or.inr h
  have hS : va_S A s.heap s.heap [] := va_S.rf
  have hl := lv_entry ([.ref h4, .int x]) (n := 2) (Nat.le_of_ble_eq_true rfl)
  rw [lg_entry_eq]
  generalize (lg_sl ([.ref h4, .int x]) ++ List.replicate (2 - (lg_sl ([.ref h4, .int x])).length) Slot.unset).toArray = ls at hl ⊢
  have hl : lv_has ls 2 [(0, .ref h4), (1, .int x)] := hl
  refine lv_iload_n hx hb dX4_label_0 rfl (lv_at hl 1 rfl) ?_
  refine lv_aload_n hx hb dX4_label_1 rfl (lv_at hl 0 rfl) ?_
  refine va_get (D := D) (ci := 4) (v := .int (nI nn)) (C := RX4) (T := TX4) (N := 17) hx hb hts iw_X4_label_X4 hown hK hP 0 rfl rfl 1 (by decide) (hts (.fieldLink RX4 52 "JumpGuardModel" "n" "I") (List.mem_of_getElem? (l := wsX4_label) (i := 1) rfl)) (fun _ h9 => h9) rfl dX4_label_2 ?_
  refine lv_iconst (v := 1) hx hb dX4_label_5 (by decide) ?_
  refine lv_isub hx hb dX4_label_6 ?_
  refine jr_i (va_runS (As := [.int x, .int ((nI nn) - 1)]) (rest := []) ⟨hx, hb, hml, hown, hts⟩ (c_X4_within l D cA x ((nI nn) - 1)) (va_cwS 2 hts gX4_label_X4_within rfl rfl rfl hv_X4_within.2 ⟨Nat.le_of_ble_eq_true rfl, Nat.le_of_ble_eq_true rfl⟩) (roP.S (av := [.int x, .int ((nI nn) - 1)]) (jP_sub (w2 := []) hP [] rfl) hK hN) rfl rfl hl.1 rfl (lv_room (Nat.le_of_ble_eq_true rfl)) dX4_label_7 ⟨Nat.le_of_ble_eq_true rfl, Nat.le_of_ble_eq_true rfl⟩) ?_
  refine jk_top (show (jB (wI x ((nI nn) - 1))) = (jB (jIn x (nI nn))) from jB_i (wI_p (by omega))) ?_
  refine lv_if_ne (tgt := 15) hx hb dX4_label_10 (by decide) (fun c_10 => ?_) (fun c_10 => ?_)
  · replace c_10 := jB_nz.mp c_10
    obtain ⟨j, hj, rfl⟩ := jN_of (n := nn) (by omega) c_10
    have ej : (nI j).toNatClampNeg = j := nI_clamp (by omega)
    refine lv_aload_n hx hb dX4_label_15 rfl (lv_at hl 0 rfl) ?_
    refine jw_v (va_runV (As := []) (rest := []) ⟨hx, hb, hml, hown, hts⟩ (c_X4_classes l D cA s.heap.size h4 zc zj ze zt zo za zr zm zl nn zz ed qc qs qw qb ql ju en ot oj (by first | assumption | omega) (by first | assumption | omega)) (cwV 0 hts gX4_label_X4_classes rfl rfl rfl hv_X4_classes ⟨Nat.le_of_ble_eq_true rfl, Nat.le_of_ble_eq_true rfl⟩) (rwP.V (wc := [(h4, .inr (4, [.ref zc, .int (nI nn), .int (nI zz), .ref zj, .ref ze, .int (nI ed), .ref zt, .ref zo, .ref za, .ref zr, .ref zm, .ref zl, .int qc, .int qs, .int (nI qw), .int (nI qb), .int (nI ql)])), (zj, .inl (cA, 48, .inl ju)), (ze, .inl (cA, 48, .inl en)), (zt, .inl (cA, 24, .inl ot)), (zo, .inl (cA, 24, .inl oj))]) (va_recv hK hP (ci := 4) (q0 := 0) rfl rfl) hP hD hK hN [0, 1, 2, 3, 4] (by decide) rfl) rfl rfl hl.1 rfl (lv_room (Nat.le_of_ble_eq_true rfl)) dX4_label_16 ⟨Nat.le_of_ble_eq_true rfl, Nat.le_of_ble_eq_true rfl⟩) hP hD hS hA [0, 1, 2, 3, 4] [] [0, 1, 2, 3, 4] (wr := []) (w2 := [(h4, .inr (4, [.ref zc, .int (nI nn), .int (nI zz), .ref zj, .ref ze, .int (nI ed), .ref zt, .ref zo, .ref za, .ref zr, .ref zm, .ref zl, .int qc, .int qs, .int (nI qw), .int (nI qb), .int (nI ql)])), (zj, .inl (cA, 48, .inl ju)), (ze, .inl (cA, 48, .inl en)), (zt, .inl (cA, 24, .inl ((cls ju en ot oj ed).1))), (zo, .inl (cA, 24, .inl ((cls ju en ot oj ed).2)))]) rfl rfl (by decide) (by decide) (by decide) rfl (fun H locs hP hD hS => ?_)
    refine lv_aload_n hx hb dX4_label_19 rfl (lv_at hl 0 rfl) ?_
    refine va_get (D := D) (ci := 4) (v := .ref zt) (C := RX4) (T := TX4) (N := 17) hx hb hts iw_X4_label_X4 hown hK hP 0 rfl rfl 6 (by decide) (hts (.fieldLink RX4 19 "JumpGuardModel" "ofTarget" "[I") (List.mem_of_getElem? (l := wsX4_label) (i := 2) rfl)) (fun _ h9 => h9) rfl dX4_label_20 ?_
    refine lv_iload_n hx hb dX4_label_23 rfl (lv_at hl 1 rfl) ?_
    refine jk_ald hx hb hK hP 3 0 rfl rfl (k := j) rfl (by omega) (by omega) dX4_label_24 ?_
    obtain ⟨hP9, hD9⟩ := jk_end (w2 := [(h4, .inr (4, [.ref zc, .int (nI nn), .int (nI zz), .ref zj, .ref ze, .int (nI ed), .ref zt, .ref zo, .ref za, .ref zr, .ref zm, .ref zl, .int qc, .int qs, .int (nI qw), .int (nI qb), .int (nI ql)])), (zj, .inl (cA, 48, .inl ju)), (ze, .inl (cA, 48, .inl en)), (zt, .inl (cA, 24, .inl ((cls ju en ot oj ed).1))), (zo, .inl (cA, 24, .inl ((cls ju en ot oj ed).2)))]) hP hD [0, 1, 2, 3, 4] (by decide) rfl
    have e9 : ([(h4, .inr (4, [.ref zc, .int (nI nn), .int (nI zz), .ref zj, .ref ze, .int (nI ed), .ref zt, .ref zo, .ref za, .ref zr, .ref zm, .ref zl, .int qc, .int qs, .int (nI qw), .int (nI qb), .int (nI ql)])), (zj, .inl (cA, 48, .inl ju)), (ze, .inl (cA, 48, .inl en)), (zt, .inl (cA, 24, .inl ((cls ju en ot oj ed).1))), (zo, .inl (cA, 24, .inl ((cls ju en ot oj ed).2)))] : va_W) = [(h4, .inr (4, [.ref zc, .int (nI nn), .int (nI zz), .ref zj, .ref ze, .int (nI ed), .ref zt, .ref zo, .ref za, .ref zr, .ref zm, .ref zl, .int qc, .int qs, .int (nI qw), .int (nI qb), .int (nI ql)])), (zj, .inl (cA, 48, .inl ju)), (ze, .inl (cA, 48, .inl en)), (zt, .inl (cA, 24, .inl (if jIn (nI j) (nI nn) then (cls ju en ot oj ed).1 else ot))), (zo, .inl (cA, 24, .inl (if jIn (nI j) (nI nn) then (cls ju en ot oj ed).2 else oj)))] := (by simp only [if_pos c_10])
    rw [e9] at hP9 hD9
    exact W.iret (v := (((cls ju en ot oj ed).1) j)) hx hb hr (fun t9 ht9 hW9 => ⟨⟨_, (), rfl, (show (((cls ju en ot oj ed).1) j) = (if jIn (nI j) (nI nn) then (cls ju en ot oj ed).1 (nI j).toNatClampNeg else -1) from (by rw [if_pos c_10, ej])), by rw [ht9]; exact hP9, hD9⟩, hS.F ht9⟩) hS.2.2 dX4_label_25
  · replace c_10 := jB_z.mp c_10
    refine lv_iconst (v := (-1)) hx hb dX4_label_13 (by decide) ?_
    obtain ⟨hP9, hD9⟩ := jk_end (w2 := [(h4, .inr (4, [.ref zc, .int (nI nn), .int (nI zz), .ref zj, .ref ze, .int (nI ed), .ref zt, .ref zo, .ref za, .ref zr, .ref zm, .ref zl, .int qc, .int qs, .int (nI qw), .int (nI qb), .int (nI ql)])), (zj, .inl (cA, 48, .inl ju)), (ze, .inl (cA, 48, .inl en)), (zt, .inl (cA, 24, .inl ot)), (zo, .inl (cA, 24, .inl oj))]) hP hD [0, 1, 2, 3, 4] (by decide) rfl
    have e9 : ([(h4, .inr (4, [.ref zc, .int (nI nn), .int (nI zz), .ref zj, .ref ze, .int (nI ed), .ref zt, .ref zo, .ref za, .ref zr, .ref zm, .ref zl, .int qc, .int qs, .int (nI qw), .int (nI qb), .int (nI ql)])), (zj, .inl (cA, 48, .inl ju)), (ze, .inl (cA, 48, .inl en)), (zt, .inl (cA, 24, .inl ot)), (zo, .inl (cA, 24, .inl oj))] : va_W) = [(h4, .inr (4, [.ref zc, .int (nI nn), .int (nI zz), .ref zj, .ref ze, .int (nI ed), .ref zt, .ref zo, .ref za, .ref zr, .ref zm, .ref zl, .int qc, .int qs, .int (nI qw), .int (nI qb), .int (nI ql)])), (zj, .inl (cA, 48, .inl ju)), (ze, .inl (cA, 48, .inl en)), (zt, .inl (cA, 24, .inl (if jIn x (nI nn) then (cls ju en ot oj ed).1 else ot))), (zo, .inl (cA, 24, .inl (if jIn x (nI nn) then (cls ju en ot oj ed).2 else oj)))] := (by simp only [if_neg c_10])
    rw [e9] at hP9 hD9
    exact W.iret (v := (-1)) hx hb hr (fun t9 ht9 hW9 => ⟨⟨_, (), rfl, (show (-1) = (if jIn x (nI nn) then (cls ju en ot oj ed).1 x.toNatClampNeg else -1) from (if_neg c_10).symm), by rw [ht9]; exact hP9, hD9⟩, hS.F ht9⟩) hS.2.2 dX4_label_14
set_option maxHeartbeats 4000000 in
set_option maxRecDepth 100000 in
theorem c_X4_source (l : Launch) (D : va_G) (cA : ClassId) (h4 : Nat) (zc : Nat) (zj : Nat) (ze : Nat) (zt : Nat) (zo : Nat) (za : Nat) (zr : Nat) (zm : Nat) (zl : Nat) (nn : Nat) (zz : Nat) (ed : Nat) (qc : Int32) (qs : Int32) (qw : Nat) (qb : Nat) (ql : Nat) (cd : Nat → Int32) (x : Int32) (y : Int32) (hnn : nn ≤ 24) : Met l yX4_source wsX4_source ({ frames := 1, cells := 0, slots := 0, locals := 21 }) (roP D cA [.ref h4, .int x, .int y] [(h4, .inr (4, [.ref zc, .int (nI nn), .int (nI zz), .ref zj, .ref ze, .int (nI ed), .ref zt, .ref zo, .ref za, .ref zr, .ref zm, .ref zl, .int qc, .int qs, .int (nI qw), .int (nI qb), .int (nI ql)])), (zc, .inl (cA, 288, .inl cd))]) (QcRead (rGet cd 0 nn x y)) 0 0 (fun _ => False) := by
  refine Met.ofW (cc := cX4_source) (maxL := 3) (ret := (some .int)) (by decide) rfl ?_
  intro p e s m args below meth c s₁ B hml hv
  obtain ⟨rfl, hP, hK, hN⟩ := hv
  have hx := B.exec
  have hb := B.bytes
  have hr := B.returns
  have hts := atoms_spec (ws := wsX4_source) B.pre
  have hown : s.vm.findClass RX4 = some m.cls := findClass_of_methodNamed B.named
  have hlocks := B.notSynchronized
  have hl := lv_entry ([.ref h4, .int x, .int y]) (n := 3) (Nat.le_of_ble_eq_true rfl)
  rw [lg_entry_eq]
  generalize (lg_sl ([.ref h4, .int x, .int y]) ++ List.replicate (3 - (lg_sl ([.ref h4, .int x, .int y])).length) Slot.unset).toArray = ls at hl ⊢
  have hl : lv_has ls 3 [(0, .ref h4), (1, .int x), (2, .int y)] := hl
  refine lv_iload_n hx hb dX4_source_0 rfl (lv_at hl 1 rfl) ?_
  refine lv_aload_n hx hb dX4_source_1 rfl (lv_at hl 0 rfl) ?_
  refine va_get (D := D) (ci := 4) (v := .int (nI nn)) (C := RX4) (T := TX4) (N := 17) hx hb hts iw_X4_source_X4 hown hK hP 0 rfl rfl 1 (by decide) (hts (.fieldLink RX4 52 "JumpGuardModel" "n" "I") (List.mem_of_getElem? (l := wsX4_source) (i := 1) rfl)) (fun _ h9 => h9) rfl dX4_source_2 ?_
  refine lv_iconst (v := 1) hx hb dX4_source_5 (by decide) ?_
  refine lv_isub hx hb dX4_source_6 ?_
  refine jr_i (va_runS (As := [.int x, .int ((nI nn) - 1)]) (rest := []) ⟨hx, hb, hml, hown, hts⟩ (c_X4_within l D cA x ((nI nn) - 1)) (va_cwS 2 hts gX4_source_X4_within rfl rfl rfl hv_X4_within.2 ⟨Nat.le_of_ble_eq_true rfl, Nat.le_of_ble_eq_true rfl⟩) (roP.S (av := [.int x, .int ((nI nn) - 1)]) (jP_sub (w2 := []) hP [] rfl) hK hN) rfl rfl hl.1 rfl (lv_room (Nat.le_of_ble_eq_true rfl)) dX4_source_7 ⟨Nat.le_of_ble_eq_true rfl, Nat.le_of_ble_eq_true rfl⟩) ?_
  refine jk_top (show (jB (wI x ((nI nn) - 1))) = (jB (jIn x (nI nn))) from jB_i (wI_p (by omega))) ?_
  refine lv_if_eq (tgt := 34) hx hb dX4_source_10 (by decide) (fun c_10 => ?_) (fun c_10 => ?_)
  · replace c_10 := jB_z.mp c_10
    refine lv_bipush (v := (-9)) hx hb dX4_source_34 (by decide) ?_
    exact W.iret (v := (-9)) hx hb hr (fun t9 ht9 hW9 => ⟨jk_ret (show (-9) = (rGet cd 0 nn x y) from (rGet_no (by first | exact fun h => c_10 h.1 | exact fun h => c_18 h.2)).symm), ht9⟩) (fun q h => absurd h List.not_mem_nil) dX4_source_36
  · replace c_10 := jB_nz.mp c_10
    refine lv_iload_n hx hb dX4_source_13 rfl (lv_at hl 2 rfl) ?_
    refine lv_iconst (v := 2) hx hb dX4_source_14 (by decide) ?_
    refine jr_i (va_runS (As := [.int y, .int 2]) (rest := []) ⟨hx, hb, hml, hown, hts⟩ (c_X4_within l D cA y 2) (va_cwS 2 hts gX4_source_X4_within rfl rfl rfl hv_X4_within.2 ⟨Nat.le_of_ble_eq_true rfl, Nat.le_of_ble_eq_true rfl⟩) (roP.S (av := [.int y, .int 2]) (jP_sub (w2 := []) hP [] rfl) hK hN) rfl rfl hl.1 rfl (lv_room (Nat.le_of_ble_eq_true rfl)) dX4_source_15 ⟨Nat.le_of_ble_eq_true rfl, Nat.le_of_ble_eq_true rfl⟩) ?_
    refine jk_top (show (jB (wI y 2)) = (jB (jIn y 3)) from jB_i (wI_c (n := 2) (by decide))) ?_
    refine lv_if_eq (tgt := 34) hx hb dX4_source_18 (by decide) (fun c_18 => ?_) (fun c_18 => ?_)
    · replace c_18 := jB_z.mp c_18
      refine lv_bipush (v := (-9)) hx hb dX4_source_34 (by decide) ?_
      exact W.iret (v := (-9)) hx hb hr (fun t9 ht9 hW9 => ⟨jk_ret (show (-9) = (rGet cd 0 nn x y) from (rGet_no (by first | exact fun h => c_10 h.1 | exact fun h => c_18 h.2)).symm), ht9⟩) (fun q h => absurd h List.not_mem_nil) dX4_source_36
    · replace c_18 := jB_nz.mp c_18
      obtain ⟨j, hj, rfl⟩ := jN_of (n := nn) (by omega) c_10
      obtain ⟨q, hq, rfl⟩ := jN_of (x := y) (n := 3) (by decide) c_18
      refine lv_aload_n hx hb dX4_source_21 rfl (lv_at hl 0 rfl) ?_
      refine va_get (D := D) (ci := 4) (v := .ref zc) (C := RX4) (T := TX4) (N := 17) hx hb hts iw_X4_source_X4 hown hK hP 0 rfl rfl 0 (by decide) (hts (.fieldLink RX4 7 "JumpGuardModel" "code" "[I") (List.mem_of_getElem? (l := wsX4_source) (i := 2) rfl)) (fun _ h9 => h9) rfl dX4_source_22 ?_
      refine lv_iconst (v := 3) hx hb dX4_source_25 (by decide) ?_
      refine lv_iload_n hx hb dX4_source_26 rfl (lv_at hl 1 rfl) ?_
      refine lv_imul hx hb dX4_source_27 ?_
      refine jk_top (show (3 * (nI j)) = (nI (3 * j)) from jn_3m j) ?_
      refine lv_iload_n hx hb dX4_source_28 rfl (lv_at hl 2 rfl) ?_
      refine lv_iadd hx hb dX4_source_29 ?_
      refine jk_top (show ((nI (3 * j)) + (nI q)) = (nI (0 + 3 * j + q)) from by rw [nI_add, Nat.zero_add]) ?_
      refine jk_ald hx hb hK hP 1 0 rfl rfl (k := (0 + 3 * j + q)) rfl (by omega) (by omega) dX4_source_30 ?_
      refine lv_goto (tgt := 36) hx hb dX4_source_31 (by decide) ?_
      exact W.iret (v := (cd (0 + 3 * j + q))) hx hb hr (fun t9 ht9 hW9 => ⟨jk_ret (show (cd (0 + 3 * j + q)) = (rGet cd 0 nn (nI j) (nI q)) from (rGet_at hj hq (by omega)).symm), ht9⟩) (fun q h => absurd h List.not_mem_nil) dX4_source_36
set_option maxHeartbeats 4000000 in
set_option maxRecDepth 100000 in
theorem c_X4_guarded (l : Launch) (D : va_G) (cA : ClassId) (h4 : Nat) (zc : Nat) (zj : Nat) (ze : Nat) (zt : Nat) (zo : Nat) (za : Nat) (zr : Nat) (zm : Nat) (zl : Nat) (nn : Nat) (zz : Nat) (ed : Nat) (qc : Int32) (qs : Int32) (qw : Nat) (qb : Nat) (ql : Nat) (cd : Nat → Int32) (x : Int32) (y : Int32) (hz : zz ≤ 72) : Met l yX4_guarded wsX4_guarded ({ frames := 1, cells := 0, slots := 0, locals := 21 }) (roP D cA [.ref h4, .int x, .int y] [(h4, .inr (4, [.ref zc, .int (nI nn), .int (nI zz), .ref zj, .ref ze, .int (nI ed), .ref zt, .ref zo, .ref za, .ref zr, .ref zm, .ref zl, .int qc, .int qs, .int (nI qw), .int (nI qb), .int (nI ql)])), (zc, .inl (cA, 288, .inl cd))]) (QcRead (rGet cd 72 zz x y)) 0 0 (fun _ => False) := by
  refine Met.ofW (cc := cX4_guarded) (maxL := 3) (ret := (some .int)) (by decide) rfl ?_
  intro p e s m args below meth c s₁ B hml hv
  obtain ⟨rfl, hP, hK, hN⟩ := hv
  have hx := B.exec
  have hb := B.bytes
  have hr := B.returns
  have hts := atoms_spec (ws := wsX4_guarded) B.pre
  have hown : s.vm.findClass RX4 = some m.cls := findClass_of_methodNamed B.named
  have hlocks := B.notSynchronized
  have hl := lv_entry ([.ref h4, .int x, .int y]) (n := 3) (Nat.le_of_ble_eq_true rfl)
  rw [lg_entry_eq]
  generalize (lg_sl ([.ref h4, .int x, .int y]) ++ List.replicate (3 - (lg_sl ([.ref h4, .int x, .int y])).length) Slot.unset).toArray = ls at hl ⊢
  have hl : lv_has ls 3 [(0, .ref h4), (1, .int x), (2, .int y)] := hl
  refine lv_iload_n hx hb dX4_guarded_0 rfl (lv_at hl 1 rfl) ?_
  refine lv_aload_n hx hb dX4_guarded_1 rfl (lv_at hl 0 rfl) ?_
  refine va_get (D := D) (ci := 4) (v := .int (nI zz)) (C := RX4) (T := TX4) (N := 17) hx hb hts iw_X4_guarded_X4 hown hK hP 0 rfl rfl 2 (by decide) (hts (.fieldLink RX4 45 "JumpGuardModel" "size" "I") (List.mem_of_getElem? (l := wsX4_guarded) (i := 1) rfl)) (fun _ h9 => h9) rfl dX4_guarded_2 ?_
  refine lv_iconst (v := 1) hx hb dX4_guarded_5 (by decide) ?_
  refine lv_isub hx hb dX4_guarded_6 ?_
  refine jr_i (va_runS (As := [.int x, .int ((nI zz) - 1)]) (rest := []) ⟨hx, hb, hml, hown, hts⟩ (c_X4_within l D cA x ((nI zz) - 1)) (va_cwS 2 hts gX4_guarded_X4_within rfl rfl rfl hv_X4_within.2 ⟨Nat.le_of_ble_eq_true rfl, Nat.le_of_ble_eq_true rfl⟩) (roP.S (av := [.int x, .int ((nI zz) - 1)]) (jP_sub (w2 := []) hP [] rfl) hK hN) rfl rfl hl.1 rfl (lv_room (Nat.le_of_ble_eq_true rfl)) dX4_guarded_7 ⟨Nat.le_of_ble_eq_true rfl, Nat.le_of_ble_eq_true rfl⟩) ?_
  refine jk_top (show (jB (wI x ((nI zz) - 1))) = (jB (jIn x (nI zz))) from jB_i (wI_p (by omega))) ?_
  refine lv_if_eq (tgt := 37) hx hb dX4_guarded_10 (by decide) (fun c_10 => ?_) (fun c_10 => ?_)
  · replace c_10 := jB_z.mp c_10
    refine lv_bipush (v := (-9)) hx hb dX4_guarded_37 (by decide) ?_
    exact W.iret (v := (-9)) hx hb hr (fun t9 ht9 hW9 => ⟨jk_ret (show (-9) = (rGet cd 72 zz x y) from (rGet_no (by first | exact fun h => c_10 h.1 | exact fun h => c_18 h.2)).symm), ht9⟩) (fun q h => absurd h List.not_mem_nil) dX4_guarded_39
  · replace c_10 := jB_nz.mp c_10
    refine lv_iload_n hx hb dX4_guarded_13 rfl (lv_at hl 2 rfl) ?_
    refine lv_iconst (v := 2) hx hb dX4_guarded_14 (by decide) ?_
    refine jr_i (va_runS (As := [.int y, .int 2]) (rest := []) ⟨hx, hb, hml, hown, hts⟩ (c_X4_within l D cA y 2) (va_cwS 2 hts gX4_guarded_X4_within rfl rfl rfl hv_X4_within.2 ⟨Nat.le_of_ble_eq_true rfl, Nat.le_of_ble_eq_true rfl⟩) (roP.S (av := [.int y, .int 2]) (jP_sub (w2 := []) hP [] rfl) hK hN) rfl rfl hl.1 rfl (lv_room (Nat.le_of_ble_eq_true rfl)) dX4_guarded_15 ⟨Nat.le_of_ble_eq_true rfl, Nat.le_of_ble_eq_true rfl⟩) ?_
    refine jk_top (show (jB (wI y 2)) = (jB (jIn y 3)) from jB_i (wI_c (n := 2) (by decide))) ?_
    refine lv_if_eq (tgt := 37) hx hb dX4_guarded_18 (by decide) (fun c_18 => ?_) (fun c_18 => ?_)
    · replace c_18 := jB_z.mp c_18
      refine lv_bipush (v := (-9)) hx hb dX4_guarded_37 (by decide) ?_
      exact W.iret (v := (-9)) hx hb hr (fun t9 ht9 hW9 => ⟨jk_ret (show (-9) = (rGet cd 72 zz x y) from (rGet_no (by first | exact fun h => c_10 h.1 | exact fun h => c_18 h.2)).symm), ht9⟩) (fun q h => absurd h List.not_mem_nil) dX4_guarded_39
    · replace c_18 := jB_nz.mp c_18
      obtain ⟨j, hj, rfl⟩ := jN_of (n := zz) (by omega) c_10
      obtain ⟨q, hq, rfl⟩ := jN_of (x := y) (n := 3) (by decide) c_18
      refine lv_aload_n hx hb dX4_guarded_21 rfl (lv_at hl 0 rfl) ?_
      refine va_get (D := D) (ci := 4) (v := .ref zc) (C := RX4) (T := TX4) (N := 17) hx hb hts iw_X4_guarded_X4 hown hK hP 0 rfl rfl 0 (by decide) (hts (.fieldLink RX4 7 "JumpGuardModel" "code" "[I") (List.mem_of_getElem? (l := wsX4_guarded) (i := 2) rfl)) (fun _ h9 => h9) rfl dX4_guarded_22 ?_
      refine lv_bipush (v := 72) hx hb dX4_guarded_25 (by decide) ?_
      refine lv_iconst (v := 3) hx hb dX4_guarded_27 (by decide) ?_
      refine lv_iload_n hx hb dX4_guarded_28 rfl (lv_at hl 1 rfl) ?_
      refine lv_imul hx hb dX4_guarded_29 ?_
      refine jk_top (show (3 * (nI j)) = (nI (3 * j)) from jn_3m j) ?_
      refine lv_iadd hx hb dX4_guarded_30 ?_
      refine jk_top (show (72 + (nI (3 * j))) = (nI (72 + 3 * j)) from nI_add 72 _) ?_
      refine lv_iload_n hx hb dX4_guarded_31 rfl (lv_at hl 2 rfl) ?_
      refine lv_iadd hx hb dX4_guarded_32 ?_
      refine jk_top (show ((nI (72 + 3 * j)) + (nI q)) = (nI (72 + 3 * j + q)) from nI_add _ _) ?_
      refine jk_ald hx hb hK hP 1 0 rfl rfl (k := (72 + 3 * j + q)) rfl (by omega) (by omega) dX4_guarded_33 ?_
      refine lv_goto (tgt := 39) hx hb dX4_guarded_34 (by decide) ?_
      exact W.iret (v := (cd (72 + 3 * j + q))) hx hb hr (fun t9 ht9 hW9 => ⟨jk_ret (show (cd (72 + 3 * j + q)) = (rGet cd 72 zz (nI j) (nI q)) from (rGet_at hj hq (by omega)).symm), ht9⟩) (fun q h => absurd h List.not_mem_nil) dX4_guarded_39
set_option maxHeartbeats 4000000 in
set_option maxRecDepth 100000 in
theorem c_X4_place (l : Launch) (D : va_G) (cA : ClassId) (h4 : Nat) (zc : Nat) (zj : Nat) (ze : Nat) (zt : Nat) (zo : Nat) (za : Nat) (zr : Nat) (zm : Nat) (zl : Nat) (nn : Nat) (zz : Nat) (ed : Nat) (qc : Int32) (qs : Int32) (qw : Nat) (qb : Nat) (ql : Nat) (at9 : Nat → Int32) (x : Int32) (hnn : nn ≤ 24) (hz : zz ≤ 72) : Met l yX4_place wsX4_place ({ frames := 1, cells := 0, slots := 0, locals := 21 }) (roP D cA [.ref h4, .int x] [(h4, .inr (4, [.ref zc, .int (nI nn), .int (nI zz), .ref zj, .ref ze, .int (nI ed), .ref zt, .ref zo, .ref za, .ref zr, .ref zm, .ref zl, .int qc, .int qs, .int (nI qw), .int (nI qb), .int (nI ql)])), (za, .inl (cA, 24, .inl at9))]) (QcRead (if 0 < zz ∧ jIn x (nI nn) then at9 x.toNatClampNeg else -1)) 0 0 (fun _ => False) := by
  refine Met.ofW (cc := cX4_place) (maxL := 2) (ret := (some .int)) (by decide) rfl ?_
  intro p e s m args below meth c s₁ B hml hv
  obtain ⟨rfl, hP, hK, hN⟩ := hv
  have hx := B.exec
  have hb := B.bytes
  have hr := B.returns
  have hts := atoms_spec (ws := wsX4_place) B.pre
  have hown : s.vm.findClass RX4 = some m.cls := findClass_of_methodNamed B.named
  have hlocks := B.notSynchronized
  have hl := lv_entry ([.ref h4, .int x]) (n := 2) (Nat.le_of_ble_eq_true rfl)
  rw [lg_entry_eq]
  generalize (lg_sl ([.ref h4, .int x]) ++ List.replicate (2 - (lg_sl ([.ref h4, .int x])).length) Slot.unset).toArray = ls at hl ⊢
  have hl : lv_has ls 2 [(0, .ref h4), (1, .int x)] := hl
  refine lv_iload_n hx hb dX4_place_0 rfl (lv_at hl 1 rfl) ?_
  refine lv_aload_n hx hb dX4_place_1 rfl (lv_at hl 0 rfl) ?_
  refine va_get (D := D) (ci := 4) (v := .int (nI nn)) (C := RX4) (T := TX4) (N := 17) hx hb hts iw_X4_place_X4 hown hK hP 0 rfl rfl 1 (by decide) (hts (.fieldLink RX4 52 "JumpGuardModel" "n" "I") (List.mem_of_getElem? (l := wsX4_place) (i := 1) rfl)) (fun _ h9 => h9) rfl dX4_place_2 ?_
  refine lv_iconst (v := 1) hx hb dX4_place_5 (by decide) ?_
  refine lv_isub hx hb dX4_place_6 ?_
  refine jr_i (va_runS (As := [.int x, .int ((nI nn) - 1)]) (rest := []) ⟨hx, hb, hml, hown, hts⟩ (c_X4_within l D cA x ((nI nn) - 1)) (va_cwS 2 hts gX4_place_X4_within rfl rfl rfl hv_X4_within.2 ⟨Nat.le_of_ble_eq_true rfl, Nat.le_of_ble_eq_true rfl⟩) (roP.S (av := [.int x, .int ((nI nn) - 1)]) (jP_sub (w2 := []) hP [] rfl) hK hN) rfl rfl hl.1 rfl (lv_room (Nat.le_of_ble_eq_true rfl)) dX4_place_7 ⟨Nat.le_of_ble_eq_true rfl, Nat.le_of_ble_eq_true rfl⟩) ?_
  refine jk_top (show (jB (wI x ((nI nn) - 1))) = (jB (jIn x (nI nn))) from jB_i (wI_p (by omega))) ?_
  refine lv_if_eq (tgt := 29) hx hb dX4_place_10 (by decide) (fun c_10 => ?_) (fun c_10 => ?_)
  · replace c_10 := jB_z.mp c_10
    refine lv_iconst (v := (-1)) hx hb dX4_place_29 (by decide) ?_
    exact W.iret (v := (-1)) hx hb hr (fun t9 ht9 hW9 => ⟨jk_ret (show (-1) = (if 0 < zz ∧ jIn x (nI nn) then at9 x.toNatClampNeg else -1) from (if_neg (fun h => c_10 h.2)).symm), ht9⟩) (fun q h => absurd h List.not_mem_nil) dX4_place_30
  · replace c_10 := jB_nz.mp c_10
    obtain ⟨j, hj, rfl⟩ := jN_of (n := nn) (by omega) c_10
    have ej : (nI j).toNatClampNeg = j := nI_clamp (by omega)
    refine lv_aload_n hx hb dX4_place_13 rfl (lv_at hl 0 rfl) ?_
    refine va_get (D := D) (ci := 4) (v := .int (nI zz)) (C := RX4) (T := TX4) (N := 17) hx hb hts iw_X4_place_X4 hown hK hP 0 rfl rfl 2 (by decide) (hts (.fieldLink RX4 45 "JumpGuardModel" "size" "I") (List.mem_of_getElem? (l := wsX4_place) (i := 2) rfl)) (fun _ h9 => h9) rfl dX4_place_14 ?_
    refine lv_if_le (tgt := 29) hx hb dX4_place_17 (by decide) (fun c_17 => ?_) (fun c_17 => ?_)
    · refine lv_iconst (v := (-1)) hx hb dX4_place_29 (by decide) ?_
      exact W.iret (v := (-1)) hx hb hr (fun t9 ht9 hW9 => ⟨jk_ret (show (-1) = (if 0 < zz ∧ jIn (nI j) (nI nn) then at9 (nI j).toNatClampNeg else -1) from (if_neg (fun h => absurd c_17 (nI_nle h.1 (by omega)))).symm), ht9⟩) (fun q h => absurd h List.not_mem_nil) dX4_place_30
    · refine lv_aload_n hx hb dX4_place_20 rfl (lv_at hl 0 rfl) ?_
      refine va_get (D := D) (ci := 4) (v := .ref za) (C := RX4) (T := TX4) (N := 17) hx hb hts iw_X4_place_X4 hown hK hP 0 rfl rfl 8 (by decide) (hts (.fieldLink RX4 25 "JumpGuardModel" "at" "[I") (List.mem_of_getElem? (l := wsX4_place) (i := 3) rfl)) (fun _ h9 => h9) rfl dX4_place_21 ?_
      refine lv_iload_n hx hb dX4_place_24 rfl (lv_at hl 1 rfl) ?_
      refine jk_ald hx hb hK hP 1 0 rfl rfl (k := j) rfl (by omega) (by omega) dX4_place_25 ?_
      refine lv_goto (tgt := 30) hx hb dX4_place_26 (by decide) ?_
      exact W.iret (v := (at9 j)) hx hb hr (fun t9 ht9 hW9 => ⟨jk_ret (show (at9 j) = (if 0 < zz ∧ jIn (nI j) (nI nn) then at9 (nI j).toNatClampNeg else -1) from (by rw [if_pos ⟨gua_pos c_17, c_10⟩, ej])), ht9⟩) (fun q h => absurd h List.not_mem_nil) dX4_place_30
set_option maxHeartbeats 4000000 in
set_option maxRecDepth 100000 in
theorem c_X4_state (l : Launch) (D : va_G) (cA : ClassId) (h4 : Nat) (zc : Nat) (zj : Nat) (ze : Nat) (zt : Nat) (zo : Nat) (za : Nat) (zr : Nat) (zm : Nat) (zl : Nat) (nn : Nat) (zz : Nat) (ed : Nat) (qc : Int32) (qs : Int32) (qw : Nat) (qb : Nat) (ql : Nat) : Met l yX4_state wsX4_state ({ frames := 0, cells := 0, slots := 0, locals := 0 }) (roP D cA [.ref h4] [(h4, .inr (4, [.ref zc, .int (nI nn), .int (nI zz), .ref zj, .ref ze, .int (nI ed), .ref zt, .ref zo, .ref za, .ref zr, .ref zm, .ref zl, .int qc, .int qs, .int (nI qw), .int (nI qb), .int (nI ql)]))]) (QcRead qs) 0 0 (fun _ => False) := by
  refine Met.ofW (cc := cX4_state) (maxL := 1) (ret := (some .int)) (by decide) rfl ?_
  intro p e s m args below meth c s₁ B hml hv
  obtain ⟨rfl, hP, hK, hN⟩ := hv
  have hx := B.exec
  have hb := B.bytes
  have hr := B.returns
  have hts := atoms_spec (ws := wsX4_state) B.pre
  have hown : s.vm.findClass RX4 = some m.cls := findClass_of_methodNamed B.named
  have hlocks := B.notSynchronized
  have hl := lv_entry ([.ref h4]) (n := 1) (Nat.le_of_ble_eq_true rfl)
  rw [lg_entry_eq]
  generalize (lg_sl ([.ref h4]) ++ List.replicate (1 - (lg_sl ([.ref h4])).length) Slot.unset).toArray = ls at hl ⊢
  have hl : lv_has ls 1 [(0, .ref h4)] := hl
  refine lv_aload_n hx hb dX4_state_0 rfl (lv_at hl 0 rfl) ?_
  refine va_get (D := D) (ci := 4) (v := .int qs) (C := RX4) (T := TX4) (N := 17) hx hb hts iw_X4_state_X4 hown hK hP 0 rfl rfl 13 (by decide) (hts (.fieldLink RX4 37 "JumpGuardModel" "state" "I") (List.mem_of_getElem? (l := wsX4_state) (i := 1) rfl)) (fun _ h9 => h9) rfl dX4_state_1 ?_
  exact W.iret (v := qs) hx hb hr (fun t9 ht9 hW9 => ⟨jk_ret (show qs = qs from rfl), ht9⟩) (fun q h => absurd h List.not_mem_nil) dX4_state_4
set_option maxHeartbeats 4000000 in
set_option maxRecDepth 100000 in
theorem c_X4_pc (l : Launch) (D : va_G) (cA : ClassId) (h4 : Nat) (zc : Nat) (zj : Nat) (ze : Nat) (zt : Nat) (zo : Nat) (za : Nat) (zr : Nat) (zm : Nat) (zl : Nat) (nn : Nat) (zz : Nat) (ed : Nat) (qc : Int32) (qs : Int32) (qw : Nat) (qb : Nat) (ql : Nat) : Met l yX4_pc wsX4_pc ({ frames := 0, cells := 0, slots := 0, locals := 0 }) (roP D cA [.ref h4] [(h4, .inr (4, [.ref zc, .int (nI nn), .int (nI zz), .ref zj, .ref ze, .int (nI ed), .ref zt, .ref zo, .ref za, .ref zr, .ref zm, .ref zl, .int qc, .int qs, .int (nI qw), .int (nI qb), .int (nI ql)]))]) (QcRead (if qs < 0 then (-1) else qc)) 0 0 (fun _ => False) := by
  refine Met.ofW (cc := cX4_pc) (maxL := 1) (ret := (some .int)) (by decide) rfl ?_
  intro p e s m args below meth c s₁ B hml hv
  obtain ⟨rfl, hP, hK, hN⟩ := hv
  have hx := B.exec
  have hb := B.bytes
  have hr := B.returns
  have hts := atoms_spec (ws := wsX4_pc) B.pre
  have hown : s.vm.findClass RX4 = some m.cls := findClass_of_methodNamed B.named
  have hlocks := B.notSynchronized
  have hl := lv_entry ([.ref h4]) (n := 1) (Nat.le_of_ble_eq_true rfl)
  rw [lg_entry_eq]
  generalize (lg_sl ([.ref h4]) ++ List.replicate (1 - (lg_sl ([.ref h4])).length) Slot.unset).toArray = ls at hl ⊢
  have hl : lv_has ls 1 [(0, .ref h4)] := hl
  refine lv_aload_n hx hb dX4_pc_0 rfl (lv_at hl 0 rfl) ?_
  refine va_get (D := D) (ci := 4) (v := .int qs) (C := RX4) (T := TX4) (N := 17) hx hb hts iw_X4_pc_X4 hown hK hP 0 rfl rfl 13 (by decide) (hts (.fieldLink RX4 37 "JumpGuardModel" "state" "I") (List.mem_of_getElem? (l := wsX4_pc) (i := 1) rfl)) (fun _ h9 => h9) rfl dX4_pc_1 ?_
  refine lv_if_ge (tgt := 11) hx hb dX4_pc_4 (by decide) (fun c_4 => ?_) (fun c_4 => ?_)
  · refine lv_aload_n hx hb dX4_pc_11 rfl (lv_at hl 0 rfl) ?_
    refine va_get (D := D) (ci := 4) (v := .int qc) (C := RX4) (T := TX4) (N := 17) hx hb hts iw_X4_pc_X4 hown hK hP 0 rfl rfl 12 (by decide) (hts (.fieldLink RX4 78 "JumpGuardModel" "pc" "I") (List.mem_of_getElem? (l := wsX4_pc) (i := 2) rfl)) (fun _ h9 => h9) rfl dX4_pc_12 ?_
    exact W.iret (v := qc) hx hb hr (fun t9 ht9 hW9 => ⟨jk_ret (show qc = (if qs < 0 then (-1) else qc) from (if_neg (Int32.not_lt.mpr c_4)).symm), ht9⟩) (fun q h => absurd h List.not_mem_nil) dX4_pc_15
  · refine lv_iconst (v := (-1)) hx hb dX4_pc_7 (by decide) ?_
    refine lv_goto (tgt := 15) hx hb dX4_pc_8 (by decide) ?_
    exact W.iret (v := (-1)) hx hb hr (fun t9 ht9 hW9 => ⟨jk_ret (show (-1) = (if qs < 0 then (-1) else qc) from (if_pos (Int32.not_le.mp c_4)).symm), ht9⟩) (fun q h => absurd h List.not_mem_nil) dX4_pc_15
set_option maxHeartbeats 4000000 in
set_option maxRecDepth 100000 in
theorem c_X4_shows (l : Launch) (D : va_G) (cA : ClassId) (h4 : Nat) (zc : Nat) (zj : Nat) (ze : Nat) (zt : Nat) (zo : Nat) (za : Nat) (zr : Nat) (zm : Nat) (zl : Nat) (nn : Nat) (zz : Nat) (ed : Nat) (qc : Int32) (qs : Int32) (qw : Nat) (qb : Nat) (ql : Nat) : Met l yX4_shows wsX4_shows ({ frames := 0, cells := 0, slots := 0, locals := 0 }) (roP D cA [.ref h4] [(h4, .inr (4, [.ref zc, .int (nI nn), .int (nI zz), .ref zj, .ref ze, .int (nI ed), .ref zt, .ref zo, .ref za, .ref zr, .ref zm, .ref zl, .int qc, .int qs, .int (nI qw), .int (nI qb), .int (nI ql)]))]) (QcRead (if qs < 0 then 0 else nI qw)) 0 0 (fun _ => False) := by
  refine Met.ofW (cc := cX4_shows) (maxL := 1) (ret := (some .int)) (by decide) rfl ?_
  intro p e s m args below meth c s₁ B hml hv
  obtain ⟨rfl, hP, hK, hN⟩ := hv
  have hx := B.exec
  have hb := B.bytes
  have hr := B.returns
  have hts := atoms_spec (ws := wsX4_shows) B.pre
  have hown : s.vm.findClass RX4 = some m.cls := findClass_of_methodNamed B.named
  have hlocks := B.notSynchronized
  have hl := lv_entry ([.ref h4]) (n := 1) (Nat.le_of_ble_eq_true rfl)
  rw [lg_entry_eq]
  generalize (lg_sl ([.ref h4]) ++ List.replicate (1 - (lg_sl ([.ref h4])).length) Slot.unset).toArray = ls at hl ⊢
  have hl : lv_has ls 1 [(0, .ref h4)] := hl
  refine lv_aload_n hx hb dX4_shows_0 rfl (lv_at hl 0 rfl) ?_
  refine va_get (D := D) (ci := 4) (v := .int qs) (C := RX4) (T := TX4) (N := 17) hx hb hts iw_X4_shows_X4 hown hK hP 0 rfl rfl 13 (by decide) (hts (.fieldLink RX4 37 "JumpGuardModel" "state" "I") (List.mem_of_getElem? (l := wsX4_shows) (i := 1) rfl)) (fun _ h9 => h9) rfl dX4_shows_1 ?_
  refine lv_if_ge (tgt := 11) hx hb dX4_shows_4 (by decide) (fun c_4 => ?_) (fun c_4 => ?_)
  · refine lv_aload_n hx hb dX4_shows_11 rfl (lv_at hl 0 rfl) ?_
    refine va_get (D := D) (ci := 4) (v := .int (nI qw)) (C := RX4) (T := TX4) (N := 17) hx hb hts iw_X4_shows_X4 hown hK hP 0 rfl rfl 14 (by decide) (hts (.fieldLink RX4 81 "JumpGuardModel" "shows" "I") (List.mem_of_getElem? (l := wsX4_shows) (i := 2) rfl)) (fun _ h9 => h9) rfl dX4_shows_12 ?_
    exact W.iret (v := (nI qw)) hx hb hr (fun t9 ht9 hW9 => ⟨jk_ret (show (nI qw) = (if qs < 0 then 0 else nI qw) from (if_neg (Int32.not_lt.mpr c_4)).symm), ht9⟩) (fun q h => absurd h List.not_mem_nil) dX4_shows_15
  · refine lv_iconst (v := 0) hx hb dX4_shows_7 (by decide) ?_
    refine lv_goto (tgt := 15) hx hb dX4_shows_8 (by decide) ?_
    exact W.iret (v := 0) hx hb hr (fun t9 ht9 hW9 => ⟨jk_ret (show 0 = (if qs < 0 then 0 else nI qw) from (if_pos (Int32.not_le.mp c_4)).symm), ht9⟩) (fun q h => absurd h List.not_mem_nil) dX4_shows_15
set_option maxHeartbeats 4000000 in
set_option maxRecDepth 100000 in
theorem c_X4_memory (l : Launch) (D : va_G) (cA : ClassId) (h4 : Nat) (zc : Nat) (zj : Nat) (ze : Nat) (zt : Nat) (zo : Nat) (za : Nat) (zr : Nat) (zm : Nat) (zl : Nat) (nn : Nat) (zz : Nat) (ed : Nat) (qc : Int32) (qs : Int32) (qw : Nat) (qb : Nat) (ql : Nat) (F9 : Nat → Int32) (x : Int32) : Met l yX4_memory wsX4_memory ({ frames := 1, cells := 0, slots := 0, locals := 21 }) (roP D cA [.ref h4, .int x] [(h4, .inr (4, [.ref zc, .int (nI nn), .int (nI zz), .ref zj, .ref ze, .int (nI ed), .ref zt, .ref zo, .ref za, .ref zr, .ref zm, .ref zl, .int qc, .int qs, .int (nI qw), .int (nI qb), .int (nI ql)])), (zm, .inl (cA, 16, .inl F9))]) (QcRead (if qs < 0 then 0 else jAt F9 16 x)) 0 0 (fun _ => False) := by
  refine Met.ofW (cc := cX4_memory) (maxL := 2) (ret := (some .int)) (by decide) rfl ?_
  intro p e s m args below meth c s₁ B hml hv
  obtain ⟨rfl, hP, hK, hN⟩ := hv
  have hx := B.exec
  have hb := B.bytes
  have hr := B.returns
  have hts := atoms_spec (ws := wsX4_memory) B.pre
  have hown : s.vm.findClass RX4 = some m.cls := findClass_of_methodNamed B.named
  have hlocks := B.notSynchronized
  have hl := lv_entry ([.ref h4, .int x]) (n := 2) (Nat.le_of_ble_eq_true rfl)
  rw [lg_entry_eq]
  generalize (lg_sl ([.ref h4, .int x]) ++ List.replicate (2 - (lg_sl ([.ref h4, .int x])).length) Slot.unset).toArray = ls at hl ⊢
  have hl : lv_has ls 2 [(0, .ref h4), (1, .int x)] := hl
  refine lv_aload_n hx hb dX4_memory_0 rfl (lv_at hl 0 rfl) ?_
  refine va_get (D := D) (ci := 4) (v := .int qs) (C := RX4) (T := TX4) (N := 17) hx hb hts iw_X4_memory_X4 hown hK hP 0 rfl rfl 13 (by decide) (hts (.fieldLink RX4 37 "JumpGuardModel" "state" "I") (List.mem_of_getElem? (l := wsX4_memory) (i := 1) rfl)) (fun _ h9 => h9) rfl dX4_memory_1 ?_
  refine lv_if_lt (tgt := 16) hx hb dX4_memory_4 (by decide) (fun c_4 => ?_) (fun c_4 => ?_)
  · refine lv_iconst (v := 0) hx hb dX4_memory_16 (by decide) ?_
    refine lv_goto (tgt := 26) hx hb dX4_memory_17 (by decide) ?_
    exact W.iret (v := 0) hx hb hr (fun t9 ht9 hW9 => ⟨jk_ret (show 0 = (if qs < 0 then 0 else jAt F9 16 x) from (if_pos c_4).symm), ht9⟩) (fun q h => absurd h List.not_mem_nil) dX4_memory_26
  · refine lv_iload_n hx hb dX4_memory_7 rfl (lv_at hl 1 rfl) ?_
    refine lv_bipush (v := 15) hx hb dX4_memory_8 (by decide) ?_
    refine jr_i (va_runS (As := [.int x, .int 15]) (rest := []) ⟨hx, hb, hml, hown, hts⟩ (c_X4_within l D cA x 15) (va_cwS 2 hts gX4_memory_X4_within rfl rfl rfl hv_X4_within.2 ⟨Nat.le_of_ble_eq_true rfl, Nat.le_of_ble_eq_true rfl⟩) (roP.S (av := [.int x, .int 15]) (jP_sub (w2 := []) hP [] rfl) hK hN) rfl rfl hl.1 rfl (lv_room (Nat.le_of_ble_eq_true rfl)) dX4_memory_10 ⟨Nat.le_of_ble_eq_true rfl, Nat.le_of_ble_eq_true rfl⟩) ?_
    refine jk_top (show (jB (wI x 15)) = (jB (jIn x 16)) from jB_i (wI_c (n := 15) (by decide))) ?_
    refine lv_if_ne (tgt := 20) hx hb dX4_memory_13 (by decide) (fun c_13 => ?_) (fun c_13 => ?_)
    · replace c_13 := jB_nz.mp c_13
      obtain ⟨j, hj, rfl⟩ := jN_of (n := 16) (by decide) c_13
      refine lv_aload_n hx hb dX4_memory_20 rfl (lv_at hl 0 rfl) ?_
      refine va_get (D := D) (ci := 4) (v := .ref zm) (C := RX4) (T := TX4) (N := 17) hx hb hts iw_X4_memory_X4 hown hK hP 0 rfl rfl 10 (by decide) (hts (.fieldLink RX4 31 "JumpGuardModel" "mem" "[I") (List.mem_of_getElem? (l := wsX4_memory) (i := 2) rfl)) (fun _ h9 => h9) rfl dX4_memory_21 ?_
      refine lv_iload_n hx hb dX4_memory_24 rfl (lv_at hl 1 rfl) ?_
      refine jk_ald hx hb hK hP 1 0 rfl rfl (k := j) rfl (by omega) (by omega) dX4_memory_25 ?_
      exact W.iret (v := (F9 j)) hx hb hr (fun t9 ht9 hW9 => ⟨jk_ret (show (F9 j) = (if qs < 0 then 0 else jAt F9 16 (nI j)) from (by rw [if_neg c_4]; exact (jAt_n (n := 16) hj (by decide)).symm)), ht9⟩) (fun q h => absurd h List.not_mem_nil) dX4_memory_26
    · replace c_13 := jB_z.mp c_13
      refine lv_iconst (v := 0) hx hb dX4_memory_16 (by decide) ?_
      refine lv_goto (tgt := 26) hx hb dX4_memory_17 (by decide) ?_
      exact W.iret (v := 0) hx hb hr (fun t9 ht9 hW9 => ⟨jk_ret (show 0 = (if qs < 0 then 0 else jAt F9 16 x) from (by rw [if_neg c_4, jAt_no c_13])), ht9⟩) (fun q h => absurd h List.not_mem_nil) dX4_memory_26
set_option maxHeartbeats 4000000 in
set_option maxRecDepth 100000 in
theorem c_X4_register (l : Launch) (D : va_G) (cA : ClassId) (h4 : Nat) (zc : Nat) (zj : Nat) (ze : Nat) (zt : Nat) (zo : Nat) (za : Nat) (zr : Nat) (zm : Nat) (zl : Nat) (nn : Nat) (zz : Nat) (ed : Nat) (qc : Int32) (qs : Int32) (qw : Nat) (qb : Nat) (ql : Nat) (F9 : Nat → Int32) (x : Int32) : Met l yX4_register wsX4_register ({ frames := 1, cells := 0, slots := 0, locals := 21 }) (roP D cA [.ref h4, .int x] [(h4, .inr (4, [.ref zc, .int (nI nn), .int (nI zz), .ref zj, .ref ze, .int (nI ed), .ref zt, .ref zo, .ref za, .ref zr, .ref zm, .ref zl, .int qc, .int qs, .int (nI qw), .int (nI qb), .int (nI ql)])), (zr, .inl (cA, 4, .inl F9))]) (QcRead (if qs < 0 then 0 else jAt F9 4 x)) 0 0 (fun _ => False) := by
  refine Met.ofW (cc := cX4_register) (maxL := 2) (ret := (some .int)) (by decide) rfl ?_
  intro p e s m args below meth c s₁ B hml hv
  obtain ⟨rfl, hP, hK, hN⟩ := hv
  have hx := B.exec
  have hb := B.bytes
  have hr := B.returns
  have hts := atoms_spec (ws := wsX4_register) B.pre
  have hown : s.vm.findClass RX4 = some m.cls := findClass_of_methodNamed B.named
  have hlocks := B.notSynchronized
  have hl := lv_entry ([.ref h4, .int x]) (n := 2) (Nat.le_of_ble_eq_true rfl)
  rw [lg_entry_eq]
  generalize (lg_sl ([.ref h4, .int x]) ++ List.replicate (2 - (lg_sl ([.ref h4, .int x])).length) Slot.unset).toArray = ls at hl ⊢
  have hl : lv_has ls 2 [(0, .ref h4), (1, .int x)] := hl
  refine lv_aload_n hx hb dX4_register_0 rfl (lv_at hl 0 rfl) ?_
  refine va_get (D := D) (ci := 4) (v := .int qs) (C := RX4) (T := TX4) (N := 17) hx hb hts iw_X4_register_X4 hown hK hP 0 rfl rfl 13 (by decide) (hts (.fieldLink RX4 37 "JumpGuardModel" "state" "I") (List.mem_of_getElem? (l := wsX4_register) (i := 1) rfl)) (fun _ h9 => h9) rfl dX4_register_1 ?_
  refine lv_if_lt (tgt := 15) hx hb dX4_register_4 (by decide) (fun c_4 => ?_) (fun c_4 => ?_)
  · refine lv_iconst (v := 0) hx hb dX4_register_15 (by decide) ?_
    refine lv_goto (tgt := 25) hx hb dX4_register_16 (by decide) ?_
    exact W.iret (v := 0) hx hb hr (fun t9 ht9 hW9 => ⟨jk_ret (show 0 = (if qs < 0 then 0 else jAt F9 4 x) from (if_pos c_4).symm), ht9⟩) (fun q h => absurd h List.not_mem_nil) dX4_register_25
  · refine lv_iload_n hx hb dX4_register_7 rfl (lv_at hl 1 rfl) ?_
    refine lv_iconst (v := 3) hx hb dX4_register_8 (by decide) ?_
    refine jr_i (va_runS (As := [.int x, .int 3]) (rest := []) ⟨hx, hb, hml, hown, hts⟩ (c_X4_within l D cA x 3) (va_cwS 2 hts gX4_register_X4_within rfl rfl rfl hv_X4_within.2 ⟨Nat.le_of_ble_eq_true rfl, Nat.le_of_ble_eq_true rfl⟩) (roP.S (av := [.int x, .int 3]) (jP_sub (w2 := []) hP [] rfl) hK hN) rfl rfl hl.1 rfl (lv_room (Nat.le_of_ble_eq_true rfl)) dX4_register_9 ⟨Nat.le_of_ble_eq_true rfl, Nat.le_of_ble_eq_true rfl⟩) ?_
    refine jk_top (show (jB (wI x 3)) = (jB (jIn x 4)) from jB_i (wI_c (n := 3) (by decide))) ?_
    refine lv_if_ne (tgt := 19) hx hb dX4_register_12 (by decide) (fun c_12 => ?_) (fun c_12 => ?_)
    · replace c_12 := jB_nz.mp c_12
      obtain ⟨j, hj, rfl⟩ := jN_of (n := 4) (by decide) c_12
      refine lv_aload_n hx hb dX4_register_19 rfl (lv_at hl 0 rfl) ?_
      refine va_get (D := D) (ci := 4) (v := .ref zr) (C := RX4) (T := TX4) (N := 17) hx hb hts iw_X4_register_X4 hown hK hP 0 rfl rfl 9 (by decide) (hts (.fieldLink RX4 28 "JumpGuardModel" "reg" "[I") (List.mem_of_getElem? (l := wsX4_register) (i := 2) rfl)) (fun _ h9 => h9) rfl dX4_register_20 ?_
      refine lv_iload_n hx hb dX4_register_23 rfl (lv_at hl 1 rfl) ?_
      refine jk_ald hx hb hK hP 1 0 rfl rfl (k := j) rfl (by omega) (by omega) dX4_register_24 ?_
      exact W.iret (v := (F9 j)) hx hb hr (fun t9 ht9 hW9 => ⟨jk_ret (show (F9 j) = (if qs < 0 then 0 else jAt F9 4 (nI j)) from (by rw [if_neg c_4]; exact (jAt_n (n := 4) hj (by decide)).symm)), ht9⟩) (fun q h => absurd h List.not_mem_nil) dX4_register_25
    · replace c_12 := jB_z.mp c_12
      refine lv_iconst (v := 0) hx hb dX4_register_15 (by decide) ?_
      refine lv_goto (tgt := 25) hx hb dX4_register_16 (by decide) ?_
      exact W.iret (v := 0) hx hb hr (fun t9 ht9 hW9 => ⟨jk_ret (show 0 = (if qs < 0 then 0 else jAt F9 4 x) from (by rw [if_neg c_4, jAt_no c_12])), ht9⟩) (fun q h => absurd h List.not_mem_nil) dX4_register_25
set_option maxHeartbeats 4000000 in
set_option maxRecDepth 100000 in
theorem c_X4_overwrite (l : Launch) (D : va_G) (cA : ClassId) (sz : Nat) (h4 : Nat) (zc : Nat) (zj : Nat) (ze : Nat) (zt : Nat) (zo : Nat) (za : Nat) (zr : Nat) (zm : Nat) (zl : Nat) (nn : Nat) (zz : Nat) (ed : Nat) (qc : Int32) (qs : Int32) (qw : Nat) (qb : Nat) (ql : Nat) (F9 : Nat → Int32) (x : Int32) (v : Int32) : Met l yX4_overwrite wsX4_overwrite ({ frames := 1, cells := 0, slots := 0, locals := 21 }) (rwP D cA [.ref h4, .int x, .int v] sz [(h4, .inr (4, [.ref zc, .int (nI nn), .int (nI zz), .ref zj, .ref ze, .int (nI ed), .ref zt, .ref zo, .ref za, .ref zr, .ref zm, .ref zl, .int qc, .int qs, .int (nI qw), .int (nI qb), .int (nI ql)])), (zm, .inl (cA, 16, .inl F9))]) (rwI D (va_A [(h4, .inr (4, [.ref zc, .int (nI nn), .int (nI zz), .ref zj, .ref ze, .int (nI ed), .ref zt, .ref zo, .ref za, .ref zr, .ref zm, .ref zl, .int qc, .int qs, .int (nI qw), .int (nI qb), .int (nI ql)])), (zm, .inl (cA, 16, .inl F9))] sz) (jB (¬ qs < 0 ∧ jIn x 16)) [(h4, .inr (4, [.ref zc, .int (nI nn), .int (nI zz), .ref zj, .ref ze, .int (nI ed), .ref zt, .ref zo, .ref za, .ref zr, .ref zm, .ref zl, .int qc, .int qs, .int (nI qw), .int (nI qb), .int (nI ql)])), (zm, .inl (cA, 16, .inl (if qs < 0 then F9 else jPut F9 16 x v)))]) 0 0 (va_A [(h4, .inr (4, [.ref zc, .int (nI nn), .int (nI zz), .ref zj, .ref ze, .int (nI ed), .ref zt, .ref zo, .ref za, .ref zr, .ref zm, .ref zl, .int qc, .int qs, .int (nI qw), .int (nI qb), .int (nI ql)])), (zm, .inl (cA, 16, .inl F9))] sz) := by
  refine Met.ofW (cc := cX4_overwrite) (maxL := 3) (ret := (some .boolean)) (by decide) rfl ?_
  intro p e s m args below meth c s₁ B hml hv
  obtain ⟨rfl, hsz, hP, hK, hN, hD0⟩ := hv
  have hx := B.exec
  have hb := B.bytes
  have hr := B.returns
  have hts := atoms_spec (ws := wsX4_overwrite) B.pre
  have hown : s.vm.findClass RX4 = some m.cls := findClass_of_methodNamed B.named
  have hlocks := B.notSynchronized
  subst hsz
  have hD := hD0.self (sz := s.heap.size)
  generalize hAe : va_A [(h4, .inr (4, [.ref zc, .int (nI nn), .int (nI zz), .ref zj, .ref ze, .int (nI ed), .ref zt, .ref zo, .ref za, .ref zr, .ref zm, .ref zl, .int qc, .int qs, .int (nI qw), .int (nI qb), .int (nI ql)])), (zm, .inl (cA, 16, .inl F9))] s.heap.size = A at hD ⊢
  have hA : ∀ q : Nat, s.heap.size ≤ q → A q := fun q h => by rw [← hAe]; exact Or.inr h
  have hS : va_S A s.heap s.heap [] := va_S.rf
  have hl := lv_entry ([.ref h4, .int x, .int v]) (n := 3) (Nat.le_of_ble_eq_true rfl)
  rw [lg_entry_eq]
  generalize (lg_sl ([.ref h4, .int x, .int v]) ++ List.replicate (3 - (lg_sl ([.ref h4, .int x, .int v])).length) Slot.unset).toArray = ls at hl ⊢
  have hl : lv_has ls 3 [(0, .ref h4), (1, .int x), (2, .int v)] := hl
  refine lv_aload_n hx hb dX4_overwrite_0 rfl (lv_at hl 0 rfl) ?_
  refine va_get (D := D) (ci := 4) (v := .int qs) (C := RX4) (T := TX4) (N := 17) hx hb hts iw_X4_overwrite_X4 hown hK hP 0 rfl rfl 13 (by decide) (hts (.fieldLink RX4 37 "JumpGuardModel" "state" "I") (List.mem_of_getElem? (l := wsX4_overwrite) (i := 1) rfl)) (fun _ h9 => h9) rfl dX4_overwrite_1 ?_
  refine lv_if_lt (tgt := 16) hx hb dX4_overwrite_4 (by decide) (fun c_4 => ?_) (fun c_4 => ?_)
  · refine lv_iconst (v := 0) hx hb dX4_overwrite_16 (by decide) ?_
    obtain ⟨hP9, hD9⟩ := jk_end (w2 := [(h4, .inr (4, [.ref zc, .int (nI nn), .int (nI zz), .ref zj, .ref ze, .int (nI ed), .ref zt, .ref zo, .ref za, .ref zr, .ref zm, .ref zl, .int qc, .int qs, .int (nI qw), .int (nI qb), .int (nI ql)])), (zm, .inl (cA, 16, .inl F9))]) hP hD [0, 1] (by decide) rfl
    have e9 : ([(h4, .inr (4, [.ref zc, .int (nI nn), .int (nI zz), .ref zj, .ref ze, .int (nI ed), .ref zt, .ref zo, .ref za, .ref zr, .ref zm, .ref zl, .int qc, .int qs, .int (nI qw), .int (nI qb), .int (nI ql)])), (zm, .inl (cA, 16, .inl F9))] : va_W) = [(h4, .inr (4, [.ref zc, .int (nI nn), .int (nI zz), .ref zj, .ref ze, .int (nI ed), .ref zt, .ref zo, .ref za, .ref zr, .ref zm, .ref zl, .int qc, .int qs, .int (nI qw), .int (nI qb), .int (nI ql)])), (zm, .inl (cA, 16, .inl (if qs < 0 then F9 else jPut F9 16 x v)))] := (by simp only [if_pos c_4])
    rw [e9] at hP9 hD9
    exact W.zret (ty := .boolean) (v := 0) hx hb hr rfl (fun t9 ht9 hW9 => ⟨⟨_, (), rfl, (show 0 = (jB (¬ qs < 0 ∧ jIn x 16)) from (jB_f (by first | exact fun h => h.1 c_4 | exact fun h => c_13 h.2)).symm), by rw [ht9]; exact hP9, hD9⟩, hS.F ht9⟩) hS.2.2 dX4_overwrite_17
  · refine lv_iload_n hx hb dX4_overwrite_7 rfl (lv_at hl 1 rfl) ?_
    refine lv_bipush (v := 15) hx hb dX4_overwrite_8 (by decide) ?_
    refine jr_i (va_runS (As := [.int x, .int 15]) (rest := []) ⟨hx, hb, hml, hown, hts⟩ (c_X4_within l D cA x 15) (va_cwS 2 hts gX4_overwrite_X4_within rfl rfl rfl hv_X4_within.2 ⟨Nat.le_of_ble_eq_true rfl, Nat.le_of_ble_eq_true rfl⟩) (roP.S (av := [.int x, .int 15]) (jP_sub (w2 := []) hP [] rfl) hK hN) rfl rfl hl.1 rfl (lv_room (Nat.le_of_ble_eq_true rfl)) dX4_overwrite_10 ⟨Nat.le_of_ble_eq_true rfl, Nat.le_of_ble_eq_true rfl⟩) ?_
    refine jk_top (show (jB (wI x 15)) = (jB (jIn x 16)) from jB_i (wI_c (n := 15) (by decide))) ?_
    refine lv_if_ne (tgt := 18) hx hb dX4_overwrite_13 (by decide) (fun c_13 => ?_) (fun c_13 => ?_)
    · replace c_13 := jB_nz.mp c_13
      obtain ⟨j, hj, rfl⟩ := jN_of (n := 16) (by decide) c_13
      have ep : jPut F9 16 (nI j) v = upd F9 j v := jPut_n (n := 16) hj (by decide)
      refine lv_aload_n hx hb dX4_overwrite_18 rfl (lv_at hl 0 rfl) ?_
      refine va_get (D := D) (ci := 4) (v := .ref zm) (C := RX4) (T := TX4) (N := 17) hx hb hts iw_X4_overwrite_X4 hown hK hP 0 rfl rfl 10 (by decide) (hts (.fieldLink RX4 31 "JumpGuardModel" "mem" "[I") (List.mem_of_getElem? (l := wsX4_overwrite) (i := 2) rfl)) (fun _ h9 => h9) rfl dX4_overwrite_19 ?_
      refine lv_iload_n hx hb dX4_overwrite_22 rfl (lv_at hl 1 rfl) ?_
      refine lv_iload_n hx hb dX4_overwrite_23 rfl (lv_at hl 2 rfl) ?_
      refine jk_ast hx hb hK hP hD hS 1 0 rfl rfl (k := j) rfl (by omega) (by omega) dX4_overwrite_24 (fun H locs hP hD hS => ?_)
      have hP : va_P D vwCl [(h4, .inr (4, [.ref zc, .int (nI nn), .int (nI zz), .ref zj, .ref ze, .int (nI ed), .ref zt, .ref zo, .ref za, .ref zr, .ref zm, .ref zl, .int qc, .int qs, .int (nI qw), .int (nI qb), .int (nI ql)])), (zm, .inl (cA, 16, .inl (upd F9 j v)))] H := hP
      have hD : va_D A [(h4, .inr (4, [.ref zc, .int (nI nn), .int (nI zz), .ref zj, .ref ze, .int (nI ed), .ref zt, .ref zo, .ref za, .ref zr, .ref zm, .ref zl, .int qc, .int qs, .int (nI qw), .int (nI qb), .int (nI ql)])), (zm, .inl (cA, 16, .inl (upd F9 j v)))] := hD
      refine lv_iconst (v := 1) hx hb dX4_overwrite_25 (by decide) ?_
      obtain ⟨hP9, hD9⟩ := jk_end (w2 := [(h4, .inr (4, [.ref zc, .int (nI nn), .int (nI zz), .ref zj, .ref ze, .int (nI ed), .ref zt, .ref zo, .ref za, .ref zr, .ref zm, .ref zl, .int qc, .int qs, .int (nI qw), .int (nI qb), .int (nI ql)])), (zm, .inl (cA, 16, .inl (upd F9 j v)))]) hP hD [0, 1] (by decide) rfl
      have e9 : ([(h4, .inr (4, [.ref zc, .int (nI nn), .int (nI zz), .ref zj, .ref ze, .int (nI ed), .ref zt, .ref zo, .ref za, .ref zr, .ref zm, .ref zl, .int qc, .int qs, .int (nI qw), .int (nI qb), .int (nI ql)])), (zm, .inl (cA, 16, .inl (upd F9 j v)))] : va_W) = [(h4, .inr (4, [.ref zc, .int (nI nn), .int (nI zz), .ref zj, .ref ze, .int (nI ed), .ref zt, .ref zo, .ref za, .ref zr, .ref zm, .ref zl, .int qc, .int qs, .int (nI qw), .int (nI qb), .int (nI ql)])), (zm, .inl (cA, 16, .inl (if qs < 0 then F9 else jPut F9 16 (nI j) v)))] := (by simp only [if_neg c_4, ep])
      rw [e9] at hP9 hD9
      exact W.zret (ty := .boolean) (v := 1) hx hb hr rfl (fun t9 ht9 hW9 => ⟨⟨_, (), rfl, (show 1 = (jB (¬ qs < 0 ∧ jIn (nI j) 16)) from (jB_t ⟨c_4, c_13⟩).symm), by rw [ht9]; exact hP9, hD9⟩, hS.F ht9⟩) hS.2.2 dX4_overwrite_26
    · replace c_13 := jB_z.mp c_13
      refine lv_iconst (v := 0) hx hb dX4_overwrite_16 (by decide) ?_
      obtain ⟨hP9, hD9⟩ := jk_end (w2 := [(h4, .inr (4, [.ref zc, .int (nI nn), .int (nI zz), .ref zj, .ref ze, .int (nI ed), .ref zt, .ref zo, .ref za, .ref zr, .ref zm, .ref zl, .int qc, .int qs, .int (nI qw), .int (nI qb), .int (nI ql)])), (zm, .inl (cA, 16, .inl F9))]) hP hD [0, 1] (by decide) rfl
      have e9 : ([(h4, .inr (4, [.ref zc, .int (nI nn), .int (nI zz), .ref zj, .ref ze, .int (nI ed), .ref zt, .ref zo, .ref za, .ref zr, .ref zm, .ref zl, .int qc, .int qs, .int (nI qw), .int (nI qb), .int (nI ql)])), (zm, .inl (cA, 16, .inl F9))] : va_W) = [(h4, .inr (4, [.ref zc, .int (nI nn), .int (nI zz), .ref zj, .ref ze, .int (nI ed), .ref zt, .ref zo, .ref za, .ref zr, .ref zm, .ref zl, .int qc, .int qs, .int (nI qw), .int (nI qb), .int (nI ql)])), (zm, .inl (cA, 16, .inl (if qs < 0 then F9 else jPut F9 16 x v)))] := (by simp only [if_neg c_4, jPut_no c_13])
      rw [e9] at hP9 hD9
      exact W.zret (ty := .boolean) (v := 0) hx hb hr rfl (fun t9 ht9 hW9 => ⟨⟨_, (), rfl, (show 0 = (jB (¬ qs < 0 ∧ jIn x 16)) from (jB_f (by first | exact fun h => h.1 c_4 | exact fun h => c_13 h.2)).symm), by rw [ht9]; exact hP9, hD9⟩, hS.F ht9⟩) hS.2.2 dX4_overwrite_17
set_option maxHeartbeats 4000000 in
set_option maxRecDepth 100000 in
theorem c_X4_shown (l : Launch) (D : va_G) (cA : ClassId) (h4 : Nat) (zc : Nat) (zj : Nat) (ze : Nat) (zt : Nat) (zo : Nat) (za : Nat) (zr : Nat) (zm : Nat) (zl : Nat) (nn : Nat) (zz : Nat) (ed : Nat) (qc : Int32) (qs : Int32) (qw : Nat) (qb : Nat) (ql : Nat) (F9 : Nat → Int32) (x : Int32) (hw : qw < 1000000) : Met l yX4_shown wsX4_shown ({ frames := 1, cells := 0, slots := 0, locals := 21 }) (roP D cA [.ref h4, .int x] [(h4, .inr (4, [.ref zc, .int (nI nn), .int (nI zz), .ref zj, .ref ze, .int (nI ed), .ref zt, .ref zo, .ref za, .ref zr, .ref zm, .ref zl, .int qc, .int qs, .int (nI qw), .int (nI qb), .int (nI ql)])), (zl, .inl (cA, 8, .inl F9))]) (QcRead (if qs < 0 then 0 else rShown F9 qw x)) 0 0 (fun _ => False) := by
  refine Met.ofW (cc := cX4_shown) (maxL := 2) (ret := (some .int)) (by decide) rfl ?_
  intro p e s m args below meth c s₁ B hml hv
  obtain ⟨rfl, hP, hK, hN⟩ := hv
  have hx := B.exec
  have hb := B.bytes
  have hr := B.returns
  have hts := atoms_spec (ws := wsX4_shown) B.pre
  have hown : s.vm.findClass RX4 = some m.cls := findClass_of_methodNamed B.named
  have hlocks := B.notSynchronized
  have hl := lv_entry ([.ref h4, .int x]) (n := 2) (Nat.le_of_ble_eq_true rfl)
  rw [lg_entry_eq]
  generalize (lg_sl ([.ref h4, .int x]) ++ List.replicate (2 - (lg_sl ([.ref h4, .int x])).length) Slot.unset).toArray = ls at hl ⊢
  have hl : lv_has ls 2 [(0, .ref h4), (1, .int x)] := hl
  refine lv_aload_n hx hb dX4_shown_0 rfl (lv_at hl 0 rfl) ?_
  refine va_get (D := D) (ci := 4) (v := .int qs) (C := RX4) (T := TX4) (N := 17) hx hb hts iw_X4_shown_X4 hown hK hP 0 rfl rfl 13 (by decide) (hts (.fieldLink RX4 37 "JumpGuardModel" "state" "I") (List.mem_of_getElem? (l := wsX4_shown) (i := 1) rfl)) (fun _ h9 => h9) rfl dX4_shown_1 ?_
  refine lv_if_lt (tgt := 24) hx hb dX4_shown_4 (by decide) (fun c_4 => ?_) (fun c_4 => ?_)
  · refine lv_iconst (v := 0) hx hb dX4_shown_24 (by decide) ?_
    refine lv_goto (tgt := 34) hx hb dX4_shown_25 (by decide) ?_
    exact W.iret (v := 0) hx hb hr (fun t9 ht9 hW9 => ⟨jk_ret (show 0 = (if qs < 0 then 0 else rShown F9 qw x) from (if_pos c_4).symm), ht9⟩) (fun q h => absurd h List.not_mem_nil) dX4_shown_34
  · refine lv_iload_n hx hb dX4_shown_7 rfl (lv_at hl 1 rfl) ?_
    refine lv_bipush (v := 7) hx hb dX4_shown_8 (by decide) ?_
    refine jr_i (va_runS (As := [.int x, .int 7]) (rest := []) ⟨hx, hb, hml, hown, hts⟩ (c_X4_within l D cA x 7) (va_cwS 2 hts gX4_shown_X4_within rfl rfl rfl hv_X4_within.2 ⟨Nat.le_of_ble_eq_true rfl, Nat.le_of_ble_eq_true rfl⟩) (roP.S (av := [.int x, .int 7]) (jP_sub (w2 := []) hP [] rfl) hK hN) rfl rfl hl.1 rfl (lv_room (Nat.le_of_ble_eq_true rfl)) dX4_shown_10 ⟨Nat.le_of_ble_eq_true rfl, Nat.le_of_ble_eq_true rfl⟩) ?_
    refine jk_top (show (jB (wI x 7)) = (jB (jIn x 8)) from jB_i (wI_c (n := 7) (by decide))) ?_
    refine lv_if_eq (tgt := 24) hx hb dX4_shown_13 (by decide) (fun c_13 => ?_) (fun c_13 => ?_)
    · replace c_13 := jB_z.mp c_13
      refine lv_iconst (v := 0) hx hb dX4_shown_24 (by decide) ?_
      refine lv_goto (tgt := 34) hx hb dX4_shown_25 (by decide) ?_
      exact W.iret (v := 0) hx hb hr (fun t9 ht9 hW9 => ⟨jk_ret (show 0 = (if qs < 0 then 0 else rShown F9 qw x) from (by rw [if_neg c_4]; exact (rShown_no (fun h => c_13 h.1)).symm)), ht9⟩) (fun q h => absurd h List.not_mem_nil) dX4_shown_34
    · replace c_13 := jB_nz.mp c_13
      refine lv_iload_n hx hb dX4_shown_16 rfl (lv_at hl 1 rfl) ?_
      refine lv_aload_n hx hb dX4_shown_17 rfl (lv_at hl 0 rfl) ?_
      refine va_get (D := D) (ci := 4) (v := .int (nI qw)) (C := RX4) (T := TX4) (N := 17) hx hb hts iw_X4_shown_X4 hown hK hP 0 rfl rfl 14 (by decide) (hts (.fieldLink RX4 81 "JumpGuardModel" "shows" "I") (List.mem_of_getElem? (l := wsX4_shown) (i := 2) rfl)) (fun _ h9 => h9) rfl dX4_shown_18 ?_
      refine lv_icmp_lt (tgt := 28) hx hb dX4_shown_21 (by decide) (fun c_21 => ?_) (fun c_21 => ?_)
      · obtain ⟨j, hj, rfl⟩ := jN_of (n := 8) (by decide) c_13
        have hjw : j < qw := (nI_ltI (by omega) (by omega)).mp c_21
        refine lv_aload_n hx hb dX4_shown_28 rfl (lv_at hl 0 rfl) ?_
        refine va_get (D := D) (ci := 4) (v := .ref zl) (C := RX4) (T := TX4) (N := 17) hx hb hts iw_X4_shown_X4 hown hK hP 0 rfl rfl 11 (by decide) (hts (.fieldLink RX4 34 "JumpGuardModel" "told" "[I") (List.mem_of_getElem? (l := wsX4_shown) (i := 3) rfl)) (fun _ h9 => h9) rfl dX4_shown_29 ?_
        refine lv_iload_n hx hb dX4_shown_32 rfl (lv_at hl 1 rfl) ?_
        refine jk_ald hx hb hK hP 1 0 rfl rfl (k := j) rfl (by omega) (by omega) dX4_shown_33 ?_
        exact W.iret (v := (F9 j)) hx hb hr (fun t9 ht9 hW9 => ⟨jk_ret (show (F9 j) = (if qs < 0 then 0 else rShown F9 qw (nI j)) from (by rw [if_neg c_4]; exact (rShown_at hj hjw (by omega)).symm)), ht9⟩) (fun q h => absurd h List.not_mem_nil) dX4_shown_34
      · refine lv_iconst (v := 0) hx hb dX4_shown_24 (by decide) ?_
        refine lv_goto (tgt := 34) hx hb dX4_shown_25 (by decide) ?_
        exact W.iret (v := 0) hx hb hr (fun t9 ht9 hW9 => ⟨jk_ret (show 0 = (if qs < 0 then 0 else rShown F9 qw x) from (by rw [if_neg c_4]; exact (rShown_no (fun h => h.2 (Int32.not_lt.mp c_21))).symm)), ht9⟩) (fun q h => absurd h List.not_mem_nil) dX4_shown_34
