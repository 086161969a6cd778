/-! ===== the reference: the running ===== -/
def rF (cd : Nat → Int32) (b : Nat) : Nat → Int32 := fun j => cd (b + j)
def tSh (T : Nat → Int32) (j : Nat) : Nat → Int32 := fun i => if j < i ∧ i < 8 then T (i - 1) else T i
theorem tSh_7 (T : Nat → Int32) : T = tSh T 7 := by
  funext i; unfold tSh; rw [if_neg (by omega)]
theorem tSh_s {T : Nat → Int32} {j : Nat} (h0 : 0 < j) (h : j ≤ 7) : upd (tSh T j) j (tSh T j (j - 1)) = tSh T (j - 1) := by
  funext i; unfold upd tSh
  by_cases q : i = j
  · subst q; rw [if_pos rfl, if_neg (by omega), if_pos (by omega)]
  · rw [if_neg q]
    by_cases q2 : j < i ∧ i < 8
    · rw [if_pos q2, if_pos (by omega)]
    · rw [if_neg q2, if_neg (by omega)]
def rvL (o : Nat) (a : Int32) (R T : Nat → Int32) : Nat → Int32 := if o = 5 then upd (tSh T 0) 0 (jAt R 4 a) else T
def rStep (f : Nat → Int32) (k : Nat) (x : MS) : MS :=
  (mvR (mOp f x.2.2.2.1) (f (x.2.2.2.1 * 3 + 1)) (f (x.2.2.2.1 * 3 + 2)) x.1 x.2.1,
   mvC (mOp f x.2.2.2.1) (f (x.2.2.2.1 * 3 + 1)) (f (x.2.2.2.1 * 3 + 2)) x.1 x.2.1,
   rvL (mOp f x.2.2.2.1) (f (x.2.2.2.1 * 3 + 1)) x.1 x.2.2.1,
   (if mvS (mOp f x.2.2.2.1) (f (x.2.2.2.1 * 3 + 1)) (f (x.2.2.2.1 * 3 + 2)) x.1 f k x.2.2.2.2.1 = 0 then (mvN (mOp f x.2.2.2.1) (f (x.2.2.2.1 * 3 + 1)) (f (x.2.2.2.1 * 3 + 2)) x.1 (nI x.2.2.2.1)).toNatClampNeg else x.2.2.2.1),
   mvS (mOp f x.2.2.2.1) (f (x.2.2.2.1 * 3 + 1)) (f (x.2.2.2.1 * 3 + 2)) x.1 f k x.2.2.2.2.1,
   mvW (mOp f x.2.2.2.1) x.2.2.2.2.2)
theorem rStep_eq {f : Nat → Int32} {k o : Nat} {x : MS} {a b : Int32} (hoo : mOp f x.2.2.2.1 = o) (ha : a = f (x.2.2.2.1 * 3 + 1)) (hb : b = f (x.2.2.2.1 * 3 + 2)) : rStep f k x = (mvR o a b x.1 x.2.1, mvC o a b x.1 x.2.1, rvL o a x.1 x.2.2.1, (if mvS o a b x.1 f k x.2.2.2.2.1 = 0 then (mvN o a b x.1 (nI x.2.2.2.1)).toNatClampNeg else x.2.2.2.1), mvS o a b x.1 f k x.2.2.2.2.1, mvW o x.2.2.2.2.2) := by
  unfold rStep; rw [hoo, ← ha, ← hb]
def rRun (f : Nat → Int32) (k : Nat) : Nat → MS → Nat × MS
  | 0, x => (0, x)
  | n + 1, x => if x.2.2.2.2.1 = 0 then ((rRun f k n (rStep f k x)).1 + 1, (rRun f k n (rStep f k x)).2) else (0, x)
theorem rS_pc {f : Nat → Int32} {k o : Nat} {x : MS} {a b v st : Int32} (hwf : mWF f k) (hi : x.2.2.2.1 < k) (hoo : mOp f x.2.2.2.1 = o) (ha : a = f (x.2.2.2.1 * 3 + 1)) (hb : b = f (x.2.2.2.1 * 3 + 2)) (hS : mvS o a b x.1 f k x.2.2.2.2.1 = st) (h0 : st = 0) (hn : mvN o a b x.1 (nI x.2.2.2.1) = v) : nI (if mvS o a b x.1 f k x.2.2.2.2.1 = 0 then (mvN o a b x.1 (nI x.2.2.2.1)).toNatClampNeg else x.2.2.2.1) = v := by
  have h1 : mvS o a b x.1 f k x.2.2.2.2.1 = 0 := hS.trans h0
  obtain ⟨t, ht, e⟩ := mStep_in hwf hi x.1 x.2.2.2.2.1 (by rw [hoo, ← ha, ← hb]; exact h1)
  rw [hoo, ← ha, ← hb] at e
  have hk := hwf.1
  rw [if_pos h1, e, nI_clamp (by omega), ← e, hn]
theorem rS_pcn {f : Nat → Int32} {k o : Nat} {x : MS} {a b st : Int32} (hS : mvS o a b x.1 f k x.2.2.2.2.1 = st) (h0 : ¬ st = 0) : nI (if mvS o a b x.1 f k x.2.2.2.2.1 = 0 then (mvN o a b x.1 (nI x.2.2.2.1)).toNatClampNeg else x.2.2.2.1) = nI x.2.2.2.1 := by
  rw [if_neg (by rw [hS]; exact h0)]
theorem mvR_19 {o t : Nat} {b : Int32} {R C : Nat → Int32} (ho : o = 1 ∨ o = 9) (h : t < 4) : upd R t b = mvR o (nI t) b R C := by
  unfold mvR; rw [if_pos ho]; exact (jPut_n (n := 4) h (by decide)).symm
theorem mvR_2 {t u : Nat} {R C : Nat → Int32} (h : t < 4) (hu : u < 16) : upd R t (C u) = mvR 2 (nI t) (nI u) R C := by
  show _ = jPut R 4 (nI t) (jAt C 16 (nI u))
  rw [show jAt C 16 (nI u) = C u from jAt_n (n := 16) hu (by decide)]
  exact (jPut_n (n := 4) h (by decide)).symm
theorem mvC_3 {t u : Nat} {R C : Nat → Int32} (h : t < 4) (hu : u < 16) : upd C u (R t) = mvC 3 (nI t) (nI u) R C := by
  show _ = jPut C 16 (nI u) (jAt R 4 (nI t))
  rw [show jAt R 4 (nI t) = R t from jAt_n (n := 4) h (by decide)]
  exact (jPut_n (n := 16) hu (by decide)).symm
theorem mvR_4 {t u : Nat} {R C : Nat → Int32} (h : t < 4) (hu : u < 4) : upd R t (R t + R u) = mvR 4 (nI t) (nI u) R C := by
  show _ = jPut R 4 (nI t) (jAt R 4 (nI t) + jAt R 4 (nI u))
  rw [show jAt R 4 (nI t) = R t from jAt_n (n := 4) h (by decide), show jAt R 4 (nI u) = R u from jAt_n (n := 4) hu (by decide)]
  exact (jPut_n (n := 4) h (by decide)).symm
theorem rvL_5 {t : Nat} {R T : Nat → Int32} (h : t < 4) : upd (tSh T 0) 0 (R t) = rvL 5 (nI t) R T := by
  show _ = upd (tSh T 0) 0 (jAt R 4 (nI t))
  rw [show jAt R 4 (nI t) = R t from jAt_n (n := 4) h (by decide)]
theorem mvN_7 {t : Nat} {b pc : Int32} {R : Nat → Int32} (h : t < 4) : mvN 7 (nI t) b R pc = if R t = 0 then b else pc + 1 := by
  show (if jAt R 4 (nI t) = 0 then b else pc + 1) = _
  rw [show jAt R 4 (nI t) = R t from jAt_n (n := 4) h (by decide)]
theorem mvN_8 {t : Nat} {b pc : Int32} {R : Nat → Int32} (h : t < 4) : mvN 8 (nI t) b R pc = R t := jAt_n (n := 4) h (by decide)
theorem mvS_8 {t k : Nat} {b st : Int32} {R f : Nat → Int32} (h : t < 4) : mvS 8 (nI t) b R f k st = if jIn (R t) (nI k) then st else 3 := by
  show (if jIn (jAt R 4 (nI t)) (nI k) then st else 3) = _
  rw [show jAt R 4 (nI t) = R t from jAt_n (n := 4) h (by decide)]
theorem mvS_11 {t k : Nat} {b st : Int32} {R f : Nat → Int32} (h : t < 4) : mvS 11 (nI t) b R f k st = if pGet f k (R t) 0 = 10 ∧ pGet f k (R t) 1 = b then st else 2 := by
  show (if pGet f k (jAt R 4 (nI t)) 0 = 10 ∧ pGet f k (jAt R 4 (nI t)) 1 = b then st else 2) = _
  rw [show jAt R 4 (nI t) = R t from jAt_n (n := 4) h (by decide)]
theorem rG_at0 {cd : Nat → Int32} {qb ql t : Nat} {x : Int32} (hl : ql ≤ 72) (e : x = nI t) (h : t < ql) : pGet (rF cd qb) ql x 0 = cd (qb + 3 * t) := by
  rw [e]
  have h1 : pGet (rF cd qb) ql (nI t) (nI 0) = rF cd qb (t * 3 + 0) := pGet_at h (by decide) (by omega)
  have h2 : rF cd qb (t * 3 + 0) = cd (qb + 3 * t) := by unfold rF; rw [Nat.mul_comm]; rfl
  exact h1.trans h2
theorem rG_at1 {cd : Nat → Int32} {qb ql t : Nat} {x : Int32} (hl : ql ≤ 72) (e : x = nI t) (h : t < ql) : pGet (rF cd qb) ql x 1 = cd (qb + 3 * t + 1) := by
  rw [e]
  have h1 : pGet (rF cd qb) ql (nI t) (nI 1) = rF cd qb (t * 3 + 1) := pGet_at h (by decide) (by omega)
  have h2 : rF cd qb (t * 3 + 1) = cd (qb + 3 * t + 1) := by unfold rF; rw [Nat.mul_comm, Nat.add_assoc]
  exact h1.trans h2
theorem rG_out {f : Nat → Int32} {k : Nat} {x y : Int32} (h : ¬ jIn x (nI k)) : ¬ pGet f k x y = 10 := by
  rw [pGet_no (fun q => h q.1)]; decide
theorem rRun_stop {f : Nat → Int32} {k n : Nat} {x : MS} (h : ¬ x.2.2.2.2.1 = 0) : rRun f k n x = (0, x) := by
  cases n with
  | zero => rfl
  | succ n => show (if _ then _ else _) = _; rw [if_neg h]
theorem rRun_s {f : Nat → Int32} {k n : Nat} {x : MS} (h : x.2.2.2.2.1 = 0) : rRun f k (n + 1) x = ((rRun f k n (rStep f k x)).1 + 1, (rRun f k n (rStep f k x)).2) := by
  show (if _ then _ else _) = _
  rw [if_pos h]
theorem rRun_next {f : Nat → Int32} {k nn i md : Nat} {x y : MS} (hlt : i < nn) (hrun : rRun f k nn x = (md + (rRun f k (nn - i) y).1, (rRun f k (nn - i) y).2)) (h : y.2.2.2.2.1 = 0) : rRun f k nn x = ((md + 1) + (rRun f k (nn - (i + 1)) (rStep f k y)).1, (rRun f k (nn - (i + 1)) (rStep f k y)).2) := by
  rw [hrun, show nn - i = (nn - (i + 1)) + 1 by omega, rRun_s h]
  exact Prod.ext (by show _ + (_ + 1) = _; omega) rfl
theorem rRun_same {f : Nat → Int32} {k nn i md : Nat} {x y : MS} (hrun : rRun f k nn x = (md + (rRun f k (nn - i) y).1, (rRun f k (nn - i) y).2)) (h : nn ≤ i ∨ ¬ y.2.2.2.2.1 = 0) : rRun f k nn x = (md + (rRun f k (nn - (i + 1)) y).1, (rRun f k (nn - (i + 1)) y).2) := by
  rcases h with h | h
  · rw [hrun, show nn - i = 0 by omega, show nn - (i + 1) = 0 by omega]
  · rw [hrun, rRun_stop h, rRun_stop h]
theorem rStep_lt {f : Nat → Int32} {k : Nat} (hwf : mWF f k) {x : MS} (hi : x.2.2.2.1 < k) : (rStep f k x).2.2.2.2.1 = 0 → (rStep f k x).2.2.2.1 < k := mStep_lt (x := (x.1, x.2.1, x.2.2.1, x.2.2.2.1, x.2.2.2.2.1, x.2.2.2.2.2)) hwf hi
theorem rStep_w (f : Nat → Int32) (k : Nat) (x : MS) : (rStep f k x).2.2.2.2.2 ≤ x.2.2.2.2.2 + 1 := mStep_w f k x
theorem rCnt_big {k : Int32} (h : 1000 < k) : rCnt k = 0 := if_neg (fun q => q.2 h)
theorem rCnt_le {k : Int32} {i : Nat} (h : ¬ 1000 < k) (hk : k ≤ nI i) (hi : i ≤ 1000) : rCnt k ≤ i := by
  by_cases q : k < 0
  · rw [show rCnt k = 0 from if_neg (fun z => z.1 q)]; omega
  · obtain ⟨n8, hn8, rfl⟩ := jN_of (x := k) (n := 1001) (by decide) (rCnt_in q h)
    rw [rCnt_n (by omega)]
    exact (nI_leI (by omega) (by omega)).mp hk
theorem rCnt_gt {k : Int32} {i : Nat} (h : ¬ 1000 < k) (hk : ¬ k ≤ nI i) (hi : i ≤ 1000) : i < rCnt k := by
  by_cases q : k < 0
  · have h1 := Int32.lt_iff_toInt_lt.mp q
    exact absurd (Int32.le_iff_toInt_le.mpr (by rw [nI_toInt (by omega)]; have e : (0 : Int32).toInt = 0 := rfl; rw [e] at h1; omega)) hk
  · obtain ⟨n8, hn8, rfl⟩ := jN_of (x := k) (n := 1001) (by decide) (rCnt_in q h)
    rw [rCnt_n (by omega)]
    rcases Nat.lt_or_ge i n8 with z | z
    · exact z
    · exact absurd (nI_le z (by omega)) hk
theorem rCnt_max (k : Int32) : rCnt k ≤ 1000 := by
  by_cases h : ¬ k < 0 ∧ ¬ 1000 < k
  · obtain ⟨n8, hn8, rfl⟩ := jN_of (x := k) (n := 1001) (by decide) (rCnt_in h.1 h.2)
    rw [rCnt_n (by omega)]; omega
  · rw [show rCnt k = 0 from if_neg h]; omega
theorem iw_X4_run_X4 : ∀ w ∈ wsX40, w ∈ wsX4_run := by decide +kernel
theorem iw_X4_start_X4 : ∀ w ∈ wsX40, w ∈ wsX4_start := by decide +kernel
theorem iw_X4_step_X4 : ∀ w ∈ wsX40, w ∈ wsX4_step := by decide +kernel
theorem hv_X4_step : yX4_step.cls = RX4 ∧ yX4_step.cls ≠ "java/lang/invoke/MethodHandle" ∧ yX4_step.cls ≠ "java/lang/invoke/VarHandle" ∧ (parseMethodDescriptor yX4_step.desc).map (fun d => d.parameters.length) = some 0 := by decide +kernel
set_option maxHeartbeats 4000000 in
set_option maxRecDepth 100000 in
theorem c_X4_start_no (l : Launch) (D : va_G) (cA : ClassId) (h4 : Nat) (zc : Nat) (zj : Nat) (ze : Nat) (zt : Nat) (zo : Nat) (za : Nat) (zr : Nat) (zm : Nat) (zl : Nat) (nn : Nat) (zz : Nat) (ed : Nat) (qc : Int32) (qs : Int32) (qw : Nat) (qb : Nat) (ql : Nat) (x : Int32) (hz : zz = 0) : Met l yX4_start wsX4_start ({ frames := 0, cells := 0, slots := 0, locals := 0 }) (roP D cA [.ref h4, .int x] [(h4, .inr (4, [.ref zc, .int (nI nn), .int (nI zz), .ref zj, .ref ze, .int (nI ed), .ref zt, .ref zo, .ref za, .ref zr, .ref zm, .ref zl, .int qc, .int qs, .int (nI qw), .int (nI qb), .int (nI ql)]))]) (QcRead 0) 0 0 (fun _ => False) := by
  refine Met.ofW (cc := cX4_start) (maxL := 3) (ret := (some .boolean)) (by decide) rfl ?_
  intro p e s m args below meth c s₁ B hml hv
  obtain ⟨rfl, hP, hK, hN⟩ := hv
  have hx := B.exec
  have hb := B.bytes
  have hr := B.returns
  have hts := atoms_spec (ws := wsX4_start) B.pre
  have hown : s.vm.findClass RX4 = some m.cls := findClass_of_methodNamed B.named
  have hlocks := B.notSynchronized
  have hl := lv_entry ([.ref h4, .int x]) (n := 3) (Nat.le_of_ble_eq_true rfl)
  rw [lg_entry_eq]
  generalize (lg_sl ([.ref h4, .int x]) ++ List.replicate (3 - (lg_sl ([.ref h4, .int x])).length) Slot.unset).toArray = ls at hl ⊢
  have hl : lv_has ls 3 [(0, .ref h4), (1, .int x)] := hl
  refine lv_aload_n hx hb dX4_start_0 rfl (lv_at hl 0 rfl) ?_
  refine va_get (D := D) (ci := 4) (v := .int (nI zz)) (C := RX4) (T := TX4) (N := 17) hx hb hts iw_X4_start_X4 hown hK hP 0 rfl rfl 2 (by decide) (hts (.fieldLink RX4 45 "JumpGuardModel" "size" "I") (List.mem_of_getElem? (l := wsX4_start) (i := 1) rfl)) (fun _ h9 => h9) rfl dX4_start_1 ?_
  refine lv_if_ne (tgt := 9) hx hb dX4_start_4 (by decide) (fun c_4 => ?_) (fun c_4 => ?_)
  · exact absurd (show nI zz = 0 by rw [hz]; rfl) c_4
  · refine lv_iconst (v := 0) hx hb dX4_start_7 (by decide) ?_
    exact W.zret (ty := .boolean) (v := 0) hx hb hr rfl (fun t9 ht9 hW9 => ⟨jk_ret (show 0 = 0 from rfl), ht9⟩) (fun q h => absurd h List.not_mem_nil) dX4_start_8
set_option maxHeartbeats 4000000 in
set_option maxRecDepth 100000 in
theorem c_X4_start_g (l : Launch) (D : va_G) (cA : ClassId) (sz : Nat) (h4 : Nat) (zc : Nat) (zj : Nat) (ze : Nat) (zt : Nat) (zo : Nat) (za : Nat) (zr : Nat) (zm : Nat) (zl : Nat) (nn : Nat) (zz : Nat) (ed : Nat) (qc : Int32) (qs : Int32) (qw : Nat) (qb : Nat) (ql : Nat) (R9 : Nat → Int32) (M9 : Nat → Int32) (x : Int32) (hz : 0 < zz) (hz72 : zz ≤ 72) (hx0 : ¬ x = 0) : Met l yX4_start wsX4_start ({ frames := 0, cells := 0, slots := 0, locals := 0 }) (rwP D cA [.ref h4, .int x] sz [(h4, .inr (4, [.ref zc, .int (nI nn), .int (nI zz), .ref zj, .ref ze, .int (nI ed), .ref zt, .ref zo, .ref za, .ref zr, .ref zm, .ref zl, .int qc, .int qs, .int (nI qw), .int (nI qb), .int (nI ql)])), (zr, .inl (cA, 4, .inl R9)), (zm, .inl (cA, 16, .inl M9))]) (rwI D (va_A [(h4, .inr (4, [.ref zc, .int (nI nn), .int (nI zz), .ref zj, .ref ze, .int (nI ed), .ref zt, .ref zo, .ref za, .ref zr, .ref zm, .ref zl, .int qc, .int qs, .int (nI qw), .int (nI qb), .int (nI ql)])), (zr, .inl (cA, 4, .inl R9)), (zm, .inl (cA, 16, .inl M9))] sz) 1 [(h4, .inr (4, [.ref zc, .int (nI nn), .int (nI zz), .ref zj, .ref ze, .int (nI ed), .ref zt, .ref zo, .ref za, .ref zr, .ref zm, .ref zl, .int 0, .int 0, .int (nI 0), .int 72, .int (nI zz)])), (zr, .inl (cA, 4, .inl (jFill R9 0 4))), (zm, .inl (cA, 16, .inl (jFill M9 0 16)))]) 0 0 (va_A [(h4, .inr (4, [.ref zc, .int (nI nn), .int (nI zz), .ref zj, .ref ze, .int (nI ed), .ref zt, .ref zo, .ref za, .ref zr, .ref zm, .ref zl, .int qc, .int qs, .int (nI qw), .int (nI qb), .int (nI ql)])), (zr, .inl (cA, 4, .inl R9)), (zm, .inl (cA, 16, .inl M9))] sz) := by
  refine Met.ofW (cc := cX4_start) (maxL := 3) (ret := (some .boolean)) (by decide) rfl ?_
  intro p e s m args below meth c s₁ B hml hv
  obtain ⟨rfl, hsz, hP, hK, hN, hD0⟩ := hv
  have hx := B.exec
  have hb := B.bytes
  have hr := B.returns
  have hts := atoms_spec (ws := wsX4_start) B.pre
  have hown : s.vm.findClass RX4 = some m.cls := findClass_of_methodNamed B.named
  have hlocks := B.notSynchronized
  subst hsz
  have hD := hD0.self (sz := s.heap.size)
  generalize hAe : va_A [(h4, .inr (4, [.ref zc, .int (nI nn), .int (nI zz), .ref zj, .ref ze, .int (nI ed), .ref zt, .ref zo, .ref za, .ref zr, .ref zm, .ref zl, .int qc, .int qs, .int (nI qw), .int (nI qb), .int (nI ql)])), (zr, .inl (cA, 4, .inl R9)), (zm, .inl (cA, 16, .inl M9))] s.heap.size = A at hD ⊢
  have hA : ∀ q : Nat, s.heap.size ≤ q → A q := fun q h => by rw [← hAe]; exact Or.inr h
  have hS : va_S A s.heap s.heap [] := va_S.rf
  have hl := lv_entry ([.ref h4, .int x]) (n := 3) (Nat.le_of_ble_eq_true rfl)
  rw [lg_entry_eq]
  generalize (lg_sl ([.ref h4, .int x]) ++ List.replicate (3 - (lg_sl ([.ref h4, .int x])).length) Slot.unset).toArray = ls at hl ⊢
  have hl : lv_has ls 3 [(0, .ref h4), (1, .int x)] := hl
  refine lv_aload_n hx hb dX4_start_0 rfl (lv_at hl 0 rfl) ?_
  refine va_get (D := D) (ci := 4) (v := .int (nI zz)) (C := RX4) (T := TX4) (N := 17) hx hb hts iw_X4_start_X4 hown hK hP 0 rfl rfl 2 (by decide) (hts (.fieldLink RX4 45 "JumpGuardModel" "size" "I") (List.mem_of_getElem? (l := wsX4_start) (i := 1) rfl)) (fun _ h9 => h9) rfl dX4_start_1 ?_
  refine lv_if_ne (tgt := 9) hx hb dX4_start_4 (by decide) (fun c_4 => ?_) (fun c_4 => ?_)
  · refine lv_aload_n hx hb dX4_start_9 rfl (lv_at hl 0 rfl) ?_
    refine lv_iload_n hx hb dX4_start_10 rfl (lv_at hl 1 rfl) ?_
    refine lv_if_eq (tgt := 19) hx hb dX4_start_11 (by decide) (fun c_11 => ?_) (fun c_11 => ?_)
    · exact absurd c_11 hx0
    · refine lv_bipush (v := 72) hx hb dX4_start_14 (by decide) ?_
      refine lv_goto (tgt := 20) hx hb dX4_start_16 (by decide) ?_
      refine va_put (D := D) (ci := 4) (v := .int 72) (ty := .int) (C := RX4) (T := TX4) (N := 17) hx hb hts iw_X4_start_X4 tyX4 tyX4_ok nmX4 hown hK hP hD hS 0 rfl rfl 15 (by decide) (hts (.fieldLink RX4 72 "JumpGuardModel" "base" "I") (List.mem_of_getElem? (l := wsX4_start) (i := 2) rfl)) (fun _ h9 => h9) rfl (by decide +kernel) rfl rfl (Nat.le_of_ble_eq_true rfl) dX4_start_20 (fun H locs hP hD hS => ?_)
      have hP : va_P D vwCl [(h4, .inr (4, [.ref zc, .int (nI nn), .int (nI zz), .ref zj, .ref ze, .int (nI ed), .ref zt, .ref zo, .ref za, .ref zr, .ref zm, .ref zl, .int qc, .int qs, .int (nI qw), .int 72, .int (nI ql)])), (zr, .inl (cA, 4, .inl R9)), (zm, .inl (cA, 16, .inl M9))] H := hP
      have hD : va_D A [(h4, .inr (4, [.ref zc, .int (nI nn), .int (nI zz), .ref zj, .ref ze, .int (nI ed), .ref zt, .ref zo, .ref za, .ref zr, .ref zm, .ref zl, .int qc, .int qs, .int (nI qw), .int 72, .int (nI ql)])), (zr, .inl (cA, 4, .inl R9)), (zm, .inl (cA, 16, .inl M9))] := hD
      refine lv_aload_n hx hb dX4_start_23 rfl (lv_at hl 0 rfl) ?_
      refine lv_iload_n hx hb dX4_start_24 rfl (lv_at hl 1 rfl) ?_
      refine lv_if_eq (tgt := 35) hx hb dX4_start_25 (by decide) (fun c_25 => ?_) (fun c_25 => ?_)
      · exact absurd c_25 hx0
      · refine lv_aload_n hx hb dX4_start_28 rfl (lv_at hl 0 rfl) ?_
        refine va_get (D := D) (ci := 4) (v := .int (nI zz)) (C := RX4) (T := TX4) (N := 17) hx hb hts iw_X4_start_X4 hown hK hP 0 rfl rfl 2 (by decide) (hts (.fieldLink RX4 45 "JumpGuardModel" "size" "I") (List.mem_of_getElem? (l := wsX4_start) (i := 1) rfl)) (fun _ h9 => h9) rfl dX4_start_29 ?_
        refine lv_goto (tgt := 39) hx hb dX4_start_32 (by decide) ?_
        refine va_put (D := D) (ci := 4) (v := .int (nI zz)) (ty := .int) (C := RX4) (T := TX4) (N := 17) hx hb hts iw_X4_start_X4 tyX4 tyX4_ok nmX4 hown hK hP hD hS 0 rfl rfl 16 (by decide) (hts (.fieldLink RX4 75 "JumpGuardModel" "length" "I") (List.mem_of_getElem? (l := wsX4_start) (i := 4) rfl)) (fun _ h9 => h9) rfl (by decide +kernel) rfl rfl (Nat.le_of_ble_eq_true rfl) dX4_start_39 (fun H locs hP hD hS => ?_)
        have hP : va_P D vwCl [(h4, .inr (4, [.ref zc, .int (nI nn), .int (nI zz), .ref zj, .ref ze, .int (nI ed), .ref zt, .ref zo, .ref za, .ref zr, .ref zm, .ref zl, .int qc, .int qs, .int (nI qw), .int 72, .int (nI zz)])), (zr, .inl (cA, 4, .inl R9)), (zm, .inl (cA, 16, .inl M9))] H := hP
        have hD : va_D A [(h4, .inr (4, [.ref zc, .int (nI nn), .int (nI zz), .ref zj, .ref ze, .int (nI ed), .ref zt, .ref zo, .ref za, .ref zr, .ref zm, .ref zl, .int qc, .int qs, .int (nI qw), .int 72, .int (nI zz)])), (zr, .inl (cA, 4, .inl R9)), (zm, .inl (cA, 16, .inl M9))] := hD
        refine lv_iconst (v := 0) hx hb dX4_start_42 (by decide) ?_
        refine lv_istore_n (lv' := [(2, .int 0), (0, .ref h4), (1, .int x)]) hx hb dX4_start_43 rfl hl (by decide) rfl (fun ls hl => ?_)
        have loop44 : ∀ (n : Nat) (i : Nat) (F4 : Nat → Int32), (i ≤ 4) → (5 ≤ i + n) → (F4 = jFill R9 0 i) → ∀ (H : Heap) (locs : List Loc), va_P D vwCl [(h4, .inr (4, [.ref zc, .int (nI nn), .int (nI zz), .ref zj, .ref ze, .int (nI ed), .ref zt, .ref zo, .ref za, .ref zr, .ref zm, .ref zl, .int qc, .int qs, .int (nI qw), .int 72, .int (nI zz)])), (zr, .inl (cA, 4, .inl F4)), (zm, .inl (cA, 16, .inl M9))] H → va_D A [(h4, .inr (4, [.ref zc, .int (nI nn), .int (nI zz), .ref zj, .ref ze, .int (nI ed), .ref zt, .ref zo, .ref za, .ref zr, .ref zm, .ref zl, .int qc, .int qs, .int (nI qw), .int 72, .int (nI zz)])), (zr, .inl (cA, 4, .inl F4)), (zm, .inl (cA, 16, .inl M9))] → va_S A s.heap H locs → ∀ (ls : Array Slot), lv_has ls 3 [(0, .ref h4), (1, .int x), (2, .int (nI i))] → W p l e (headSpec wsX4_start ({ frames := 0, cells := 0, slots := 0, locals := 0 })).room s m ([.ref h4, .int x] : List Value).toArray below meth c H locs 0 0 (MQ below (rwI D A 1 [(h4, .inr (4, [.ref zc, .int (nI nn), .int (nI zz), .ref zj, .ref ze, .int (nI ed), .ref zt, .ref zo, .ref za, .ref zr, .ref zm, .ref zl, .int 0, .int 0, .int (nI 0), .int 72, .int (nI zz)])), (zr, .inl (cA, 4, .inl (jFill R9 0 4))), (zm, .inl (cA, 16, .inl (jFill M9 0 16)))]) ([.ref h4, .int x] : List Value).toArray s 0 0 A) (F0 m 44 ls []) := by
          intro n
          induction n with
          | zero => intro i F4 hi hfu hF4; exact absurd hfu (by omega)
          | succ n ih44 =>
            intro i F4 hi hfu hF4 H locs hP hD hS ls hl
            refine lv_iload_n hx hb dX4_start_44 rfl (lv_at hl 2 rfl) ?_
            refine lv_iconst (v := 4) hx hb dX4_start_45 (by decide) ?_
            refine lv_icmp_ge (tgt := 62) hx hb dX4_start_46 (by decide) (fun c_46 => ?_) (fun c_46 => ?_)
            · have hi2 : i = 4 := by
                rcases Nat.lt_or_ge i 4 with q | q
                · exact absurd c_46 (nI_ge q (by decide))
                · omega
              subst hi2
              subst hF4
              refine lv_iconst (v := 0) hx hb dX4_start_62 (by decide) ?_
              refine lv_istore_n (lv' := [(2, .int 0), (0, .ref h4), (1, .int x)]) hx hb dX4_start_63 rfl hl (by decide) rfl (fun ls hl => ?_)
              have loop64 : ∀ (n : Nat) (i : Nat) (F16 : Nat → Int32), (i ≤ 16) → (17 ≤ i + n) → (F16 = jFill M9 0 i) → ∀ (H : Heap) (locs : List Loc), va_P D vwCl [(h4, .inr (4, [.ref zc, .int (nI nn), .int (nI zz), .ref zj, .ref ze, .int (nI ed), .ref zt, .ref zo, .ref za, .ref zr, .ref zm, .ref zl, .int qc, .int qs, .int (nI qw), .int 72, .int (nI zz)])), (zr, .inl (cA, 4, .inl (jFill R9 0 4))), (zm, .inl (cA, 16, .inl F16))] H → va_D A [(h4, .inr (4, [.ref zc, .int (nI nn), .int (nI zz), .ref zj, .ref ze, .int (nI ed), .ref zt, .ref zo, .ref za, .ref zr, .ref zm, .ref zl, .int qc, .int qs, .int (nI qw), .int 72, .int (nI zz)])), (zr, .inl (cA, 4, .inl (jFill R9 0 4))), (zm, .inl (cA, 16, .inl F16))] → va_S A s.heap H locs → ∀ (ls : Array Slot), lv_has ls 3 [(0, .ref h4), (1, .int x), (2, .int (nI i))] → W p l e (headSpec wsX4_start ({ frames := 0, cells := 0, slots := 0, locals := 0 })).room s m ([.ref h4, .int x] : List Value).toArray below meth c H locs 0 0 (MQ below (rwI D A 1 [(h4, .inr (4, [.ref zc, .int (nI nn), .int (nI zz), .ref zj, .ref ze, .int (nI ed), .ref zt, .ref zo, .ref za, .ref zr, .ref zm, .ref zl, .int 0, .int 0, .int (nI 0), .int 72, .int (nI zz)])), (zr, .inl (cA, 4, .inl (jFill R9 0 4))), (zm, .inl (cA, 16, .inl (jFill M9 0 16)))]) ([.ref h4, .int x] : List Value).toArray s 0 0 A) (F0 m 64 ls []) := by
                intro n
                induction n with
                | zero => intro i F16 hi hfu hF16; exact absurd hfu (by omega)
                | succ n ih64 =>
                  intro i F16 hi hfu hF16 H locs hP hD hS ls hl
                  refine lv_iload_n hx hb dX4_start_64 rfl (lv_at hl 2 rfl) ?_
                  refine lv_bipush (v := 16) hx hb dX4_start_65 (by decide) ?_
                  refine lv_icmp_ge (tgt := 83) hx hb dX4_start_67 (by decide) (fun c_67 => ?_) (fun c_67 => ?_)
                  · have hi2 : i = 16 := by
                      rcases Nat.lt_or_ge i 16 with q | q
                      · exact absurd c_67 (nI_ge q (by decide))
                      · omega
                    subst hi2
                    subst hF16
                    refine lv_aload_n hx hb dX4_start_83 rfl (lv_at hl 0 rfl) ?_
                    refine lv_iconst (v := 0) hx hb dX4_start_84 (by decide) ?_
                    refine va_put (D := D) (ci := 4) (v := .int 0) (ty := .int) (C := RX4) (T := TX4) (N := 17) hx hb hts iw_X4_start_X4 tyX4 tyX4_ok nmX4 hown hK hP hD hS 0 rfl rfl 12 (by decide) (hts (.fieldLink RX4 78 "JumpGuardModel" "pc" "I") (List.mem_of_getElem? (l := wsX4_start) (i := 7) rfl)) (fun _ h9 => h9) rfl (by decide +kernel) rfl rfl (Nat.le_of_ble_eq_true rfl) dX4_start_85 (fun H locs hP hD hS => ?_)
                    have hP : va_P D vwCl [(h4, .inr (4, [.ref zc, .int (nI nn), .int (nI zz), .ref zj, .ref ze, .int (nI ed), .ref zt, .ref zo, .ref za, .ref zr, .ref zm, .ref zl, .int 0, .int qs, .int (nI qw), .int 72, .int (nI zz)])), (zr, .inl (cA, 4, .inl (jFill R9 0 4))), (zm, .inl (cA, 16, .inl (jFill M9 0 16)))] H := hP
                    have hD : va_D A [(h4, .inr (4, [.ref zc, .int (nI nn), .int (nI zz), .ref zj, .ref ze, .int (nI ed), .ref zt, .ref zo, .ref za, .ref zr, .ref zm, .ref zl, .int 0, .int qs, .int (nI qw), .int 72, .int (nI zz)])), (zr, .inl (cA, 4, .inl (jFill R9 0 4))), (zm, .inl (cA, 16, .inl (jFill M9 0 16)))] := hD
                    refine lv_aload_n hx hb dX4_start_88 rfl (lv_at hl 0 rfl) ?_
                    refine lv_iconst (v := 0) hx hb dX4_start_89 (by decide) ?_
                    refine va_put (D := D) (ci := 4) (v := .int 0) (ty := .int) (C := RX4) (T := TX4) (N := 17) hx hb hts iw_X4_start_X4 tyX4 tyX4_ok nmX4 hown hK hP hD hS 0 rfl rfl 13 (by decide) (hts (.fieldLink RX4 37 "JumpGuardModel" "state" "I") (List.mem_of_getElem? (l := wsX4_start) (i := 8) rfl)) (fun _ h9 => h9) rfl (by decide +kernel) rfl rfl (Nat.le_of_ble_eq_true rfl) dX4_start_90 (fun H locs hP hD hS => ?_)
                    have hP : va_P D vwCl [(h4, .inr (4, [.ref zc, .int (nI nn), .int (nI zz), .ref zj, .ref ze, .int (nI ed), .ref zt, .ref zo, .ref za, .ref zr, .ref zm, .ref zl, .int 0, .int 0, .int (nI qw), .int 72, .int (nI zz)])), (zr, .inl (cA, 4, .inl (jFill R9 0 4))), (zm, .inl (cA, 16, .inl (jFill M9 0 16)))] H := hP
                    have hD : va_D A [(h4, .inr (4, [.ref zc, .int (nI nn), .int (nI zz), .ref zj, .ref ze, .int (nI ed), .ref zt, .ref zo, .ref za, .ref zr, .ref zm, .ref zl, .int 0, .int 0, .int (nI qw), .int 72, .int (nI zz)])), (zr, .inl (cA, 4, .inl (jFill R9 0 4))), (zm, .inl (cA, 16, .inl (jFill M9 0 16)))] := hD
                    refine lv_aload_n hx hb dX4_start_93 rfl (lv_at hl 0 rfl) ?_
                    refine lv_iconst (v := 0) hx hb dX4_start_94 (by decide) ?_
                    refine va_put (D := D) (ci := 4) (v := .int 0) (ty := .int) (C := RX4) (T := TX4) (N := 17) hx hb hts iw_X4_start_X4 tyX4 tyX4_ok nmX4 hown hK hP hD hS 0 rfl rfl 14 (by decide) (hts (.fieldLink RX4 81 "JumpGuardModel" "shows" "I") (List.mem_of_getElem? (l := wsX4_start) (i := 9) rfl)) (fun _ h9 => h9) rfl (by decide +kernel) rfl rfl (Nat.le_of_ble_eq_true rfl) dX4_start_95 (fun H locs hP hD hS => ?_)
                    have hP : va_P D vwCl [(h4, .inr (4, [.ref zc, .int (nI nn), .int (nI zz), .ref zj, .ref ze, .int (nI ed), .ref zt, .ref zo, .ref za, .ref zr, .ref zm, .ref zl, .int 0, .int 0, .int 0, .int 72, .int (nI zz)])), (zr, .inl (cA, 4, .inl (jFill R9 0 4))), (zm, .inl (cA, 16, .inl (jFill M9 0 16)))] H := hP
                    have hD : va_D A [(h4, .inr (4, [.ref zc, .int (nI nn), .int (nI zz), .ref zj, .ref ze, .int (nI ed), .ref zt, .ref zo, .ref za, .ref zr, .ref zm, .ref zl, .int 0, .int 0, .int 0, .int 72, .int (nI zz)])), (zr, .inl (cA, 4, .inl (jFill R9 0 4))), (zm, .inl (cA, 16, .inl (jFill M9 0 16)))] := hD
                    refine lv_iconst (v := 1) hx hb dX4_start_98 (by decide) ?_
                    obtain ⟨hP9, hD9⟩ := jk_end (w2 := [(h4, .inr (4, [.ref zc, .int (nI nn), .int (nI zz), .ref zj, .ref ze, .int (nI ed), .ref zt, .ref zo, .ref za, .ref zr, .ref zm, .ref zl, .int 0, .int 0, .int 0, .int 72, .int (nI zz)])), (zr, .inl (cA, 4, .inl (jFill R9 0 4))), (zm, .inl (cA, 16, .inl (jFill M9 0 16)))]) hP hD [0, 1, 2] (by decide) rfl
                    have e9 : ([(h4, .inr (4, [.ref zc, .int (nI nn), .int (nI zz), .ref zj, .ref ze, .int (nI ed), .ref zt, .ref zo, .ref za, .ref zr, .ref zm, .ref zl, .int 0, .int 0, .int 0, .int 72, .int (nI zz)])), (zr, .inl (cA, 4, .inl (jFill R9 0 4))), (zm, .inl (cA, 16, .inl (jFill M9 0 16)))] : va_W) = [(h4, .inr (4, [.ref zc, .int (nI nn), .int (nI zz), .ref zj, .ref ze, .int (nI ed), .ref zt, .ref zo, .ref za, .ref zr, .ref zm, .ref zl, .int 0, .int 0, .int (nI 0), .int 72, .int (nI zz)])), (zr, .inl (cA, 4, .inl (jFill R9 0 4))), (zm, .inl (cA, 16, .inl (jFill M9 0 16)))] := rfl
                    rw [e9] at hP9 hD9
                    exact W.zret (ty := .boolean) (v := 1) hx hb hr rfl (fun t9 ht9 hW9 => ⟨⟨_, (), rfl, (show 1 = 1 from rfl), by rw [ht9]; exact hP9, hD9⟩, hS.F ht9⟩) hS.2.2 dX4_start_99
                  · have hi2 : i < 16 := by
                      rcases Nat.lt_or_ge i 16 with q | q
                      · exact q
                      · exact absurd (nI_le q (by omega)) c_67
                    refine lv_aload_n hx hb dX4_start_70 rfl (lv_at hl 0 rfl) ?_
                    refine va_get (D := D) (ci := 4) (v := .ref zm) (C := RX4) (T := TX4) (N := 17) hx hb hts iw_X4_start_X4 hown hK hP 0 rfl rfl 10 (by decide) (hts (.fieldLink RX4 31 "JumpGuardModel" "mem" "[I") (List.mem_of_getElem? (l := wsX4_start) (i := 6) rfl)) (fun _ h9 => h9) rfl dX4_start_71 ?_
                    refine lv_iload_n hx hb dX4_start_74 rfl (lv_at hl 2 rfl) ?_
                    refine lv_iconst (v := 0) hx hb dX4_start_75 (by decide) ?_
                    refine jk_ast hx hb hK hP hD hS 2 0 rfl rfl (k := i) rfl (by omega) (by omega) dX4_start_76 (fun H locs hP hD hS => ?_)
                    have hP : va_P D vwCl [(h4, .inr (4, [.ref zc, .int (nI nn), .int (nI zz), .ref zj, .ref ze, .int (nI ed), .ref zt, .ref zo, .ref za, .ref zr, .ref zm, .ref zl, .int qc, .int qs, .int (nI qw), .int 72, .int (nI zz)])), (zr, .inl (cA, 4, .inl (jFill R9 0 4))), (zm, .inl (cA, 16, .inl (upd F16 i 0)))] H := hP
                    have hD : va_D A [(h4, .inr (4, [.ref zc, .int (nI nn), .int (nI zz), .ref zj, .ref ze, .int (nI ed), .ref zt, .ref zo, .ref za, .ref zr, .ref zm, .ref zl, .int qc, .int qs, .int (nI qw), .int 72, .int (nI zz)])), (zr, .inl (cA, 4, .inl (jFill R9 0 4))), (zm, .inl (cA, 16, .inl (upd F16 i 0)))] := hD
                    refine lv_iinc (v := (nI (i + 1))) (lv' := [(2, .int (nI (i + 1))), (0, .ref h4), (1, .int x)]) hx hb dX4_start_77 hl (k := 2) rfl (jn_a1 _) (by decide) rfl (fun ls hl => ?_)
                    refine lv_goto (tgt := 64) hx hb dX4_start_80 (by decide) ?_
                    exact ih64 (i + 1) (upd F16 i 0) (by omega) (by omega) (by subst hF16; exact jFill_s M9 0 i) _ _ (jP_sub (w2 := [(h4, .inr (4, [.ref zc, .int (nI nn), .int (nI zz), .ref zj, .ref ze, .int (nI ed), .ref zt, .ref zo, .ref za, .ref zr, .ref zm, .ref zl, .int qc, .int qs, .int (nI qw), .int 72, .int (nI zz)])), (zr, .inl (cA, 4, .inl (jFill R9 0 4))), (zm, .inl (cA, 16, .inl (upd F16 i 0)))]) hP [0, 1, 2] rfl) (hD.sub (ws' := [(h4, .inr (4, [.ref zc, .int (nI nn), .int (nI zz), .ref zj, .ref ze, .int (nI ed), .ref zt, .ref zo, .ref za, .ref zr, .ref zm, .ref zl, .int qc, .int qs, .int (nI qw), .int 72, .int (nI zz)])), (zr, .inl (cA, 4, .inl (jFill R9 0 4))), (zm, .inl (cA, 16, .inl (upd F16 i 0)))]) [0, 1, 2] (by decide) rfl) hS ls (lv_sub hl [1, 2, 0] rfl)
              exact loop64 17 0 M9 (by omega) (by omega) (jFill_0 M9 0) _ _ (jP_sub (w2 := [(h4, .inr (4, [.ref zc, .int (nI nn), .int (nI zz), .ref zj, .ref ze, .int (nI ed), .ref zt, .ref zo, .ref za, .ref zr, .ref zm, .ref zl, .int qc, .int qs, .int (nI qw), .int 72, .int (nI zz)])), (zr, .inl (cA, 4, .inl (jFill R9 0 4))), (zm, .inl (cA, 16, .inl M9))]) hP [0, 1, 2] rfl) (hD.sub (ws' := [(h4, .inr (4, [.ref zc, .int (nI nn), .int (nI zz), .ref zj, .ref ze, .int (nI ed), .ref zt, .ref zo, .ref za, .ref zr, .ref zm, .ref zl, .int qc, .int qs, .int (nI qw), .int 72, .int (nI zz)])), (zr, .inl (cA, 4, .inl (jFill R9 0 4))), (zm, .inl (cA, 16, .inl M9))]) [0, 1, 2] (by decide) rfl) hS ls (lv_sub hl [1, 2, 0] rfl)
            · have hi2 : i < 4 := by
                rcases Nat.lt_or_ge i 4 with q | q
                · exact q
                · exact absurd (nI_le q (by omega)) c_46
              refine lv_aload_n hx hb dX4_start_49 rfl (lv_at hl 0 rfl) ?_
              refine va_get (D := D) (ci := 4) (v := .ref zr) (C := RX4) (T := TX4) (N := 17) hx hb hts iw_X4_start_X4 hown hK hP 0 rfl rfl 9 (by decide) (hts (.fieldLink RX4 28 "JumpGuardModel" "reg" "[I") (List.mem_of_getElem? (l := wsX4_start) (i := 5) rfl)) (fun _ h9 => h9) rfl dX4_start_50 ?_
              refine lv_iload_n hx hb dX4_start_53 rfl (lv_at hl 2 rfl) ?_
              refine lv_iconst (v := 0) hx hb dX4_start_54 (by decide) ?_
              refine jk_ast hx hb hK hP hD hS 1 0 rfl rfl (k := i) rfl (by omega) (by omega) dX4_start_55 (fun H locs hP hD hS => ?_)
              have hP : va_P D vwCl [(h4, .inr (4, [.ref zc, .int (nI nn), .int (nI zz), .ref zj, .ref ze, .int (nI ed), .ref zt, .ref zo, .ref za, .ref zr, .ref zm, .ref zl, .int qc, .int qs, .int (nI qw), .int 72, .int (nI zz)])), (zr, .inl (cA, 4, .inl (upd F4 i 0))), (zm, .inl (cA, 16, .inl M9))] H := hP
              have hD : va_D A [(h4, .inr (4, [.ref zc, .int (nI nn), .int (nI zz), .ref zj, .ref ze, .int (nI ed), .ref zt, .ref zo, .ref za, .ref zr, .ref zm, .ref zl, .int qc, .int qs, .int (nI qw), .int 72, .int (nI zz)])), (zr, .inl (cA, 4, .inl (upd F4 i 0))), (zm, .inl (cA, 16, .inl M9))] := hD
              refine lv_iinc (v := (nI (i + 1))) (lv' := [(2, .int (nI (i + 1))), (0, .ref h4), (1, .int x)]) hx hb dX4_start_56 hl (k := 2) rfl (jn_a1 _) (by decide) rfl (fun ls hl => ?_)
              refine lv_goto (tgt := 44) hx hb dX4_start_59 (by decide) ?_
              exact ih44 (i + 1) (upd F4 i 0) (by omega) (by omega) (by subst hF4; exact jFill_s R9 0 i) _ _ (jP_sub (w2 := [(h4, .inr (4, [.ref zc, .int (nI nn), .int (nI zz), .ref zj, .ref ze, .int (nI ed), .ref zt, .ref zo, .ref za, .ref zr, .ref zm, .ref zl, .int qc, .int qs, .int (nI qw), .int 72, .int (nI zz)])), (zr, .inl (cA, 4, .inl (upd F4 i 0))), (zm, .inl (cA, 16, .inl M9))]) hP [0, 1, 2] rfl) (hD.sub (ws' := [(h4, .inr (4, [.ref zc, .int (nI nn), .int (nI zz), .ref zj, .ref ze, .int (nI ed), .ref zt, .ref zo, .ref za, .ref zr, .ref zm, .ref zl, .int qc, .int qs, .int (nI qw), .int 72, .int (nI zz)])), (zr, .inl (cA, 4, .inl (upd F4 i 0))), (zm, .inl (cA, 16, .inl M9))]) [0, 1, 2] (by decide) rfl) hS ls (lv_sub hl [1, 2, 0] rfl)
        exact loop44 5 0 R9 (by omega) (by omega) (jFill_0 R9 0) _ _ (jP_sub (w2 := [(h4, .inr (4, [.ref zc, .int (nI nn), .int (nI zz), .ref zj, .ref ze, .int (nI ed), .ref zt, .ref zo, .ref za, .ref zr, .ref zm, .ref zl, .int qc, .int qs, .int (nI qw), .int 72, .int (nI zz)])), (zr, .inl (cA, 4, .inl R9)), (zm, .inl (cA, 16, .inl M9))]) hP [0, 1, 2] rfl) (hD.sub (ws' := [(h4, .inr (4, [.ref zc, .int (nI nn), .int (nI zz), .ref zj, .ref ze, .int (nI ed), .ref zt, .ref zo, .ref za, .ref zr, .ref zm, .ref zl, .int qc, .int qs, .int (nI qw), .int 72, .int (nI zz)])), (zr, .inl (cA, 4, .inl R9)), (zm, .inl (cA, 16, .inl M9))]) [0, 1, 2] (by decide) rfl) hS ls (lv_sub hl [1, 2, 0] rfl)
  · exact absurd c_4 (nI_ne0 hz (by omega))
set_option maxHeartbeats 4000000 in
set_option maxRecDepth 100000 in
theorem c_X4_start_s (l : Launch) (D : va_G) (cA : ClassId) (sz : Nat) (h4 : Nat) (zc : Nat) (zj : Nat) (ze : Nat) (zt : Nat) (zo : Nat) (za : Nat) (zr : Nat) (zm : Nat) (zl : Nat) (nn : Nat) (zz : Nat) (ed : Nat) (qc : Int32) (qs : Int32) (qw : Nat) (qb : Nat) (ql : Nat) (R9 : Nat → Int32) (M9 : Nat → Int32) (x : Int32) (hz : 0 < zz) (hz72 : zz ≤ 72) (hx0 : x = 0) : Met l yX4_start wsX4_start ({ frames := 0, cells := 0, slots := 0, locals := 0 }) (rwP D cA [.ref h4, .int x] sz [(h4, .inr (4, [.ref zc, .int (nI nn), .int (nI zz), .ref zj, .ref ze, .int (nI ed), .ref zt, .ref zo, .ref za, .ref zr, .ref zm, .ref zl, .int qc, .int qs, .int (nI qw), .int (nI qb), .int (nI ql)])), (zr, .inl (cA, 4, .inl R9)), (zm, .inl (cA, 16, .inl M9))]) (rwI D (va_A [(h4, .inr (4, [.ref zc, .int (nI nn), .int (nI zz), .ref zj, .ref ze, .int (nI ed), .ref zt, .ref zo, .ref za, .ref zr, .ref zm, .ref zl, .int qc, .int qs, .int (nI qw), .int (nI qb), .int (nI ql)])), (zr, .inl (cA, 4, .inl R9)), (zm, .inl (cA, 16, .inl M9))] sz) 1 [(h4, .inr (4, [.ref zc, .int (nI nn), .int (nI zz), .ref zj, .ref ze, .int (nI ed), .ref zt, .ref zo, .ref za, .ref zr, .ref zm, .ref zl, .int 0, .int 0, .int (nI 0), .int 0, .int (nI nn)])), (zr, .inl (cA, 4, .inl (jFill R9 0 4))), (zm, .inl (cA, 16, .inl (jFill M9 0 16)))]) 0 0 (va_A [(h4, .inr (4, [.ref zc, .int (nI nn), .int (nI zz), .ref zj, .ref ze, .int (nI ed), .ref zt, .ref zo, .ref za, .ref zr, .ref zm, .ref zl, .int qc, .int qs, .int (nI qw), .int (nI qb), .int (nI ql)])), (zr, .inl (cA, 4, .inl R9)), (zm, .inl (cA, 16, .inl M9))] sz) := by
  refine Met.ofW (cc := cX4_start) (maxL := 3) (ret := (some .boolean)) (by decide) rfl ?_
  intro p e s m args below meth c s₁ B hml hv
  obtain ⟨rfl, hsz, hP, hK, hN, hD0⟩ := hv
  have hx := B.exec
  have hb := B.bytes
  have hr := B.returns
  have hts := atoms_spec (ws := wsX4_start) B.pre
  have hown : s.vm.findClass RX4 = some m.cls := findClass_of_methodNamed B.named
  have hlocks := B.notSynchronized
  subst hsz
  have hD := hD0.self (sz := s.heap.size)
  generalize hAe : va_A [(h4, .inr (4, [.ref zc, .int (nI nn), .int (nI zz), .ref zj, .ref ze, .int (nI ed), .ref zt, .ref zo, .ref za, .ref zr, .ref zm, .ref zl, .int qc, .int qs, .int (nI qw), .int (nI qb), .int (nI ql)])), (zr, .inl (cA, 4, .inl R9)), (zm, .inl (cA, 16, .inl M9))] s.heap.size = A at hD ⊢
  have hA : ∀ q : Nat, s.heap.size ≤ q → A q := fun q h => by rw [← hAe]; exact Or.inr h
  have hS : va_S A s.heap s.heap [] := va_S.rf
  have hl := lv_entry ([.ref h4, .int x]) (n := 3) (Nat.le_of_ble_eq_true rfl)
  rw [lg_entry_eq]
  generalize (lg_sl ([.ref h4, .int x]) ++ List.replicate (3 - (lg_sl ([.ref h4, .int x])).length) Slot.unset).toArray = ls at hl ⊢
  have hl : lv_has ls 3 [(0, .ref h4), (1, .int x)] := hl
  refine lv_aload_n hx hb dX4_start_0 rfl (lv_at hl 0 rfl) ?_
  refine va_get (D := D) (ci := 4) (v := .int (nI zz)) (C := RX4) (T := TX4) (N := 17) hx hb hts iw_X4_start_X4 hown hK hP 0 rfl rfl 2 (by decide) (hts (.fieldLink RX4 45 "JumpGuardModel" "size" "I") (List.mem_of_getElem? (l := wsX4_start) (i := 1) rfl)) (fun _ h9 => h9) rfl dX4_start_1 ?_
  refine lv_if_ne (tgt := 9) hx hb dX4_start_4 (by decide) (fun c_4 => ?_) (fun c_4 => ?_)
  · refine lv_aload_n hx hb dX4_start_9 rfl (lv_at hl 0 rfl) ?_
    refine lv_iload_n hx hb dX4_start_10 rfl (lv_at hl 1 rfl) ?_
    refine lv_if_eq (tgt := 19) hx hb dX4_start_11 (by decide) (fun c_11 => ?_) (fun c_11 => ?_)
    · refine lv_iconst (v := 0) hx hb dX4_start_19 (by decide) ?_
      refine va_put (D := D) (ci := 4) (v := .int 0) (ty := .int) (C := RX4) (T := TX4) (N := 17) hx hb hts iw_X4_start_X4 tyX4 tyX4_ok nmX4 hown hK hP hD hS 0 rfl rfl 15 (by decide) (hts (.fieldLink RX4 72 "JumpGuardModel" "base" "I") (List.mem_of_getElem? (l := wsX4_start) (i := 2) rfl)) (fun _ h9 => h9) rfl (by decide +kernel) rfl rfl (Nat.le_of_ble_eq_true rfl) dX4_start_20 (fun H locs hP hD hS => ?_)
      have hP : va_P D vwCl [(h4, .inr (4, [.ref zc, .int (nI nn), .int (nI zz), .ref zj, .ref ze, .int (nI ed), .ref zt, .ref zo, .ref za, .ref zr, .ref zm, .ref zl, .int qc, .int qs, .int (nI qw), .int 0, .int (nI ql)])), (zr, .inl (cA, 4, .inl R9)), (zm, .inl (cA, 16, .inl M9))] H := hP
      have hD : va_D A [(h4, .inr (4, [.ref zc, .int (nI nn), .int (nI zz), .ref zj, .ref ze, .int (nI ed), .ref zt, .ref zo, .ref za, .ref zr, .ref zm, .ref zl, .int qc, .int qs, .int (nI qw), .int 0, .int (nI ql)])), (zr, .inl (cA, 4, .inl R9)), (zm, .inl (cA, 16, .inl M9))] := hD
      refine lv_aload_n hx hb dX4_start_23 rfl (lv_at hl 0 rfl) ?_
      refine lv_iload_n hx hb dX4_start_24 rfl (lv_at hl 1 rfl) ?_
      refine lv_if_eq (tgt := 35) hx hb dX4_start_25 (by decide) (fun c_25 => ?_) (fun c_25 => ?_)
      · refine lv_aload_n hx hb dX4_start_35 rfl (lv_at hl 0 rfl) ?_
        refine va_get (D := D) (ci := 4) (v := .int (nI nn)) (C := RX4) (T := TX4) (N := 17) hx hb hts iw_X4_start_X4 hown hK hP 0 rfl rfl 1 (by decide) (hts (.fieldLink RX4 52 "JumpGuardModel" "n" "I") (List.mem_of_getElem? (l := wsX4_start) (i := 3) rfl)) (fun _ h9 => h9) rfl dX4_start_36 ?_
        refine va_put (D := D) (ci := 4) (v := .int (nI nn)) (ty := .int) (C := RX4) (T := TX4) (N := 17) hx hb hts iw_X4_start_X4 tyX4 tyX4_ok nmX4 hown hK hP hD hS 0 rfl rfl 16 (by decide) (hts (.fieldLink RX4 75 "JumpGuardModel" "length" "I") (List.mem_of_getElem? (l := wsX4_start) (i := 4) rfl)) (fun _ h9 => h9) rfl (by decide +kernel) rfl rfl (Nat.le_of_ble_eq_true rfl) dX4_start_39 (fun H locs hP hD hS => ?_)
        have hP : va_P D vwCl [(h4, .inr (4, [.ref zc, .int (nI nn), .int (nI zz), .ref zj, .ref ze, .int (nI ed), .ref zt, .ref zo, .ref za, .ref zr, .ref zm, .ref zl, .int qc, .int qs, .int (nI qw), .int 0, .int (nI nn)])), (zr, .inl (cA, 4, .inl R9)), (zm, .inl (cA, 16, .inl M9))] H := hP
        have hD : va_D A [(h4, .inr (4, [.ref zc, .int (nI nn), .int (nI zz), .ref zj, .ref ze, .int (nI ed), .ref zt, .ref zo, .ref za, .ref zr, .ref zm, .ref zl, .int qc, .int qs, .int (nI qw), .int 0, .int (nI nn)])), (zr, .inl (cA, 4, .inl R9)), (zm, .inl (cA, 16, .inl M9))] := hD
        refine lv_iconst (v := 0) hx hb dX4_start_42 (by decide) ?_
        refine lv_istore_n (lv' := [(2, .int 0), (0, .ref h4), (1, .int x)]) hx hb dX4_start_43 rfl hl (by decide) rfl (fun ls hl => ?_)
        have loop44 : ∀ (n : Nat) (i : Nat) (F4 : Nat → Int32), (i ≤ 4) → (5 ≤ i + n) → (F4 = jFill R9 0 i) → ∀ (H : Heap) (locs : List Loc), va_P D vwCl [(h4, .inr (4, [.ref zc, .int (nI nn), .int (nI zz), .ref zj, .ref ze, .int (nI ed), .ref zt, .ref zo, .ref za, .ref zr, .ref zm, .ref zl, .int qc, .int qs, .int (nI qw), .int 0, .int (nI nn)])), (zr, .inl (cA, 4, .inl F4)), (zm, .inl (cA, 16, .inl M9))] H → va_D A [(h4, .inr (4, [.ref zc, .int (nI nn), .int (nI zz), .ref zj, .ref ze, .int (nI ed), .ref zt, .ref zo, .ref za, .ref zr, .ref zm, .ref zl, .int qc, .int qs, .int (nI qw), .int 0, .int (nI nn)])), (zr, .inl (cA, 4, .inl F4)), (zm, .inl (cA, 16, .inl M9))] → va_S A s.heap H locs → ∀ (ls : Array Slot), lv_has ls 3 [(0, .ref h4), (1, .int x), (2, .int (nI i))] → W p l e (headSpec wsX4_start ({ frames := 0, cells := 0, slots := 0, locals := 0 })).room s m ([.ref h4, .int x] : List Value).toArray below meth c H locs 0 0 (MQ below (rwI D A 1 [(h4, .inr (4, [.ref zc, .int (nI nn), .int (nI zz), .ref zj, .ref ze, .int (nI ed), .ref zt, .ref zo, .ref za, .ref zr, .ref zm, .ref zl, .int 0, .int 0, .int (nI 0), .int 0, .int (nI nn)])), (zr, .inl (cA, 4, .inl (jFill R9 0 4))), (zm, .inl (cA, 16, .inl (jFill M9 0 16)))]) ([.ref h4, .int x] : List Value).toArray s 0 0 A) (F0 m 44 ls []) := by
          intro n
          induction n with
          | zero => intro i F4 hi hfu hF4; exact absurd hfu (by omega)
          | succ n ih44 =>
            intro i F4 hi hfu hF4 H locs hP hD hS ls hl
            refine lv_iload_n hx hb dX4_start_44 rfl (lv_at hl 2 rfl) ?_
            refine lv_iconst (v := 4) hx hb dX4_start_45 (by decide) ?_
            refine lv_icmp_ge (tgt := 62) hx hb dX4_start_46 (by decide) (fun c_46 => ?_) (fun c_46 => ?_)
            · have hi2 : i = 4 := by
                rcases Nat.lt_or_ge i 4 with q | q
                · exact absurd c_46 (nI_ge q (by decide))
                · omega
              subst hi2
              subst hF4
              refine lv_iconst (v := 0) hx hb dX4_start_62 (by decide) ?_
              refine lv_istore_n (lv' := [(2, .int 0), (0, .ref h4), (1, .int x)]) hx hb dX4_start_63 rfl hl (by decide) rfl (fun ls hl => ?_)
              have loop64 : ∀ (n : Nat) (i : Nat) (F16 : Nat → Int32), (i ≤ 16) → (17 ≤ i + n) → (F16 = jFill M9 0 i) → ∀ (H : Heap) (locs : List Loc), va_P D vwCl [(h4, .inr (4, [.ref zc, .int (nI nn), .int (nI zz), .ref zj, .ref ze, .int (nI ed), .ref zt, .ref zo, .ref za, .ref zr, .ref zm, .ref zl, .int qc, .int qs, .int (nI qw), .int 0, .int (nI nn)])), (zr, .inl (cA, 4, .inl (jFill R9 0 4))), (zm, .inl (cA, 16, .inl F16))] H → va_D A [(h4, .inr (4, [.ref zc, .int (nI nn), .int (nI zz), .ref zj, .ref ze, .int (nI ed), .ref zt, .ref zo, .ref za, .ref zr, .ref zm, .ref zl, .int qc, .int qs, .int (nI qw), .int 0, .int (nI nn)])), (zr, .inl (cA, 4, .inl (jFill R9 0 4))), (zm, .inl (cA, 16, .inl F16))] → va_S A s.heap H locs → ∀ (ls : Array Slot), lv_has ls 3 [(0, .ref h4), (1, .int x), (2, .int (nI i))] → W p l e (headSpec wsX4_start ({ frames := 0, cells := 0, slots := 0, locals := 0 })).room s m ([.ref h4, .int x] : List Value).toArray below meth c H locs 0 0 (MQ below (rwI D A 1 [(h4, .inr (4, [.ref zc, .int (nI nn), .int (nI zz), .ref zj, .ref ze, .int (nI ed), .ref zt, .ref zo, .ref za, .ref zr, .ref zm, .ref zl, .int 0, .int 0, .int (nI 0), .int 0, .int (nI nn)])), (zr, .inl (cA, 4, .inl (jFill R9 0 4))), (zm, .inl (cA, 16, .inl (jFill M9 0 16)))]) ([.ref h4, .int x] : List Value).toArray s 0 0 A) (F0 m 64 ls []) := by
                intro n
                induction n with
                | zero => intro i F16 hi hfu hF16; exact absurd hfu (by omega)
                | succ n ih64 =>
                  intro i F16 hi hfu hF16 H locs hP hD hS ls hl
                  refine lv_iload_n hx hb dX4_start_64 rfl (lv_at hl 2 rfl) ?_
                  refine lv_bipush (v := 16) hx hb dX4_start_65 (by decide) ?_
                  refine lv_icmp_ge (tgt := 83) hx hb dX4_start_67 (by decide) (fun c_67 => ?_) (fun c_67 => ?_)
                  · have hi2 : i = 16 := by
                      rcases Nat.lt_or_ge i 16 with q | q
                      · exact absurd c_67 (nI_ge q (by decide))
                      · omega
                    subst hi2
                    subst hF16
                    refine lv_aload_n hx hb dX4_start_83 rfl (lv_at hl 0 rfl) ?_
                    refine lv_iconst (v := 0) hx hb dX4_start_84 (by decide) ?_
                    refine va_put (D := D) (ci := 4) (v := .int 0) (ty := .int) (C := RX4) (T := TX4) (N := 17) hx hb hts iw_X4_start_X4 tyX4 tyX4_ok nmX4 hown hK hP hD hS 0 rfl rfl 12 (by decide) (hts (.fieldLink RX4 78 "JumpGuardModel" "pc" "I") (List.mem_of_getElem? (l := wsX4_start) (i := 7) rfl)) (fun _ h9 => h9) rfl (by decide +kernel) rfl rfl (Nat.le_of_ble_eq_true rfl) dX4_start_85 (fun H locs hP hD hS => ?_)
                    have hP : va_P D vwCl [(h4, .inr (4, [.ref zc, .int (nI nn), .int (nI zz), .ref zj, .ref ze, .int (nI ed), .ref zt, .ref zo, .ref za, .ref zr, .ref zm, .ref zl, .int 0, .int qs, .int (nI qw), .int 0, .int (nI nn)])), (zr, .inl (cA, 4, .inl (jFill R9 0 4))), (zm, .inl (cA, 16, .inl (jFill M9 0 16)))] H := hP
                    have hD : va_D A [(h4, .inr (4, [.ref zc, .int (nI nn), .int (nI zz), .ref zj, .ref ze, .int (nI ed), .ref zt, .ref zo, .ref za, .ref zr, .ref zm, .ref zl, .int 0, .int qs, .int (nI qw), .int 0, .int (nI nn)])), (zr, .inl (cA, 4, .inl (jFill R9 0 4))), (zm, .inl (cA, 16, .inl (jFill M9 0 16)))] := hD
                    refine lv_aload_n hx hb dX4_start_88 rfl (lv_at hl 0 rfl) ?_
                    refine lv_iconst (v := 0) hx hb dX4_start_89 (by decide) ?_
                    refine va_put (D := D) (ci := 4) (v := .int 0) (ty := .int) (C := RX4) (T := TX4) (N := 17) hx hb hts iw_X4_start_X4 tyX4 tyX4_ok nmX4 hown hK hP hD hS 0 rfl rfl 13 (by decide) (hts (.fieldLink RX4 37 "JumpGuardModel" "state" "I") (List.mem_of_getElem? (l := wsX4_start) (i := 8) rfl)) (fun _ h9 => h9) rfl (by decide +kernel) rfl rfl (Nat.le_of_ble_eq_true rfl) dX4_start_90 (fun H locs hP hD hS => ?_)
                    have hP : va_P D vwCl [(h4, .inr (4, [.ref zc, .int (nI nn), .int (nI zz), .ref zj, .ref ze, .int (nI ed), .ref zt, .ref zo, .ref za, .ref zr, .ref zm, .ref zl, .int 0, .int 0, .int (nI qw), .int 0, .int (nI nn)])), (zr, .inl (cA, 4, .inl (jFill R9 0 4))), (zm, .inl (cA, 16, .inl (jFill M9 0 16)))] H := hP
                    have hD : va_D A [(h4, .inr (4, [.ref zc, .int (nI nn), .int (nI zz), .ref zj, .ref ze, .int (nI ed), .ref zt, .ref zo, .ref za, .ref zr, .ref zm, .ref zl, .int 0, .int 0, .int (nI qw), .int 0, .int (nI nn)])), (zr, .inl (cA, 4, .inl (jFill R9 0 4))), (zm, .inl (cA, 16, .inl (jFill M9 0 16)))] := hD
                    refine lv_aload_n hx hb dX4_start_93 rfl (lv_at hl 0 rfl) ?_
                    refine lv_iconst (v := 0) hx hb dX4_start_94 (by decide) ?_
                    refine va_put (D := D) (ci := 4) (v := .int 0) (ty := .int) (C := RX4) (T := TX4) (N := 17) hx hb hts iw_X4_start_X4 tyX4 tyX4_ok nmX4 hown hK hP hD hS 0 rfl rfl 14 (by decide) (hts (.fieldLink RX4 81 "JumpGuardModel" "shows" "I") (List.mem_of_getElem? (l := wsX4_start) (i := 9) rfl)) (fun _ h9 => h9) rfl (by decide +kernel) rfl rfl (Nat.le_of_ble_eq_true rfl) dX4_start_95 (fun H locs hP hD hS => ?_)
                    have hP : va_P D vwCl [(h4, .inr (4, [.ref zc, .int (nI nn), .int (nI zz), .ref zj, .ref ze, .int (nI ed), .ref zt, .ref zo, .ref za, .ref zr, .ref zm, .ref zl, .int 0, .int 0, .int 0, .int 0, .int (nI nn)])), (zr, .inl (cA, 4, .inl (jFill R9 0 4))), (zm, .inl (cA, 16, .inl (jFill M9 0 16)))] H := hP
                    have hD : va_D A [(h4, .inr (4, [.ref zc, .int (nI nn), .int (nI zz), .ref zj, .ref ze, .int (nI ed), .ref zt, .ref zo, .ref za, .ref zr, .ref zm, .ref zl, .int 0, .int 0, .int 0, .int 0, .int (nI nn)])), (zr, .inl (cA, 4, .inl (jFill R9 0 4))), (zm, .inl (cA, 16, .inl (jFill M9 0 16)))] := hD
                    refine lv_iconst (v := 1) hx hb dX4_start_98 (by decide) ?_
                    obtain ⟨hP9, hD9⟩ := jk_end (w2 := [(h4, .inr (4, [.ref zc, .int (nI nn), .int (nI zz), .ref zj, .ref ze, .int (nI ed), .ref zt, .ref zo, .ref za, .ref zr, .ref zm, .ref zl, .int 0, .int 0, .int 0, .int 0, .int (nI nn)])), (zr, .inl (cA, 4, .inl (jFill R9 0 4))), (zm, .inl (cA, 16, .inl (jFill M9 0 16)))]) hP hD [0, 1, 2] (by decide) rfl
                    have e9 : ([(h4, .inr (4, [.ref zc, .int (nI nn), .int (nI zz), .ref zj, .ref ze, .int (nI ed), .ref zt, .ref zo, .ref za, .ref zr, .ref zm, .ref zl, .int 0, .int 0, .int 0, .int 0, .int (nI nn)])), (zr, .inl (cA, 4, .inl (jFill R9 0 4))), (zm, .inl (cA, 16, .inl (jFill M9 0 16)))] : va_W) = [(h4, .inr (4, [.ref zc, .int (nI nn), .int (nI zz), .ref zj, .ref ze, .int (nI ed), .ref zt, .ref zo, .ref za, .ref zr, .ref zm, .ref zl, .int 0, .int 0, .int (nI 0), .int 0, .int (nI nn)])), (zr, .inl (cA, 4, .inl (jFill R9 0 4))), (zm, .inl (cA, 16, .inl (jFill M9 0 16)))] := rfl
                    rw [e9] at hP9 hD9
                    exact W.zret (ty := .boolean) (v := 1) hx hb hr rfl (fun t9 ht9 hW9 => ⟨⟨_, (), rfl, (show 1 = 1 from rfl), by rw [ht9]; exact hP9, hD9⟩, hS.F ht9⟩) hS.2.2 dX4_start_99
                  · have hi2 : i < 16 := by
                      rcases Nat.lt_or_ge i 16 with q | q
                      · exact q
                      · exact absurd (nI_le q (by omega)) c_67
                    refine lv_aload_n hx hb dX4_start_70 rfl (lv_at hl 0 rfl) ?_
                    refine va_get (D := D) (ci := 4) (v := .ref zm) (C := RX4) (T := TX4) (N := 17) hx hb hts iw_X4_start_X4 hown hK hP 0 rfl rfl 10 (by decide) (hts (.fieldLink RX4 31 "JumpGuardModel" "mem" "[I") (List.mem_of_getElem? (l := wsX4_start) (i := 6) rfl)) (fun _ h9 => h9) rfl dX4_start_71 ?_
                    refine lv_iload_n hx hb dX4_start_74 rfl (lv_at hl 2 rfl) ?_
                    refine lv_iconst (v := 0) hx hb dX4_start_75 (by decide) ?_
                    refine jk_ast hx hb hK hP hD hS 2 0 rfl rfl (k := i) rfl (by omega) (by omega) dX4_start_76 (fun H locs hP hD hS => ?_)
                    have hP : va_P D vwCl [(h4, .inr (4, [.ref zc, .int (nI nn), .int (nI zz), .ref zj, .ref ze, .int (nI ed), .ref zt, .ref zo, .ref za, .ref zr, .ref zm, .ref zl, .int qc, .int qs, .int (nI qw), .int 0, .int (nI nn)])), (zr, .inl (cA, 4, .inl (jFill R9 0 4))), (zm, .inl (cA, 16, .inl (upd F16 i 0)))] H := hP
                    have hD : va_D A [(h4, .inr (4, [.ref zc, .int (nI nn), .int (nI zz), .ref zj, .ref ze, .int (nI ed), .ref zt, .ref zo, .ref za, .ref zr, .ref zm, .ref zl, .int qc, .int qs, .int (nI qw), .int 0, .int (nI nn)])), (zr, .inl (cA, 4, .inl (jFill R9 0 4))), (zm, .inl (cA, 16, .inl (upd F16 i 0)))] := hD
                    refine lv_iinc (v := (nI (i + 1))) (lv' := [(2, .int (nI (i + 1))), (0, .ref h4), (1, .int x)]) hx hb dX4_start_77 hl (k := 2) rfl (jn_a1 _) (by decide) rfl (fun ls hl => ?_)
                    refine lv_goto (tgt := 64) hx hb dX4_start_80 (by decide) ?_
                    exact ih64 (i + 1) (upd F16 i 0) (by omega) (by omega) (by subst hF16; exact jFill_s M9 0 i) _ _ (jP_sub (w2 := [(h4, .inr (4, [.ref zc, .int (nI nn), .int (nI zz), .ref zj, .ref ze, .int (nI ed), .ref zt, .ref zo, .ref za, .ref zr, .ref zm, .ref zl, .int qc, .int qs, .int (nI qw), .int 0, .int (nI nn)])), (zr, .inl (cA, 4, .inl (jFill R9 0 4))), (zm, .inl (cA, 16, .inl (upd F16 i 0)))]) hP [0, 1, 2] rfl) (hD.sub (ws' := [(h4, .inr (4, [.ref zc, .int (nI nn), .int (nI zz), .ref zj, .ref ze, .int (nI ed), .ref zt, .ref zo, .ref za, .ref zr, .ref zm, .ref zl, .int qc, .int qs, .int (nI qw), .int 0, .int (nI nn)])), (zr, .inl (cA, 4, .inl (jFill R9 0 4))), (zm, .inl (cA, 16, .inl (upd F16 i 0)))]) [0, 1, 2] (by decide) rfl) hS ls (lv_sub hl [1, 2, 0] rfl)
              exact loop64 17 0 M9 (by omega) (by omega) (jFill_0 M9 0) _ _ (jP_sub (w2 := [(h4, .inr (4, [.ref zc, .int (nI nn), .int (nI zz), .ref zj, .ref ze, .int (nI ed), .ref zt, .ref zo, .ref za, .ref zr, .ref zm, .ref zl, .int qc, .int qs, .int (nI qw), .int 0, .int (nI nn)])), (zr, .inl (cA, 4, .inl (jFill R9 0 4))), (zm, .inl (cA, 16, .inl M9))]) hP [0, 1, 2] rfl) (hD.sub (ws' := [(h4, .inr (4, [.ref zc, .int (nI nn), .int (nI zz), .ref zj, .ref ze, .int (nI ed), .ref zt, .ref zo, .ref za, .ref zr, .ref zm, .ref zl, .int qc, .int qs, .int (nI qw), .int 0, .int (nI nn)])), (zr, .inl (cA, 4, .inl (jFill R9 0 4))), (zm, .inl (cA, 16, .inl M9))]) [0, 1, 2] (by decide) rfl) hS ls (lv_sub hl [1, 2, 0] rfl)
            · have hi2 : i < 4 := by
                rcases Nat.lt_or_ge i 4 with q | q
                · exact q
                · exact absurd (nI_le q (by omega)) c_46
              refine lv_aload_n hx hb dX4_start_49 rfl (lv_at hl 0 rfl) ?_
              refine va_get (D := D) (ci := 4) (v := .ref zr) (C := RX4) (T := TX4) (N := 17) hx hb hts iw_X4_start_X4 hown hK hP 0 rfl rfl 9 (by decide) (hts (.fieldLink RX4 28 "JumpGuardModel" "reg" "[I") (List.mem_of_getElem? (l := wsX4_start) (i := 5) rfl)) (fun _ h9 => h9) rfl dX4_start_50 ?_
              refine lv_iload_n hx hb dX4_start_53 rfl (lv_at hl 2 rfl) ?_
              refine lv_iconst (v := 0) hx hb dX4_start_54 (by decide) ?_
              refine jk_ast hx hb hK hP hD hS 1 0 rfl rfl (k := i) rfl (by omega) (by omega) dX4_start_55 (fun H locs hP hD hS => ?_)
              have hP : va_P D vwCl [(h4, .inr (4, [.ref zc, .int (nI nn), .int (nI zz), .ref zj, .ref ze, .int (nI ed), .ref zt, .ref zo, .ref za, .ref zr, .ref zm, .ref zl, .int qc, .int qs, .int (nI qw), .int 0, .int (nI nn)])), (zr, .inl (cA, 4, .inl (upd F4 i 0))), (zm, .inl (cA, 16, .inl M9))] H := hP
              have hD : va_D A [(h4, .inr (4, [.ref zc, .int (nI nn), .int (nI zz), .ref zj, .ref ze, .int (nI ed), .ref zt, .ref zo, .ref za, .ref zr, .ref zm, .ref zl, .int qc, .int qs, .int (nI qw), .int 0, .int (nI nn)])), (zr, .inl (cA, 4, .inl (upd F4 i 0))), (zm, .inl (cA, 16, .inl M9))] := hD
              refine lv_iinc (v := (nI (i + 1))) (lv' := [(2, .int (nI (i + 1))), (0, .ref h4), (1, .int x)]) hx hb dX4_start_56 hl (k := 2) rfl (jn_a1 _) (by decide) rfl (fun ls hl => ?_)
              refine lv_goto (tgt := 44) hx hb dX4_start_59 (by decide) ?_
              exact ih44 (i + 1) (upd F4 i 0) (by omega) (by omega) (by subst hF4; exact jFill_s R9 0 i) _ _ (jP_sub (w2 := [(h4, .inr (4, [.ref zc, .int (nI nn), .int (nI zz), .ref zj, .ref ze, .int (nI ed), .ref zt, .ref zo, .ref za, .ref zr, .ref zm, .ref zl, .int qc, .int qs, .int (nI qw), .int 0, .int (nI nn)])), (zr, .inl (cA, 4, .inl (upd F4 i 0))), (zm, .inl (cA, 16, .inl M9))]) hP [0, 1, 2] rfl) (hD.sub (ws' := [(h4, .inr (4, [.ref zc, .int (nI nn), .int (nI zz), .ref zj, .ref ze, .int (nI ed), .ref zt, .ref zo, .ref za, .ref zr, .ref zm, .ref zl, .int qc, .int qs, .int (nI qw), .int 0, .int (nI nn)])), (zr, .inl (cA, 4, .inl (upd F4 i 0))), (zm, .inl (cA, 16, .inl M9))]) [0, 1, 2] (by decide) rfl) hS ls (lv_sub hl [1, 2, 0] rfl)
        exact loop44 5 0 R9 (by omega) (by omega) (jFill_0 R9 0) _ _ (jP_sub (w2 := [(h4, .inr (4, [.ref zc, .int (nI nn), .int (nI zz), .ref zj, .ref ze, .int (nI ed), .ref zt, .ref zo, .ref za, .ref zr, .ref zm, .ref zl, .int qc, .int qs, .int (nI qw), .int 0, .int (nI nn)])), (zr, .inl (cA, 4, .inl R9)), (zm, .inl (cA, 16, .inl M9))]) hP [0, 1, 2] rfl) (hD.sub (ws' := [(h4, .inr (4, [.ref zc, .int (nI nn), .int (nI zz), .ref zj, .ref ze, .int (nI ed), .ref zt, .ref zo, .ref za, .ref zr, .ref zm, .ref zl, .int qc, .int qs, .int (nI qw), .int 0, .int (nI nn)])), (zr, .inl (cA, 4, .inl R9)), (zm, .inl (cA, 16, .inl M9))]) [0, 1, 2] (by decide) rfl) hS ls (lv_sub hl [1, 2, 0] rfl)
      · exact absurd hx0 c_25
    · exact absurd hx0 c_11
  · exact absurd c_4 (nI_ne0 hz (by omega))
set_option maxHeartbeats 4000000 in
set_option maxRecDepth 100000 in
theorem c_X4_step (l : Launch) (D : va_G) (cA : ClassId) (sz : Nat) (h4 : Nat) (zc : Nat) (zj : Nat) (ze : Nat) (zt : Nat) (zo : Nat) (za : Nat) (zr : Nat) (zm : Nat) (zl : Nat) (nn : Nat) (zz : Nat) (ed : Nat) (qb : Nat) (ql : Nat) (cd : Nat → Int32) (x : MS) (hwf : mWF (rF cd qb) ql) (hi : x.2.2.2.1 < ql) (hqb : qb ≤ 72) (hql : ql ≤ 72) (hst : x.2.2.2.2.1 = 0) (hw : x.2.2.2.2.2 < 1000000) : Met l yX4_step wsX4_step ({ frames := 1, cells := 0, slots := 0, locals := 21 }) (rwP D cA [.ref h4] sz [(h4, .inr (4, [.ref zc, .int (nI nn), .int (nI zz), .ref zj, .ref ze, .int (nI ed), .ref zt, .ref zo, .ref za, .ref zr, .ref zm, .ref zl, .int (nI x.2.2.2.1), .int x.2.2.2.2.1, .int (nI x.2.2.2.2.2), .int (nI qb), .int (nI ql)])), (zc, .inl (cA, 288, .inl cd)), (zr, .inl (cA, 4, .inl x.1)), (zm, .inl (cA, 16, .inl x.2.1)), (zl, .inl (cA, 8, .inl x.2.2.1))]) (rwV D (va_A [(h4, .inr (4, [.ref zc, .int (nI nn), .int (nI zz), .ref zj, .ref ze, .int (nI ed), .ref zt, .ref zo, .ref za, .ref zr, .ref zm, .ref zl, .int (nI x.2.2.2.1), .int x.2.2.2.2.1, .int (nI x.2.2.2.2.2), .int (nI qb), .int (nI ql)])), (zc, .inl (cA, 288, .inl cd)), (zr, .inl (cA, 4, .inl x.1)), (zm, .inl (cA, 16, .inl x.2.1)), (zl, .inl (cA, 8, .inl x.2.2.1))] sz) [(h4, .inr (4, [.ref zc, .int (nI nn), .int (nI zz), .ref zj, .ref ze, .int (nI ed), .ref zt, .ref zo, .ref za, .ref zr, .ref zm, .ref zl, .int (nI (rStep (rF cd qb) ql x).2.2.2.1), .int ((rStep (rF cd qb) ql x).2.2.2.2.1), .int (nI (rStep (rF cd qb) ql x).2.2.2.2.2), .int (nI qb), .int (nI ql)])), (zc, .inl (cA, 288, .inl cd)), (zr, .inl (cA, 4, .inl ((rStep (rF cd qb) ql x).1))), (zm, .inl (cA, 16, .inl ((rStep (rF cd qb) ql x).2.1))), (zl, .inl (cA, 8, .inl ((rStep (rF cd qb) ql x).2.2.1)))]) 0 0 (va_A [(h4, .inr (4, [.ref zc, .int (nI nn), .int (nI zz), .ref zj, .ref ze, .int (nI ed), .ref zt, .ref zo, .ref za, .ref zr, .ref zm, .ref zl, .int (nI x.2.2.2.1), .int x.2.2.2.2.1, .int (nI x.2.2.2.2.2), .int (nI qb), .int (nI ql)])), (zc, .inl (cA, 288, .inl cd)), (zr, .inl (cA, 4, .inl x.1)), (zm, .inl (cA, 16, .inl x.2.1)), (zl, .inl (cA, 8, .inl x.2.2.1))] sz) := by
  refine Met.ofW (cc := cX4_step) (maxL := 7) (ret := none) (by decide) rfl ?_
  intro p e s m args below meth c s₁ B hml hv
  obtain ⟨rfl, hsz, hP, hK, hN, hD0⟩ := hv
  have hx := B.exec
  have hb := B.bytes
  have hr := B.returns
  have hts := atoms_spec (ws := wsX4_step) B.pre
  have hown : s.vm.findClass RX4 = some m.cls := findClass_of_methodNamed B.named
  have hlocks := B.notSynchronized
  subst hsz
  have hD := hD0.self (sz := s.heap.size)
  generalize hAe : va_A [(h4, .inr (4, [.ref zc, .int (nI nn), .int (nI zz), .ref zj, .ref ze, .int (nI ed), .ref zt, .ref zo, .ref za, .ref zr, .ref zm, .ref zl, .int (nI x.2.2.2.1), .int x.2.2.2.2.1, .int (nI x.2.2.2.2.2), .int (nI qb), .int (nI ql)])), (zc, .inl (cA, 288, .inl cd)), (zr, .inl (cA, 4, .inl x.1)), (zm, .inl (cA, 16, .inl x.2.1)), (zl, .inl (cA, 8, .inl x.2.2.1))] s.heap.size = A at hD ⊢
  have hA : ∀ q : Nat, s.heap.size ≤ q → A q := fun q h => by rw [← hAe]; exact Or.inr h
  have hS : va_S A s.heap s.heap [] := va_S.rf
  have hl := lv_entry ([.ref h4]) (n := 7) (Nat.le_of_ble_eq_true rfl)
  rw [lg_entry_eq]
  generalize (lg_sl ([.ref h4]) ++ List.replicate (7 - (lg_sl ([.ref h4])).length) Slot.unset).toArray = ls at hl ⊢
  have hl : lv_has ls 7 [(0, .ref h4)] := hl
  obtain ⟨o, ho, hfo, -, -, -, hreg, hcel, hre2⟩ := hwf.2 _ hi
  have hoo := mOp_is ho hfo
  obtain ⟨a, hea⟩ : ∃ a, a = rF cd qb (x.2.2.2.1 * 3 + 1) := ⟨_, rfl⟩
  obtain ⟨b, heb⟩ : ∃ b, b = rF cd qb (x.2.2.2.1 * 3 + 2) := ⟨_, rfl⟩
  have hfo2 : cd (qb + 3 * x.2.2.2.1) = nI o := by rw [Nat.mul_comm]; exact hfo
  have hea2 : cd (qb + 3 * x.2.2.2.1 + 1) = a := by rw [hea, Nat.mul_comm, Nat.add_assoc]; rfl
  have heb2 : cd (qb + 3 * x.2.2.2.1 + 2) = b := by rw [heb, Nat.mul_comm, Nat.add_assoc]; rfl
  refine lv_aload_n hx hb dX4_step_0 rfl (lv_at hl 0 rfl) ?_
  refine va_get (D := D) (ci := 4) (v := .ref zc) (C := RX4) (T := TX4) (N := 17) hx hb hts iw_X4_step_X4 hown hK hP 0 rfl rfl 0 (by decide) (hts (.fieldLink RX4 7 "JumpGuardModel" "code" "[I") (List.mem_of_getElem? (l := wsX4_step) (i := 1) rfl)) (fun _ h9 => h9) rfl dX4_step_1 ?_
  refine lv_aload_n hx hb dX4_step_4 rfl (lv_at hl 0 rfl) ?_
  refine va_get (D := D) (ci := 4) (v := .int (nI qb)) (C := RX4) (T := TX4) (N := 17) hx hb hts iw_X4_step_X4 hown hK hP 0 rfl rfl 15 (by decide) (hts (.fieldLink RX4 72 "JumpGuardModel" "base" "I") (List.mem_of_getElem? (l := wsX4_step) (i := 2) rfl)) (fun _ h9 => h9) rfl dX4_step_5 ?_
  refine lv_iconst (v := 3) hx hb dX4_step_8 (by decide) ?_
  refine lv_aload_n hx hb dX4_step_9 rfl (lv_at hl 0 rfl) ?_
  refine va_get (D := D) (ci := 4) (v := .int (nI x.2.2.2.1)) (C := RX4) (T := TX4) (N := 17) hx hb hts iw_X4_step_X4 hown hK hP 0 rfl rfl 12 (by decide) (hts (.fieldLink RX4 78 "JumpGuardModel" "pc" "I") (List.mem_of_getElem? (l := wsX4_step) (i := 3) rfl)) (fun _ h9 => h9) rfl dX4_step_10 ?_
  refine lv_imul hx hb dX4_step_13 ?_
  refine jk_top (show (3 * (nI x.2.2.2.1)) = (nI (3 * x.2.2.2.1)) from jn_3m _) ?_
  refine lv_iadd hx hb dX4_step_14 ?_
  refine jk_top (show ((nI qb) + (nI (3 * x.2.2.2.1))) = (nI (qb + 3 * x.2.2.2.1)) from nI_add _ _) ?_
  refine jk_ald hx hb hK hP 1 0 rfl rfl (k := (qb + 3 * x.2.2.2.1)) rfl (by omega) (by omega) dX4_step_15 ?_
  refine jk_top (show (cd (qb + 3 * x.2.2.2.1)) = (nI o) from hfo2) ?_
  refine lv_istore_n (lv' := [(1, .int (nI o)), (0, .ref h4)]) hx hb dX4_step_16 rfl hl (by decide) rfl (fun ls hl => ?_)
  refine lv_aload_n hx hb dX4_step_17 rfl (lv_at hl 1 rfl) ?_
  refine va_get (D := D) (ci := 4) (v := .ref zc) (C := RX4) (T := TX4) (N := 17) hx hb hts iw_X4_step_X4 hown hK hP 0 rfl rfl 0 (by decide) (hts (.fieldLink RX4 7 "JumpGuardModel" "code" "[I") (List.mem_of_getElem? (l := wsX4_step) (i := 1) rfl)) (fun _ h9 => h9) rfl dX4_step_18 ?_
  refine lv_aload_n hx hb dX4_step_21 rfl (lv_at hl 1 rfl) ?_
  refine va_get (D := D) (ci := 4) (v := .int (nI qb)) (C := RX4) (T := TX4) (N := 17) hx hb hts iw_X4_step_X4 hown hK hP 0 rfl rfl 15 (by decide) (hts (.fieldLink RX4 72 "JumpGuardModel" "base" "I") (List.mem_of_getElem? (l := wsX4_step) (i := 2) rfl)) (fun _ h9 => h9) rfl dX4_step_22 ?_
  refine lv_iconst (v := 3) hx hb dX4_step_25 (by decide) ?_
  refine lv_aload_n hx hb dX4_step_26 rfl (lv_at hl 1 rfl) ?_
  refine va_get (D := D) (ci := 4) (v := .int (nI x.2.2.2.1)) (C := RX4) (T := TX4) (N := 17) hx hb hts iw_X4_step_X4 hown hK hP 0 rfl rfl 12 (by decide) (hts (.fieldLink RX4 78 "JumpGuardModel" "pc" "I") (List.mem_of_getElem? (l := wsX4_step) (i := 3) rfl)) (fun _ h9 => h9) rfl dX4_step_27 ?_
  refine lv_imul hx hb dX4_step_30 ?_
  refine jk_top (show (3 * (nI x.2.2.2.1)) = (nI (3 * x.2.2.2.1)) from jn_3m _) ?_
  refine lv_iadd hx hb dX4_step_31 ?_
  refine jk_top (show ((nI qb) + (nI (3 * x.2.2.2.1))) = (nI (qb + 3 * x.2.2.2.1)) from nI_add _ _) ?_
  refine lv_iconst (v := 1) hx hb dX4_step_32 (by decide) ?_
  refine lv_iadd hx hb dX4_step_33 ?_
  refine jk_top (show ((nI (qb + 3 * x.2.2.2.1)) + 1) = (nI (qb + 3 * x.2.2.2.1 + 1)) from jn_a1 _) ?_
  refine jk_ald hx hb hK hP 1 0 rfl rfl (k := (qb + 3 * x.2.2.2.1 + 1)) rfl (by omega) (by omega) dX4_step_34 ?_
  refine jk_top (show (cd (qb + 3 * x.2.2.2.1 + 1)) = a from hea2) ?_
  refine lv_istore_n (lv' := [(2, .int a), (1, .int (nI o)), (0, .ref h4)]) hx hb dX4_step_35 rfl hl (by decide) rfl (fun ls hl => ?_)
  refine lv_aload_n hx hb dX4_step_36 rfl (lv_at hl 2 rfl) ?_
  refine va_get (D := D) (ci := 4) (v := .ref zc) (C := RX4) (T := TX4) (N := 17) hx hb hts iw_X4_step_X4 hown hK hP 0 rfl rfl 0 (by decide) (hts (.fieldLink RX4 7 "JumpGuardModel" "code" "[I") (List.mem_of_getElem? (l := wsX4_step) (i := 1) rfl)) (fun _ h9 => h9) rfl dX4_step_37 ?_
  refine lv_aload_n hx hb dX4_step_40 rfl (lv_at hl 2 rfl) ?_
  refine va_get (D := D) (ci := 4) (v := .int (nI qb)) (C := RX4) (T := TX4) (N := 17) hx hb hts iw_X4_step_X4 hown hK hP 0 rfl rfl 15 (by decide) (hts (.fieldLink RX4 72 "JumpGuardModel" "base" "I") (List.mem_of_getElem? (l := wsX4_step) (i := 2) rfl)) (fun _ h9 => h9) rfl dX4_step_41 ?_
  refine lv_iconst (v := 3) hx hb dX4_step_44 (by decide) ?_
  refine lv_aload_n hx hb dX4_step_45 rfl (lv_at hl 2 rfl) ?_
  refine va_get (D := D) (ci := 4) (v := .int (nI x.2.2.2.1)) (C := RX4) (T := TX4) (N := 17) hx hb hts iw_X4_step_X4 hown hK hP 0 rfl rfl 12 (by decide) (hts (.fieldLink RX4 78 "JumpGuardModel" "pc" "I") (List.mem_of_getElem? (l := wsX4_step) (i := 3) rfl)) (fun _ h9 => h9) rfl dX4_step_46 ?_
  refine lv_imul hx hb dX4_step_49 ?_
  refine jk_top (show (3 * (nI x.2.2.2.1)) = (nI (3 * x.2.2.2.1)) from jn_3m _) ?_
  refine lv_iadd hx hb dX4_step_50 ?_
  refine jk_top (show ((nI qb) + (nI (3 * x.2.2.2.1))) = (nI (qb + 3 * x.2.2.2.1)) from nI_add _ _) ?_
  refine lv_iconst (v := 2) hx hb dX4_step_51 (by decide) ?_
  refine lv_iadd hx hb dX4_step_52 ?_
  refine jk_top (show ((nI (qb + 3 * x.2.2.2.1)) + 2) = (nI (qb + 3 * x.2.2.2.1 + 2)) from jn_a2 _) ?_
  refine jk_ald hx hb hK hP 1 0 rfl rfl (k := (qb + 3 * x.2.2.2.1 + 2)) rfl (by omega) (by omega) dX4_step_53 ?_
  refine jk_top (show (cd (qb + 3 * x.2.2.2.1 + 2)) = b from heb2) ?_
  refine lv_istore_n (lv' := [(3, .int b), (2, .int a), (1, .int (nI o)), (0, .ref h4)]) hx hb dX4_step_54 rfl hl (by decide) rfl (fun ls hl => ?_)
  refine lv_aload_n hx hb dX4_step_55 rfl (lv_at hl 3 rfl) ?_
  refine va_get (D := D) (ci := 4) (v := .int (nI x.2.2.2.1)) (C := RX4) (T := TX4) (N := 17) hx hb hts iw_X4_step_X4 hown hK hP 0 rfl rfl 12 (by decide) (hts (.fieldLink RX4 78 "JumpGuardModel" "pc" "I") (List.mem_of_getElem? (l := wsX4_step) (i := 3) rfl)) (fun _ h9 => h9) rfl dX4_step_56 ?_
  refine lv_iconst (v := 1) hx hb dX4_step_59 (by decide) ?_
  refine lv_iadd hx hb dX4_step_60 ?_
  refine lv_istore (lv' := [(4, .int ((nI x.2.2.2.1) + 1)), (3, .int b), (2, .int a), (1, .int (nI o)), (0, .ref h4)]) hx hb dX4_step_61 hl (by decide) rfl (fun ls hl => ?_)
  refine lv_iload_n hx hb dX4_step_63 rfl (lv_at hl 3 rfl) ?_
  rcases (show o = 0 ∨ o = 1 ∨ o = 2 ∨ o = 3 ∨ o = 4 ∨ o = 5 ∨ o = 6 ∨ o = 7 ∨ o = 8 ∨ o = 9 ∨ o = 10 ∨ o = 11 by omega) with rfl | rfl | rfl | rfl | rfl | rfl | rfl | rfl | rfl | rfl | rfl | rfl
  · refine lv_tableIn (off := 60) (tgt := 124) hx hb dX4_step_64 (by decide) (by decide) rfl (by decide) ?_
    refine lv_aload_n hx hb dX4_step_124 rfl (lv_at hl 4 rfl) ?_
    refine lv_iconst (v := 1) hx hb dX4_step_125 (by decide) ?_
    refine va_put (D := D) (ci := 4) (v := .int 1) (ty := .int) (C := RX4) (T := TX4) (N := 17) hx hb hts iw_X4_step_X4 tyX4 tyX4_ok nmX4 hown hK hP hD hS 0 rfl rfl 13 (by decide) (hts (.fieldLink RX4 37 "JumpGuardModel" "state" "I") (List.mem_of_getElem? (l := wsX4_step) (i := 4) rfl)) (fun _ h9 => h9) rfl (by decide +kernel) rfl rfl (Nat.le_of_ble_eq_true rfl) dX4_step_126 (fun H locs hP hD hS => ?_)
    have hP : va_P D vwCl [(h4, .inr (4, [.ref zc, .int (nI nn), .int (nI zz), .ref zj, .ref ze, .int (nI ed), .ref zt, .ref zo, .ref za, .ref zr, .ref zm, .ref zl, .int (nI x.2.2.2.1), .int 1, .int (nI x.2.2.2.2.2), .int (nI qb), .int (nI ql)])), (zc, .inl (cA, 288, .inl cd)), (zr, .inl (cA, 4, .inl x.1)), (zm, .inl (cA, 16, .inl x.2.1)), (zl, .inl (cA, 8, .inl x.2.2.1))] H := hP
    have hD : va_D A [(h4, .inr (4, [.ref zc, .int (nI nn), .int (nI zz), .ref zj, .ref ze, .int (nI ed), .ref zt, .ref zo, .ref za, .ref zr, .ref zm, .ref zl, .int (nI x.2.2.2.1), .int 1, .int (nI x.2.2.2.2.2), .int (nI qb), .int (nI ql)])), (zc, .inl (cA, 288, .inl cd)), (zr, .inl (cA, 4, .inl x.1)), (zm, .inl (cA, 16, .inl x.2.1)), (zl, .inl (cA, 8, .inl x.2.2.1))] := hD
    refine lv_goto (tgt := 382) hx hb dX4_step_129 (by decide) ?_
    refine lv_aload_n hx hb dX4_step_382 rfl (lv_at hl 4 rfl) ?_
    refine va_get (D := D) (ci := 4) (v := .int 1) (C := RX4) (T := TX4) (N := 17) hx hb hts iw_X4_step_X4 hown hK hP 0 rfl rfl 13 (by decide) (hts (.fieldLink RX4 37 "JumpGuardModel" "state" "I") (List.mem_of_getElem? (l := wsX4_step) (i := 4) rfl)) (fun _ h9 => h9) rfl dX4_step_383 ?_
    refine lv_if_ne (tgt := 395) hx hb dX4_step_386 (by decide) (fun c_386 => ?_) (fun c_386 => ?_)
    · have hSt : mvS 0 a b x.1 (rF cd qb) ql x.2.2.2.2.1 = 1 := rfl
      have hNx : mvN 0 a b x.1 (nI x.2.2.2.1) = ((nI x.2.2.2.1) + 1) := rfl
      have hpc := rS_pcn hSt c_386
      obtain ⟨hP9, hD9⟩ := jk_end (w2 := [(h4, .inr (4, [.ref zc, .int (nI nn), .int (nI zz), .ref zj, .ref ze, .int (nI ed), .ref zt, .ref zo, .ref za, .ref zr, .ref zm, .ref zl, .int (nI x.2.2.2.1), .int 1, .int (nI x.2.2.2.2.2), .int (nI qb), .int (nI ql)])), (zc, .inl (cA, 288, .inl cd)), (zr, .inl (cA, 4, .inl x.1)), (zm, .inl (cA, 16, .inl x.2.1)), (zl, .inl (cA, 8, .inl x.2.2.1))]) hP hD [0, 1, 2, 3, 4] (by decide) rfl
      have e9 : ([(h4, .inr (4, [.ref zc, .int (nI nn), .int (nI zz), .ref zj, .ref ze, .int (nI ed), .ref zt, .ref zo, .ref za, .ref zr, .ref zm, .ref zl, .int (nI x.2.2.2.1), .int 1, .int (nI x.2.2.2.2.2), .int (nI qb), .int (nI ql)])), (zc, .inl (cA, 288, .inl cd)), (zr, .inl (cA, 4, .inl x.1)), (zm, .inl (cA, 16, .inl x.2.1)), (zl, .inl (cA, 8, .inl x.2.2.1))] : va_W) = [(h4, .inr (4, [.ref zc, .int (nI nn), .int (nI zz), .ref zj, .ref ze, .int (nI ed), .ref zt, .ref zo, .ref za, .ref zr, .ref zm, .ref zl, .int (nI (rStep (rF cd qb) ql x).2.2.2.1), .int ((rStep (rF cd qb) ql x).2.2.2.2.1), .int (nI (rStep (rF cd qb) ql x).2.2.2.2.2), .int (nI qb), .int (nI ql)])), (zc, .inl (cA, 288, .inl cd)), (zr, .inl (cA, 4, .inl ((rStep (rF cd qb) ql x).1))), (zm, .inl (cA, 16, .inl ((rStep (rF cd qb) ql x).2.1))), (zl, .inl (cA, 8, .inl ((rStep (rF cd qb) ql x).2.2.1)))] := (by rw [rStep_eq hoo hea heb]; dsimp only; rw [hpc, hSt]; rfl)
      rw [e9] at hP9 hD9
      exact W.vret hx hb hr (fun t9 ht9 hW9 => ⟨⟨(), rfl, trivial, by rw [ht9]; exact hP9, hD9⟩, hS.F ht9⟩) hS.2.2 dX4_step_395
    · exact absurd c_386 (by decide)
  · refine lv_tableIn (off := 68) (tgt := 132) hx hb dX4_step_64 (by decide) (by decide) rfl (by decide) ?_
    obtain ⟨ta, hta, eta⟩ := hreg (by decide) (by decide) (by decide)
    rw [← hea] at eta
    subst eta
    refine lv_aload_n hx hb dX4_step_132 rfl (lv_at hl 4 rfl) ?_
    refine va_get (D := D) (ci := 4) (v := .ref zr) (C := RX4) (T := TX4) (N := 17) hx hb hts iw_X4_step_X4 hown hK hP 0 rfl rfl 9 (by decide) (hts (.fieldLink RX4 28 "JumpGuardModel" "reg" "[I") (List.mem_of_getElem? (l := wsX4_step) (i := 5) rfl)) (fun _ h9 => h9) rfl dX4_step_133 ?_
    refine lv_iload_n hx hb dX4_step_136 rfl (lv_at hl 2 rfl) ?_
    refine lv_iload_n hx hb dX4_step_137 rfl (lv_at hl 1 rfl) ?_
    refine jk_ast hx hb hK hP hD hS 2 0 rfl rfl (k := ta) rfl (by omega) (by omega) dX4_step_138 (fun H locs hP hD hS => ?_)
    have hP : va_P D vwCl [(h4, .inr (4, [.ref zc, .int (nI nn), .int (nI zz), .ref zj, .ref ze, .int (nI ed), .ref zt, .ref zo, .ref za, .ref zr, .ref zm, .ref zl, .int (nI x.2.2.2.1), .int x.2.2.2.2.1, .int (nI x.2.2.2.2.2), .int (nI qb), .int (nI ql)])), (zc, .inl (cA, 288, .inl cd)), (zr, .inl (cA, 4, .inl (upd x.1 ta b))), (zm, .inl (cA, 16, .inl x.2.1)), (zl, .inl (cA, 8, .inl x.2.2.1))] H := hP
    have hD : va_D A [(h4, .inr (4, [.ref zc, .int (nI nn), .int (nI zz), .ref zj, .ref ze, .int (nI ed), .ref zt, .ref zo, .ref za, .ref zr, .ref zm, .ref zl, .int (nI x.2.2.2.1), .int x.2.2.2.2.1, .int (nI x.2.2.2.2.2), .int (nI qb), .int (nI ql)])), (zc, .inl (cA, 288, .inl cd)), (zr, .inl (cA, 4, .inl (upd x.1 ta b))), (zm, .inl (cA, 16, .inl x.2.1)), (zl, .inl (cA, 8, .inl x.2.2.1))] := hD
    rw [show (upd x.1 ta b) = (mvR 1 (nI ta) b x.1 x.2.1) from mvR_19 (by decide) hta] at hP hD
    have hP : va_P D vwCl [(h4, .inr (4, [.ref zc, .int (nI nn), .int (nI zz), .ref zj, .ref ze, .int (nI ed), .ref zt, .ref zo, .ref za, .ref zr, .ref zm, .ref zl, .int (nI x.2.2.2.1), .int x.2.2.2.2.1, .int (nI x.2.2.2.2.2), .int (nI qb), .int (nI ql)])), (zc, .inl (cA, 288, .inl cd)), (zr, .inl (cA, 4, .inl (mvR 1 (nI ta) b x.1 x.2.1))), (zm, .inl (cA, 16, .inl x.2.1)), (zl, .inl (cA, 8, .inl x.2.2.1))] H := hP
    have hD : va_D A [(h4, .inr (4, [.ref zc, .int (nI nn), .int (nI zz), .ref zj, .ref ze, .int (nI ed), .ref zt, .ref zo, .ref za, .ref zr, .ref zm, .ref zl, .int (nI x.2.2.2.1), .int x.2.2.2.2.1, .int (nI x.2.2.2.2.2), .int (nI qb), .int (nI ql)])), (zc, .inl (cA, 288, .inl cd)), (zr, .inl (cA, 4, .inl (mvR 1 (nI ta) b x.1 x.2.1))), (zm, .inl (cA, 16, .inl x.2.1)), (zl, .inl (cA, 8, .inl x.2.2.1))] := hD
    refine lv_goto (tgt := 382) hx hb dX4_step_139 (by decide) ?_
    refine lv_aload_n hx hb dX4_step_382 rfl (lv_at hl 4 rfl) ?_
    refine va_get (D := D) (ci := 4) (v := .int x.2.2.2.2.1) (C := RX4) (T := TX4) (N := 17) hx hb hts iw_X4_step_X4 hown hK hP 0 rfl rfl 13 (by decide) (hts (.fieldLink RX4 37 "JumpGuardModel" "state" "I") (List.mem_of_getElem? (l := wsX4_step) (i := 4) rfl)) (fun _ h9 => h9) rfl dX4_step_383 ?_
    refine lv_if_ne (tgt := 395) hx hb dX4_step_386 (by decide) (fun c_386 => ?_) (fun c_386 => ?_)
    · have hSt : mvS 1 (nI ta) b x.1 (rF cd qb) ql x.2.2.2.2.1 = x.2.2.2.2.1 := rfl
      have hNx : mvN 1 (nI ta) b x.1 (nI x.2.2.2.1) = ((nI x.2.2.2.1) + 1) := rfl
      exact absurd hst c_386
    · have hSt : mvS 1 (nI ta) b x.1 (rF cd qb) ql x.2.2.2.2.1 = x.2.2.2.2.1 := rfl
      have hNx : mvN 1 (nI ta) b x.1 (nI x.2.2.2.1) = ((nI x.2.2.2.1) + 1) := rfl
      have hpc := rS_pc hwf hi hoo hea heb hSt c_386 hNx
      refine lv_aload_n hx hb dX4_step_389 rfl (lv_at hl 4 rfl) ?_
      refine lv_iload hx hb dX4_step_390 (lv_at hl 0 rfl) ?_
      refine va_put (D := D) (ci := 4) (v := .int ((nI x.2.2.2.1) + 1)) (ty := .int) (C := RX4) (T := TX4) (N := 17) hx hb hts iw_X4_step_X4 tyX4 tyX4_ok nmX4 hown hK hP hD hS 0 rfl rfl 12 (by decide) (hts (.fieldLink RX4 78 "JumpGuardModel" "pc" "I") (List.mem_of_getElem? (l := wsX4_step) (i := 3) rfl)) (fun _ h9 => h9) rfl (by decide +kernel) rfl rfl (Nat.le_of_ble_eq_true rfl) dX4_step_392 (fun H locs hP hD hS => ?_)
      have hP : va_P D vwCl [(h4, .inr (4, [.ref zc, .int (nI nn), .int (nI zz), .ref zj, .ref ze, .int (nI ed), .ref zt, .ref zo, .ref za, .ref zr, .ref zm, .ref zl, .int ((nI x.2.2.2.1) + 1), .int x.2.2.2.2.1, .int (nI x.2.2.2.2.2), .int (nI qb), .int (nI ql)])), (zc, .inl (cA, 288, .inl cd)), (zr, .inl (cA, 4, .inl (mvR 1 (nI ta) b x.1 x.2.1))), (zm, .inl (cA, 16, .inl x.2.1)), (zl, .inl (cA, 8, .inl x.2.2.1))] H := hP
      have hD : va_D A [(h4, .inr (4, [.ref zc, .int (nI nn), .int (nI zz), .ref zj, .ref ze, .int (nI ed), .ref zt, .ref zo, .ref za, .ref zr, .ref zm, .ref zl, .int ((nI x.2.2.2.1) + 1), .int x.2.2.2.2.1, .int (nI x.2.2.2.2.2), .int (nI qb), .int (nI ql)])), (zc, .inl (cA, 288, .inl cd)), (zr, .inl (cA, 4, .inl (mvR 1 (nI ta) b x.1 x.2.1))), (zm, .inl (cA, 16, .inl x.2.1)), (zl, .inl (cA, 8, .inl x.2.2.1))] := hD
      obtain ⟨hP9, hD9⟩ := jk_end (w2 := [(h4, .inr (4, [.ref zc, .int (nI nn), .int (nI zz), .ref zj, .ref ze, .int (nI ed), .ref zt, .ref zo, .ref za, .ref zr, .ref zm, .ref zl, .int ((nI x.2.2.2.1) + 1), .int x.2.2.2.2.1, .int (nI x.2.2.2.2.2), .int (nI qb), .int (nI ql)])), (zc, .inl (cA, 288, .inl cd)), (zr, .inl (cA, 4, .inl (mvR 1 (nI ta) b x.1 x.2.1))), (zm, .inl (cA, 16, .inl x.2.1)), (zl, .inl (cA, 8, .inl x.2.2.1))]) hP hD [0, 1, 2, 3, 4] (by decide) rfl
      have e9 : ([(h4, .inr (4, [.ref zc, .int (nI nn), .int (nI zz), .ref zj, .ref ze, .int (nI ed), .ref zt, .ref zo, .ref za, .ref zr, .ref zm, .ref zl, .int ((nI x.2.2.2.1) + 1), .int x.2.2.2.2.1, .int (nI x.2.2.2.2.2), .int (nI qb), .int (nI ql)])), (zc, .inl (cA, 288, .inl cd)), (zr, .inl (cA, 4, .inl (mvR 1 (nI ta) b x.1 x.2.1))), (zm, .inl (cA, 16, .inl x.2.1)), (zl, .inl (cA, 8, .inl x.2.2.1))] : va_W) = [(h4, .inr (4, [.ref zc, .int (nI nn), .int (nI zz), .ref zj, .ref ze, .int (nI ed), .ref zt, .ref zo, .ref za, .ref zr, .ref zm, .ref zl, .int (nI (rStep (rF cd qb) ql x).2.2.2.1), .int ((rStep (rF cd qb) ql x).2.2.2.2.1), .int (nI (rStep (rF cd qb) ql x).2.2.2.2.2), .int (nI qb), .int (nI ql)])), (zc, .inl (cA, 288, .inl cd)), (zr, .inl (cA, 4, .inl ((rStep (rF cd qb) ql x).1))), (zm, .inl (cA, 16, .inl ((rStep (rF cd qb) ql x).2.1))), (zl, .inl (cA, 8, .inl ((rStep (rF cd qb) ql x).2.2.1)))] := (by rw [rStep_eq hoo hea heb]; dsimp only; rw [hpc, hSt]; rfl)
      rw [e9] at hP9 hD9
      exact W.vret hx hb hr (fun t9 ht9 hW9 => ⟨⟨(), rfl, trivial, by rw [ht9]; exact hP9, hD9⟩, hS.F ht9⟩) hS.2.2 dX4_step_395
  · refine lv_tableIn (off := 78) (tgt := 142) hx hb dX4_step_64 (by decide) (by decide) rfl (by decide) ?_
    obtain ⟨ta, hta, eta⟩ := hreg (by decide) (by decide) (by decide)
    rw [← hea] at eta
    subst eta
    obtain ⟨tb, htb, etb⟩ := hcel (by decide)
    rw [← heb] at etb
    subst etb
    refine lv_aload_n hx hb dX4_step_142 rfl (lv_at hl 4 rfl) ?_
    refine va_get (D := D) (ci := 4) (v := .ref zr) (C := RX4) (T := TX4) (N := 17) hx hb hts iw_X4_step_X4 hown hK hP 0 rfl rfl 9 (by decide) (hts (.fieldLink RX4 28 "JumpGuardModel" "reg" "[I") (List.mem_of_getElem? (l := wsX4_step) (i := 5) rfl)) (fun _ h9 => h9) rfl dX4_step_143 ?_
    refine lv_iload_n hx hb dX4_step_146 rfl (lv_at hl 2 rfl) ?_
    refine lv_aload_n hx hb dX4_step_147 rfl (lv_at hl 4 rfl) ?_
    refine va_get (D := D) (ci := 4) (v := .ref zm) (C := RX4) (T := TX4) (N := 17) hx hb hts iw_X4_step_X4 hown hK hP 0 rfl rfl 10 (by decide) (hts (.fieldLink RX4 31 "JumpGuardModel" "mem" "[I") (List.mem_of_getElem? (l := wsX4_step) (i := 6) rfl)) (fun _ h9 => h9) rfl dX4_step_148 ?_
    refine lv_iload_n hx hb dX4_step_151 rfl (lv_at hl 1 rfl) ?_
    refine jk_ald hx hb hK hP 3 0 rfl rfl (k := tb) rfl (by omega) (by omega) dX4_step_152 ?_
    refine jk_ast hx hb hK hP hD hS 2 0 rfl rfl (k := ta) rfl (by omega) (by omega) dX4_step_153 (fun H locs hP hD hS => ?_)
    have hP : va_P D vwCl [(h4, .inr (4, [.ref zc, .int (nI nn), .int (nI zz), .ref zj, .ref ze, .int (nI ed), .ref zt, .ref zo, .ref za, .ref zr, .ref zm, .ref zl, .int (nI x.2.2.2.1), .int x.2.2.2.2.1, .int (nI x.2.2.2.2.2), .int (nI qb), .int (nI ql)])), (zc, .inl (cA, 288, .inl cd)), (zr, .inl (cA, 4, .inl (upd x.1 ta (x.2.1 tb)))), (zm, .inl (cA, 16, .inl x.2.1)), (zl, .inl (cA, 8, .inl x.2.2.1))] H := hP
    have hD : va_D A [(h4, .inr (4, [.ref zc, .int (nI nn), .int (nI zz), .ref zj, .ref ze, .int (nI ed), .ref zt, .ref zo, .ref za, .ref zr, .ref zm, .ref zl, .int (nI x.2.2.2.1), .int x.2.2.2.2.1, .int (nI x.2.2.2.2.2), .int (nI qb), .int (nI ql)])), (zc, .inl (cA, 288, .inl cd)), (zr, .inl (cA, 4, .inl (upd x.1 ta (x.2.1 tb)))), (zm, .inl (cA, 16, .inl x.2.1)), (zl, .inl (cA, 8, .inl x.2.2.1))] := hD
    rw [show (upd x.1 ta (x.2.1 tb)) = (mvR 2 (nI ta) (nI tb) x.1 x.2.1) from mvR_2 hta htb] at hP hD
    have hP : va_P D vwCl [(h4, .inr (4, [.ref zc, .int (nI nn), .int (nI zz), .ref zj, .ref ze, .int (nI ed), .ref zt, .ref zo, .ref za, .ref zr, .ref zm, .ref zl, .int (nI x.2.2.2.1), .int x.2.2.2.2.1, .int (nI x.2.2.2.2.2), .int (nI qb), .int (nI ql)])), (zc, .inl (cA, 288, .inl cd)), (zr, .inl (cA, 4, .inl (mvR 2 (nI ta) (nI tb) x.1 x.2.1))), (zm, .inl (cA, 16, .inl x.2.1)), (zl, .inl (cA, 8, .inl x.2.2.1))] H := hP
    have hD : va_D A [(h4, .inr (4, [.ref zc, .int (nI nn), .int (nI zz), .ref zj, .ref ze, .int (nI ed), .ref zt, .ref zo, .ref za, .ref zr, .ref zm, .ref zl, .int (nI x.2.2.2.1), .int x.2.2.2.2.1, .int (nI x.2.2.2.2.2), .int (nI qb), .int (nI ql)])), (zc, .inl (cA, 288, .inl cd)), (zr, .inl (cA, 4, .inl (mvR 2 (nI ta) (nI tb) x.1 x.2.1))), (zm, .inl (cA, 16, .inl x.2.1)), (zl, .inl (cA, 8, .inl x.2.2.1))] := hD
    refine lv_goto (tgt := 382) hx hb dX4_step_154 (by decide) ?_
    refine lv_aload_n hx hb dX4_step_382 rfl (lv_at hl 4 rfl) ?_
    refine va_get (D := D) (ci := 4) (v := .int x.2.2.2.2.1) (C := RX4) (T := TX4) (N := 17) hx hb hts iw_X4_step_X4 hown hK hP 0 rfl rfl 13 (by decide) (hts (.fieldLink RX4 37 "JumpGuardModel" "state" "I") (List.mem_of_getElem? (l := wsX4_step) (i := 4) rfl)) (fun _ h9 => h9) rfl dX4_step_383 ?_
    refine lv_if_ne (tgt := 395) hx hb dX4_step_386 (by decide) (fun c_386 => ?_) (fun c_386 => ?_)
    · have hSt : mvS 2 (nI ta) (nI tb) x.1 (rF cd qb) ql x.2.2.2.2.1 = x.2.2.2.2.1 := rfl
      have hNx : mvN 2 (nI ta) (nI tb) x.1 (nI x.2.2.2.1) = ((nI x.2.2.2.1) + 1) := rfl
      exact absurd hst c_386
    · have hSt : mvS 2 (nI ta) (nI tb) x.1 (rF cd qb) ql x.2.2.2.2.1 = x.2.2.2.2.1 := rfl
      have hNx : mvN 2 (nI ta) (nI tb) x.1 (nI x.2.2.2.1) = ((nI x.2.2.2.1) + 1) := rfl
      have hpc := rS_pc hwf hi hoo hea heb hSt c_386 hNx
      refine lv_aload_n hx hb dX4_step_389 rfl (lv_at hl 4 rfl) ?_
      refine lv_iload hx hb dX4_step_390 (lv_at hl 0 rfl) ?_
      refine va_put (D := D) (ci := 4) (v := .int ((nI x.2.2.2.1) + 1)) (ty := .int) (C := RX4) (T := TX4) (N := 17) hx hb hts iw_X4_step_X4 tyX4 tyX4_ok nmX4 hown hK hP hD hS 0 rfl rfl 12 (by decide) (hts (.fieldLink RX4 78 "JumpGuardModel" "pc" "I") (List.mem_of_getElem? (l := wsX4_step) (i := 3) rfl)) (fun _ h9 => h9) rfl (by decide +kernel) rfl rfl (Nat.le_of_ble_eq_true rfl) dX4_step_392 (fun H locs hP hD hS => ?_)
      have hP : va_P D vwCl [(h4, .inr (4, [.ref zc, .int (nI nn), .int (nI zz), .ref zj, .ref ze, .int (nI ed), .ref zt, .ref zo, .ref za, .ref zr, .ref zm, .ref zl, .int ((nI x.2.2.2.1) + 1), .int x.2.2.2.2.1, .int (nI x.2.2.2.2.2), .int (nI qb), .int (nI ql)])), (zc, .inl (cA, 288, .inl cd)), (zr, .inl (cA, 4, .inl (mvR 2 (nI ta) (nI tb) x.1 x.2.1))), (zm, .inl (cA, 16, .inl x.2.1)), (zl, .inl (cA, 8, .inl x.2.2.1))] H := hP
      have hD : va_D A [(h4, .inr (4, [.ref zc, .int (nI nn), .int (nI zz), .ref zj, .ref ze, .int (nI ed), .ref zt, .ref zo, .ref za, .ref zr, .ref zm, .ref zl, .int ((nI x.2.2.2.1) + 1), .int x.2.2.2.2.1, .int (nI x.2.2.2.2.2), .int (nI qb), .int (nI ql)])), (zc, .inl (cA, 288, .inl cd)), (zr, .inl (cA, 4, .inl (mvR 2 (nI ta) (nI tb) x.1 x.2.1))), (zm, .inl (cA, 16, .inl x.2.1)), (zl, .inl (cA, 8, .inl x.2.2.1))] := hD
      obtain ⟨hP9, hD9⟩ := jk_end (w2 := [(h4, .inr (4, [.ref zc, .int (nI nn), .int (nI zz), .ref zj, .ref ze, .int (nI ed), .ref zt, .ref zo, .ref za, .ref zr, .ref zm, .ref zl, .int ((nI x.2.2.2.1) + 1), .int x.2.2.2.2.1, .int (nI x.2.2.2.2.2), .int (nI qb), .int (nI ql)])), (zc, .inl (cA, 288, .inl cd)), (zr, .inl (cA, 4, .inl (mvR 2 (nI ta) (nI tb) x.1 x.2.1))), (zm, .inl (cA, 16, .inl x.2.1)), (zl, .inl (cA, 8, .inl x.2.2.1))]) hP hD [0, 1, 2, 3, 4] (by decide) rfl
      have e9 : ([(h4, .inr (4, [.ref zc, .int (nI nn), .int (nI zz), .ref zj, .ref ze, .int (nI ed), .ref zt, .ref zo, .ref za, .ref zr, .ref zm, .ref zl, .int ((nI x.2.2.2.1) + 1), .int x.2.2.2.2.1, .int (nI x.2.2.2.2.2), .int (nI qb), .int (nI ql)])), (zc, .inl (cA, 288, .inl cd)), (zr, .inl (cA, 4, .inl (mvR 2 (nI ta) (nI tb) x.1 x.2.1))), (zm, .inl (cA, 16, .inl x.2.1)), (zl, .inl (cA, 8, .inl x.2.2.1))] : va_W) = [(h4, .inr (4, [.ref zc, .int (nI nn), .int (nI zz), .ref zj, .ref ze, .int (nI ed), .ref zt, .ref zo, .ref za, .ref zr, .ref zm, .ref zl, .int (nI (rStep (rF cd qb) ql x).2.2.2.1), .int ((rStep (rF cd qb) ql x).2.2.2.2.1), .int (nI (rStep (rF cd qb) ql x).2.2.2.2.2), .int (nI qb), .int (nI ql)])), (zc, .inl (cA, 288, .inl cd)), (zr, .inl (cA, 4, .inl ((rStep (rF cd qb) ql x).1))), (zm, .inl (cA, 16, .inl ((rStep (rF cd qb) ql x).2.1))), (zl, .inl (cA, 8, .inl ((rStep (rF cd qb) ql x).2.2.1)))] := (by rw [rStep_eq hoo hea heb]; dsimp only; rw [hpc, hSt]; rfl)
      rw [e9] at hP9 hD9
      exact W.vret hx hb hr (fun t9 ht9 hW9 => ⟨⟨(), rfl, trivial, by rw [ht9]; exact hP9, hD9⟩, hS.F ht9⟩) hS.2.2 dX4_step_395
  · refine lv_tableIn (off := 93) (tgt := 157) hx hb dX4_step_64 (by decide) (by decide) rfl (by decide) ?_
    obtain ⟨ta, hta, eta⟩ := hreg (by decide) (by decide) (by decide)
    rw [← hea] at eta
    subst eta
    obtain ⟨tb, htb, etb⟩ := hcel (by decide)
    rw [← heb] at etb
    subst etb
    refine lv_aload_n hx hb dX4_step_157 rfl (lv_at hl 4 rfl) ?_
    refine va_get (D := D) (ci := 4) (v := .ref zm) (C := RX4) (T := TX4) (N := 17) hx hb hts iw_X4_step_X4 hown hK hP 0 rfl rfl 10 (by decide) (hts (.fieldLink RX4 31 "JumpGuardModel" "mem" "[I") (List.mem_of_getElem? (l := wsX4_step) (i := 6) rfl)) (fun _ h9 => h9) rfl dX4_step_158 ?_
    refine lv_iload_n hx hb dX4_step_161 rfl (lv_at hl 1 rfl) ?_
    refine lv_aload_n hx hb dX4_step_162 rfl (lv_at hl 4 rfl) ?_
    refine va_get (D := D) (ci := 4) (v := .ref zr) (C := RX4) (T := TX4) (N := 17) hx hb hts iw_X4_step_X4 hown hK hP 0 rfl rfl 9 (by decide) (hts (.fieldLink RX4 28 "JumpGuardModel" "reg" "[I") (List.mem_of_getElem? (l := wsX4_step) (i := 5) rfl)) (fun _ h9 => h9) rfl dX4_step_163 ?_
    refine lv_iload_n hx hb dX4_step_166 rfl (lv_at hl 2 rfl) ?_
    refine jk_ald hx hb hK hP 2 0 rfl rfl (k := ta) rfl (by omega) (by omega) dX4_step_167 ?_
    refine jk_ast hx hb hK hP hD hS 3 0 rfl rfl (k := tb) rfl (by omega) (by omega) dX4_step_168 (fun H locs hP hD hS => ?_)
    have hP : va_P D vwCl [(h4, .inr (4, [.ref zc, .int (nI nn), .int (nI zz), .ref zj, .ref ze, .int (nI ed), .ref zt, .ref zo, .ref za, .ref zr, .ref zm, .ref zl, .int (nI x.2.2.2.1), .int x.2.2.2.2.1, .int (nI x.2.2.2.2.2), .int (nI qb), .int (nI ql)])), (zc, .inl (cA, 288, .inl cd)), (zr, .inl (cA, 4, .inl x.1)), (zm, .inl (cA, 16, .inl (upd x.2.1 tb (x.1 ta)))), (zl, .inl (cA, 8, .inl x.2.2.1))] H := hP
    have hD : va_D A [(h4, .inr (4, [.ref zc, .int (nI nn), .int (nI zz), .ref zj, .ref ze, .int (nI ed), .ref zt, .ref zo, .ref za, .ref zr, .ref zm, .ref zl, .int (nI x.2.2.2.1), .int x.2.2.2.2.1, .int (nI x.2.2.2.2.2), .int (nI qb), .int (nI ql)])), (zc, .inl (cA, 288, .inl cd)), (zr, .inl (cA, 4, .inl x.1)), (zm, .inl (cA, 16, .inl (upd x.2.1 tb (x.1 ta)))), (zl, .inl (cA, 8, .inl x.2.2.1))] := hD
    rw [show (upd x.2.1 tb (x.1 ta)) = (mvC 3 (nI ta) (nI tb) x.1 x.2.1) from mvC_3 hta htb] at hP hD
    have hP : va_P D vwCl [(h4, .inr (4, [.ref zc, .int (nI nn), .int (nI zz), .ref zj, .ref ze, .int (nI ed), .ref zt, .ref zo, .ref za, .ref zr, .ref zm, .ref zl, .int (nI x.2.2.2.1), .int x.2.2.2.2.1, .int (nI x.2.2.2.2.2), .int (nI qb), .int (nI ql)])), (zc, .inl (cA, 288, .inl cd)), (zr, .inl (cA, 4, .inl x.1)), (zm, .inl (cA, 16, .inl (mvC 3 (nI ta) (nI tb) x.1 x.2.1))), (zl, .inl (cA, 8, .inl x.2.2.1))] H := hP
    have hD : va_D A [(h4, .inr (4, [.ref zc, .int (nI nn), .int (nI zz), .ref zj, .ref ze, .int (nI ed), .ref zt, .ref zo, .ref za, .ref zr, .ref zm, .ref zl, .int (nI x.2.2.2.1), .int x.2.2.2.2.1, .int (nI x.2.2.2.2.2), .int (nI qb), .int (nI ql)])), (zc, .inl (cA, 288, .inl cd)), (zr, .inl (cA, 4, .inl x.1)), (zm, .inl (cA, 16, .inl (mvC 3 (nI ta) (nI tb) x.1 x.2.1))), (zl, .inl (cA, 8, .inl x.2.2.1))] := hD
    refine lv_goto (tgt := 382) hx hb dX4_step_169 (by decide) ?_
    refine lv_aload_n hx hb dX4_step_382 rfl (lv_at hl 4 rfl) ?_
    refine va_get (D := D) (ci := 4) (v := .int x.2.2.2.2.1) (C := RX4) (T := TX4) (N := 17) hx hb hts iw_X4_step_X4 hown hK hP 0 rfl rfl 13 (by decide) (hts (.fieldLink RX4 37 "JumpGuardModel" "state" "I") (List.mem_of_getElem? (l := wsX4_step) (i := 4) rfl)) (fun _ h9 => h9) rfl dX4_step_383 ?_
    refine lv_if_ne (tgt := 395) hx hb dX4_step_386 (by decide) (fun c_386 => ?_) (fun c_386 => ?_)
    · have hSt : mvS 3 (nI ta) (nI tb) x.1 (rF cd qb) ql x.2.2.2.2.1 = x.2.2.2.2.1 := rfl
      have hNx : mvN 3 (nI ta) (nI tb) x.1 (nI x.2.2.2.1) = ((nI x.2.2.2.1) + 1) := rfl
      exact absurd hst c_386
    · have hSt : mvS 3 (nI ta) (nI tb) x.1 (rF cd qb) ql x.2.2.2.2.1 = x.2.2.2.2.1 := rfl
      have hNx : mvN 3 (nI ta) (nI tb) x.1 (nI x.2.2.2.1) = ((nI x.2.2.2.1) + 1) := rfl
      have hpc := rS_pc hwf hi hoo hea heb hSt c_386 hNx
      refine lv_aload_n hx hb dX4_step_389 rfl (lv_at hl 4 rfl) ?_
      refine lv_iload hx hb dX4_step_390 (lv_at hl 0 rfl) ?_
      refine va_put (D := D) (ci := 4) (v := .int ((nI x.2.2.2.1) + 1)) (ty := .int) (C := RX4) (T := TX4) (N := 17) hx hb hts iw_X4_step_X4 tyX4 tyX4_ok nmX4 hown hK hP hD hS 0 rfl rfl 12 (by decide) (hts (.fieldLink RX4 78 "JumpGuardModel" "pc" "I") (List.mem_of_getElem? (l := wsX4_step) (i := 3) rfl)) (fun _ h9 => h9) rfl (by decide +kernel) rfl rfl (Nat.le_of_ble_eq_true rfl) dX4_step_392 (fun H locs hP hD hS => ?_)
      have hP : va_P D vwCl [(h4, .inr (4, [.ref zc, .int (nI nn), .int (nI zz), .ref zj, .ref ze, .int (nI ed), .ref zt, .ref zo, .ref za, .ref zr, .ref zm, .ref zl, .int ((nI x.2.2.2.1) + 1), .int x.2.2.2.2.1, .int (nI x.2.2.2.2.2), .int (nI qb), .int (nI ql)])), (zc, .inl (cA, 288, .inl cd)), (zr, .inl (cA, 4, .inl x.1)), (zm, .inl (cA, 16, .inl (mvC 3 (nI ta) (nI tb) x.1 x.2.1))), (zl, .inl (cA, 8, .inl x.2.2.1))] H := hP
      have hD : va_D A [(h4, .inr (4, [.ref zc, .int (nI nn), .int (nI zz), .ref zj, .ref ze, .int (nI ed), .ref zt, .ref zo, .ref za, .ref zr, .ref zm, .ref zl, .int ((nI x.2.2.2.1) + 1), .int x.2.2.2.2.1, .int (nI x.2.2.2.2.2), .int (nI qb), .int (nI ql)])), (zc, .inl (cA, 288, .inl cd)), (zr, .inl (cA, 4, .inl x.1)), (zm, .inl (cA, 16, .inl (mvC 3 (nI ta) (nI tb) x.1 x.2.1))), (zl, .inl (cA, 8, .inl x.2.2.1))] := hD
      obtain ⟨hP9, hD9⟩ := jk_end (w2 := [(h4, .inr (4, [.ref zc, .int (nI nn), .int (nI zz), .ref zj, .ref ze, .int (nI ed), .ref zt, .ref zo, .ref za, .ref zr, .ref zm, .ref zl, .int ((nI x.2.2.2.1) + 1), .int x.2.2.2.2.1, .int (nI x.2.2.2.2.2), .int (nI qb), .int (nI ql)])), (zc, .inl (cA, 288, .inl cd)), (zr, .inl (cA, 4, .inl x.1)), (zm, .inl (cA, 16, .inl (mvC 3 (nI ta) (nI tb) x.1 x.2.1))), (zl, .inl (cA, 8, .inl x.2.2.1))]) hP hD [0, 1, 2, 3, 4] (by decide) rfl
      have e9 : ([(h4, .inr (4, [.ref zc, .int (nI nn), .int (nI zz), .ref zj, .ref ze, .int (nI ed), .ref zt, .ref zo, .ref za, .ref zr, .ref zm, .ref zl, .int ((nI x.2.2.2.1) + 1), .int x.2.2.2.2.1, .int (nI x.2.2.2.2.2), .int (nI qb), .int (nI ql)])), (zc, .inl (cA, 288, .inl cd)), (zr, .inl (cA, 4, .inl x.1)), (zm, .inl (cA, 16, .inl (mvC 3 (nI ta) (nI tb) x.1 x.2.1))), (zl, .inl (cA, 8, .inl x.2.2.1))] : va_W) = [(h4, .inr (4, [.ref zc, .int (nI nn), .int (nI zz), .ref zj, .ref ze, .int (nI ed), .ref zt, .ref zo, .ref za, .ref zr, .ref zm, .ref zl, .int (nI (rStep (rF cd qb) ql x).2.2.2.1), .int ((rStep (rF cd qb) ql x).2.2.2.2.1), .int (nI (rStep (rF cd qb) ql x).2.2.2.2.2), .int (nI qb), .int (nI ql)])), (zc, .inl (cA, 288, .inl cd)), (zr, .inl (cA, 4, .inl ((rStep (rF cd qb) ql x).1))), (zm, .inl (cA, 16, .inl ((rStep (rF cd qb) ql x).2.1))), (zl, .inl (cA, 8, .inl ((rStep (rF cd qb) ql x).2.2.1)))] := (by rw [rStep_eq hoo hea heb]; dsimp only; rw [hpc, hSt]; rfl)
      rw [e9] at hP9 hD9
      exact W.vret hx hb hr (fun t9 ht9 hW9 => ⟨⟨(), rfl, trivial, by rw [ht9]; exact hP9, hD9⟩, hS.F ht9⟩) hS.2.2 dX4_step_395
  · refine lv_tableIn (off := 108) (tgt := 172) hx hb dX4_step_64 (by decide) (by decide) rfl (by decide) ?_
    obtain ⟨ta, hta, eta⟩ := hreg (by decide) (by decide) (by decide)
    rw [← hea] at eta
    subst eta
    obtain ⟨tb, htb, etb⟩ := hre2 rfl
    rw [← heb] at etb
    subst etb
    refine lv_aload_n hx hb dX4_step_172 rfl (lv_at hl 4 rfl) ?_
    refine va_get (D := D) (ci := 4) (v := .ref zr) (C := RX4) (T := TX4) (N := 17) hx hb hts iw_X4_step_X4 hown hK hP 0 rfl rfl 9 (by decide) (hts (.fieldLink RX4 28 "JumpGuardModel" "reg" "[I") (List.mem_of_getElem? (l := wsX4_step) (i := 5) rfl)) (fun _ h9 => h9) rfl dX4_step_173 ?_
    refine lv_iload_n hx hb dX4_step_176 rfl (lv_at hl 2 rfl) ?_
    refine lv_aload_n hx hb dX4_step_177 rfl (lv_at hl 4 rfl) ?_
    refine va_get (D := D) (ci := 4) (v := .ref zr) (C := RX4) (T := TX4) (N := 17) hx hb hts iw_X4_step_X4 hown hK hP 0 rfl rfl 9 (by decide) (hts (.fieldLink RX4 28 "JumpGuardModel" "reg" "[I") (List.mem_of_getElem? (l := wsX4_step) (i := 5) rfl)) (fun _ h9 => h9) rfl dX4_step_178 ?_
    refine lv_iload_n hx hb dX4_step_181 rfl (lv_at hl 2 rfl) ?_
    refine jk_ald hx hb hK hP 2 0 rfl rfl (k := ta) rfl (by omega) (by omega) dX4_step_182 ?_
    refine lv_aload_n hx hb dX4_step_183 rfl (lv_at hl 4 rfl) ?_
    refine va_get (D := D) (ci := 4) (v := .ref zr) (C := RX4) (T := TX4) (N := 17) hx hb hts iw_X4_step_X4 hown hK hP 0 rfl rfl 9 (by decide) (hts (.fieldLink RX4 28 "JumpGuardModel" "reg" "[I") (List.mem_of_getElem? (l := wsX4_step) (i := 5) rfl)) (fun _ h9 => h9) rfl dX4_step_184 ?_
    refine lv_iload_n hx hb dX4_step_187 rfl (lv_at hl 1 rfl) ?_
    refine jk_ald hx hb hK hP 2 0 rfl rfl (k := tb) rfl (by omega) (by omega) dX4_step_188 ?_
    refine lv_iadd hx hb dX4_step_189 ?_
    refine jk_ast hx hb hK hP hD hS 2 0 rfl rfl (k := ta) rfl (by omega) (by omega) dX4_step_190 (fun H locs hP hD hS => ?_)
    have hP : va_P D vwCl [(h4, .inr (4, [.ref zc, .int (nI nn), .int (nI zz), .ref zj, .ref ze, .int (nI ed), .ref zt, .ref zo, .ref za, .ref zr, .ref zm, .ref zl, .int (nI x.2.2.2.1), .int x.2.2.2.2.1, .int (nI x.2.2.2.2.2), .int (nI qb), .int (nI ql)])), (zc, .inl (cA, 288, .inl cd)), (zr, .inl (cA, 4, .inl (upd x.1 ta ((x.1 ta) + (x.1 tb))))), (zm, .inl (cA, 16, .inl x.2.1)), (zl, .inl (cA, 8, .inl x.2.2.1))] H := hP
    have hD : va_D A [(h4, .inr (4, [.ref zc, .int (nI nn), .int (nI zz), .ref zj, .ref ze, .int (nI ed), .ref zt, .ref zo, .ref za, .ref zr, .ref zm, .ref zl, .int (nI x.2.2.2.1), .int x.2.2.2.2.1, .int (nI x.2.2.2.2.2), .int (nI qb), .int (nI ql)])), (zc, .inl (cA, 288, .inl cd)), (zr, .inl (cA, 4, .inl (upd x.1 ta ((x.1 ta) + (x.1 tb))))), (zm, .inl (cA, 16, .inl x.2.1)), (zl, .inl (cA, 8, .inl x.2.2.1))] := hD
    rw [show (upd x.1 ta ((x.1 ta) + (x.1 tb))) = (mvR 4 (nI ta) (nI tb) x.1 x.2.1) from mvR_4 hta htb] at hP hD
    have hP : va_P D vwCl [(h4, .inr (4, [.ref zc, .int (nI nn), .int (nI zz), .ref zj, .ref ze, .int (nI ed), .ref zt, .ref zo, .ref za, .ref zr, .ref zm, .ref zl, .int (nI x.2.2.2.1), .int x.2.2.2.2.1, .int (nI x.2.2.2.2.2), .int (nI qb), .int (nI ql)])), (zc, .inl (cA, 288, .inl cd)), (zr, .inl (cA, 4, .inl (mvR 4 (nI ta) (nI tb) x.1 x.2.1))), (zm, .inl (cA, 16, .inl x.2.1)), (zl, .inl (cA, 8, .inl x.2.2.1))] H := hP
    have hD : va_D A [(h4, .inr (4, [.ref zc, .int (nI nn), .int (nI zz), .ref zj, .ref ze, .int (nI ed), .ref zt, .ref zo, .ref za, .ref zr, .ref zm, .ref zl, .int (nI x.2.2.2.1), .int x.2.2.2.2.1, .int (nI x.2.2.2.2.2), .int (nI qb), .int (nI ql)])), (zc, .inl (cA, 288, .inl cd)), (zr, .inl (cA, 4, .inl (mvR 4 (nI ta) (nI tb) x.1 x.2.1))), (zm, .inl (cA, 16, .inl x.2.1)), (zl, .inl (cA, 8, .inl x.2.2.1))] := hD
    refine lv_goto (tgt := 382) hx hb dX4_step_191 (by decide) ?_
    refine lv_aload_n hx hb dX4_step_382 rfl (lv_at hl 4 rfl) ?_
    refine va_get (D := D) (ci := 4) (v := .int x.2.2.2.2.1) (C := RX4) (T := TX4) (N := 17) hx hb hts iw_X4_step_X4 hown hK hP 0 rfl rfl 13 (by decide) (hts (.fieldLink RX4 37 "JumpGuardModel" "state" "I") (List.mem_of_getElem? (l := wsX4_step) (i := 4) rfl)) (fun _ h9 => h9) rfl dX4_step_383 ?_
    refine lv_if_ne (tgt := 395) hx hb dX4_step_386 (by decide) (fun c_386 => ?_) (fun c_386 => ?_)
    · have hSt : mvS 4 (nI ta) (nI tb) x.1 (rF cd qb) ql x.2.2.2.2.1 = x.2.2.2.2.1 := rfl
      have hNx : mvN 4 (nI ta) (nI tb) x.1 (nI x.2.2.2.1) = ((nI x.2.2.2.1) + 1) := rfl
      exact absurd hst c_386
    · have hSt : mvS 4 (nI ta) (nI tb) x.1 (rF cd qb) ql x.2.2.2.2.1 = x.2.2.2.2.1 := rfl
      have hNx : mvN 4 (nI ta) (nI tb) x.1 (nI x.2.2.2.1) = ((nI x.2.2.2.1) + 1) := rfl
      have hpc := rS_pc hwf hi hoo hea heb hSt c_386 hNx
      refine lv_aload_n hx hb dX4_step_389 rfl (lv_at hl 4 rfl) ?_
      refine lv_iload hx hb dX4_step_390 (lv_at hl 0 rfl) ?_
      refine va_put (D := D) (ci := 4) (v := .int ((nI x.2.2.2.1) + 1)) (ty := .int) (C := RX4) (T := TX4) (N := 17) hx hb hts iw_X4_step_X4 tyX4 tyX4_ok nmX4 hown hK hP hD hS 0 rfl rfl 12 (by decide) (hts (.fieldLink RX4 78 "JumpGuardModel" "pc" "I") (List.mem_of_getElem? (l := wsX4_step) (i := 3) rfl)) (fun _ h9 => h9) rfl (by decide +kernel) rfl rfl (Nat.le_of_ble_eq_true rfl) dX4_step_392 (fun H locs hP hD hS => ?_)
      have hP : va_P D vwCl [(h4, .inr (4, [.ref zc, .int (nI nn), .int (nI zz), .ref zj, .ref ze, .int (nI ed), .ref zt, .ref zo, .ref za, .ref zr, .ref zm, .ref zl, .int ((nI x.2.2.2.1) + 1), .int x.2.2.2.2.1, .int (nI x.2.2.2.2.2), .int (nI qb), .int (nI ql)])), (zc, .inl (cA, 288, .inl cd)), (zr, .inl (cA, 4, .inl (mvR 4 (nI ta) (nI tb) x.1 x.2.1))), (zm, .inl (cA, 16, .inl x.2.1)), (zl, .inl (cA, 8, .inl x.2.2.1))] H := hP
      have hD : va_D A [(h4, .inr (4, [.ref zc, .int (nI nn), .int (nI zz), .ref zj, .ref ze, .int (nI ed), .ref zt, .ref zo, .ref za, .ref zr, .ref zm, .ref zl, .int ((nI x.2.2.2.1) + 1), .int x.2.2.2.2.1, .int (nI x.2.2.2.2.2), .int (nI qb), .int (nI ql)])), (zc, .inl (cA, 288, .inl cd)), (zr, .inl (cA, 4, .inl (mvR 4 (nI ta) (nI tb) x.1 x.2.1))), (zm, .inl (cA, 16, .inl x.2.1)), (zl, .inl (cA, 8, .inl x.2.2.1))] := hD
      obtain ⟨hP9, hD9⟩ := jk_end (w2 := [(h4, .inr (4, [.ref zc, .int (nI nn), .int (nI zz), .ref zj, .ref ze, .int (nI ed), .ref zt, .ref zo, .ref za, .ref zr, .ref zm, .ref zl, .int ((nI x.2.2.2.1) + 1), .int x.2.2.2.2.1, .int (nI x.2.2.2.2.2), .int (nI qb), .int (nI ql)])), (zc, .inl (cA, 288, .inl cd)), (zr, .inl (cA, 4, .inl (mvR 4 (nI ta) (nI tb) x.1 x.2.1))), (zm, .inl (cA, 16, .inl x.2.1)), (zl, .inl (cA, 8, .inl x.2.2.1))]) hP hD [0, 1, 2, 3, 4] (by decide) rfl
      have e9 : ([(h4, .inr (4, [.ref zc, .int (nI nn), .int (nI zz), .ref zj, .ref ze, .int (nI ed), .ref zt, .ref zo, .ref za, .ref zr, .ref zm, .ref zl, .int ((nI x.2.2.2.1) + 1), .int x.2.2.2.2.1, .int (nI x.2.2.2.2.2), .int (nI qb), .int (nI ql)])), (zc, .inl (cA, 288, .inl cd)), (zr, .inl (cA, 4, .inl (mvR 4 (nI ta) (nI tb) x.1 x.2.1))), (zm, .inl (cA, 16, .inl x.2.1)), (zl, .inl (cA, 8, .inl x.2.2.1))] : va_W) = [(h4, .inr (4, [.ref zc, .int (nI nn), .int (nI zz), .ref zj, .ref ze, .int (nI ed), .ref zt, .ref zo, .ref za, .ref zr, .ref zm, .ref zl, .int (nI (rStep (rF cd qb) ql x).2.2.2.1), .int ((rStep (rF cd qb) ql x).2.2.2.2.1), .int (nI (rStep (rF cd qb) ql x).2.2.2.2.2), .int (nI qb), .int (nI ql)])), (zc, .inl (cA, 288, .inl cd)), (zr, .inl (cA, 4, .inl ((rStep (rF cd qb) ql x).1))), (zm, .inl (cA, 16, .inl ((rStep (rF cd qb) ql x).2.1))), (zl, .inl (cA, 8, .inl ((rStep (rF cd qb) ql x).2.2.1)))] := (by rw [rStep_eq hoo hea heb]; dsimp only; rw [hpc, hSt]; rfl)
      rw [e9] at hP9 hD9
      exact W.vret hx hb hr (fun t9 ht9 hW9 => ⟨⟨(), rfl, trivial, by rw [ht9]; exact hP9, hD9⟩, hS.F ht9⟩) hS.2.2 dX4_step_395
  · refine lv_tableIn (off := 130) (tgt := 194) hx hb dX4_step_64 (by decide) (by decide) rfl (by decide) ?_
    obtain ⟨ta, hta, eta⟩ := hreg (by decide) (by decide) (by decide)
    rw [← hea] at eta
    subst eta
    refine lv_bipush (v := 7) hx hb dX4_step_194 (by decide) ?_
    refine lv_istore (lv' := [(5, .int 7), (4, .int ((nI x.2.2.2.1) + 1)), (3, .int b), (2, .int (nI ta)), (1, .int (nI 5)), (0, .ref h4)]) hx hb dX4_step_196 hl (by decide) rfl (fun ls hl => ?_)
    have loop198 : ∀ (n : Nat) (j : Nat) (L : Nat → Int32), (j ≤ 7) → (j < n) → (L = tSh x.2.2.1 j) → ∀ (H : Heap) (locs : List Loc), va_P D vwCl [(h4, .inr (4, [.ref zc, .int (nI nn), .int (nI zz), .ref zj, .ref ze, .int (nI ed), .ref zt, .ref zo, .ref za, .ref zr, .ref zm, .ref zl, .int (nI x.2.2.2.1), .int x.2.2.2.2.1, .int (nI x.2.2.2.2.2), .int (nI qb), .int (nI ql)])), (zc, .inl (cA, 288, .inl cd)), (zr, .inl (cA, 4, .inl x.1)), (zm, .inl (cA, 16, .inl x.2.1)), (zl, .inl (cA, 8, .inl L))] H → va_D A [(h4, .inr (4, [.ref zc, .int (nI nn), .int (nI zz), .ref zj, .ref ze, .int (nI ed), .ref zt, .ref zo, .ref za, .ref zr, .ref zm, .ref zl, .int (nI x.2.2.2.1), .int x.2.2.2.2.1, .int (nI x.2.2.2.2.2), .int (nI qb), .int (nI ql)])), (zc, .inl (cA, 288, .inl cd)), (zr, .inl (cA, 4, .inl x.1)), (zm, .inl (cA, 16, .inl x.2.1)), (zl, .inl (cA, 8, .inl L))] → va_S A s.heap H locs → ∀ (ls : Array Slot), lv_has ls 7 [(0, .ref h4), (2, .int (nI ta)), (3, .int b), (4, .int ((nI x.2.2.2.1) + 1)), (5, .int (nI j))] → W p l e (headSpec wsX4_step ({ frames := 1, cells := 0, slots := 0, locals := 21 })).room s m ([.ref h4] : List Value).toArray below meth c H locs 0 0 (MQ below (rwV D A [(h4, .inr (4, [.ref zc, .int (nI nn), .int (nI zz), .ref zj, .ref ze, .int (nI ed), .ref zt, .ref zo, .ref za, .ref zr, .ref zm, .ref zl, .int (nI (rStep (rF cd qb) ql x).2.2.2.1), .int ((rStep (rF cd qb) ql x).2.2.2.2.1), .int (nI (rStep (rF cd qb) ql x).2.2.2.2.2), .int (nI qb), .int (nI ql)])), (zc, .inl (cA, 288, .inl cd)), (zr, .inl (cA, 4, .inl ((rStep (rF cd qb) ql x).1))), (zm, .inl (cA, 16, .inl ((rStep (rF cd qb) ql x).2.1))), (zl, .inl (cA, 8, .inl ((rStep (rF cd qb) ql x).2.2.1)))]) ([.ref h4] : List Value).toArray s 0 0 A) (F0 m 198 ls []) := by
      intro n
      induction n with
      | zero => intro j L hj7 hfu hL; exact absurd hfu (by omega)
      | succ n ih198 =>
        intro j L hj7 hfu hL H locs hP hD hS ls hl
        refine lv_iload hx hb dX4_step_198 (lv_at hl 4 rfl) ?_
        refine lv_if_le (tgt := 225) hx hb dX4_step_200 (by decide) (fun c_200 => ?_) (fun c_200 => ?_)
        · have hj0 : j = 0 := by
            rcases Nat.eq_zero_or_pos j with q | q
            · exact q
            · exact absurd c_200 (nI_nle q (by omega))
          subst hj0
          subst hL
          refine lv_aload_n hx hb dX4_step_225 rfl (lv_at hl 0 rfl) ?_
          refine va_get (D := D) (ci := 4) (v := .ref zl) (C := RX4) (T := TX4) (N := 17) hx hb hts iw_X4_step_X4 hown hK hP 0 rfl rfl 11 (by decide) (hts (.fieldLink RX4 34 "JumpGuardModel" "told" "[I") (List.mem_of_getElem? (l := wsX4_step) (i := 7) rfl)) (fun _ h9 => h9) rfl dX4_step_226 ?_
          refine lv_iconst (v := 0) hx hb dX4_step_229 (by decide) ?_
          refine lv_aload_n hx hb dX4_step_230 rfl (lv_at hl 0 rfl) ?_
          refine va_get (D := D) (ci := 4) (v := .ref zr) (C := RX4) (T := TX4) (N := 17) hx hb hts iw_X4_step_X4 hown hK hP 0 rfl rfl 9 (by decide) (hts (.fieldLink RX4 28 "JumpGuardModel" "reg" "[I") (List.mem_of_getElem? (l := wsX4_step) (i := 5) rfl)) (fun _ h9 => h9) rfl dX4_step_231 ?_
          refine lv_iload_n hx hb dX4_step_234 rfl (lv_at hl 1 rfl) ?_
          refine jk_ald hx hb hK hP 2 0 rfl rfl (k := ta) rfl (by omega) (by omega) dX4_step_235 ?_
          refine jk_ast hx hb hK hP hD hS 4 0 rfl rfl (k := 0) rfl (by decide) (by omega) dX4_step_236 (fun H locs hP hD hS => ?_)
          have hP : va_P D vwCl [(h4, .inr (4, [.ref zc, .int (nI nn), .int (nI zz), .ref zj, .ref ze, .int (nI ed), .ref zt, .ref zo, .ref za, .ref zr, .ref zm, .ref zl, .int (nI x.2.2.2.1), .int x.2.2.2.2.1, .int (nI x.2.2.2.2.2), .int (nI qb), .int (nI ql)])), (zc, .inl (cA, 288, .inl cd)), (zr, .inl (cA, 4, .inl x.1)), (zm, .inl (cA, 16, .inl x.2.1)), (zl, .inl (cA, 8, .inl (upd (tSh x.2.2.1 0) 0 (x.1 ta))))] H := hP
          have hD : va_D A [(h4, .inr (4, [.ref zc, .int (nI nn), .int (nI zz), .ref zj, .ref ze, .int (nI ed), .ref zt, .ref zo, .ref za, .ref zr, .ref zm, .ref zl, .int (nI x.2.2.2.1), .int x.2.2.2.2.1, .int (nI x.2.2.2.2.2), .int (nI qb), .int (nI ql)])), (zc, .inl (cA, 288, .inl cd)), (zr, .inl (cA, 4, .inl x.1)), (zm, .inl (cA, 16, .inl x.2.1)), (zl, .inl (cA, 8, .inl (upd (tSh x.2.2.1 0) 0 (x.1 ta))))] := hD
          rw [show (upd (tSh x.2.2.1 0) 0 (x.1 ta)) = (rvL 5 (nI ta) x.1 x.2.2.1) from rvL_5 hta] at hP hD
          have hP : va_P D vwCl [(h4, .inr (4, [.ref zc, .int (nI nn), .int (nI zz), .ref zj, .ref ze, .int (nI ed), .ref zt, .ref zo, .ref za, .ref zr, .ref zm, .ref zl, .int (nI x.2.2.2.1), .int x.2.2.2.2.1, .int (nI x.2.2.2.2.2), .int (nI qb), .int (nI ql)])), (zc, .inl (cA, 288, .inl cd)), (zr, .inl (cA, 4, .inl x.1)), (zm, .inl (cA, 16, .inl x.2.1)), (zl, .inl (cA, 8, .inl (rvL 5 (nI ta) x.1 x.2.2.1)))] H := hP
          have hD : va_D A [(h4, .inr (4, [.ref zc, .int (nI nn), .int (nI zz), .ref zj, .ref ze, .int (nI ed), .ref zt, .ref zo, .ref za, .ref zr, .ref zm, .ref zl, .int (nI x.2.2.2.1), .int x.2.2.2.2.1, .int (nI x.2.2.2.2.2), .int (nI qb), .int (nI ql)])), (zc, .inl (cA, 288, .inl cd)), (zr, .inl (cA, 4, .inl x.1)), (zm, .inl (cA, 16, .inl x.2.1)), (zl, .inl (cA, 8, .inl (rvL 5 (nI ta) x.1 x.2.2.1)))] := hD
          refine lv_aload_n hx hb dX4_step_237 rfl (lv_at hl 0 rfl) ?_
          refine lv_aload_n hx hb dX4_step_238 rfl (lv_at hl 0 rfl) ?_
          refine va_get (D := D) (ci := 4) (v := .int (nI x.2.2.2.2.2)) (C := RX4) (T := TX4) (N := 17) hx hb hts iw_X4_step_X4 hown hK hP 0 rfl rfl 14 (by decide) (hts (.fieldLink RX4 81 "JumpGuardModel" "shows" "I") (List.mem_of_getElem? (l := wsX4_step) (i := 8) rfl)) (fun _ h9 => h9) rfl dX4_step_239 ?_
          refine lv_iconst (v := 1) hx hb dX4_step_242 (by decide) ?_
          refine lv_iadd hx hb dX4_step_243 ?_
          refine jk_top (show ((nI x.2.2.2.2.2) + 1) = (nI (x.2.2.2.2.2 + 1)) from jn_a1 _) ?_
          refine va_put (D := D) (ci := 4) (v := .int (nI (x.2.2.2.2.2 + 1))) (ty := .int) (C := RX4) (T := TX4) (N := 17) hx hb hts iw_X4_step_X4 tyX4 tyX4_ok nmX4 hown hK hP hD hS 0 rfl rfl 14 (by decide) (hts (.fieldLink RX4 81 "JumpGuardModel" "shows" "I") (List.mem_of_getElem? (l := wsX4_step) (i := 8) rfl)) (fun _ h9 => h9) rfl (by decide +kernel) rfl rfl (Nat.le_of_ble_eq_true rfl) dX4_step_244 (fun H locs hP hD hS => ?_)
          have hP : va_P D vwCl [(h4, .inr (4, [.ref zc, .int (nI nn), .int (nI zz), .ref zj, .ref ze, .int (nI ed), .ref zt, .ref zo, .ref za, .ref zr, .ref zm, .ref zl, .int (nI x.2.2.2.1), .int x.2.2.2.2.1, .int (nI (x.2.2.2.2.2 + 1)), .int (nI qb), .int (nI ql)])), (zc, .inl (cA, 288, .inl cd)), (zr, .inl (cA, 4, .inl x.1)), (zm, .inl (cA, 16, .inl x.2.1)), (zl, .inl (cA, 8, .inl (rvL 5 (nI ta) x.1 x.2.2.1)))] H := hP
          have hD : va_D A [(h4, .inr (4, [.ref zc, .int (nI nn), .int (nI zz), .ref zj, .ref ze, .int (nI ed), .ref zt, .ref zo, .ref za, .ref zr, .ref zm, .ref zl, .int (nI x.2.2.2.1), .int x.2.2.2.2.1, .int (nI (x.2.2.2.2.2 + 1)), .int (nI qb), .int (nI ql)])), (zc, .inl (cA, 288, .inl cd)), (zr, .inl (cA, 4, .inl x.1)), (zm, .inl (cA, 16, .inl x.2.1)), (zl, .inl (cA, 8, .inl (rvL 5 (nI ta) x.1 x.2.2.1)))] := hD
          refine lv_goto (tgt := 382) hx hb dX4_step_247 (by decide) ?_
          refine lv_aload_n hx hb dX4_step_382 rfl (lv_at hl 0 rfl) ?_
          refine va_get (D := D) (ci := 4) (v := .int x.2.2.2.2.1) (C := RX4) (T := TX4) (N := 17) hx hb hts iw_X4_step_X4 hown hK hP 0 rfl rfl 13 (by decide) (hts (.fieldLink RX4 37 "JumpGuardModel" "state" "I") (List.mem_of_getElem? (l := wsX4_step) (i := 4) rfl)) (fun _ h9 => h9) rfl dX4_step_383 ?_
          refine lv_if_ne (tgt := 395) hx hb dX4_step_386 (by decide) (fun c_386 => ?_) (fun c_386 => ?_)
          · have hSt : mvS 5 (nI ta) b x.1 (rF cd qb) ql x.2.2.2.2.1 = x.2.2.2.2.1 := rfl
            have hNx : mvN 5 (nI ta) b x.1 (nI x.2.2.2.1) = ((nI x.2.2.2.1) + 1) := rfl
            exact absurd hst c_386
          · have hSt : mvS 5 (nI ta) b x.1 (rF cd qb) ql x.2.2.2.2.1 = x.2.2.2.2.1 := rfl
            have hNx : mvN 5 (nI ta) b x.1 (nI x.2.2.2.1) = ((nI x.2.2.2.1) + 1) := rfl
            have hpc := rS_pc hwf hi hoo hea heb hSt c_386 hNx
            refine lv_aload_n hx hb dX4_step_389 rfl (lv_at hl 0 rfl) ?_
            refine lv_iload hx hb dX4_step_390 (lv_at hl 3 rfl) ?_
            refine va_put (D := D) (ci := 4) (v := .int ((nI x.2.2.2.1) + 1)) (ty := .int) (C := RX4) (T := TX4) (N := 17) hx hb hts iw_X4_step_X4 tyX4 tyX4_ok nmX4 hown hK hP hD hS 0 rfl rfl 12 (by decide) (hts (.fieldLink RX4 78 "JumpGuardModel" "pc" "I") (List.mem_of_getElem? (l := wsX4_step) (i := 3) rfl)) (fun _ h9 => h9) rfl (by decide +kernel) rfl rfl (Nat.le_of_ble_eq_true rfl) dX4_step_392 (fun H locs hP hD hS => ?_)
            have hP : va_P D vwCl [(h4, .inr (4, [.ref zc, .int (nI nn), .int (nI zz), .ref zj, .ref ze, .int (nI ed), .ref zt, .ref zo, .ref za, .ref zr, .ref zm, .ref zl, .int ((nI x.2.2.2.1) + 1), .int x.2.2.2.2.1, .int (nI (x.2.2.2.2.2 + 1)), .int (nI qb), .int (nI ql)])), (zc, .inl (cA, 288, .inl cd)), (zr, .inl (cA, 4, .inl x.1)), (zm, .inl (cA, 16, .inl x.2.1)), (zl, .inl (cA, 8, .inl (rvL 5 (nI ta) x.1 x.2.2.1)))] H := hP
            have hD : va_D A [(h4, .inr (4, [.ref zc, .int (nI nn), .int (nI zz), .ref zj, .ref ze, .int (nI ed), .ref zt, .ref zo, .ref za, .ref zr, .ref zm, .ref zl, .int ((nI x.2.2.2.1) + 1), .int x.2.2.2.2.1, .int (nI (x.2.2.2.2.2 + 1)), .int (nI qb), .int (nI ql)])), (zc, .inl (cA, 288, .inl cd)), (zr, .inl (cA, 4, .inl x.1)), (zm, .inl (cA, 16, .inl x.2.1)), (zl, .inl (cA, 8, .inl (rvL 5 (nI ta) x.1 x.2.2.1)))] := hD
            obtain ⟨hP9, hD9⟩ := jk_end (w2 := [(h4, .inr (4, [.ref zc, .int (nI nn), .int (nI zz), .ref zj, .ref ze, .int (nI ed), .ref zt, .ref zo, .ref za, .ref zr, .ref zm, .ref zl, .int ((nI x.2.2.2.1) + 1), .int x.2.2.2.2.1, .int (nI (x.2.2.2.2.2 + 1)), .int (nI qb), .int (nI ql)])), (zc, .inl (cA, 288, .inl cd)), (zr, .inl (cA, 4, .inl x.1)), (zm, .inl (cA, 16, .inl x.2.1)), (zl, .inl (cA, 8, .inl (rvL 5 (nI ta) x.1 x.2.2.1)))]) hP hD [0, 1, 2, 3, 4] (by decide) rfl
            have e9 : ([(h4, .inr (4, [.ref zc, .int (nI nn), .int (nI zz), .ref zj, .ref ze, .int (nI ed), .ref zt, .ref zo, .ref za, .ref zr, .ref zm, .ref zl, .int ((nI x.2.2.2.1) + 1), .int x.2.2.2.2.1, .int (nI (x.2.2.2.2.2 + 1)), .int (nI qb), .int (nI ql)])), (zc, .inl (cA, 288, .inl cd)), (zr, .inl (cA, 4, .inl x.1)), (zm, .inl (cA, 16, .inl x.2.1)), (zl, .inl (cA, 8, .inl (rvL 5 (nI ta) x.1 x.2.2.1)))] : va_W) = [(h4, .inr (4, [.ref zc, .int (nI nn), .int (nI zz), .ref zj, .ref ze, .int (nI ed), .ref zt, .ref zo, .ref za, .ref zr, .ref zm, .ref zl, .int (nI (rStep (rF cd qb) ql x).2.2.2.1), .int ((rStep (rF cd qb) ql x).2.2.2.2.1), .int (nI (rStep (rF cd qb) ql x).2.2.2.2.2), .int (nI qb), .int (nI ql)])), (zc, .inl (cA, 288, .inl cd)), (zr, .inl (cA, 4, .inl ((rStep (rF cd qb) ql x).1))), (zm, .inl (cA, 16, .inl ((rStep (rF cd qb) ql x).2.1))), (zl, .inl (cA, 8, .inl ((rStep (rF cd qb) ql x).2.2.1)))] := (by rw [rStep_eq hoo hea heb]; dsimp only; rw [hpc, hSt]; rfl)
            rw [e9] at hP9 hD9
            exact W.vret hx hb hr (fun t9 ht9 hW9 => ⟨⟨(), rfl, trivial, by rw [ht9]; exact hP9, hD9⟩, hS.F ht9⟩) hS.2.2 dX4_step_395
        · have hj0 : 0 < j := gua_pos c_200
          refine lv_aload_n hx hb dX4_step_203 rfl (lv_at hl 0 rfl) ?_
          refine va_get (D := D) (ci := 4) (v := .ref zl) (C := RX4) (T := TX4) (N := 17) hx hb hts iw_X4_step_X4 hown hK hP 0 rfl rfl 11 (by decide) (hts (.fieldLink RX4 34 "JumpGuardModel" "told" "[I") (List.mem_of_getElem? (l := wsX4_step) (i := 7) rfl)) (fun _ h9 => h9) rfl dX4_step_204 ?_
          refine lv_iload hx hb dX4_step_207 (lv_at hl 4 rfl) ?_
          refine lv_aload_n hx hb dX4_step_209 rfl (lv_at hl 0 rfl) ?_
          refine va_get (D := D) (ci := 4) (v := .ref zl) (C := RX4) (T := TX4) (N := 17) hx hb hts iw_X4_step_X4 hown hK hP 0 rfl rfl 11 (by decide) (hts (.fieldLink RX4 34 "JumpGuardModel" "told" "[I") (List.mem_of_getElem? (l := wsX4_step) (i := 7) rfl)) (fun _ h9 => h9) rfl dX4_step_210 ?_
          refine lv_iload hx hb dX4_step_213 (lv_at hl 4 rfl) ?_
          refine lv_iconst (v := 1) hx hb dX4_step_215 (by decide) ?_
          refine lv_isub hx hb dX4_step_216 ?_
          refine jk_top (show ((nI j) - 1) = (nI (j - 1)) from pk_sub (a := j) (b := 1) (by omega)) ?_
          refine jk_ald hx hb hK hP 4 0 rfl rfl (k := (j - 1)) rfl (by omega) (by omega) dX4_step_217 ?_
          refine jk_ast hx hb hK hP hD hS 4 0 rfl rfl (k := j) rfl (by omega) (by omega) dX4_step_218 (fun H locs hP hD hS => ?_)
          have hP : va_P D vwCl [(h4, .inr (4, [.ref zc, .int (nI nn), .int (nI zz), .ref zj, .ref ze, .int (nI ed), .ref zt, .ref zo, .ref za, .ref zr, .ref zm, .ref zl, .int (nI x.2.2.2.1), .int x.2.2.2.2.1, .int (nI x.2.2.2.2.2), .int (nI qb), .int (nI ql)])), (zc, .inl (cA, 288, .inl cd)), (zr, .inl (cA, 4, .inl x.1)), (zm, .inl (cA, 16, .inl x.2.1)), (zl, .inl (cA, 8, .inl (upd L j (L (j - 1)))))] H := hP
          have hD : va_D A [(h4, .inr (4, [.ref zc, .int (nI nn), .int (nI zz), .ref zj, .ref ze, .int (nI ed), .ref zt, .ref zo, .ref za, .ref zr, .ref zm, .ref zl, .int (nI x.2.2.2.1), .int x.2.2.2.2.1, .int (nI x.2.2.2.2.2), .int (nI qb), .int (nI ql)])), (zc, .inl (cA, 288, .inl cd)), (zr, .inl (cA, 4, .inl x.1)), (zm, .inl (cA, 16, .inl x.2.1)), (zl, .inl (cA, 8, .inl (upd L j (L (j - 1)))))] := hD
          refine lv_iinc (v := (nI (j - 1))) (lv' := [(5, .int (nI (j - 1))), (0, .ref h4), (2, .int (nI ta)), (3, .int b), (4, .int ((nI x.2.2.2.1) + 1))]) hx hb dX4_step_219 hl (k := 4) rfl (sb_m1 hj0) (by decide) rfl (fun ls hl => ?_)
          refine lv_goto (tgt := 198) hx hb dX4_step_222 (by decide) ?_
          exact ih198 (j - 1) (upd L j (L (j - 1))) (by omega) (by omega) (by subst hL; exact tSh_s hj0 hj7) _ _ (jP_sub (w2 := [(h4, .inr (4, [.ref zc, .int (nI nn), .int (nI zz), .ref zj, .ref ze, .int (nI ed), .ref zt, .ref zo, .ref za, .ref zr, .ref zm, .ref zl, .int (nI x.2.2.2.1), .int x.2.2.2.2.1, .int (nI x.2.2.2.2.2), .int (nI qb), .int (nI ql)])), (zc, .inl (cA, 288, .inl cd)), (zr, .inl (cA, 4, .inl x.1)), (zm, .inl (cA, 16, .inl x.2.1)), (zl, .inl (cA, 8, .inl (upd L j (L (j - 1)))))]) hP [0, 1, 2, 3, 4] rfl) (hD.sub (ws' := [(h4, .inr (4, [.ref zc, .int (nI nn), .int (nI zz), .ref zj, .ref ze, .int (nI ed), .ref zt, .ref zo, .ref za, .ref zr, .ref zm, .ref zl, .int (nI x.2.2.2.1), .int x.2.2.2.2.1, .int (nI x.2.2.2.2.2), .int (nI qb), .int (nI ql)])), (zc, .inl (cA, 288, .inl cd)), (zr, .inl (cA, 4, .inl x.1)), (zm, .inl (cA, 16, .inl x.2.1)), (zl, .inl (cA, 8, .inl (upd L j (L (j - 1)))))]) [0, 1, 2, 3, 4] (by decide) rfl) hS ls (lv_sub hl [1, 2, 3, 4, 0] rfl)
    exact loop198 8 7 x.2.2.1 (by omega) (by omega) (tSh_7 x.2.2.1) _ _ (jP_sub (w2 := [(h4, .inr (4, [.ref zc, .int (nI nn), .int (nI zz), .ref zj, .ref ze, .int (nI ed), .ref zt, .ref zo, .ref za, .ref zr, .ref zm, .ref zl, .int (nI x.2.2.2.1), .int x.2.2.2.2.1, .int (nI x.2.2.2.2.2), .int (nI qb), .int (nI ql)])), (zc, .inl (cA, 288, .inl cd)), (zr, .inl (cA, 4, .inl x.1)), (zm, .inl (cA, 16, .inl x.2.1)), (zl, .inl (cA, 8, .inl x.2.2.1))]) hP [0, 1, 2, 3, 4] rfl) (hD.sub (ws' := [(h4, .inr (4, [.ref zc, .int (nI nn), .int (nI zz), .ref zj, .ref ze, .int (nI ed), .ref zt, .ref zo, .ref za, .ref zr, .ref zm, .ref zl, .int (nI x.2.2.2.1), .int x.2.2.2.2.1, .int (nI x.2.2.2.2.2), .int (nI qb), .int (nI ql)])), (zc, .inl (cA, 288, .inl cd)), (zr, .inl (cA, 4, .inl x.1)), (zm, .inl (cA, 16, .inl x.2.1)), (zl, .inl (cA, 8, .inl x.2.2.1))]) [0, 1, 2, 3, 4] (by decide) rfl) hS ls (lv_sub hl [5, 3, 2, 1, 0] rfl)
  · refine lv_tableIn (off := 186) (tgt := 250) hx hb dX4_step_64 (by decide) (by decide) rfl (by decide) ?_
    refine lv_iload_n hx hb dX4_step_250 rfl (lv_at hl 2 rfl) ?_
    refine lv_istore (lv' := [(4, .int a), (3, .int b), (2, .int a), (1, .int (nI 6)), (0, .ref h4)]) hx hb dX4_step_251 hl (by decide) rfl (fun ls hl => ?_)
    refine lv_goto (tgt := 382) hx hb dX4_step_253 (by decide) ?_
    refine lv_aload_n hx hb dX4_step_382 rfl (lv_at hl 4 rfl) ?_
    refine va_get (D := D) (ci := 4) (v := .int x.2.2.2.2.1) (C := RX4) (T := TX4) (N := 17) hx hb hts iw_X4_step_X4 hown hK hP 0 rfl rfl 13 (by decide) (hts (.fieldLink RX4 37 "JumpGuardModel" "state" "I") (List.mem_of_getElem? (l := wsX4_step) (i := 4) rfl)) (fun _ h9 => h9) rfl dX4_step_383 ?_
    refine lv_if_ne (tgt := 395) hx hb dX4_step_386 (by decide) (fun c_386 => ?_) (fun c_386 => ?_)
    · have hSt : mvS 6 a b x.1 (rF cd qb) ql x.2.2.2.2.1 = x.2.2.2.2.1 := rfl
      have hNx : mvN 6 a b x.1 (nI x.2.2.2.1) = a := rfl
      exact absurd hst c_386
    · have hSt : mvS 6 a b x.1 (rF cd qb) ql x.2.2.2.2.1 = x.2.2.2.2.1 := rfl
      have hNx : mvN 6 a b x.1 (nI x.2.2.2.1) = a := rfl
      have hpc := rS_pc hwf hi hoo hea heb hSt c_386 hNx
      refine lv_aload_n hx hb dX4_step_389 rfl (lv_at hl 4 rfl) ?_
      refine lv_iload hx hb dX4_step_390 (lv_at hl 0 rfl) ?_
      refine va_put (D := D) (ci := 4) (v := .int a) (ty := .int) (C := RX4) (T := TX4) (N := 17) hx hb hts iw_X4_step_X4 tyX4 tyX4_ok nmX4 hown hK hP hD hS 0 rfl rfl 12 (by decide) (hts (.fieldLink RX4 78 "JumpGuardModel" "pc" "I") (List.mem_of_getElem? (l := wsX4_step) (i := 3) rfl)) (fun _ h9 => h9) rfl (by decide +kernel) rfl rfl (Nat.le_of_ble_eq_true rfl) dX4_step_392 (fun H locs hP hD hS => ?_)
      have hP : va_P D vwCl [(h4, .inr (4, [.ref zc, .int (nI nn), .int (nI zz), .ref zj, .ref ze, .int (nI ed), .ref zt, .ref zo, .ref za, .ref zr, .ref zm, .ref zl, .int a, .int x.2.2.2.2.1, .int (nI x.2.2.2.2.2), .int (nI qb), .int (nI ql)])), (zc, .inl (cA, 288, .inl cd)), (zr, .inl (cA, 4, .inl x.1)), (zm, .inl (cA, 16, .inl x.2.1)), (zl, .inl (cA, 8, .inl x.2.2.1))] H := hP
      have hD : va_D A [(h4, .inr (4, [.ref zc, .int (nI nn), .int (nI zz), .ref zj, .ref ze, .int (nI ed), .ref zt, .ref zo, .ref za, .ref zr, .ref zm, .ref zl, .int a, .int x.2.2.2.2.1, .int (nI x.2.2.2.2.2), .int (nI qb), .int (nI ql)])), (zc, .inl (cA, 288, .inl cd)), (zr, .inl (cA, 4, .inl x.1)), (zm, .inl (cA, 16, .inl x.2.1)), (zl, .inl (cA, 8, .inl x.2.2.1))] := hD
      obtain ⟨hP9, hD9⟩ := jk_end (w2 := [(h4, .inr (4, [.ref zc, .int (nI nn), .int (nI zz), .ref zj, .ref ze, .int (nI ed), .ref zt, .ref zo, .ref za, .ref zr, .ref zm, .ref zl, .int a, .int x.2.2.2.2.1, .int (nI x.2.2.2.2.2), .int (nI qb), .int (nI ql)])), (zc, .inl (cA, 288, .inl cd)), (zr, .inl (cA, 4, .inl x.1)), (zm, .inl (cA, 16, .inl x.2.1)), (zl, .inl (cA, 8, .inl x.2.2.1))]) hP hD [0, 1, 2, 3, 4] (by decide) rfl
      have e9 : ([(h4, .inr (4, [.ref zc, .int (nI nn), .int (nI zz), .ref zj, .ref ze, .int (nI ed), .ref zt, .ref zo, .ref za, .ref zr, .ref zm, .ref zl, .int a, .int x.2.2.2.2.1, .int (nI x.2.2.2.2.2), .int (nI qb), .int (nI ql)])), (zc, .inl (cA, 288, .inl cd)), (zr, .inl (cA, 4, .inl x.1)), (zm, .inl (cA, 16, .inl x.2.1)), (zl, .inl (cA, 8, .inl x.2.2.1))] : va_W) = [(h4, .inr (4, [.ref zc, .int (nI nn), .int (nI zz), .ref zj, .ref ze, .int (nI ed), .ref zt, .ref zo, .ref za, .ref zr, .ref zm, .ref zl, .int (nI (rStep (rF cd qb) ql x).2.2.2.1), .int ((rStep (rF cd qb) ql x).2.2.2.2.1), .int (nI (rStep (rF cd qb) ql x).2.2.2.2.2), .int (nI qb), .int (nI ql)])), (zc, .inl (cA, 288, .inl cd)), (zr, .inl (cA, 4, .inl ((rStep (rF cd qb) ql x).1))), (zm, .inl (cA, 16, .inl ((rStep (rF cd qb) ql x).2.1))), (zl, .inl (cA, 8, .inl ((rStep (rF cd qb) ql x).2.2.1)))] := (by rw [rStep_eq hoo hea heb]; dsimp only; rw [hpc, hSt]; rfl)
      rw [e9] at hP9 hD9
      exact W.vret hx hb hr (fun t9 ht9 hW9 => ⟨⟨(), rfl, trivial, by rw [ht9]; exact hP9, hD9⟩, hS.F ht9⟩) hS.2.2 dX4_step_395
  · refine lv_tableIn (off := 192) (tgt := 256) hx hb dX4_step_64 (by decide) (by decide) rfl (by decide) ?_
    obtain ⟨ta, hta, eta⟩ := hreg (by decide) (by decide) (by decide)
    rw [← hea] at eta
    subst eta
    refine lv_aload_n hx hb dX4_step_256 rfl (lv_at hl 4 rfl) ?_
    refine va_get (D := D) (ci := 4) (v := .ref zr) (C := RX4) (T := TX4) (N := 17) hx hb hts iw_X4_step_X4 hown hK hP 0 rfl rfl 9 (by decide) (hts (.fieldLink RX4 28 "JumpGuardModel" "reg" "[I") (List.mem_of_getElem? (l := wsX4_step) (i := 5) rfl)) (fun _ h9 => h9) rfl dX4_step_257 ?_
    refine lv_iload_n hx hb dX4_step_260 rfl (lv_at hl 2 rfl) ?_
    refine jk_ald hx hb hK hP 2 0 rfl rfl (k := ta) rfl (by omega) (by omega) dX4_step_261 ?_
    refine lv_if_ne (tgt := 382) hx hb dX4_step_262 (by decide) (fun c_262 => ?_) (fun c_262 => ?_)
    · refine lv_aload_n hx hb dX4_step_382 rfl (lv_at hl 4 rfl) ?_
      refine va_get (D := D) (ci := 4) (v := .int x.2.2.2.2.1) (C := RX4) (T := TX4) (N := 17) hx hb hts iw_X4_step_X4 hown hK hP 0 rfl rfl 13 (by decide) (hts (.fieldLink RX4 37 "JumpGuardModel" "state" "I") (List.mem_of_getElem? (l := wsX4_step) (i := 4) rfl)) (fun _ h9 => h9) rfl dX4_step_383 ?_
      refine lv_if_ne (tgt := 395) hx hb dX4_step_386 (by decide) (fun c_386 => ?_) (fun c_386 => ?_)
      · have hSt : mvS 7 (nI ta) b x.1 (rF cd qb) ql x.2.2.2.2.1 = x.2.2.2.2.1 := rfl
        have hNx : mvN 7 (nI ta) b x.1 (nI x.2.2.2.1) = ((nI x.2.2.2.1) + 1) := (by rw [mvN_7 hta, if_neg c_262])
        exact absurd hst c_386
      · have hSt : mvS 7 (nI ta) b x.1 (rF cd qb) ql x.2.2.2.2.1 = x.2.2.2.2.1 := rfl
        have hNx : mvN 7 (nI ta) b x.1 (nI x.2.2.2.1) = ((nI x.2.2.2.1) + 1) := (by rw [mvN_7 hta, if_neg c_262])
        have hpc := rS_pc hwf hi hoo hea heb hSt c_386 hNx
        refine lv_aload_n hx hb dX4_step_389 rfl (lv_at hl 4 rfl) ?_
        refine lv_iload hx hb dX4_step_390 (lv_at hl 0 rfl) ?_
        refine va_put (D := D) (ci := 4) (v := .int ((nI x.2.2.2.1) + 1)) (ty := .int) (C := RX4) (T := TX4) (N := 17) hx hb hts iw_X4_step_X4 tyX4 tyX4_ok nmX4 hown hK hP hD hS 0 rfl rfl 12 (by decide) (hts (.fieldLink RX4 78 "JumpGuardModel" "pc" "I") (List.mem_of_getElem? (l := wsX4_step) (i := 3) rfl)) (fun _ h9 => h9) rfl (by decide +kernel) rfl rfl (Nat.le_of_ble_eq_true rfl) dX4_step_392 (fun H locs hP hD hS => ?_)
        have hP : va_P D vwCl [(h4, .inr (4, [.ref zc, .int (nI nn), .int (nI zz), .ref zj, .ref ze, .int (nI ed), .ref zt, .ref zo, .ref za, .ref zr, .ref zm, .ref zl, .int ((nI x.2.2.2.1) + 1), .int x.2.2.2.2.1, .int (nI x.2.2.2.2.2), .int (nI qb), .int (nI ql)])), (zc, .inl (cA, 288, .inl cd)), (zr, .inl (cA, 4, .inl x.1)), (zm, .inl (cA, 16, .inl x.2.1)), (zl, .inl (cA, 8, .inl x.2.2.1))] H := hP
        have hD : va_D A [(h4, .inr (4, [.ref zc, .int (nI nn), .int (nI zz), .ref zj, .ref ze, .int (nI ed), .ref zt, .ref zo, .ref za, .ref zr, .ref zm, .ref zl, .int ((nI x.2.2.2.1) + 1), .int x.2.2.2.2.1, .int (nI x.2.2.2.2.2), .int (nI qb), .int (nI ql)])), (zc, .inl (cA, 288, .inl cd)), (zr, .inl (cA, 4, .inl x.1)), (zm, .inl (cA, 16, .inl x.2.1)), (zl, .inl (cA, 8, .inl x.2.2.1))] := hD
        obtain ⟨hP9, hD9⟩ := jk_end (w2 := [(h4, .inr (4, [.ref zc, .int (nI nn), .int (nI zz), .ref zj, .ref ze, .int (nI ed), .ref zt, .ref zo, .ref za, .ref zr, .ref zm, .ref zl, .int ((nI x.2.2.2.1) + 1), .int x.2.2.2.2.1, .int (nI x.2.2.2.2.2), .int (nI qb), .int (nI ql)])), (zc, .inl (cA, 288, .inl cd)), (zr, .inl (cA, 4, .inl x.1)), (zm, .inl (cA, 16, .inl x.2.1)), (zl, .inl (cA, 8, .inl x.2.2.1))]) hP hD [0, 1, 2, 3, 4] (by decide) rfl
        have e9 : ([(h4, .inr (4, [.ref zc, .int (nI nn), .int (nI zz), .ref zj, .ref ze, .int (nI ed), .ref zt, .ref zo, .ref za, .ref zr, .ref zm, .ref zl, .int ((nI x.2.2.2.1) + 1), .int x.2.2.2.2.1, .int (nI x.2.2.2.2.2), .int (nI qb), .int (nI ql)])), (zc, .inl (cA, 288, .inl cd)), (zr, .inl (cA, 4, .inl x.1)), (zm, .inl (cA, 16, .inl x.2.1)), (zl, .inl (cA, 8, .inl x.2.2.1))] : va_W) = [(h4, .inr (4, [.ref zc, .int (nI nn), .int (nI zz), .ref zj, .ref ze, .int (nI ed), .ref zt, .ref zo, .ref za, .ref zr, .ref zm, .ref zl, .int (nI (rStep (rF cd qb) ql x).2.2.2.1), .int ((rStep (rF cd qb) ql x).2.2.2.2.1), .int (nI (rStep (rF cd qb) ql x).2.2.2.2.2), .int (nI qb), .int (nI ql)])), (zc, .inl (cA, 288, .inl cd)), (zr, .inl (cA, 4, .inl ((rStep (rF cd qb) ql x).1))), (zm, .inl (cA, 16, .inl ((rStep (rF cd qb) ql x).2.1))), (zl, .inl (cA, 8, .inl ((rStep (rF cd qb) ql x).2.2.1)))] := (by rw [rStep_eq hoo hea heb]; dsimp only; rw [hpc, hSt]; rfl)
        rw [e9] at hP9 hD9
        exact W.vret hx hb hr (fun t9 ht9 hW9 => ⟨⟨(), rfl, trivial, by rw [ht9]; exact hP9, hD9⟩, hS.F ht9⟩) hS.2.2 dX4_step_395
    · refine lv_iload_n hx hb dX4_step_265 rfl (lv_at hl 1 rfl) ?_
      refine lv_istore (lv' := [(4, .int b), (3, .int b), (2, .int (nI ta)), (1, .int (nI 7)), (0, .ref h4)]) hx hb dX4_step_266 hl (by decide) rfl (fun ls hl => ?_)
      refine lv_goto (tgt := 382) hx hb dX4_step_268 (by decide) ?_
      refine lv_aload_n hx hb dX4_step_382 rfl (lv_at hl 4 rfl) ?_
      refine va_get (D := D) (ci := 4) (v := .int x.2.2.2.2.1) (C := RX4) (T := TX4) (N := 17) hx hb hts iw_X4_step_X4 hown hK hP 0 rfl rfl 13 (by decide) (hts (.fieldLink RX4 37 "JumpGuardModel" "state" "I") (List.mem_of_getElem? (l := wsX4_step) (i := 4) rfl)) (fun _ h9 => h9) rfl dX4_step_383 ?_
      refine lv_if_ne (tgt := 395) hx hb dX4_step_386 (by decide) (fun c_386 => ?_) (fun c_386 => ?_)
      · have hSt : mvS 7 (nI ta) b x.1 (rF cd qb) ql x.2.2.2.2.1 = x.2.2.2.2.1 := rfl
        have hNx : mvN 7 (nI ta) b x.1 (nI x.2.2.2.1) = b := (by rw [mvN_7 hta, if_pos c_262])
        exact absurd hst c_386
      · have hSt : mvS 7 (nI ta) b x.1 (rF cd qb) ql x.2.2.2.2.1 = x.2.2.2.2.1 := rfl
        have hNx : mvN 7 (nI ta) b x.1 (nI x.2.2.2.1) = b := (by rw [mvN_7 hta, if_pos c_262])
        have hpc := rS_pc hwf hi hoo hea heb hSt c_386 hNx
        refine lv_aload_n hx hb dX4_step_389 rfl (lv_at hl 4 rfl) ?_
        refine lv_iload hx hb dX4_step_390 (lv_at hl 0 rfl) ?_
        refine va_put (D := D) (ci := 4) (v := .int b) (ty := .int) (C := RX4) (T := TX4) (N := 17) hx hb hts iw_X4_step_X4 tyX4 tyX4_ok nmX4 hown hK hP hD hS 0 rfl rfl 12 (by decide) (hts (.fieldLink RX4 78 "JumpGuardModel" "pc" "I") (List.mem_of_getElem? (l := wsX4_step) (i := 3) rfl)) (fun _ h9 => h9) rfl (by decide +kernel) rfl rfl (Nat.le_of_ble_eq_true rfl) dX4_step_392 (fun H locs hP hD hS => ?_)
        have hP : va_P D vwCl [(h4, .inr (4, [.ref zc, .int (nI nn), .int (nI zz), .ref zj, .ref ze, .int (nI ed), .ref zt, .ref zo, .ref za, .ref zr, .ref zm, .ref zl, .int b, .int x.2.2.2.2.1, .int (nI x.2.2.2.2.2), .int (nI qb), .int (nI ql)])), (zc, .inl (cA, 288, .inl cd)), (zr, .inl (cA, 4, .inl x.1)), (zm, .inl (cA, 16, .inl x.2.1)), (zl, .inl (cA, 8, .inl x.2.2.1))] H := hP
        have hD : va_D A [(h4, .inr (4, [.ref zc, .int (nI nn), .int (nI zz), .ref zj, .ref ze, .int (nI ed), .ref zt, .ref zo, .ref za, .ref zr, .ref zm, .ref zl, .int b, .int x.2.2.2.2.1, .int (nI x.2.2.2.2.2), .int (nI qb), .int (nI ql)])), (zc, .inl (cA, 288, .inl cd)), (zr, .inl (cA, 4, .inl x.1)), (zm, .inl (cA, 16, .inl x.2.1)), (zl, .inl (cA, 8, .inl x.2.2.1))] := hD
        obtain ⟨hP9, hD9⟩ := jk_end (w2 := [(h4, .inr (4, [.ref zc, .int (nI nn), .int (nI zz), .ref zj, .ref ze, .int (nI ed), .ref zt, .ref zo, .ref za, .ref zr, .ref zm, .ref zl, .int b, .int x.2.2.2.2.1, .int (nI x.2.2.2.2.2), .int (nI qb), .int (nI ql)])), (zc, .inl (cA, 288, .inl cd)), (zr, .inl (cA, 4, .inl x.1)), (zm, .inl (cA, 16, .inl x.2.1)), (zl, .inl (cA, 8, .inl x.2.2.1))]) hP hD [0, 1, 2, 3, 4] (by decide) rfl
        have e9 : ([(h4, .inr (4, [.ref zc, .int (nI nn), .int (nI zz), .ref zj, .ref ze, .int (nI ed), .ref zt, .ref zo, .ref za, .ref zr, .ref zm, .ref zl, .int b, .int x.2.2.2.2.1, .int (nI x.2.2.2.2.2), .int (nI qb), .int (nI ql)])), (zc, .inl (cA, 288, .inl cd)), (zr, .inl (cA, 4, .inl x.1)), (zm, .inl (cA, 16, .inl x.2.1)), (zl, .inl (cA, 8, .inl x.2.2.1))] : va_W) = [(h4, .inr (4, [.ref zc, .int (nI nn), .int (nI zz), .ref zj, .ref ze, .int (nI ed), .ref zt, .ref zo, .ref za, .ref zr, .ref zm, .ref zl, .int (nI (rStep (rF cd qb) ql x).2.2.2.1), .int ((rStep (rF cd qb) ql x).2.2.2.2.1), .int (nI (rStep (rF cd qb) ql x).2.2.2.2.2), .int (nI qb), .int (nI ql)])), (zc, .inl (cA, 288, .inl cd)), (zr, .inl (cA, 4, .inl ((rStep (rF cd qb) ql x).1))), (zm, .inl (cA, 16, .inl ((rStep (rF cd qb) ql x).2.1))), (zl, .inl (cA, 8, .inl ((rStep (rF cd qb) ql x).2.2.1)))] := (by rw [rStep_eq hoo hea heb]; dsimp only; rw [hpc, hSt]; rfl)
        rw [e9] at hP9 hD9
        exact W.vret hx hb hr (fun t9 ht9 hW9 => ⟨⟨(), rfl, trivial, by rw [ht9]; exact hP9, hD9⟩, hS.F ht9⟩) hS.2.2 dX4_step_395
  · refine lv_tableIn (off := 207) (tgt := 271) hx hb dX4_step_64 (by decide) (by decide) rfl (by decide) ?_
    obtain ⟨ta, hta, eta⟩ := hreg (by decide) (by decide) (by decide)
    rw [← hea] at eta
    subst eta
    refine lv_aload_n hx hb dX4_step_271 rfl (lv_at hl 4 rfl) ?_
    refine va_get (D := D) (ci := 4) (v := .ref zr) (C := RX4) (T := TX4) (N := 17) hx hb hts iw_X4_step_X4 hown hK hP 0 rfl rfl 9 (by decide) (hts (.fieldLink RX4 28 "JumpGuardModel" "reg" "[I") (List.mem_of_getElem? (l := wsX4_step) (i := 5) rfl)) (fun _ h9 => h9) rfl dX4_step_272 ?_
    refine lv_iload_n hx hb dX4_step_275 rfl (lv_at hl 2 rfl) ?_
    refine jk_ald hx hb hK hP 2 0 rfl rfl (k := ta) rfl (by omega) (by omega) dX4_step_276 ?_
    refine lv_istore (lv' := [(4, .int (x.1 ta)), (3, .int b), (2, .int (nI ta)), (1, .int (nI 8)), (0, .ref h4)]) hx hb dX4_step_277 hl (by decide) rfl (fun ls hl => ?_)
    refine lv_iload hx hb dX4_step_279 (lv_at hl 0 rfl) ?_
    refine lv_aload_n hx hb dX4_step_281 rfl (lv_at hl 4 rfl) ?_
    refine va_get (D := D) (ci := 4) (v := .int (nI ql)) (C := RX4) (T := TX4) (N := 17) hx hb hts iw_X4_step_X4 hown hK hP 0 rfl rfl 16 (by decide) (hts (.fieldLink RX4 75 "JumpGuardModel" "length" "I") (List.mem_of_getElem? (l := wsX4_step) (i := 9) rfl)) (fun _ h9 => h9) rfl dX4_step_282 ?_
    refine lv_iconst (v := 1) hx hb dX4_step_285 (by decide) ?_
    refine lv_isub hx hb dX4_step_286 ?_
    refine jr_i (va_runS (As := [.int (x.1 ta), .int ((nI ql) - 1)]) (rest := []) ⟨hx, hb, hml, hown, hts⟩ (c_X4_within l D cA (x.1 ta) ((nI ql) - 1)) (va_cwS 2 hts gX4_step_X4_within rfl rfl rfl hv_X4_within.2 ⟨Nat.le_of_ble_eq_true rfl, Nat.le_of_ble_eq_true rfl⟩) (roP.S (av := [.int (x.1 ta), .int ((nI ql) - 1)]) (jP_sub (w2 := []) hP [] rfl) hK hN) rfl rfl hl.1 rfl (lv_room (Nat.le_of_ble_eq_true rfl)) dX4_step_287 ⟨Nat.le_of_ble_eq_true rfl, Nat.le_of_ble_eq_true rfl⟩) ?_
    refine jk_top (show (jB (wI (x.1 ta) ((nI ql) - 1))) = (jB (jIn (x.1 ta) (nI ql))) from jB_i (wI_p (by omega))) ?_
    refine lv_if_ne (tgt := 382) hx hb dX4_step_290 (by decide) (fun c_290 => ?_) (fun c_290 => ?_)
    · replace c_290 := jB_nz.mp c_290
      refine lv_aload_n hx hb dX4_step_382 rfl (lv_at hl 4 rfl) ?_
      refine va_get (D := D) (ci := 4) (v := .int x.2.2.2.2.1) (C := RX4) (T := TX4) (N := 17) hx hb hts iw_X4_step_X4 hown hK hP 0 rfl rfl 13 (by decide) (hts (.fieldLink RX4 37 "JumpGuardModel" "state" "I") (List.mem_of_getElem? (l := wsX4_step) (i := 4) rfl)) (fun _ h9 => h9) rfl dX4_step_383 ?_
      refine lv_if_ne (tgt := 395) hx hb dX4_step_386 (by decide) (fun c_386 => ?_) (fun c_386 => ?_)
      · have hSt : mvS 8 (nI ta) b x.1 (rF cd qb) ql x.2.2.2.2.1 = x.2.2.2.2.1 := (by rw [mvS_8 hta, if_pos c_290])
        have hNx : mvN 8 (nI ta) b x.1 (nI x.2.2.2.1) = (x.1 ta) := mvN_8 hta
        exact absurd hst c_386
      · have hSt : mvS 8 (nI ta) b x.1 (rF cd qb) ql x.2.2.2.2.1 = x.2.2.2.2.1 := (by rw [mvS_8 hta, if_pos c_290])
        have hNx : mvN 8 (nI ta) b x.1 (nI x.2.2.2.1) = (x.1 ta) := mvN_8 hta
        have hpc := rS_pc hwf hi hoo hea heb hSt c_386 hNx
        refine lv_aload_n hx hb dX4_step_389 rfl (lv_at hl 4 rfl) ?_
        refine lv_iload hx hb dX4_step_390 (lv_at hl 0 rfl) ?_
        refine va_put (D := D) (ci := 4) (v := .int (x.1 ta)) (ty := .int) (C := RX4) (T := TX4) (N := 17) hx hb hts iw_X4_step_X4 tyX4 tyX4_ok nmX4 hown hK hP hD hS 0 rfl rfl 12 (by decide) (hts (.fieldLink RX4 78 "JumpGuardModel" "pc" "I") (List.mem_of_getElem? (l := wsX4_step) (i := 3) rfl)) (fun _ h9 => h9) rfl (by decide +kernel) rfl rfl (Nat.le_of_ble_eq_true rfl) dX4_step_392 (fun H locs hP hD hS => ?_)
        have hP : va_P D vwCl [(h4, .inr (4, [.ref zc, .int (nI nn), .int (nI zz), .ref zj, .ref ze, .int (nI ed), .ref zt, .ref zo, .ref za, .ref zr, .ref zm, .ref zl, .int (x.1 ta), .int x.2.2.2.2.1, .int (nI x.2.2.2.2.2), .int (nI qb), .int (nI ql)])), (zc, .inl (cA, 288, .inl cd)), (zr, .inl (cA, 4, .inl x.1)), (zm, .inl (cA, 16, .inl x.2.1)), (zl, .inl (cA, 8, .inl x.2.2.1))] H := hP
        have hD : va_D A [(h4, .inr (4, [.ref zc, .int (nI nn), .int (nI zz), .ref zj, .ref ze, .int (nI ed), .ref zt, .ref zo, .ref za, .ref zr, .ref zm, .ref zl, .int (x.1 ta), .int x.2.2.2.2.1, .int (nI x.2.2.2.2.2), .int (nI qb), .int (nI ql)])), (zc, .inl (cA, 288, .inl cd)), (zr, .inl (cA, 4, .inl x.1)), (zm, .inl (cA, 16, .inl x.2.1)), (zl, .inl (cA, 8, .inl x.2.2.1))] := hD
        obtain ⟨hP9, hD9⟩ := jk_end (w2 := [(h4, .inr (4, [.ref zc, .int (nI nn), .int (nI zz), .ref zj, .ref ze, .int (nI ed), .ref zt, .ref zo, .ref za, .ref zr, .ref zm, .ref zl, .int (x.1 ta), .int x.2.2.2.2.1, .int (nI x.2.2.2.2.2), .int (nI qb), .int (nI ql)])), (zc, .inl (cA, 288, .inl cd)), (zr, .inl (cA, 4, .inl x.1)), (zm, .inl (cA, 16, .inl x.2.1)), (zl, .inl (cA, 8, .inl x.2.2.1))]) hP hD [0, 1, 2, 3, 4] (by decide) rfl
        have e9 : ([(h4, .inr (4, [.ref zc, .int (nI nn), .int (nI zz), .ref zj, .ref ze, .int (nI ed), .ref zt, .ref zo, .ref za, .ref zr, .ref zm, .ref zl, .int (x.1 ta), .int x.2.2.2.2.1, .int (nI x.2.2.2.2.2), .int (nI qb), .int (nI ql)])), (zc, .inl (cA, 288, .inl cd)), (zr, .inl (cA, 4, .inl x.1)), (zm, .inl (cA, 16, .inl x.2.1)), (zl, .inl (cA, 8, .inl x.2.2.1))] : va_W) = [(h4, .inr (4, [.ref zc, .int (nI nn), .int (nI zz), .ref zj, .ref ze, .int (nI ed), .ref zt, .ref zo, .ref za, .ref zr, .ref zm, .ref zl, .int (nI (rStep (rF cd qb) ql x).2.2.2.1), .int ((rStep (rF cd qb) ql x).2.2.2.2.1), .int (nI (rStep (rF cd qb) ql x).2.2.2.2.2), .int (nI qb), .int (nI ql)])), (zc, .inl (cA, 288, .inl cd)), (zr, .inl (cA, 4, .inl ((rStep (rF cd qb) ql x).1))), (zm, .inl (cA, 16, .inl ((rStep (rF cd qb) ql x).2.1))), (zl, .inl (cA, 8, .inl ((rStep (rF cd qb) ql x).2.2.1)))] := (by rw [rStep_eq hoo hea heb]; dsimp only; rw [hpc, hSt]; rfl)
        rw [e9] at hP9 hD9
        exact W.vret hx hb hr (fun t9 ht9 hW9 => ⟨⟨(), rfl, trivial, by rw [ht9]; exact hP9, hD9⟩, hS.F ht9⟩) hS.2.2 dX4_step_395
    · replace c_290 := jB_z.mp c_290
      refine lv_aload_n hx hb dX4_step_293 rfl (lv_at hl 4 rfl) ?_
      refine lv_iconst (v := 3) hx hb dX4_step_294 (by decide) ?_
      refine va_put (D := D) (ci := 4) (v := .int 3) (ty := .int) (C := RX4) (T := TX4) (N := 17) hx hb hts iw_X4_step_X4 tyX4 tyX4_ok nmX4 hown hK hP hD hS 0 rfl rfl 13 (by decide) (hts (.fieldLink RX4 37 "JumpGuardModel" "state" "I") (List.mem_of_getElem? (l := wsX4_step) (i := 4) rfl)) (fun _ h9 => h9) rfl (by decide +kernel) rfl rfl (Nat.le_of_ble_eq_true rfl) dX4_step_295 (fun H locs hP hD hS => ?_)
      have hP : va_P D vwCl [(h4, .inr (4, [.ref zc, .int (nI nn), .int (nI zz), .ref zj, .ref ze, .int (nI ed), .ref zt, .ref zo, .ref za, .ref zr, .ref zm, .ref zl, .int (nI x.2.2.2.1), .int 3, .int (nI x.2.2.2.2.2), .int (nI qb), .int (nI ql)])), (zc, .inl (cA, 288, .inl cd)), (zr, .inl (cA, 4, .inl x.1)), (zm, .inl (cA, 16, .inl x.2.1)), (zl, .inl (cA, 8, .inl x.2.2.1))] H := hP
      have hD : va_D A [(h4, .inr (4, [.ref zc, .int (nI nn), .int (nI zz), .ref zj, .ref ze, .int (nI ed), .ref zt, .ref zo, .ref za, .ref zr, .ref zm, .ref zl, .int (nI x.2.2.2.1), .int 3, .int (nI x.2.2.2.2.2), .int (nI qb), .int (nI ql)])), (zc, .inl (cA, 288, .inl cd)), (zr, .inl (cA, 4, .inl x.1)), (zm, .inl (cA, 16, .inl x.2.1)), (zl, .inl (cA, 8, .inl x.2.2.1))] := hD
      refine lv_goto (tgt := 382) hx hb dX4_step_298 (by decide) ?_
      refine lv_aload_n hx hb dX4_step_382 rfl (lv_at hl 4 rfl) ?_
      refine va_get (D := D) (ci := 4) (v := .int 3) (C := RX4) (T := TX4) (N := 17) hx hb hts iw_X4_step_X4 hown hK hP 0 rfl rfl 13 (by decide) (hts (.fieldLink RX4 37 "JumpGuardModel" "state" "I") (List.mem_of_getElem? (l := wsX4_step) (i := 4) rfl)) (fun _ h9 => h9) rfl dX4_step_383 ?_
      refine lv_if_ne (tgt := 395) hx hb dX4_step_386 (by decide) (fun c_386 => ?_) (fun c_386 => ?_)
      · have hSt : mvS 8 (nI ta) b x.1 (rF cd qb) ql x.2.2.2.2.1 = 3 := (by rw [mvS_8 hta, if_neg c_290])
        have hNx : mvN 8 (nI ta) b x.1 (nI x.2.2.2.1) = (x.1 ta) := mvN_8 hta
        have hpc := rS_pcn hSt c_386
        obtain ⟨hP9, hD9⟩ := jk_end (w2 := [(h4, .inr (4, [.ref zc, .int (nI nn), .int (nI zz), .ref zj, .ref ze, .int (nI ed), .ref zt, .ref zo, .ref za, .ref zr, .ref zm, .ref zl, .int (nI x.2.2.2.1), .int 3, .int (nI x.2.2.2.2.2), .int (nI qb), .int (nI ql)])), (zc, .inl (cA, 288, .inl cd)), (zr, .inl (cA, 4, .inl x.1)), (zm, .inl (cA, 16, .inl x.2.1)), (zl, .inl (cA, 8, .inl x.2.2.1))]) hP hD [0, 1, 2, 3, 4] (by decide) rfl
        have e9 : ([(h4, .inr (4, [.ref zc, .int (nI nn), .int (nI zz), .ref zj, .ref ze, .int (nI ed), .ref zt, .ref zo, .ref za, .ref zr, .ref zm, .ref zl, .int (nI x.2.2.2.1), .int 3, .int (nI x.2.2.2.2.2), .int (nI qb), .int (nI ql)])), (zc, .inl (cA, 288, .inl cd)), (zr, .inl (cA, 4, .inl x.1)), (zm, .inl (cA, 16, .inl x.2.1)), (zl, .inl (cA, 8, .inl x.2.2.1))] : va_W) = [(h4, .inr (4, [.ref zc, .int (nI nn), .int (nI zz), .ref zj, .ref ze, .int (nI ed), .ref zt, .ref zo, .ref za, .ref zr, .ref zm, .ref zl, .int (nI (rStep (rF cd qb) ql x).2.2.2.1), .int ((rStep (rF cd qb) ql x).2.2.2.2.1), .int (nI (rStep (rF cd qb) ql x).2.2.2.2.2), .int (nI qb), .int (nI ql)])), (zc, .inl (cA, 288, .inl cd)), (zr, .inl (cA, 4, .inl ((rStep (rF cd qb) ql x).1))), (zm, .inl (cA, 16, .inl ((rStep (rF cd qb) ql x).2.1))), (zl, .inl (cA, 8, .inl ((rStep (rF cd qb) ql x).2.2.1)))] := (by rw [rStep_eq hoo hea heb]; dsimp only; rw [hpc, hSt]; rfl)
        rw [e9] at hP9 hD9
        exact W.vret hx hb hr (fun t9 ht9 hW9 => ⟨⟨(), rfl, trivial, by rw [ht9]; exact hP9, hD9⟩, hS.F ht9⟩) hS.2.2 dX4_step_395
      · exact absurd c_386 (by decide)
  · refine lv_tableIn (off := 68) (tgt := 132) hx hb dX4_step_64 (by decide) (by decide) rfl (by decide) ?_
    obtain ⟨ta, hta, eta⟩ := hreg (by decide) (by decide) (by decide)
    rw [← hea] at eta
    subst eta
    refine lv_aload_n hx hb dX4_step_132 rfl (lv_at hl 4 rfl) ?_
    refine va_get (D := D) (ci := 4) (v := .ref zr) (C := RX4) (T := TX4) (N := 17) hx hb hts iw_X4_step_X4 hown hK hP 0 rfl rfl 9 (by decide) (hts (.fieldLink RX4 28 "JumpGuardModel" "reg" "[I") (List.mem_of_getElem? (l := wsX4_step) (i := 5) rfl)) (fun _ h9 => h9) rfl dX4_step_133 ?_
    refine lv_iload_n hx hb dX4_step_136 rfl (lv_at hl 2 rfl) ?_
    refine lv_iload_n hx hb dX4_step_137 rfl (lv_at hl 1 rfl) ?_
    refine jk_ast hx hb hK hP hD hS 2 0 rfl rfl (k := ta) rfl (by omega) (by omega) dX4_step_138 (fun H locs hP hD hS => ?_)
    have hP : va_P D vwCl [(h4, .inr (4, [.ref zc, .int (nI nn), .int (nI zz), .ref zj, .ref ze, .int (nI ed), .ref zt, .ref zo, .ref za, .ref zr, .ref zm, .ref zl, .int (nI x.2.2.2.1), .int x.2.2.2.2.1, .int (nI x.2.2.2.2.2), .int (nI qb), .int (nI ql)])), (zc, .inl (cA, 288, .inl cd)), (zr, .inl (cA, 4, .inl (upd x.1 ta b))), (zm, .inl (cA, 16, .inl x.2.1)), (zl, .inl (cA, 8, .inl x.2.2.1))] H := hP
    have hD : va_D A [(h4, .inr (4, [.ref zc, .int (nI nn), .int (nI zz), .ref zj, .ref ze, .int (nI ed), .ref zt, .ref zo, .ref za, .ref zr, .ref zm, .ref zl, .int (nI x.2.2.2.1), .int x.2.2.2.2.1, .int (nI x.2.2.2.2.2), .int (nI qb), .int (nI ql)])), (zc, .inl (cA, 288, .inl cd)), (zr, .inl (cA, 4, .inl (upd x.1 ta b))), (zm, .inl (cA, 16, .inl x.2.1)), (zl, .inl (cA, 8, .inl x.2.2.1))] := hD
    rw [show (upd x.1 ta b) = (mvR 9 (nI ta) b x.1 x.2.1) from mvR_19 (by decide) hta] at hP hD
    have hP : va_P D vwCl [(h4, .inr (4, [.ref zc, .int (nI nn), .int (nI zz), .ref zj, .ref ze, .int (nI ed), .ref zt, .ref zo, .ref za, .ref zr, .ref zm, .ref zl, .int (nI x.2.2.2.1), .int x.2.2.2.2.1, .int (nI x.2.2.2.2.2), .int (nI qb), .int (nI ql)])), (zc, .inl (cA, 288, .inl cd)), (zr, .inl (cA, 4, .inl (mvR 9 (nI ta) b x.1 x.2.1))), (zm, .inl (cA, 16, .inl x.2.1)), (zl, .inl (cA, 8, .inl x.2.2.1))] H := hP
    have hD : va_D A [(h4, .inr (4, [.ref zc, .int (nI nn), .int (nI zz), .ref zj, .ref ze, .int (nI ed), .ref zt, .ref zo, .ref za, .ref zr, .ref zm, .ref zl, .int (nI x.2.2.2.1), .int x.2.2.2.2.1, .int (nI x.2.2.2.2.2), .int (nI qb), .int (nI ql)])), (zc, .inl (cA, 288, .inl cd)), (zr, .inl (cA, 4, .inl (mvR 9 (nI ta) b x.1 x.2.1))), (zm, .inl (cA, 16, .inl x.2.1)), (zl, .inl (cA, 8, .inl x.2.2.1))] := hD
    refine lv_goto (tgt := 382) hx hb dX4_step_139 (by decide) ?_
    refine lv_aload_n hx hb dX4_step_382 rfl (lv_at hl 4 rfl) ?_
    refine va_get (D := D) (ci := 4) (v := .int x.2.2.2.2.1) (C := RX4) (T := TX4) (N := 17) hx hb hts iw_X4_step_X4 hown hK hP 0 rfl rfl 13 (by decide) (hts (.fieldLink RX4 37 "JumpGuardModel" "state" "I") (List.mem_of_getElem? (l := wsX4_step) (i := 4) rfl)) (fun _ h9 => h9) rfl dX4_step_383 ?_
    refine lv_if_ne (tgt := 395) hx hb dX4_step_386 (by decide) (fun c_386 => ?_) (fun c_386 => ?_)
    · have hSt : mvS 9 (nI ta) b x.1 (rF cd qb) ql x.2.2.2.2.1 = x.2.2.2.2.1 := rfl
      have hNx : mvN 9 (nI ta) b x.1 (nI x.2.2.2.1) = ((nI x.2.2.2.1) + 1) := rfl
      exact absurd hst c_386
    · have hSt : mvS 9 (nI ta) b x.1 (rF cd qb) ql x.2.2.2.2.1 = x.2.2.2.2.1 := rfl
      have hNx : mvN 9 (nI ta) b x.1 (nI x.2.2.2.1) = ((nI x.2.2.2.1) + 1) := rfl
      have hpc := rS_pc hwf hi hoo hea heb hSt c_386 hNx
      refine lv_aload_n hx hb dX4_step_389 rfl (lv_at hl 4 rfl) ?_
      refine lv_iload hx hb dX4_step_390 (lv_at hl 0 rfl) ?_
      refine va_put (D := D) (ci := 4) (v := .int ((nI x.2.2.2.1) + 1)) (ty := .int) (C := RX4) (T := TX4) (N := 17) hx hb hts iw_X4_step_X4 tyX4 tyX4_ok nmX4 hown hK hP hD hS 0 rfl rfl 12 (by decide) (hts (.fieldLink RX4 78 "JumpGuardModel" "pc" "I") (List.mem_of_getElem? (l := wsX4_step) (i := 3) rfl)) (fun _ h9 => h9) rfl (by decide +kernel) rfl rfl (Nat.le_of_ble_eq_true rfl) dX4_step_392 (fun H locs hP hD hS => ?_)
      have hP : va_P D vwCl [(h4, .inr (4, [.ref zc, .int (nI nn), .int (nI zz), .ref zj, .ref ze, .int (nI ed), .ref zt, .ref zo, .ref za, .ref zr, .ref zm, .ref zl, .int ((nI x.2.2.2.1) + 1), .int x.2.2.2.2.1, .int (nI x.2.2.2.2.2), .int (nI qb), .int (nI ql)])), (zc, .inl (cA, 288, .inl cd)), (zr, .inl (cA, 4, .inl (mvR 9 (nI ta) b x.1 x.2.1))), (zm, .inl (cA, 16, .inl x.2.1)), (zl, .inl (cA, 8, .inl x.2.2.1))] H := hP
      have hD : va_D A [(h4, .inr (4, [.ref zc, .int (nI nn), .int (nI zz), .ref zj, .ref ze, .int (nI ed), .ref zt, .ref zo, .ref za, .ref zr, .ref zm, .ref zl, .int ((nI x.2.2.2.1) + 1), .int x.2.2.2.2.1, .int (nI x.2.2.2.2.2), .int (nI qb), .int (nI ql)])), (zc, .inl (cA, 288, .inl cd)), (zr, .inl (cA, 4, .inl (mvR 9 (nI ta) b x.1 x.2.1))), (zm, .inl (cA, 16, .inl x.2.1)), (zl, .inl (cA, 8, .inl x.2.2.1))] := hD
      obtain ⟨hP9, hD9⟩ := jk_end (w2 := [(h4, .inr (4, [.ref zc, .int (nI nn), .int (nI zz), .ref zj, .ref ze, .int (nI ed), .ref zt, .ref zo, .ref za, .ref zr, .ref zm, .ref zl, .int ((nI x.2.2.2.1) + 1), .int x.2.2.2.2.1, .int (nI x.2.2.2.2.2), .int (nI qb), .int (nI ql)])), (zc, .inl (cA, 288, .inl cd)), (zr, .inl (cA, 4, .inl (mvR 9 (nI ta) b x.1 x.2.1))), (zm, .inl (cA, 16, .inl x.2.1)), (zl, .inl (cA, 8, .inl x.2.2.1))]) hP hD [0, 1, 2, 3, 4] (by decide) rfl
      have e9 : ([(h4, .inr (4, [.ref zc, .int (nI nn), .int (nI zz), .ref zj, .ref ze, .int (nI ed), .ref zt, .ref zo, .ref za, .ref zr, .ref zm, .ref zl, .int ((nI x.2.2.2.1) + 1), .int x.2.2.2.2.1, .int (nI x.2.2.2.2.2), .int (nI qb), .int (nI ql)])), (zc, .inl (cA, 288, .inl cd)), (zr, .inl (cA, 4, .inl (mvR 9 (nI ta) b x.1 x.2.1))), (zm, .inl (cA, 16, .inl x.2.1)), (zl, .inl (cA, 8, .inl x.2.2.1))] : va_W) = [(h4, .inr (4, [.ref zc, .int (nI nn), .int (nI zz), .ref zj, .ref ze, .int (nI ed), .ref zt, .ref zo, .ref za, .ref zr, .ref zm, .ref zl, .int (nI (rStep (rF cd qb) ql x).2.2.2.1), .int ((rStep (rF cd qb) ql x).2.2.2.2.1), .int (nI (rStep (rF cd qb) ql x).2.2.2.2.2), .int (nI qb), .int (nI ql)])), (zc, .inl (cA, 288, .inl cd)), (zr, .inl (cA, 4, .inl ((rStep (rF cd qb) ql x).1))), (zm, .inl (cA, 16, .inl ((rStep (rF cd qb) ql x).2.1))), (zl, .inl (cA, 8, .inl ((rStep (rF cd qb) ql x).2.2.1)))] := (by rw [rStep_eq hoo hea heb]; dsimp only; rw [hpc, hSt]; rfl)
      rw [e9] at hP9 hD9
      exact W.vret hx hb hr (fun t9 ht9 hW9 => ⟨⟨(), rfl, trivial, by rw [ht9]; exact hP9, hD9⟩, hS.F ht9⟩) hS.2.2 dX4_step_395
  · refine lv_tableIn (off := 237) (tgt := 301) hx hb dX4_step_64 (by decide) (by decide) rfl (by decide) ?_
    refine lv_goto (tgt := 382) hx hb dX4_step_301 (by decide) ?_
    refine lv_aload_n hx hb dX4_step_382 rfl (lv_at hl 4 rfl) ?_
    refine va_get (D := D) (ci := 4) (v := .int x.2.2.2.2.1) (C := RX4) (T := TX4) (N := 17) hx hb hts iw_X4_step_X4 hown hK hP 0 rfl rfl 13 (by decide) (hts (.fieldLink RX4 37 "JumpGuardModel" "state" "I") (List.mem_of_getElem? (l := wsX4_step) (i := 4) rfl)) (fun _ h9 => h9) rfl dX4_step_383 ?_
    refine lv_if_ne (tgt := 395) hx hb dX4_step_386 (by decide) (fun c_386 => ?_) (fun c_386 => ?_)
    · have hSt : mvS 10 a b x.1 (rF cd qb) ql x.2.2.2.2.1 = x.2.2.2.2.1 := rfl
      have hNx : mvN 10 a b x.1 (nI x.2.2.2.1) = ((nI x.2.2.2.1) + 1) := rfl
      exact absurd hst c_386
    · have hSt : mvS 10 a b x.1 (rF cd qb) ql x.2.2.2.2.1 = x.2.2.2.2.1 := rfl
      have hNx : mvN 10 a b x.1 (nI x.2.2.2.1) = ((nI x.2.2.2.1) + 1) := rfl
      have hpc := rS_pc hwf hi hoo hea heb hSt c_386 hNx
      refine lv_aload_n hx hb dX4_step_389 rfl (lv_at hl 4 rfl) ?_
      refine lv_iload hx hb dX4_step_390 (lv_at hl 0 rfl) ?_
      refine va_put (D := D) (ci := 4) (v := .int ((nI x.2.2.2.1) + 1)) (ty := .int) (C := RX4) (T := TX4) (N := 17) hx hb hts iw_X4_step_X4 tyX4 tyX4_ok nmX4 hown hK hP hD hS 0 rfl rfl 12 (by decide) (hts (.fieldLink RX4 78 "JumpGuardModel" "pc" "I") (List.mem_of_getElem? (l := wsX4_step) (i := 3) rfl)) (fun _ h9 => h9) rfl (by decide +kernel) rfl rfl (Nat.le_of_ble_eq_true rfl) dX4_step_392 (fun H locs hP hD hS => ?_)
      have hP : va_P D vwCl [(h4, .inr (4, [.ref zc, .int (nI nn), .int (nI zz), .ref zj, .ref ze, .int (nI ed), .ref zt, .ref zo, .ref za, .ref zr, .ref zm, .ref zl, .int ((nI x.2.2.2.1) + 1), .int x.2.2.2.2.1, .int (nI x.2.2.2.2.2), .int (nI qb), .int (nI ql)])), (zc, .inl (cA, 288, .inl cd)), (zr, .inl (cA, 4, .inl x.1)), (zm, .inl (cA, 16, .inl x.2.1)), (zl, .inl (cA, 8, .inl x.2.2.1))] H := hP
      have hD : va_D A [(h4, .inr (4, [.ref zc, .int (nI nn), .int (nI zz), .ref zj, .ref ze, .int (nI ed), .ref zt, .ref zo, .ref za, .ref zr, .ref zm, .ref zl, .int ((nI x.2.2.2.1) + 1), .int x.2.2.2.2.1, .int (nI x.2.2.2.2.2), .int (nI qb), .int (nI ql)])), (zc, .inl (cA, 288, .inl cd)), (zr, .inl (cA, 4, .inl x.1)), (zm, .inl (cA, 16, .inl x.2.1)), (zl, .inl (cA, 8, .inl x.2.2.1))] := hD
      obtain ⟨hP9, hD9⟩ := jk_end (w2 := [(h4, .inr (4, [.ref zc, .int (nI nn), .int (nI zz), .ref zj, .ref ze, .int (nI ed), .ref zt, .ref zo, .ref za, .ref zr, .ref zm, .ref zl, .int ((nI x.2.2.2.1) + 1), .int x.2.2.2.2.1, .int (nI x.2.2.2.2.2), .int (nI qb), .int (nI ql)])), (zc, .inl (cA, 288, .inl cd)), (zr, .inl (cA, 4, .inl x.1)), (zm, .inl (cA, 16, .inl x.2.1)), (zl, .inl (cA, 8, .inl x.2.2.1))]) hP hD [0, 1, 2, 3, 4] (by decide) rfl
      have e9 : ([(h4, .inr (4, [.ref zc, .int (nI nn), .int (nI zz), .ref zj, .ref ze, .int (nI ed), .ref zt, .ref zo, .ref za, .ref zr, .ref zm, .ref zl, .int ((nI x.2.2.2.1) + 1), .int x.2.2.2.2.1, .int (nI x.2.2.2.2.2), .int (nI qb), .int (nI ql)])), (zc, .inl (cA, 288, .inl cd)), (zr, .inl (cA, 4, .inl x.1)), (zm, .inl (cA, 16, .inl x.2.1)), (zl, .inl (cA, 8, .inl x.2.2.1))] : va_W) = [(h4, .inr (4, [.ref zc, .int (nI nn), .int (nI zz), .ref zj, .ref ze, .int (nI ed), .ref zt, .ref zo, .ref za, .ref zr, .ref zm, .ref zl, .int (nI (rStep (rF cd qb) ql x).2.2.2.1), .int ((rStep (rF cd qb) ql x).2.2.2.2.1), .int (nI (rStep (rF cd qb) ql x).2.2.2.2.2), .int (nI qb), .int (nI ql)])), (zc, .inl (cA, 288, .inl cd)), (zr, .inl (cA, 4, .inl ((rStep (rF cd qb) ql x).1))), (zm, .inl (cA, 16, .inl ((rStep (rF cd qb) ql x).2.1))), (zl, .inl (cA, 8, .inl ((rStep (rF cd qb) ql x).2.2.1)))] := (by rw [rStep_eq hoo hea heb]; dsimp only; rw [hpc, hSt]; rfl)
      rw [e9] at hP9 hD9
      exact W.vret hx hb hr (fun t9 ht9 hW9 => ⟨⟨(), rfl, trivial, by rw [ht9]; exact hP9, hD9⟩, hS.F ht9⟩) hS.2.2 dX4_step_395
  · refine lv_tableOut (tgt := 304) hx hb dX4_step_64 (by decide) (by decide) ?_
    obtain ⟨ta, hta, eta⟩ := hreg (by decide) (by decide) (by decide)
    rw [← hea] at eta
    subst eta
    refine lv_aload_n hx hb dX4_step_304 rfl (lv_at hl 4 rfl) ?_
    refine va_get (D := D) (ci := 4) (v := .ref zr) (C := RX4) (T := TX4) (N := 17) hx hb hts iw_X4_step_X4 hown hK hP 0 rfl rfl 9 (by decide) (hts (.fieldLink RX4 28 "JumpGuardModel" "reg" "[I") (List.mem_of_getElem? (l := wsX4_step) (i := 5) rfl)) (fun _ h9 => h9) rfl dX4_step_305 ?_
    refine lv_iload_n hx hb dX4_step_308 rfl (lv_at hl 2 rfl) ?_
    refine jk_ald hx hb hK hP 2 0 rfl rfl (k := ta) rfl (by omega) (by omega) dX4_step_309 ?_
    refine lv_istore (lv' := [(5, .int (x.1 ta)), (4, .int ((nI x.2.2.2.1) + 1)), (3, .int b), (2, .int (nI ta)), (1, .int (nI 11)), (0, .ref h4)]) hx hb dX4_step_310 hl (by decide) rfl (fun ls hl => ?_)
    refine lv_iload hx hb dX4_step_312 (lv_at hl 0 rfl) ?_
    refine lv_aload_n hx hb dX4_step_314 rfl (lv_at hl 5 rfl) ?_
    refine va_get (D := D) (ci := 4) (v := .int (nI ql)) (C := RX4) (T := TX4) (N := 17) hx hb hts iw_X4_step_X4 hown hK hP 0 rfl rfl 16 (by decide) (hts (.fieldLink RX4 75 "JumpGuardModel" "length" "I") (List.mem_of_getElem? (l := wsX4_step) (i := 9) rfl)) (fun _ h9 => h9) rfl dX4_step_315 ?_
    refine lv_iconst (v := 1) hx hb dX4_step_318 (by decide) ?_
    refine lv_isub hx hb dX4_step_319 ?_
    refine jr_i (va_runS (As := [.int (x.1 ta), .int ((nI ql) - 1)]) (rest := []) ⟨hx, hb, hml, hown, hts⟩ (c_X4_within l D cA (x.1 ta) ((nI ql) - 1)) (va_cwS 2 hts gX4_step_X4_within rfl rfl rfl hv_X4_within.2 ⟨Nat.le_of_ble_eq_true rfl, Nat.le_of_ble_eq_true rfl⟩) (roP.S (av := [.int (x.1 ta), .int ((nI ql) - 1)]) (jP_sub (w2 := []) hP [] rfl) hK hN) rfl rfl hl.1 rfl (lv_room (Nat.le_of_ble_eq_true rfl)) dX4_step_320 ⟨Nat.le_of_ble_eq_true rfl, Nat.le_of_ble_eq_true rfl⟩) ?_
    refine jk_top (show (jB (wI (x.1 ta) ((nI ql) - 1))) = (jB (jIn (x.1 ta) (nI ql))) from jB_i (wI_p (by omega))) ?_
    refine lv_if_eq (tgt := 369) hx hb dX4_step_323 (by decide) (fun c_323 => ?_) (fun c_323 => ?_)
    · replace c_323 := jB_z.mp c_323
      refine lv_iconst (v := 0) hx hb dX4_step_369 (by decide) ?_
      refine lv_istore (lv' := [(6, .int 0), (5, .int (x.1 ta)), (4, .int ((nI x.2.2.2.1) + 1)), (3, .int b), (2, .int (nI ta)), (1, .int (nI 11)), (0, .ref h4)]) hx hb dX4_step_370 hl (by decide) rfl (fun ls hl => ?_)
      refine lv_iload hx hb dX4_step_372 (lv_at hl 0 rfl) ?_
      refine lv_if_ne (tgt := 382) hx hb dX4_step_374 (by decide) (fun c_374 => ?_) (fun c_374 => ?_)
      · exact absurd c_374 (by decide)
      · refine lv_aload_n hx hb dX4_step_377 rfl (lv_at hl 6 rfl) ?_
        refine lv_iconst (v := 2) hx hb dX4_step_378 (by decide) ?_
        refine va_put (D := D) (ci := 4) (v := .int 2) (ty := .int) (C := RX4) (T := TX4) (N := 17) hx hb hts iw_X4_step_X4 tyX4 tyX4_ok nmX4 hown hK hP hD hS 0 rfl rfl 13 (by decide) (hts (.fieldLink RX4 37 "JumpGuardModel" "state" "I") (List.mem_of_getElem? (l := wsX4_step) (i := 4) rfl)) (fun _ h9 => h9) rfl (by decide +kernel) rfl rfl (Nat.le_of_ble_eq_true rfl) dX4_step_379 (fun H locs hP hD hS => ?_)
        have hP : va_P D vwCl [(h4, .inr (4, [.ref zc, .int (nI nn), .int (nI zz), .ref zj, .ref ze, .int (nI ed), .ref zt, .ref zo, .ref za, .ref zr, .ref zm, .ref zl, .int (nI x.2.2.2.1), .int 2, .int (nI x.2.2.2.2.2), .int (nI qb), .int (nI ql)])), (zc, .inl (cA, 288, .inl cd)), (zr, .inl (cA, 4, .inl x.1)), (zm, .inl (cA, 16, .inl x.2.1)), (zl, .inl (cA, 8, .inl x.2.2.1))] H := hP
        have hD : va_D A [(h4, .inr (4, [.ref zc, .int (nI nn), .int (nI zz), .ref zj, .ref ze, .int (nI ed), .ref zt, .ref zo, .ref za, .ref zr, .ref zm, .ref zl, .int (nI x.2.2.2.1), .int 2, .int (nI x.2.2.2.2.2), .int (nI qb), .int (nI ql)])), (zc, .inl (cA, 288, .inl cd)), (zr, .inl (cA, 4, .inl x.1)), (zm, .inl (cA, 16, .inl x.2.1)), (zl, .inl (cA, 8, .inl x.2.2.1))] := hD
        refine lv_aload_n hx hb dX4_step_382 rfl (lv_at hl 6 rfl) ?_
        refine va_get (D := D) (ci := 4) (v := .int 2) (C := RX4) (T := TX4) (N := 17) hx hb hts iw_X4_step_X4 hown hK hP 0 rfl rfl 13 (by decide) (hts (.fieldLink RX4 37 "JumpGuardModel" "state" "I") (List.mem_of_getElem? (l := wsX4_step) (i := 4) rfl)) (fun _ h9 => h9) rfl dX4_step_383 ?_
        refine lv_if_ne (tgt := 395) hx hb dX4_step_386 (by decide) (fun c_386 => ?_) (fun c_386 => ?_)
        · have hSt : mvS 11 (nI ta) b x.1 (rF cd qb) ql x.2.2.2.2.1 = 2 := (by rw [mvS_11 hta, if_neg (fun h => rG_out c_323 h.1)])
          have hNx : mvN 11 (nI ta) b x.1 (nI x.2.2.2.1) = ((nI x.2.2.2.1) + 1) := rfl
          have hpc := rS_pcn hSt c_386
          obtain ⟨hP9, hD9⟩ := jk_end (w2 := [(h4, .inr (4, [.ref zc, .int (nI nn), .int (nI zz), .ref zj, .ref ze, .int (nI ed), .ref zt, .ref zo, .ref za, .ref zr, .ref zm, .ref zl, .int (nI x.2.2.2.1), .int 2, .int (nI x.2.2.2.2.2), .int (nI qb), .int (nI ql)])), (zc, .inl (cA, 288, .inl cd)), (zr, .inl (cA, 4, .inl x.1)), (zm, .inl (cA, 16, .inl x.2.1)), (zl, .inl (cA, 8, .inl x.2.2.1))]) hP hD [0, 1, 2, 3, 4] (by decide) rfl
          have e9 : ([(h4, .inr (4, [.ref zc, .int (nI nn), .int (nI zz), .ref zj, .ref ze, .int (nI ed), .ref zt, .ref zo, .ref za, .ref zr, .ref zm, .ref zl, .int (nI x.2.2.2.1), .int 2, .int (nI x.2.2.2.2.2), .int (nI qb), .int (nI ql)])), (zc, .inl (cA, 288, .inl cd)), (zr, .inl (cA, 4, .inl x.1)), (zm, .inl (cA, 16, .inl x.2.1)), (zl, .inl (cA, 8, .inl x.2.2.1))] : va_W) = [(h4, .inr (4, [.ref zc, .int (nI nn), .int (nI zz), .ref zj, .ref ze, .int (nI ed), .ref zt, .ref zo, .ref za, .ref zr, .ref zm, .ref zl, .int (nI (rStep (rF cd qb) ql x).2.2.2.1), .int ((rStep (rF cd qb) ql x).2.2.2.2.1), .int (nI (rStep (rF cd qb) ql x).2.2.2.2.2), .int (nI qb), .int (nI ql)])), (zc, .inl (cA, 288, .inl cd)), (zr, .inl (cA, 4, .inl ((rStep (rF cd qb) ql x).1))), (zm, .inl (cA, 16, .inl ((rStep (rF cd qb) ql x).2.1))), (zl, .inl (cA, 8, .inl ((rStep (rF cd qb) ql x).2.2.1)))] := (by rw [rStep_eq hoo hea heb]; dsimp only; rw [hpc, hSt]; rfl)
          rw [e9] at hP9 hD9
          exact W.vret hx hb hr (fun t9 ht9 hW9 => ⟨⟨(), rfl, trivial, by rw [ht9]; exact hP9, hD9⟩, hS.F ht9⟩) hS.2.2 dX4_step_395
        · exact absurd c_386 (by decide)
    · replace c_323 := jB_nz.mp c_323
      obtain ⟨t5, ht5, e5⟩ := jN_of (n := ql) (by omega) c_323
      refine lv_aload_n hx hb dX4_step_326 rfl (lv_at hl 5 rfl) ?_
      refine va_get (D := D) (ci := 4) (v := .ref zc) (C := RX4) (T := TX4) (N := 17) hx hb hts iw_X4_step_X4 hown hK hP 0 rfl rfl 0 (by decide) (hts (.fieldLink RX4 7 "JumpGuardModel" "code" "[I") (List.mem_of_getElem? (l := wsX4_step) (i := 1) rfl)) (fun _ h9 => h9) rfl dX4_step_327 ?_
      refine lv_aload_n hx hb dX4_step_330 rfl (lv_at hl 5 rfl) ?_
      refine va_get (D := D) (ci := 4) (v := .int (nI qb)) (C := RX4) (T := TX4) (N := 17) hx hb hts iw_X4_step_X4 hown hK hP 0 rfl rfl 15 (by decide) (hts (.fieldLink RX4 72 "JumpGuardModel" "base" "I") (List.mem_of_getElem? (l := wsX4_step) (i := 2) rfl)) (fun _ h9 => h9) rfl dX4_step_331 ?_
      refine lv_iconst (v := 3) hx hb dX4_step_334 (by decide) ?_
      refine lv_iload hx hb dX4_step_335 (lv_at hl 0 rfl) ?_
      refine lv_imul hx hb dX4_step_337 ?_
      refine jk_top (show (3 * (x.1 ta)) = (nI (3 * t5)) from by rw [e5]; exact jn_3m t5) ?_
      refine lv_iadd hx hb dX4_step_338 ?_
      refine jk_top (show ((nI qb) + (nI (3 * t5))) = (nI (qb + 3 * t5)) from nI_add _ _) ?_
      refine jk_ald hx hb hK hP 1 0 rfl rfl (k := (qb + 3 * t5)) rfl (by omega) (by omega) dX4_step_339 ?_
      refine lv_bipush (v := 10) hx hb dX4_step_340 (by decide) ?_
      refine lv_icmp_ne (tgt := 369) hx hb dX4_step_342 (by decide) (fun c_342 => ?_) (fun c_342 => ?_)
      · refine lv_iconst (v := 0) hx hb dX4_step_369 (by decide) ?_
        refine lv_istore (lv' := [(6, .int 0), (5, .int (x.1 ta)), (4, .int ((nI x.2.2.2.1) + 1)), (3, .int b), (2, .int (nI ta)), (1, .int (nI 11)), (0, .ref h4)]) hx hb dX4_step_370 hl (by decide) rfl (fun ls hl => ?_)
        refine lv_iload hx hb dX4_step_372 (lv_at hl 0 rfl) ?_
        refine lv_if_ne (tgt := 382) hx hb dX4_step_374 (by decide) (fun c_374 => ?_) (fun c_374 => ?_)
        · exact absurd c_374 (by decide)
        · refine lv_aload_n hx hb dX4_step_377 rfl (lv_at hl 6 rfl) ?_
          refine lv_iconst (v := 2) hx hb dX4_step_378 (by decide) ?_
          refine va_put (D := D) (ci := 4) (v := .int 2) (ty := .int) (C := RX4) (T := TX4) (N := 17) hx hb hts iw_X4_step_X4 tyX4 tyX4_ok nmX4 hown hK hP hD hS 0 rfl rfl 13 (by decide) (hts (.fieldLink RX4 37 "JumpGuardModel" "state" "I") (List.mem_of_getElem? (l := wsX4_step) (i := 4) rfl)) (fun _ h9 => h9) rfl (by decide +kernel) rfl rfl (Nat.le_of_ble_eq_true rfl) dX4_step_379 (fun H locs hP hD hS => ?_)
          have hP : va_P D vwCl [(h4, .inr (4, [.ref zc, .int (nI nn), .int (nI zz), .ref zj, .ref ze, .int (nI ed), .ref zt, .ref zo, .ref za, .ref zr, .ref zm, .ref zl, .int (nI x.2.2.2.1), .int 2, .int (nI x.2.2.2.2.2), .int (nI qb), .int (nI ql)])), (zc, .inl (cA, 288, .inl cd)), (zr, .inl (cA, 4, .inl x.1)), (zm, .inl (cA, 16, .inl x.2.1)), (zl, .inl (cA, 8, .inl x.2.2.1))] H := hP
          have hD : va_D A [(h4, .inr (4, [.ref zc, .int (nI nn), .int (nI zz), .ref zj, .ref ze, .int (nI ed), .ref zt, .ref zo, .ref za, .ref zr, .ref zm, .ref zl, .int (nI x.2.2.2.1), .int 2, .int (nI x.2.2.2.2.2), .int (nI qb), .int (nI ql)])), (zc, .inl (cA, 288, .inl cd)), (zr, .inl (cA, 4, .inl x.1)), (zm, .inl (cA, 16, .inl x.2.1)), (zl, .inl (cA, 8, .inl x.2.2.1))] := hD
          refine lv_aload_n hx hb dX4_step_382 rfl (lv_at hl 6 rfl) ?_
          refine va_get (D := D) (ci := 4) (v := .int 2) (C := RX4) (T := TX4) (N := 17) hx hb hts iw_X4_step_X4 hown hK hP 0 rfl rfl 13 (by decide) (hts (.fieldLink RX4 37 "JumpGuardModel" "state" "I") (List.mem_of_getElem? (l := wsX4_step) (i := 4) rfl)) (fun _ h9 => h9) rfl dX4_step_383 ?_
          refine lv_if_ne (tgt := 395) hx hb dX4_step_386 (by decide) (fun c_386 => ?_) (fun c_386 => ?_)
          · have hSt : mvS 11 (nI ta) b x.1 (rF cd qb) ql x.2.2.2.2.1 = 2 := (by rw [mvS_11 hta, if_neg (fun h => c_342 ((rG_at0 hql e5 ht5).symm.trans h.1))])
            have hNx : mvN 11 (nI ta) b x.1 (nI x.2.2.2.1) = ((nI x.2.2.2.1) + 1) := rfl
            have hpc := rS_pcn hSt c_386
            obtain ⟨hP9, hD9⟩ := jk_end (w2 := [(h4, .inr (4, [.ref zc, .int (nI nn), .int (nI zz), .ref zj, .ref ze, .int (nI ed), .ref zt, .ref zo, .ref za, .ref zr, .ref zm, .ref zl, .int (nI x.2.2.2.1), .int 2, .int (nI x.2.2.2.2.2), .int (nI qb), .int (nI ql)])), (zc, .inl (cA, 288, .inl cd)), (zr, .inl (cA, 4, .inl x.1)), (zm, .inl (cA, 16, .inl x.2.1)), (zl, .inl (cA, 8, .inl x.2.2.1))]) hP hD [0, 1, 2, 3, 4] (by decide) rfl
            have e9 : ([(h4, .inr (4, [.ref zc, .int (nI nn), .int (nI zz), .ref zj, .ref ze, .int (nI ed), .ref zt, .ref zo, .ref za, .ref zr, .ref zm, .ref zl, .int (nI x.2.2.2.1), .int 2, .int (nI x.2.2.2.2.2), .int (nI qb), .int (nI ql)])), (zc, .inl (cA, 288, .inl cd)), (zr, .inl (cA, 4, .inl x.1)), (zm, .inl (cA, 16, .inl x.2.1)), (zl, .inl (cA, 8, .inl x.2.2.1))] : va_W) = [(h4, .inr (4, [.ref zc, .int (nI nn), .int (nI zz), .ref zj, .ref ze, .int (nI ed), .ref zt, .ref zo, .ref za, .ref zr, .ref zm, .ref zl, .int (nI (rStep (rF cd qb) ql x).2.2.2.1), .int ((rStep (rF cd qb) ql x).2.2.2.2.1), .int (nI (rStep (rF cd qb) ql x).2.2.2.2.2), .int (nI qb), .int (nI ql)])), (zc, .inl (cA, 288, .inl cd)), (zr, .inl (cA, 4, .inl ((rStep (rF cd qb) ql x).1))), (zm, .inl (cA, 16, .inl ((rStep (rF cd qb) ql x).2.1))), (zl, .inl (cA, 8, .inl ((rStep (rF cd qb) ql x).2.2.1)))] := (by rw [rStep_eq hoo hea heb]; dsimp only; rw [hpc, hSt]; rfl)
            rw [e9] at hP9 hD9
            exact W.vret hx hb hr (fun t9 ht9 hW9 => ⟨⟨(), rfl, trivial, by rw [ht9]; exact hP9, hD9⟩, hS.F ht9⟩) hS.2.2 dX4_step_395
          · exact absurd c_386 (by decide)
      · refine lv_aload_n hx hb dX4_step_345 rfl (lv_at hl 5 rfl) ?_
        refine va_get (D := D) (ci := 4) (v := .ref zc) (C := RX4) (T := TX4) (N := 17) hx hb hts iw_X4_step_X4 hown hK hP 0 rfl rfl 0 (by decide) (hts (.fieldLink RX4 7 "JumpGuardModel" "code" "[I") (List.mem_of_getElem? (l := wsX4_step) (i := 1) rfl)) (fun _ h9 => h9) rfl dX4_step_346 ?_
        refine lv_aload_n hx hb dX4_step_349 rfl (lv_at hl 5 rfl) ?_
        refine va_get (D := D) (ci := 4) (v := .int (nI qb)) (C := RX4) (T := TX4) (N := 17) hx hb hts iw_X4_step_X4 hown hK hP 0 rfl rfl 15 (by decide) (hts (.fieldLink RX4 72 "JumpGuardModel" "base" "I") (List.mem_of_getElem? (l := wsX4_step) (i := 2) rfl)) (fun _ h9 => h9) rfl dX4_step_350 ?_
        refine lv_iconst (v := 3) hx hb dX4_step_353 (by decide) ?_
        refine lv_iload hx hb dX4_step_354 (lv_at hl 0 rfl) ?_
        refine lv_imul hx hb dX4_step_356 ?_
        refine jk_top (show (3 * (x.1 ta)) = (nI (3 * t5)) from by rw [e5]; exact jn_3m t5) ?_
        refine lv_iadd hx hb dX4_step_357 ?_
        refine jk_top (show ((nI qb) + (nI (3 * t5))) = (nI (qb + 3 * t5)) from nI_add _ _) ?_
        refine lv_iconst (v := 1) hx hb dX4_step_358 (by decide) ?_
        refine lv_iadd hx hb dX4_step_359 ?_
        refine jk_top (show ((nI (qb + 3 * t5)) + 1) = (nI (qb + 3 * t5 + 1)) from jn_a1 _) ?_
        refine jk_ald hx hb hK hP 1 0 rfl rfl (k := (qb + 3 * t5 + 1)) rfl (by omega) (by omega) dX4_step_360 ?_
        refine lv_iload_n hx hb dX4_step_361 rfl (lv_at hl 2 rfl) ?_
        refine lv_icmp_ne (tgt := 369) hx hb dX4_step_362 (by decide) (fun c_362 => ?_) (fun c_362 => ?_)
        · refine lv_iconst (v := 0) hx hb dX4_step_369 (by decide) ?_
          refine lv_istore (lv' := [(6, .int 0), (5, .int (x.1 ta)), (4, .int ((nI x.2.2.2.1) + 1)), (3, .int b), (2, .int (nI ta)), (1, .int (nI 11)), (0, .ref h4)]) hx hb dX4_step_370 hl (by decide) rfl (fun ls hl => ?_)
          refine lv_iload hx hb dX4_step_372 (lv_at hl 0 rfl) ?_
          refine lv_if_ne (tgt := 382) hx hb dX4_step_374 (by decide) (fun c_374 => ?_) (fun c_374 => ?_)
          · exact absurd c_374 (by decide)
          · refine lv_aload_n hx hb dX4_step_377 rfl (lv_at hl 6 rfl) ?_
            refine lv_iconst (v := 2) hx hb dX4_step_378 (by decide) ?_
            refine va_put (D := D) (ci := 4) (v := .int 2) (ty := .int) (C := RX4) (T := TX4) (N := 17) hx hb hts iw_X4_step_X4 tyX4 tyX4_ok nmX4 hown hK hP hD hS 0 rfl rfl 13 (by decide) (hts (.fieldLink RX4 37 "JumpGuardModel" "state" "I") (List.mem_of_getElem? (l := wsX4_step) (i := 4) rfl)) (fun _ h9 => h9) rfl (by decide +kernel) rfl rfl (Nat.le_of_ble_eq_true rfl) dX4_step_379 (fun H locs hP hD hS => ?_)
            have hP : va_P D vwCl [(h4, .inr (4, [.ref zc, .int (nI nn), .int (nI zz), .ref zj, .ref ze, .int (nI ed), .ref zt, .ref zo, .ref za, .ref zr, .ref zm, .ref zl, .int (nI x.2.2.2.1), .int 2, .int (nI x.2.2.2.2.2), .int (nI qb), .int (nI ql)])), (zc, .inl (cA, 288, .inl cd)), (zr, .inl (cA, 4, .inl x.1)), (zm, .inl (cA, 16, .inl x.2.1)), (zl, .inl (cA, 8, .inl x.2.2.1))] H := hP
            have hD : va_D A [(h4, .inr (4, [.ref zc, .int (nI nn), .int (nI zz), .ref zj, .ref ze, .int (nI ed), .ref zt, .ref zo, .ref za, .ref zr, .ref zm, .ref zl, .int (nI x.2.2.2.1), .int 2, .int (nI x.2.2.2.2.2), .int (nI qb), .int (nI ql)])), (zc, .inl (cA, 288, .inl cd)), (zr, .inl (cA, 4, .inl x.1)), (zm, .inl (cA, 16, .inl x.2.1)), (zl, .inl (cA, 8, .inl x.2.2.1))] := hD
            refine lv_aload_n hx hb dX4_step_382 rfl (lv_at hl 6 rfl) ?_
            refine va_get (D := D) (ci := 4) (v := .int 2) (C := RX4) (T := TX4) (N := 17) hx hb hts iw_X4_step_X4 hown hK hP 0 rfl rfl 13 (by decide) (hts (.fieldLink RX4 37 "JumpGuardModel" "state" "I") (List.mem_of_getElem? (l := wsX4_step) (i := 4) rfl)) (fun _ h9 => h9) rfl dX4_step_383 ?_
            refine lv_if_ne (tgt := 395) hx hb dX4_step_386 (by decide) (fun c_386 => ?_) (fun c_386 => ?_)
            · have hSt : mvS 11 (nI ta) b x.1 (rF cd qb) ql x.2.2.2.2.1 = 2 := (by rw [mvS_11 hta, if_neg (fun h => c_362 ((rG_at1 hql e5 ht5).symm.trans h.2))])
              have hNx : mvN 11 (nI ta) b x.1 (nI x.2.2.2.1) = ((nI x.2.2.2.1) + 1) := rfl
              have hpc := rS_pcn hSt c_386
              obtain ⟨hP9, hD9⟩ := jk_end (w2 := [(h4, .inr (4, [.ref zc, .int (nI nn), .int (nI zz), .ref zj, .ref ze, .int (nI ed), .ref zt, .ref zo, .ref za, .ref zr, .ref zm, .ref zl, .int (nI x.2.2.2.1), .int 2, .int (nI x.2.2.2.2.2), .int (nI qb), .int (nI ql)])), (zc, .inl (cA, 288, .inl cd)), (zr, .inl (cA, 4, .inl x.1)), (zm, .inl (cA, 16, .inl x.2.1)), (zl, .inl (cA, 8, .inl x.2.2.1))]) hP hD [0, 1, 2, 3, 4] (by decide) rfl
              have e9 : ([(h4, .inr (4, [.ref zc, .int (nI nn), .int (nI zz), .ref zj, .ref ze, .int (nI ed), .ref zt, .ref zo, .ref za, .ref zr, .ref zm, .ref zl, .int (nI x.2.2.2.1), .int 2, .int (nI x.2.2.2.2.2), .int (nI qb), .int (nI ql)])), (zc, .inl (cA, 288, .inl cd)), (zr, .inl (cA, 4, .inl x.1)), (zm, .inl (cA, 16, .inl x.2.1)), (zl, .inl (cA, 8, .inl x.2.2.1))] : va_W) = [(h4, .inr (4, [.ref zc, .int (nI nn), .int (nI zz), .ref zj, .ref ze, .int (nI ed), .ref zt, .ref zo, .ref za, .ref zr, .ref zm, .ref zl, .int (nI (rStep (rF cd qb) ql x).2.2.2.1), .int ((rStep (rF cd qb) ql x).2.2.2.2.1), .int (nI (rStep (rF cd qb) ql x).2.2.2.2.2), .int (nI qb), .int (nI ql)])), (zc, .inl (cA, 288, .inl cd)), (zr, .inl (cA, 4, .inl ((rStep (rF cd qb) ql x).1))), (zm, .inl (cA, 16, .inl ((rStep (rF cd qb) ql x).2.1))), (zl, .inl (cA, 8, .inl ((rStep (rF cd qb) ql x).2.2.1)))] := (by rw [rStep_eq hoo hea heb]; dsimp only; rw [hpc, hSt]; rfl)
              rw [e9] at hP9 hD9
              exact W.vret hx hb hr (fun t9 ht9 hW9 => ⟨⟨(), rfl, trivial, by rw [ht9]; exact hP9, hD9⟩, hS.F ht9⟩) hS.2.2 dX4_step_395
            · exact absurd c_386 (by decide)
        · refine lv_iconst (v := 1) hx hb dX4_step_365 (by decide) ?_
          refine lv_goto (tgt := 370) hx hb dX4_step_366 (by decide) ?_
          refine lv_istore (lv' := [(6, .int 1), (5, .int (x.1 ta)), (4, .int ((nI x.2.2.2.1) + 1)), (3, .int b), (2, .int (nI ta)), (1, .int (nI 11)), (0, .ref h4)]) hx hb dX4_step_370 hl (by decide) rfl (fun ls hl => ?_)
          refine lv_iload hx hb dX4_step_372 (lv_at hl 0 rfl) ?_
          refine lv_if_ne (tgt := 382) hx hb dX4_step_374 (by decide) (fun c_374 => ?_) (fun c_374 => ?_)
          · refine lv_aload_n hx hb dX4_step_382 rfl (lv_at hl 6 rfl) ?_
            refine va_get (D := D) (ci := 4) (v := .int x.2.2.2.2.1) (C := RX4) (T := TX4) (N := 17) hx hb hts iw_X4_step_X4 hown hK hP 0 rfl rfl 13 (by decide) (hts (.fieldLink RX4 37 "JumpGuardModel" "state" "I") (List.mem_of_getElem? (l := wsX4_step) (i := 4) rfl)) (fun _ h9 => h9) rfl dX4_step_383 ?_
            refine lv_if_ne (tgt := 395) hx hb dX4_step_386 (by decide) (fun c_386 => ?_) (fun c_386 => ?_)
            · have hSt : mvS 11 (nI ta) b x.1 (rF cd qb) ql x.2.2.2.2.1 = x.2.2.2.2.1 := (by rw [mvS_11 hta, if_pos ⟨(rG_at0 hql e5 ht5).trans c_342, (rG_at1 hql e5 ht5).trans c_362⟩])
              have hNx : mvN 11 (nI ta) b x.1 (nI x.2.2.2.1) = ((nI x.2.2.2.1) + 1) := rfl
              exact absurd hst c_386
            · have hSt : mvS 11 (nI ta) b x.1 (rF cd qb) ql x.2.2.2.2.1 = x.2.2.2.2.1 := (by rw [mvS_11 hta, if_pos ⟨(rG_at0 hql e5 ht5).trans c_342, (rG_at1 hql e5 ht5).trans c_362⟩])
              have hNx : mvN 11 (nI ta) b x.1 (nI x.2.2.2.1) = ((nI x.2.2.2.1) + 1) := rfl
              have hpc := rS_pc hwf hi hoo hea heb hSt c_386 hNx
              refine lv_aload_n hx hb dX4_step_389 rfl (lv_at hl 6 rfl) ?_
              refine lv_iload hx hb dX4_step_390 (lv_at hl 2 rfl) ?_
              refine va_put (D := D) (ci := 4) (v := .int ((nI x.2.2.2.1) + 1)) (ty := .int) (C := RX4) (T := TX4) (N := 17) hx hb hts iw_X4_step_X4 tyX4 tyX4_ok nmX4 hown hK hP hD hS 0 rfl rfl 12 (by decide) (hts (.fieldLink RX4 78 "JumpGuardModel" "pc" "I") (List.mem_of_getElem? (l := wsX4_step) (i := 3) rfl)) (fun _ h9 => h9) rfl (by decide +kernel) rfl rfl (Nat.le_of_ble_eq_true rfl) dX4_step_392 (fun H locs hP hD hS => ?_)
              have hP : va_P D vwCl [(h4, .inr (4, [.ref zc, .int (nI nn), .int (nI zz), .ref zj, .ref ze, .int (nI ed), .ref zt, .ref zo, .ref za, .ref zr, .ref zm, .ref zl, .int ((nI x.2.2.2.1) + 1), .int x.2.2.2.2.1, .int (nI x.2.2.2.2.2), .int (nI qb), .int (nI ql)])), (zc, .inl (cA, 288, .inl cd)), (zr, .inl (cA, 4, .inl x.1)), (zm, .inl (cA, 16, .inl x.2.1)), (zl, .inl (cA, 8, .inl x.2.2.1))] H := hP
              have hD : va_D A [(h4, .inr (4, [.ref zc, .int (nI nn), .int (nI zz), .ref zj, .ref ze, .int (nI ed), .ref zt, .ref zo, .ref za, .ref zr, .ref zm, .ref zl, .int ((nI x.2.2.2.1) + 1), .int x.2.2.2.2.1, .int (nI x.2.2.2.2.2), .int (nI qb), .int (nI ql)])), (zc, .inl (cA, 288, .inl cd)), (zr, .inl (cA, 4, .inl x.1)), (zm, .inl (cA, 16, .inl x.2.1)), (zl, .inl (cA, 8, .inl x.2.2.1))] := hD
              obtain ⟨hP9, hD9⟩ := jk_end (w2 := [(h4, .inr (4, [.ref zc, .int (nI nn), .int (nI zz), .ref zj, .ref ze, .int (nI ed), .ref zt, .ref zo, .ref za, .ref zr, .ref zm, .ref zl, .int ((nI x.2.2.2.1) + 1), .int x.2.2.2.2.1, .int (nI x.2.2.2.2.2), .int (nI qb), .int (nI ql)])), (zc, .inl (cA, 288, .inl cd)), (zr, .inl (cA, 4, .inl x.1)), (zm, .inl (cA, 16, .inl x.2.1)), (zl, .inl (cA, 8, .inl x.2.2.1))]) hP hD [0, 1, 2, 3, 4] (by decide) rfl
              have e9 : ([(h4, .inr (4, [.ref zc, .int (nI nn), .int (nI zz), .ref zj, .ref ze, .int (nI ed), .ref zt, .ref zo, .ref za, .ref zr, .ref zm, .ref zl, .int ((nI x.2.2.2.1) + 1), .int x.2.2.2.2.1, .int (nI x.2.2.2.2.2), .int (nI qb), .int (nI ql)])), (zc, .inl (cA, 288, .inl cd)), (zr, .inl (cA, 4, .inl x.1)), (zm, .inl (cA, 16, .inl x.2.1)), (zl, .inl (cA, 8, .inl x.2.2.1))] : va_W) = [(h4, .inr (4, [.ref zc, .int (nI nn), .int (nI zz), .ref zj, .ref ze, .int (nI ed), .ref zt, .ref zo, .ref za, .ref zr, .ref zm, .ref zl, .int (nI (rStep (rF cd qb) ql x).2.2.2.1), .int ((rStep (rF cd qb) ql x).2.2.2.2.1), .int (nI (rStep (rF cd qb) ql x).2.2.2.2.2), .int (nI qb), .int (nI ql)])), (zc, .inl (cA, 288, .inl cd)), (zr, .inl (cA, 4, .inl ((rStep (rF cd qb) ql x).1))), (zm, .inl (cA, 16, .inl ((rStep (rF cd qb) ql x).2.1))), (zl, .inl (cA, 8, .inl ((rStep (rF cd qb) ql x).2.2.1)))] := (by rw [rStep_eq hoo hea heb]; dsimp only; rw [hpc, hSt]; rfl)
              rw [e9] at hP9 hD9
              exact W.vret hx hb hr (fun t9 ht9 hW9 => ⟨⟨(), rfl, trivial, by rw [ht9]; exact hP9, hD9⟩, hS.F ht9⟩) hS.2.2 dX4_step_395
          · exact absurd c_374 (by decide)
set_option maxHeartbeats 4000000 in
set_option maxRecDepth 100000 in
theorem c_X4_run (l : Launch) (D : va_G) (cA : ClassId) (sz : Nat) (h4 : Nat) (zc : Nat) (zj : Nat) (ze : Nat) (zt : Nat) (zo : Nat) (za : Nat) (zr : Nat) (zm : Nat) (zl : Nat) (nn : Nat) (zz : Nat) (ed : Nat) (qb : Nat) (ql : Nat) (cd : Nat → Int32) (x : MS) (k9 : Int32) (hwf : mWF (rF cd qb) ql) (hix : x.2.2.2.2.1 = 0 → x.2.2.2.1 < ql) (hqb : qb ≤ 72) (hql : ql ≤ 72) (hw : x.2.2.2.2.2 + 1000 < 1000000) : Met l yX4_run wsX4_run ({ frames := 2, cells := 0, slots := 0, locals := 47 }) (rwP D cA [.ref h4, .int k9] sz [(h4, .inr (4, [.ref zc, .int (nI nn), .int (nI zz), .ref zj, .ref ze, .int (nI ed), .ref zt, .ref zo, .ref za, .ref zr, .ref zm, .ref zl, .int (nI x.2.2.2.1), .int x.2.2.2.2.1, .int (nI x.2.2.2.2.2), .int (nI qb), .int (nI ql)])), (zc, .inl (cA, 288, .inl cd)), (zr, .inl (cA, 4, .inl x.1)), (zm, .inl (cA, 16, .inl x.2.1)), (zl, .inl (cA, 8, .inl x.2.2.1))]) (rwI D (va_A [(h4, .inr (4, [.ref zc, .int (nI nn), .int (nI zz), .ref zj, .ref ze, .int (nI ed), .ref zt, .ref zo, .ref za, .ref zr, .ref zm, .ref zl, .int (nI x.2.2.2.1), .int x.2.2.2.2.1, .int (nI x.2.2.2.2.2), .int (nI qb), .int (nI ql)])), (zc, .inl (cA, 288, .inl cd)), (zr, .inl (cA, 4, .inl x.1)), (zm, .inl (cA, 16, .inl x.2.1)), (zl, .inl (cA, 8, .inl x.2.2.1))] sz) (nI (rRun (rF cd qb) ql (rCnt k9) x).1) [(h4, .inr (4, [.ref zc, .int (nI nn), .int (nI zz), .ref zj, .ref ze, .int (nI ed), .ref zt, .ref zo, .ref za, .ref zr, .ref zm, .ref zl, .int (nI (rRun (rF cd qb) ql (rCnt k9) x).2.2.2.2.1), .int ((rRun (rF cd qb) ql (rCnt k9) x).2.2.2.2.2.1), .int (nI (rRun (rF cd qb) ql (rCnt k9) x).2.2.2.2.2.2), .int (nI qb), .int (nI ql)])), (zc, .inl (cA, 288, .inl cd)), (zr, .inl (cA, 4, .inl ((rRun (rF cd qb) ql (rCnt k9) x).2.1))), (zm, .inl (cA, 16, .inl ((rRun (rF cd qb) ql (rCnt k9) x).2.2.1))), (zl, .inl (cA, 8, .inl ((rRun (rF cd qb) ql (rCnt k9) x).2.2.2.1)))]) 0 0 (va_A [(h4, .inr (4, [.ref zc, .int (nI nn), .int (nI zz), .ref zj, .ref ze, .int (nI ed), .ref zt, .ref zo, .ref za, .ref zr, .ref zm, .ref zl, .int (nI x.2.2.2.1), .int x.2.2.2.2.1, .int (nI x.2.2.2.2.2), .int (nI qb), .int (nI ql)])), (zc, .inl (cA, 288, .inl cd)), (zr, .inl (cA, 4, .inl x.1)), (zm, .inl (cA, 16, .inl x.2.1)), (zl, .inl (cA, 8, .inl x.2.2.1))] sz) := by
  refine Met.ofW (cc := cX4_run) (maxL := 4) (ret := (some .int)) (by decide) rfl ?_
  intro p e s m args below meth c s₁ B hml hv
  obtain ⟨rfl, hsz, hP, hK, hN, hD0⟩ := hv
  have hx := B.exec
  have hb := B.bytes
  have hr := B.returns
  have hts := atoms_spec (ws := wsX4_run) B.pre
  have hown : s.vm.findClass RX4 = some m.cls := findClass_of_methodNamed B.named
  have hlocks := B.notSynchronized
  subst hsz
  have hD := hD0.self (sz := s.heap.size)
  generalize hAe : va_A [(h4, .inr (4, [.ref zc, .int (nI nn), .int (nI zz), .ref zj, .ref ze, .int (nI ed), .ref zt, .ref zo, .ref za, .ref zr, .ref zm, .ref zl, .int (nI x.2.2.2.1), .int x.2.2.2.2.1, .int (nI x.2.2.2.2.2), .int (nI qb), .int (nI ql)])), (zc, .inl (cA, 288, .inl cd)), (zr, .inl (cA, 4, .inl x.1)), (zm, .inl (cA, 16, .inl x.2.1)), (zl, .inl (cA, 8, .inl x.2.2.1))] s.heap.size = A at hD ⊢
  have hA : ∀ q : Nat, s.heap.size ≤ q → A q := fun q h => by rw [← hAe]; exact Or.inr h
  have hS : va_S A s.heap s.heap [] := va_S.rf
  have hl := lv_entry ([.ref h4, .int k9]) (n := 4) (Nat.le_of_ble_eq_true rfl)
  rw [lg_entry_eq]
  generalize (lg_sl ([.ref h4, .int k9]) ++ List.replicate (4 - (lg_sl ([.ref h4, .int k9])).length) Slot.unset).toArray = ls at hl ⊢
  have hl : lv_has ls 4 [(0, .ref h4), (1, .int k9)] := hl
  refine lv_iconst (v := 0) hx hb dX4_run_0 (by decide) ?_
  refine lv_istore_n (lv' := [(2, .int 0), (0, .ref h4), (1, .int k9)]) hx hb dX4_run_1 rfl hl (by decide) rfl (fun ls hl => ?_)
  refine lv_iconst (v := 0) hx hb dX4_run_2 (by decide) ?_
  refine lv_istore_n (lv' := [(3, .int 0), (2, .int 0), (0, .ref h4), (1, .int k9)]) hx hb dX4_run_3 rfl hl (by decide) rfl (fun ls hl => ?_)
  have loop4 : ∀ (n : Nat) (i : Nat) (md : Nat) (y : MS), (i ≤ 1000) → (1001 ≤ i + n) → (y.2.2.2.2.1 = 0 → y.2.2.2.1 < ql) → (y.2.2.2.2.2 + (1000 - i) < 1000000) → (md ≤ i) → (rRun (rF cd qb) ql (rCnt k9) x = (md + (rRun (rF cd qb) ql (rCnt k9 - i) y).1, (rRun (rF cd qb) ql (rCnt k9 - i) y).2)) → ∀ (H : Heap) (locs : List Loc), va_P D vwCl [(h4, .inr (4, [.ref zc, .int (nI nn), .int (nI zz), .ref zj, .ref ze, .int (nI ed), .ref zt, .ref zo, .ref za, .ref zr, .ref zm, .ref zl, .int (nI y.2.2.2.1), .int y.2.2.2.2.1, .int (nI y.2.2.2.2.2), .int (nI qb), .int (nI ql)])), (zc, .inl (cA, 288, .inl cd)), (zr, .inl (cA, 4, .inl y.1)), (zm, .inl (cA, 16, .inl y.2.1)), (zl, .inl (cA, 8, .inl y.2.2.1))] H → va_D A [(h4, .inr (4, [.ref zc, .int (nI nn), .int (nI zz), .ref zj, .ref ze, .int (nI ed), .ref zt, .ref zo, .ref za, .ref zr, .ref zm, .ref zl, .int (nI y.2.2.2.1), .int y.2.2.2.2.1, .int (nI y.2.2.2.2.2), .int (nI qb), .int (nI ql)])), (zc, .inl (cA, 288, .inl cd)), (zr, .inl (cA, 4, .inl y.1)), (zm, .inl (cA, 16, .inl y.2.1)), (zl, .inl (cA, 8, .inl y.2.2.1))] → va_S A s.heap H locs → ∀ (ls : Array Slot), lv_has ls 4 [(0, .ref h4), (1, .int k9), (2, .int (nI md)), (3, .int (nI i))] → W p l e (headSpec wsX4_run ({ frames := 2, cells := 0, slots := 0, locals := 47 })).room s m ([.ref h4, .int k9] : List Value).toArray below meth c H locs 0 0 (MQ below (rwI D A (nI (rRun (rF cd qb) ql (rCnt k9) x).1) [(h4, .inr (4, [.ref zc, .int (nI nn), .int (nI zz), .ref zj, .ref ze, .int (nI ed), .ref zt, .ref zo, .ref za, .ref zr, .ref zm, .ref zl, .int (nI (rRun (rF cd qb) ql (rCnt k9) x).2.2.2.2.1), .int ((rRun (rF cd qb) ql (rCnt k9) x).2.2.2.2.2.1), .int (nI (rRun (rF cd qb) ql (rCnt k9) x).2.2.2.2.2.2), .int (nI qb), .int (nI ql)])), (zc, .inl (cA, 288, .inl cd)), (zr, .inl (cA, 4, .inl ((rRun (rF cd qb) ql (rCnt k9) x).2.1))), (zm, .inl (cA, 16, .inl ((rRun (rF cd qb) ql (rCnt k9) x).2.2.1))), (zl, .inl (cA, 8, .inl ((rRun (rF cd qb) ql (rCnt k9) x).2.2.2.1)))]) ([.ref h4, .int k9] : List Value).toArray s 0 0 A) (F0 m 4 ls []) := by
    intro n
    induction n with
    | zero => intro i md y hi hfu hy hyw hmd hrun; exact absurd hfu (by omega)
    | succ n ih4 =>
      intro i md y hi hfu hy hyw hmd hrun H locs hP hD hS ls hl
      refine lv_iload_n hx hb dX4_run_4 rfl (lv_at hl 3 rfl) ?_
      refine lv_sipush (v := 1000) hx hb dX4_run_5 (by decide) ?_
      refine lv_icmp_ge (tgt := 44) hx hb dX4_run_8 (by decide) (fun c_8 => ?_) (fun c_8 => ?_)
      · have hfin : rRun (rF cd qb) ql (rCnt k9) x = (md, y) := by
          have h9 : i = 1000 := by
            rcases Nat.lt_or_ge i 1000 with q | q
            · exact absurd c_8 (nI_ge q (by decide))
            · omega
          have h8 : rCnt k9 - i = 0 := by have := rCnt_max k9; omega
          rw [hrun, h8]; rfl
        refine lv_iload_n hx hb dX4_run_44 rfl (lv_at hl 2 rfl) ?_
        obtain ⟨hP9, hD9⟩ := jk_end (w2 := [(h4, .inr (4, [.ref zc, .int (nI nn), .int (nI zz), .ref zj, .ref ze, .int (nI ed), .ref zt, .ref zo, .ref za, .ref zr, .ref zm, .ref zl, .int (nI y.2.2.2.1), .int y.2.2.2.2.1, .int (nI y.2.2.2.2.2), .int (nI qb), .int (nI ql)])), (zc, .inl (cA, 288, .inl cd)), (zr, .inl (cA, 4, .inl y.1)), (zm, .inl (cA, 16, .inl y.2.1)), (zl, .inl (cA, 8, .inl y.2.2.1))]) hP hD [0, 1, 2, 3, 4] (by decide) rfl
        have e9 : ([(h4, .inr (4, [.ref zc, .int (nI nn), .int (nI zz), .ref zj, .ref ze, .int (nI ed), .ref zt, .ref zo, .ref za, .ref zr, .ref zm, .ref zl, .int (nI y.2.2.2.1), .int y.2.2.2.2.1, .int (nI y.2.2.2.2.2), .int (nI qb), .int (nI ql)])), (zc, .inl (cA, 288, .inl cd)), (zr, .inl (cA, 4, .inl y.1)), (zm, .inl (cA, 16, .inl y.2.1)), (zl, .inl (cA, 8, .inl y.2.2.1))] : va_W) = [(h4, .inr (4, [.ref zc, .int (nI nn), .int (nI zz), .ref zj, .ref ze, .int (nI ed), .ref zt, .ref zo, .ref za, .ref zr, .ref zm, .ref zl, .int (nI (rRun (rF cd qb) ql (rCnt k9) x).2.2.2.2.1), .int ((rRun (rF cd qb) ql (rCnt k9) x).2.2.2.2.2.1), .int (nI (rRun (rF cd qb) ql (rCnt k9) x).2.2.2.2.2.2), .int (nI qb), .int (nI ql)])), (zc, .inl (cA, 288, .inl cd)), (zr, .inl (cA, 4, .inl ((rRun (rF cd qb) ql (rCnt k9) x).2.1))), (zm, .inl (cA, 16, .inl ((rRun (rF cd qb) ql (rCnt k9) x).2.2.1))), (zl, .inl (cA, 8, .inl ((rRun (rF cd qb) ql (rCnt k9) x).2.2.2.1)))] := (by rw [hfin])
        rw [e9] at hP9 hD9
        exact W.iret (v := (nI md)) hx hb hr (fun t9 ht9 hW9 => ⟨⟨_, (), rfl, (show (nI md) = (nI (rRun (rF cd qb) ql (rCnt k9) x).1) from (by rw [hfin])), by rw [ht9]; exact hP9, hD9⟩, hS.F ht9⟩) hS.2.2 dX4_run_45
      · have hi2 : i < 1000 := by
          rcases Nat.lt_or_ge i 1000 with q | q
          · exact q
          · exact absurd (nI_le q (by omega)) c_8
        refine lv_iload_n hx hb dX4_run_11 rfl (lv_at hl 1 rfl) ?_
        refine lv_sipush (v := 1000) hx hb dX4_run_12 (by decide) ?_
        refine lv_icmp_gt (tgt := 38) hx hb dX4_run_15 (by decide) (fun c_15 => ?_) (fun c_15 => ?_)
        · refine lv_iinc (v := (nI (i + 1))) (lv' := [(3, .int (nI (i + 1))), (0, .ref h4), (1, .int k9), (2, .int (nI md))]) hx hb dX4_run_38 hl (k := 3) rfl (jn_a1 _) (by decide) rfl (fun ls hl => ?_)
          refine lv_goto (tgt := 4) hx hb dX4_run_41 (by decide) ?_
          exact ih4 (i + 1) md y (by omega) (by omega) hy (by omega) (by omega) (rRun_same hrun (Or.inl (by rw [rCnt_big c_15]; omega))) _ _ (jP_sub (w2 := [(h4, .inr (4, [.ref zc, .int (nI nn), .int (nI zz), .ref zj, .ref ze, .int (nI ed), .ref zt, .ref zo, .ref za, .ref zr, .ref zm, .ref zl, .int (nI y.2.2.2.1), .int y.2.2.2.2.1, .int (nI y.2.2.2.2.2), .int (nI qb), .int (nI ql)])), (zc, .inl (cA, 288, .inl cd)), (zr, .inl (cA, 4, .inl y.1)), (zm, .inl (cA, 16, .inl y.2.1)), (zl, .inl (cA, 8, .inl y.2.2.1))]) hP [0, 1, 2, 3, 4] rfl) (hD.sub (ws' := [(h4, .inr (4, [.ref zc, .int (nI nn), .int (nI zz), .ref zj, .ref ze, .int (nI ed), .ref zt, .ref zo, .ref za, .ref zr, .ref zm, .ref zl, .int (nI y.2.2.2.1), .int y.2.2.2.2.1, .int (nI y.2.2.2.2.2), .int (nI qb), .int (nI ql)])), (zc, .inl (cA, 288, .inl cd)), (zr, .inl (cA, 4, .inl y.1)), (zm, .inl (cA, 16, .inl y.2.1)), (zl, .inl (cA, 8, .inl y.2.2.1))]) [0, 1, 2, 3, 4] (by decide) rfl) hS ls (lv_sub hl [1, 2, 3, 0] rfl)
        · refine lv_iload_n hx hb dX4_run_18 rfl (lv_at hl 3 rfl) ?_
          refine lv_iload_n hx hb dX4_run_19 rfl (lv_at hl 1 rfl) ?_
          refine lv_icmp_ge (tgt := 38) hx hb dX4_run_20 (by decide) (fun c_20 => ?_) (fun c_20 => ?_)
          · refine lv_iinc (v := (nI (i + 1))) (lv' := [(3, .int (nI (i + 1))), (0, .ref h4), (1, .int k9), (2, .int (nI md))]) hx hb dX4_run_38 hl (k := 3) rfl (jn_a1 _) (by decide) rfl (fun ls hl => ?_)
            refine lv_goto (tgt := 4) hx hb dX4_run_41 (by decide) ?_
            exact ih4 (i + 1) md y (by omega) (by omega) hy (by omega) (by omega) (rRun_same hrun (Or.inl (rCnt_le c_15 c_20 hi))) _ _ (jP_sub (w2 := [(h4, .inr (4, [.ref zc, .int (nI nn), .int (nI zz), .ref zj, .ref ze, .int (nI ed), .ref zt, .ref zo, .ref za, .ref zr, .ref zm, .ref zl, .int (nI y.2.2.2.1), .int y.2.2.2.2.1, .int (nI y.2.2.2.2.2), .int (nI qb), .int (nI ql)])), (zc, .inl (cA, 288, .inl cd)), (zr, .inl (cA, 4, .inl y.1)), (zm, .inl (cA, 16, .inl y.2.1)), (zl, .inl (cA, 8, .inl y.2.2.1))]) hP [0, 1, 2, 3, 4] rfl) (hD.sub (ws' := [(h4, .inr (4, [.ref zc, .int (nI nn), .int (nI zz), .ref zj, .ref ze, .int (nI ed), .ref zt, .ref zo, .ref za, .ref zr, .ref zm, .ref zl, .int (nI y.2.2.2.1), .int y.2.2.2.2.1, .int (nI y.2.2.2.2.2), .int (nI qb), .int (nI ql)])), (zc, .inl (cA, 288, .inl cd)), (zr, .inl (cA, 4, .inl y.1)), (zm, .inl (cA, 16, .inl y.2.1)), (zl, .inl (cA, 8, .inl y.2.2.1))]) [0, 1, 2, 3, 4] (by decide) rfl) hS ls (lv_sub hl [1, 2, 3, 0] rfl)
          · refine lv_aload_n hx hb dX4_run_23 rfl (lv_at hl 0 rfl) ?_
            refine va_get (D := D) (ci := 4) (v := .int y.2.2.2.2.1) (C := RX4) (T := TX4) (N := 17) hx hb hts iw_X4_run_X4 hown hK hP 0 rfl rfl 13 (by decide) (hts (.fieldLink RX4 37 "JumpGuardModel" "state" "I") (List.mem_of_getElem? (l := wsX4_run) (i := 1) rfl)) (fun _ h9 => h9) rfl dX4_run_24 ?_
            refine lv_if_ne (tgt := 38) hx hb dX4_run_27 (by decide) (fun c_27 => ?_) (fun c_27 => ?_)
            · refine lv_iinc (v := (nI (i + 1))) (lv' := [(3, .int (nI (i + 1))), (0, .ref h4), (1, .int k9), (2, .int (nI md))]) hx hb dX4_run_38 hl (k := 3) rfl (jn_a1 _) (by decide) rfl (fun ls hl => ?_)
              refine lv_goto (tgt := 4) hx hb dX4_run_41 (by decide) ?_
              exact ih4 (i + 1) md y (by omega) (by omega) hy (by omega) (by omega) (rRun_same hrun (Or.inr c_27)) _ _ (jP_sub (w2 := [(h4, .inr (4, [.ref zc, .int (nI nn), .int (nI zz), .ref zj, .ref ze, .int (nI ed), .ref zt, .ref zo, .ref za, .ref zr, .ref zm, .ref zl, .int (nI y.2.2.2.1), .int y.2.2.2.2.1, .int (nI y.2.2.2.2.2), .int (nI qb), .int (nI ql)])), (zc, .inl (cA, 288, .inl cd)), (zr, .inl (cA, 4, .inl y.1)), (zm, .inl (cA, 16, .inl y.2.1)), (zl, .inl (cA, 8, .inl y.2.2.1))]) hP [0, 1, 2, 3, 4] rfl) (hD.sub (ws' := [(h4, .inr (4, [.ref zc, .int (nI nn), .int (nI zz), .ref zj, .ref ze, .int (nI ed), .ref zt, .ref zo, .ref za, .ref zr, .ref zm, .ref zl, .int (nI y.2.2.2.1), .int y.2.2.2.2.1, .int (nI y.2.2.2.2.2), .int (nI qb), .int (nI ql)])), (zc, .inl (cA, 288, .inl cd)), (zr, .inl (cA, 4, .inl y.1)), (zm, .inl (cA, 16, .inl y.2.1)), (zl, .inl (cA, 8, .inl y.2.2.1))]) [0, 1, 2, 3, 4] (by decide) rfl) hS ls (lv_sub hl [1, 2, 3, 0] rfl)
            · refine lv_aload_n hx hb dX4_run_30 rfl (lv_at hl 0 rfl) ?_
              refine jw_v (va_runV (As := []) (rest := []) ⟨hx, hb, hml, hown, hts⟩ (c_X4_step l D cA H.size h4 zc zj ze zt zo za zr zm zl nn zz ed qb ql cd y hwf (hy c_27) (by first | assumption | omega) (by first | assumption | omega) c_27 (by omega)) (cwV 0 hts gX4_run_X4_step rfl rfl rfl hv_X4_step ⟨Nat.le_of_ble_eq_true rfl, Nat.le_of_ble_eq_true rfl⟩) (rwP.V (wc := [(h4, .inr (4, [.ref zc, .int (nI nn), .int (nI zz), .ref zj, .ref ze, .int (nI ed), .ref zt, .ref zo, .ref za, .ref zr, .ref zm, .ref zl, .int (nI y.2.2.2.1), .int y.2.2.2.2.1, .int (nI y.2.2.2.2.2), .int (nI qb), .int (nI ql)])), (zc, .inl (cA, 288, .inl cd)), (zr, .inl (cA, 4, .inl y.1)), (zm, .inl (cA, 16, .inl y.2.1)), (zl, .inl (cA, 8, .inl y.2.2.1))]) (va_recv hK hP (ci := 4) (q0 := 0) rfl rfl) hP hD hK hN [0, 1, 2, 3, 4] (by decide) rfl) rfl rfl hl.1 rfl (lv_room (Nat.le_of_ble_eq_true rfl)) dX4_run_31 ⟨Nat.le_of_ble_eq_true rfl, Nat.le_of_ble_eq_true rfl⟩) hP hD hS hA [0, 1, 2, 3, 4] [] [0, 1, 2, 3, 4] (wr := []) (w2 := [(h4, .inr (4, [.ref zc, .int (nI nn), .int (nI zz), .ref zj, .ref ze, .int (nI ed), .ref zt, .ref zo, .ref za, .ref zr, .ref zm, .ref zl, .int (nI (rStep (rF cd qb) ql y).2.2.2.1), .int ((rStep (rF cd qb) ql y).2.2.2.2.1), .int (nI (rStep (rF cd qb) ql y).2.2.2.2.2), .int (nI qb), .int (nI ql)])), (zc, .inl (cA, 288, .inl cd)), (zr, .inl (cA, 4, .inl ((rStep (rF cd qb) ql y).1))), (zm, .inl (cA, 16, .inl ((rStep (rF cd qb) ql y).2.1))), (zl, .inl (cA, 8, .inl ((rStep (rF cd qb) ql y).2.2.1)))]) rfl rfl (by decide) (by decide) (by decide) rfl (fun H locs hP hD hS => ?_)
              refine lv_iload_n hx hb dX4_run_34 rfl (lv_at hl 2 rfl) ?_
              refine lv_iconst (v := 1) hx hb dX4_run_35 (by decide) ?_
              refine lv_iadd hx hb dX4_run_36 ?_
              refine jk_top (show ((nI md) + 1) = (nI (md + 1)) from jn_a1 _) ?_
              refine lv_istore_n (lv' := [(2, .int (nI (md + 1))), (0, .ref h4), (1, .int k9), (3, .int (nI i))]) hx hb dX4_run_37 rfl hl (by decide) rfl (fun ls hl => ?_)
              refine lv_iinc (v := (nI (i + 1))) (lv' := [(3, .int (nI (i + 1))), (2, .int (nI (md + 1))), (0, .ref h4), (1, .int k9)]) hx hb dX4_run_38 hl (k := 3) rfl (jn_a1 _) (by decide) rfl (fun ls hl => ?_)
              refine lv_goto (tgt := 4) hx hb dX4_run_41 (by decide) ?_
              exact ih4 (i + 1) (md + 1) (rStep (rF cd qb) ql y) (by omega) (by omega) (rStep_lt hwf (hy c_27)) (by have := rStep_w (rF cd qb) ql y; omega) (by omega) (rRun_next (rCnt_gt c_15 c_20 hi) hrun c_27) _ _ (jP_sub (w2 := [(h4, .inr (4, [.ref zc, .int (nI nn), .int (nI zz), .ref zj, .ref ze, .int (nI ed), .ref zt, .ref zo, .ref za, .ref zr, .ref zm, .ref zl, .int (nI (rStep (rF cd qb) ql y).2.2.2.1), .int ((rStep (rF cd qb) ql y).2.2.2.2.1), .int (nI (rStep (rF cd qb) ql y).2.2.2.2.2), .int (nI qb), .int (nI ql)])), (zc, .inl (cA, 288, .inl cd)), (zr, .inl (cA, 4, .inl ((rStep (rF cd qb) ql y).1))), (zm, .inl (cA, 16, .inl ((rStep (rF cd qb) ql y).2.1))), (zl, .inl (cA, 8, .inl ((rStep (rF cd qb) ql y).2.2.1)))]) hP [0, 1, 2, 3, 4] rfl) (hD.sub (ws' := [(h4, .inr (4, [.ref zc, .int (nI nn), .int (nI zz), .ref zj, .ref ze, .int (nI ed), .ref zt, .ref zo, .ref za, .ref zr, .ref zm, .ref zl, .int (nI (rStep (rF cd qb) ql y).2.2.2.1), .int ((rStep (rF cd qb) ql y).2.2.2.2.1), .int (nI (rStep (rF cd qb) ql y).2.2.2.2.2), .int (nI qb), .int (nI ql)])), (zc, .inl (cA, 288, .inl cd)), (zr, .inl (cA, 4, .inl ((rStep (rF cd qb) ql y).1))), (zm, .inl (cA, 16, .inl ((rStep (rF cd qb) ql y).2.1))), (zl, .inl (cA, 8, .inl ((rStep (rF cd qb) ql y).2.2.1)))]) [0, 1, 2, 3, 4] (by decide) rfl) hS ls (lv_sub hl [2, 3, 1, 0] rfl)
  exact loop4 1001 0 0 x (by omega) (by omega) hix (by omega) (by omega) (by simp) _ _ (jP_sub (w2 := [(h4, .inr (4, [.ref zc, .int (nI nn), .int (nI zz), .ref zj, .ref ze, .int (nI ed), .ref zt, .ref zo, .ref za, .ref zr, .ref zm, .ref zl, .int (nI x.2.2.2.1), .int x.2.2.2.2.1, .int (nI x.2.2.2.2.2), .int (nI qb), .int (nI ql)])), (zc, .inl (cA, 288, .inl cd)), (zr, .inl (cA, 4, .inl x.1)), (zm, .inl (cA, 16, .inl x.2.1)), (zl, .inl (cA, 8, .inl x.2.2.1))]) hP [0, 1, 2, 3, 4] rfl) (hD.sub (ws' := [(h4, .inr (4, [.ref zc, .int (nI nn), .int (nI zz), .ref zj, .ref ze, .int (nI ed), .ref zt, .ref zo, .ref za, .ref zr, .ref zm, .ref zl, .int (nI x.2.2.2.1), .int x.2.2.2.2.1, .int (nI x.2.2.2.2.2), .int (nI qb), .int (nI ql)])), (zc, .inl (cA, 288, .inl cd)), (zr, .inl (cA, 4, .inl x.1)), (zm, .inl (cA, 16, .inl x.2.1)), (zl, .inl (cA, 8, .inl x.2.2.1))]) [0, 1, 2, 3, 4] (by decide) rfl) hS ls (lv_sub hl [2, 3, 1, 0] rfl)
set_option maxHeartbeats 4000000 in
set_option maxRecDepth 100000 in
theorem c_X4_run_idle (l : Launch) (D : va_G) (cA : ClassId) (h4 : Nat) (zc : Nat) (zj : Nat) (ze : Nat) (zt : Nat) (zo : Nat) (za : Nat) (zr : Nat) (zm : Nat) (zl : Nat) (nn : Nat) (zz : Nat) (ed : Nat) (qc : Int32) (qs : Int32) (qw : Nat) (qb : Nat) (ql : Nat) (k9 : Int32) (hst : ¬ qs = 0) : Met l yX4_run wsX4_run ({ frames := 2, cells := 0, slots := 0, locals := 47 }) (roP D cA [.ref h4, .int k9] [(h4, .inr (4, [.ref zc, .int (nI nn), .int (nI zz), .ref zj, .ref ze, .int (nI ed), .ref zt, .ref zo, .ref za, .ref zr, .ref zm, .ref zl, .int qc, .int qs, .int (nI qw), .int (nI qb), .int (nI ql)]))]) (QcRead 0) 0 0 (fun _ => False) := by
  refine Met.ofW (cc := cX4_run) (maxL := 4) (ret := (some .int)) (by decide) rfl ?_
  intro p e s m args below meth c s₁ B hml hv
  obtain ⟨rfl, hP, hK, hN⟩ := hv
  have hx := B.exec
  have hb := B.bytes
  have hr := B.returns
  have hts := atoms_spec (ws := wsX4_run) B.pre
  have hown : s.vm.findClass RX4 = some m.cls := findClass_of_methodNamed B.named
  have hlocks := B.notSynchronized
  have hl := lv_entry ([.ref h4, .int k9]) (n := 4) (Nat.le_of_ble_eq_true rfl)
  rw [lg_entry_eq]
  generalize (lg_sl ([.ref h4, .int k9]) ++ List.replicate (4 - (lg_sl ([.ref h4, .int k9])).length) Slot.unset).toArray = ls at hl ⊢
  have hl : lv_has ls 4 [(0, .ref h4), (1, .int k9)] := hl
  refine lv_iconst (v := 0) hx hb dX4_run_0 (by decide) ?_
  refine lv_istore_n (lv' := [(2, .int 0), (0, .ref h4), (1, .int k9)]) hx hb dX4_run_1 rfl hl (by decide) rfl (fun ls hl => ?_)
  refine lv_iconst (v := 0) hx hb dX4_run_2 (by decide) ?_
  refine lv_istore_n (lv' := [(3, .int 0), (2, .int 0), (0, .ref h4), (1, .int k9)]) hx hb dX4_run_3 rfl hl (by decide) rfl (fun ls hl => ?_)
  have loop4 : ∀ (n : Nat) (i : Nat), (i ≤ 1000) → (1001 ≤ i + n) → ∀ (ls : Array Slot), lv_has ls 4 [(0, .ref h4), (1, .int k9), (2, .int 0), (3, .int (nI i))] → W p l e (headSpec wsX4_run ({ frames := 2, cells := 0, slots := 0, locals := 47 })).room s m ([.ref h4, .int k9] : List Value).toArray below meth c s.heap [] 0 0 (MQ below (QcRead 0) ([.ref h4, .int k9] : List Value).toArray s 0 0 (fun _ => False)) (F0 m 4 ls []) := by
    intro n
    induction n with
    | zero => intro i hi hfu; exact absurd hfu (by omega)
    | succ n ih4 =>
      intro i hi hfu  ls hl
      refine lv_iload_n hx hb dX4_run_4 rfl (lv_at hl 3 rfl) ?_
      refine lv_sipush (v := 1000) hx hb dX4_run_5 (by decide) ?_
      refine lv_icmp_ge (tgt := 44) hx hb dX4_run_8 (by decide) (fun c_8 => ?_) (fun c_8 => ?_)
      · refine lv_iload_n hx hb dX4_run_44 rfl (lv_at hl 2 rfl) ?_
        exact W.iret (v := 0) hx hb hr (fun t9 ht9 hW9 => ⟨jk_ret (show 0 = 0 from rfl), ht9⟩) (fun q h => absurd h List.not_mem_nil) dX4_run_45
      · have hi2 : i < 1000 := by
          rcases Nat.lt_or_ge i 1000 with q | q
          · exact q
          · exact absurd (nI_le q (by omega)) c_8
        refine lv_iload_n hx hb dX4_run_11 rfl (lv_at hl 1 rfl) ?_
        refine lv_sipush (v := 1000) hx hb dX4_run_12 (by decide) ?_
        refine lv_icmp_gt (tgt := 38) hx hb dX4_run_15 (by decide) (fun c_15 => ?_) (fun c_15 => ?_)
        · refine lv_iinc (v := (nI (i + 1))) (lv' := [(3, .int (nI (i + 1))), (0, .ref h4), (1, .int k9), (2, .int 0)]) hx hb dX4_run_38 hl (k := 3) rfl (jn_a1 _) (by decide) rfl (fun ls hl => ?_)
          refine lv_goto (tgt := 4) hx hb dX4_run_41 (by decide) ?_
          exact ih4 (i + 1) (by omega) (by omega) ls (lv_sub hl [1, 2, 3, 0] rfl)
        · refine lv_iload_n hx hb dX4_run_18 rfl (lv_at hl 3 rfl) ?_
          refine lv_iload_n hx hb dX4_run_19 rfl (lv_at hl 1 rfl) ?_
          refine lv_icmp_ge (tgt := 38) hx hb dX4_run_20 (by decide) (fun c_20 => ?_) (fun c_20 => ?_)
          · refine lv_iinc (v := (nI (i + 1))) (lv' := [(3, .int (nI (i + 1))), (0, .ref h4), (1, .int k9), (2, .int 0)]) hx hb dX4_run_38 hl (k := 3) rfl (jn_a1 _) (by decide) rfl (fun ls hl => ?_)
            refine lv_goto (tgt := 4) hx hb dX4_run_41 (by decide) ?_
            exact ih4 (i + 1) (by omega) (by omega) ls (lv_sub hl [1, 2, 3, 0] rfl)
          · refine lv_aload_n hx hb dX4_run_23 rfl (lv_at hl 0 rfl) ?_
            refine va_get (D := D) (ci := 4) (v := .int qs) (C := RX4) (T := TX4) (N := 17) hx hb hts iw_X4_run_X4 hown hK hP 0 rfl rfl 13 (by decide) (hts (.fieldLink RX4 37 "JumpGuardModel" "state" "I") (List.mem_of_getElem? (l := wsX4_run) (i := 1) rfl)) (fun _ h9 => h9) rfl dX4_run_24 ?_
            refine lv_if_ne (tgt := 38) hx hb dX4_run_27 (by decide) (fun c_27 => ?_) (fun c_27 => ?_)
            · refine lv_iinc (v := (nI (i + 1))) (lv' := [(3, .int (nI (i + 1))), (0, .ref h4), (1, .int k9), (2, .int 0)]) hx hb dX4_run_38 hl (k := 3) rfl (jn_a1 _) (by decide) rfl (fun ls hl => ?_)
              refine lv_goto (tgt := 4) hx hb dX4_run_41 (by decide) ?_
              exact ih4 (i + 1) (by omega) (by omega) ls (lv_sub hl [1, 2, 3, 0] rfl)
            · exact absurd c_27 hst
  exact loop4 1001 0 (by omega) (by omega) ls (lv_sub hl [2, 3, 1, 0] rfl)
