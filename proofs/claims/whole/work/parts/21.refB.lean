/-! ===== the reference: classes ===== -/
abbrev TJ : Type := (Nat → Int32) × (Nat → Int32)
def jMn (x y : Int32) : Int32 := if x < y then x else y
def cS (ju en : Nat → Int32) (k : Nat) (x : TJ) : TJ := (upd x.1 (en k).toNatClampNeg (en k + 1), upd x.2 (ju k).toNatClampNeg 99)
def cI (ju en : Nat → Int32) : Nat → TJ → TJ
  | 0, x => x
  | k + 1, x => cS ju en k (cI ju en k x)
def cX (ju en : Nat → Int32) (k : Nat) (x : TJ) : TJ := (upd x.1 (en k).toNatClampNeg (jMn (x.2 (ju k).toNatClampNeg) (x.1 (en k).toNatClampNeg)), upd x.2 (ju k).toNatClampNeg (jMn (x.2 (ju k).toNatClampNeg) (x.1 (en k).toNatClampNeg)))
def cE (ju en : Nat → Int32) : Nat → TJ → TJ
  | 0, x => x
  | k + 1, x => cX ju en k (cE ju en k x)
def cR (ju en : Nat → Int32) (ed : Nat) : Nat → TJ → TJ
  | 0, x => x
  | r + 1, x => cE ju en ed (cR ju en ed r x)
def cls (ju en ot oj : Nat → Int32) (ed : Nat) : TJ := cR ju en ed 100 (cI ju en ed (jFill ot 0 24, jFill oj 0 24))
def rEd (ju en : Nat → Int32) (ed : Nat) : Prop := ∀ k, k < ed → (∃ j, j < 24 ∧ ju k = nI j) ∧ ∃ t, t < 24 ∧ en k = nI t
theorem cS_at {ju en : Nat → Int32} {k j t : Nat} {x : TJ} (hj : j < 24) (ht : t < 24) (ej : ju k = nI j) (et : en k = nI t) : (upd x.1 t (en k + 1), upd x.2 j 99) = cS ju en k x := by
  unfold cS
  rw [ej, et, nI_clamp (by omega), nI_clamp (by omega)]
theorem cX_at {ju en : Nat → Int32} {k j t : Nat} {x : TJ} {v : Int32} (hj : j < 24) (ht : t < 24) (ej : ju k = nI j) (et : en k = nI t) (hv : v = jMn (x.2 j) (x.1 t)) : (upd x.1 t v, upd x.2 j v) = cX ju en k x := by
  unfold cX
  rw [ej, et, nI_clamp (by omega), nI_clamp (by omega), hv]
theorem jMn_l {x y : Int32} (h : ¬ y ≤ x) : x = jMn x y := by
  unfold jMn; rw [if_pos (Int32.not_le.mp h)]
theorem jMn_r {x y : Int32} (h : y ≤ x) : y = jMn x y := by
  unfold jMn; rw [if_neg (Int32.not_lt.mpr h)]
theorem iw_X4_classes_X4 : ∀ w ∈ wsX40, w ∈ wsX4_classes := by decide +kernel
set_option maxHeartbeats 4000000 in
set_option maxRecDepth 100000 in
theorem c_X4_classes (l : Launch) (D : va_G) (cA : ClassId) (sz : Nat) (h4 : Nat) (zc : Nat) (zj : Nat) (ze : Nat) (zt : Nat) (zo : Nat) (za : Nat) (zr : Nat) (zm : Nat) (zl : Nat) (nn : Nat) (zz : Nat) (ed : Nat) (qc : Int32) (qs : Int32) (qw : Nat) (qb : Nat) (ql : Nat) (ju : Nat → Int32) (en : Nat → Int32) (ot : Nat → Int32) (oj : Nat → Int32) (hed : ed ≤ 48) (hE : rEd ju en ed) : Met l yX4_classes wsX4_classes ({ frames := 0, cells := 0, slots := 0, locals := 0 }) (rwP D cA [.ref h4] sz [(h4, .inr (4, [.ref zc, .int (nI nn), .int (nI zz), .ref zj, .ref ze, .int (nI ed), .ref zt, .ref zo, .ref za, .ref zr, .ref zm, .ref zl, .int qc, .int qs, .int (nI qw), .int (nI qb), .int (nI ql)])), (zj, .inl (cA, 48, .inl ju)), (ze, .inl (cA, 48, .inl en)), (zt, .inl (cA, 24, .inl ot)), (zo, .inl (cA, 24, .inl oj))]) (rwV D (va_A [(h4, .inr (4, [.ref zc, .int (nI nn), .int (nI zz), .ref zj, .ref ze, .int (nI ed), .ref zt, .ref zo, .ref za, .ref zr, .ref zm, .ref zl, .int qc, .int qs, .int (nI qw), .int (nI qb), .int (nI ql)])), (zj, .inl (cA, 48, .inl ju)), (ze, .inl (cA, 48, .inl en)), (zt, .inl (cA, 24, .inl ot)), (zo, .inl (cA, 24, .inl oj))] sz) [(h4, .inr (4, [.ref zc, .int (nI nn), .int (nI zz), .ref zj, .ref ze, .int (nI ed), .ref zt, .ref zo, .ref za, .ref zr, .ref zm, .ref zl, .int qc, .int qs, .int (nI qw), .int (nI qb), .int (nI ql)])), (zj, .inl (cA, 48, .inl ju)), (ze, .inl (cA, 48, .inl en)), (zt, .inl (cA, 24, .inl ((cls ju en ot oj ed).1))), (zo, .inl (cA, 24, .inl ((cls ju en ot oj ed).2)))]) 0 0 (va_A [(h4, .inr (4, [.ref zc, .int (nI nn), .int (nI zz), .ref zj, .ref ze, .int (nI ed), .ref zt, .ref zo, .ref za, .ref zr, .ref zm, .ref zl, .int qc, .int qs, .int (nI qw), .int (nI qb), .int (nI ql)])), (zj, .inl (cA, 48, .inl ju)), (ze, .inl (cA, 48, .inl en)), (zt, .inl (cA, 24, .inl ot)), (zo, .inl (cA, 24, .inl oj))] sz) := by
  refine Met.ofW (cc := cX4_classes) (maxL := 5) (ret := none) (by decide) rfl ?_
  intro p e s m args below meth c s₁ B hml hv
  obtain ⟨rfl, hsz, hP, hK, hN, hD0⟩ := hv
  have hx := B.exec
  have hb := B.bytes
  have hr := B.returns
  have hts := atoms_spec (ws := wsX4_classes) B.pre
  have hown : s.vm.findClass RX4 = some m.cls := findClass_of_methodNamed B.named
  have hlocks := B.notSynchronized
  subst hsz
  have hD := hD0.self (sz := s.heap.size)
  generalize hAe : va_A [(h4, .inr (4, [.ref zc, .int (nI nn), .int (nI zz), .ref zj, .ref ze, .int (nI ed), .ref zt, .ref zo, .ref za, .ref zr, .ref zm, .ref zl, .int qc, .int qs, .int (nI qw), .int (nI qb), .int (nI ql)])), (zj, .inl (cA, 48, .inl ju)), (ze, .inl (cA, 48, .inl en)), (zt, .inl (cA, 24, .inl ot)), (zo, .inl (cA, 24, .inl oj))] s.heap.size = A at hD ⊢
  have hA : ∀ q : Nat, s.heap.size ≤ q → A q := fun q h => by rw [← hAe]; exact Or.inr h
  have hS : va_S A s.heap s.heap [] := va_S.rf
  have hl := lv_entry ([.ref h4]) (n := 5) (Nat.le_of_ble_eq_true rfl)
  rw [lg_entry_eq]
  generalize (lg_sl ([.ref h4]) ++ List.replicate (5 - (lg_sl ([.ref h4])).length) Slot.unset).toArray = ls at hl ⊢
  have hl : lv_has ls 5 [(0, .ref h4)] := hl
  refine lv_iconst (v := 0) hx hb dX4_classes_0 (by decide) ?_
  refine lv_istore_n (lv' := [(1, .int 0), (0, .ref h4)]) hx hb dX4_classes_1 rfl hl (by decide) rfl (fun ls hl => ?_)
  have loop2 : ∀ (n : Nat) (i : Nat) (F : Nat → Int32) (E : Nat → Int32), (i ≤ 24) → (25 ≤ i + n) → (F = jFill ot 0 i) → (E = jFill oj 0 i) → ∀ (H : Heap) (locs : List Loc), va_P D vwCl [(h4, .inr (4, [.ref zc, .int (nI nn), .int (nI zz), .ref zj, .ref ze, .int (nI ed), .ref zt, .ref zo, .ref za, .ref zr, .ref zm, .ref zl, .int qc, .int qs, .int (nI qw), .int (nI qb), .int (nI ql)])), (zj, .inl (cA, 48, .inl ju)), (ze, .inl (cA, 48, .inl en)), (zt, .inl (cA, 24, .inl F)), (zo, .inl (cA, 24, .inl E))] H → va_D A [(h4, .inr (4, [.ref zc, .int (nI nn), .int (nI zz), .ref zj, .ref ze, .int (nI ed), .ref zt, .ref zo, .ref za, .ref zr, .ref zm, .ref zl, .int qc, .int qs, .int (nI qw), .int (nI qb), .int (nI ql)])), (zj, .inl (cA, 48, .inl ju)), (ze, .inl (cA, 48, .inl en)), (zt, .inl (cA, 24, .inl F)), (zo, .inl (cA, 24, .inl E))] → va_S A s.heap H locs → ∀ (ls : Array Slot), lv_has ls 5 [(0, .ref h4), (1, .int (nI i))] → W p l e (headSpec wsX4_classes ({ frames := 0, cells := 0, slots := 0, locals := 0 })).room s m ([.ref h4] : List Value).toArray below meth c H locs 0 0 (MQ below (rwV D A [(h4, .inr (4, [.ref zc, .int (nI nn), .int (nI zz), .ref zj, .ref ze, .int (nI ed), .ref zt, .ref zo, .ref za, .ref zr, .ref zm, .ref zl, .int qc, .int qs, .int (nI qw), .int (nI qb), .int (nI ql)])), (zj, .inl (cA, 48, .inl ju)), (ze, .inl (cA, 48, .inl en)), (zt, .inl (cA, 24, .inl ((cls ju en ot oj ed).1))), (zo, .inl (cA, 24, .inl ((cls ju en ot oj ed).2)))]) ([.ref h4] : List Value).toArray s 0 0 A) (F0 m 2 ls []) := by
    intro n
    induction n with
    | zero => intro i F E hi hfu hF hJ; exact absurd hfu (by omega)
    | succ n ih2 =>
      intro i F E hi hfu hF hJ H locs hP hD hS ls hl
      refine lv_iload_n hx hb dX4_classes_2 rfl (lv_at hl 1 rfl) ?_
      refine lv_bipush (v := 24) hx hb dX4_classes_3 (by decide) ?_
      refine lv_icmp_ge (tgt := 28) hx hb dX4_classes_5 (by decide) (fun c_5 => ?_) (fun c_5 => ?_)
      · have hi2 : i = 24 := by
          rcases Nat.lt_or_ge i 24 with q | q
          · exact absurd c_5 (nI_ge q (by decide))
          · omega
        subst hi2
        subst hF
        subst hJ
        refine lv_iconst (v := 0) hx hb dX4_classes_28 (by decide) ?_
        refine lv_istore_n (lv' := [(1, .int 0), (0, .ref h4)]) hx hb dX4_classes_29 rfl hl (by decide) rfl (fun ls hl => ?_)
        have loop30 : ∀ (n : Nat) (i : Nat) (y : TJ), (i ≤ ed) → (ed + 1 ≤ i + n) → (y = cI ju en i (jFill ot 0 24, jFill oj 0 24)) → ∀ (H : Heap) (locs : List Loc), va_P D vwCl [(h4, .inr (4, [.ref zc, .int (nI nn), .int (nI zz), .ref zj, .ref ze, .int (nI ed), .ref zt, .ref zo, .ref za, .ref zr, .ref zm, .ref zl, .int qc, .int qs, .int (nI qw), .int (nI qb), .int (nI ql)])), (zj, .inl (cA, 48, .inl ju)), (ze, .inl (cA, 48, .inl en)), (zt, .inl (cA, 24, .inl y.1)), (zo, .inl (cA, 24, .inl y.2))] H → va_D A [(h4, .inr (4, [.ref zc, .int (nI nn), .int (nI zz), .ref zj, .ref ze, .int (nI ed), .ref zt, .ref zo, .ref za, .ref zr, .ref zm, .ref zl, .int qc, .int qs, .int (nI qw), .int (nI qb), .int (nI ql)])), (zj, .inl (cA, 48, .inl ju)), (ze, .inl (cA, 48, .inl en)), (zt, .inl (cA, 24, .inl y.1)), (zo, .inl (cA, 24, .inl y.2))] → va_S A s.heap H locs → ∀ (ls : Array Slot), lv_has ls 5 [(0, .ref h4), (1, .int (nI i))] → W p l e (headSpec wsX4_classes ({ frames := 0, cells := 0, slots := 0, locals := 0 })).room s m ([.ref h4] : List Value).toArray below meth c H locs 0 0 (MQ below (rwV D A [(h4, .inr (4, [.ref zc, .int (nI nn), .int (nI zz), .ref zj, .ref ze, .int (nI ed), .ref zt, .ref zo, .ref za, .ref zr, .ref zm, .ref zl, .int qc, .int qs, .int (nI qw), .int (nI qb), .int (nI ql)])), (zj, .inl (cA, 48, .inl ju)), (ze, .inl (cA, 48, .inl en)), (zt, .inl (cA, 24, .inl ((cls ju en ot oj ed).1))), (zo, .inl (cA, 24, .inl ((cls ju en ot oj ed).2)))]) ([.ref h4] : List Value).toArray s 0 0 A) (F0 m 30 ls []) := by
          intro n
          induction n with
          | zero => intro i y hi hfu hy; exact absurd hfu (by omega)
          | succ n ih30 =>
            intro i y hi hfu hy H locs hP hD hS ls hl
            refine lv_iload_n hx hb dX4_classes_30 rfl (lv_at hl 1 rfl) ?_
            refine lv_aload_n hx hb dX4_classes_31 rfl (lv_at hl 0 rfl) ?_
            refine va_get (D := D) (ci := 4) (v := .int (nI ed)) (C := RX4) (T := TX4) (N := 17) hx hb hts iw_X4_classes_X4 hown hK hP 0 rfl rfl 5 (by decide) (hts (.fieldLink RX4 58 "JumpGuardModel" "edges" "I") (List.mem_of_getElem? (l := wsX4_classes) (i := 3) rfl)) (fun _ h9 => h9) rfl dX4_classes_32 ?_
            refine lv_icmp_ge (tgt := 76) hx hb dX4_classes_35 (by decide) (fun c_35 => ?_) (fun c_35 => ?_)
            · have hi2 : i = ed := by
                rcases Nat.lt_or_ge i ed with q | q
                · exact absurd c_35 (nI_ge q (by omega))
                · omega
              rw [hi2] at hy
              refine lv_iconst (v := 0) hx hb dX4_classes_76 (by decide) ?_
              refine lv_istore_n (lv' := [(1, .int 0), (0, .ref h4)]) hx hb dX4_classes_77 rfl hl (by decide) rfl (fun ls hl => ?_)
              have loop78 : ∀ (n : Nat) (r : Nat) (y : TJ), (r ≤ 100) → (101 ≤ r + n) → (y = cR ju en ed r (cI ju en ed (jFill ot 0 24, jFill oj 0 24))) → ∀ (H : Heap) (locs : List Loc), va_P D vwCl [(h4, .inr (4, [.ref zc, .int (nI nn), .int (nI zz), .ref zj, .ref ze, .int (nI ed), .ref zt, .ref zo, .ref za, .ref zr, .ref zm, .ref zl, .int qc, .int qs, .int (nI qw), .int (nI qb), .int (nI ql)])), (zj, .inl (cA, 48, .inl ju)), (ze, .inl (cA, 48, .inl en)), (zt, .inl (cA, 24, .inl y.1)), (zo, .inl (cA, 24, .inl y.2))] H → va_D A [(h4, .inr (4, [.ref zc, .int (nI nn), .int (nI zz), .ref zj, .ref ze, .int (nI ed), .ref zt, .ref zo, .ref za, .ref zr, .ref zm, .ref zl, .int qc, .int qs, .int (nI qw), .int (nI qb), .int (nI ql)])), (zj, .inl (cA, 48, .inl ju)), (ze, .inl (cA, 48, .inl en)), (zt, .inl (cA, 24, .inl y.1)), (zo, .inl (cA, 24, .inl y.2))] → va_S A s.heap H locs → ∀ (ls : Array Slot), lv_has ls 5 [(0, .ref h4), (1, .int (nI r))] → W p l e (headSpec wsX4_classes ({ frames := 0, cells := 0, slots := 0, locals := 0 })).room s m ([.ref h4] : List Value).toArray below meth c H locs 0 0 (MQ below (rwV D A [(h4, .inr (4, [.ref zc, .int (nI nn), .int (nI zz), .ref zj, .ref ze, .int (nI ed), .ref zt, .ref zo, .ref za, .ref zr, .ref zm, .ref zl, .int qc, .int qs, .int (nI qw), .int (nI qb), .int (nI ql)])), (zj, .inl (cA, 48, .inl ju)), (ze, .inl (cA, 48, .inl en)), (zt, .inl (cA, 24, .inl ((cls ju en ot oj ed).1))), (zo, .inl (cA, 24, .inl ((cls ju en ot oj ed).2)))]) ([.ref h4] : List Value).toArray s 0 0 A) (F0 m 78 ls []) := by
                intro n
                induction n with
                | zero => intro r y hi hfu hy; exact absurd hfu (by omega)
                | succ n ih78 =>
                  intro r y hi hfu hy H locs hP hD hS ls hl
                  refine lv_iload_n hx hb dX4_classes_78 rfl (lv_at hl 1 rfl) ?_
                  refine lv_bipush (v := 100) hx hb dX4_classes_79 (by decide) ?_
                  refine lv_icmp_ge (tgt := 177) hx hb dX4_classes_81 (by decide) (fun c_81 => ?_) (fun c_81 => ?_)
                  · have hi2 : r = 100 := by
                      rcases Nat.lt_or_ge r 100 with q | q
                      · exact absurd c_81 (nI_ge q (by decide))
                      · omega
                    subst hi2
                    obtain ⟨hP9, hD9⟩ := jk_end (w2 := [(h4, .inr (4, [.ref zc, .int (nI nn), .int (nI zz), .ref zj, .ref ze, .int (nI ed), .ref zt, .ref zo, .ref za, .ref zr, .ref zm, .ref zl, .int qc, .int qs, .int (nI qw), .int (nI qb), .int (nI ql)])), (zj, .inl (cA, 48, .inl ju)), (ze, .inl (cA, 48, .inl en)), (zt, .inl (cA, 24, .inl y.1)), (zo, .inl (cA, 24, .inl y.2))]) hP hD [0, 1, 2, 3, 4] (by decide) rfl
                    have e9 : ([(h4, .inr (4, [.ref zc, .int (nI nn), .int (nI zz), .ref zj, .ref ze, .int (nI ed), .ref zt, .ref zo, .ref za, .ref zr, .ref zm, .ref zl, .int qc, .int qs, .int (nI qw), .int (nI qb), .int (nI ql)])), (zj, .inl (cA, 48, .inl ju)), (ze, .inl (cA, 48, .inl en)), (zt, .inl (cA, 24, .inl y.1)), (zo, .inl (cA, 24, .inl y.2))] : va_W) = [(h4, .inr (4, [.ref zc, .int (nI nn), .int (nI zz), .ref zj, .ref ze, .int (nI ed), .ref zt, .ref zo, .ref za, .ref zr, .ref zm, .ref zl, .int qc, .int qs, .int (nI qw), .int (nI qb), .int (nI ql)])), (zj, .inl (cA, 48, .inl ju)), (ze, .inl (cA, 48, .inl en)), (zt, .inl (cA, 24, .inl ((cls ju en ot oj ed).1))), (zo, .inl (cA, 24, .inl ((cls ju en ot oj ed).2)))] := (by rw [hy]; rfl)
                    rw [e9] at hP9 hD9
                    exact W.vret hx hb hr (fun t9 ht9 hW9 => ⟨⟨(), rfl, trivial, by rw [ht9]; exact hP9, hD9⟩, hS.F ht9⟩) hS.2.2 dX4_classes_177
                  · have hr2 : r < 100 := by
                      rcases Nat.lt_or_ge r 100 with q | q
                      · exact q
                      · exact absurd (nI_le q (by omega)) c_81
                    refine lv_iconst (v := 0) hx hb dX4_classes_84 (by decide) ?_
                    refine lv_istore_n (lv' := [(2, .int 0), (0, .ref h4), (1, .int (nI r))]) hx hb dX4_classes_85 rfl hl (by decide) rfl (fun ls hl => ?_)
                    have loop86 : ∀ (n : Nat) (i : Nat) (y : TJ), (i ≤ ed) → (ed + 1 ≤ i + n) → (y = cE ju en i (cR ju en ed r (cI ju en ed (jFill ot 0 24, jFill oj 0 24)))) → ∀ (H : Heap) (locs : List Loc), va_P D vwCl [(h4, .inr (4, [.ref zc, .int (nI nn), .int (nI zz), .ref zj, .ref ze, .int (nI ed), .ref zt, .ref zo, .ref za, .ref zr, .ref zm, .ref zl, .int qc, .int qs, .int (nI qw), .int (nI qb), .int (nI ql)])), (zj, .inl (cA, 48, .inl ju)), (ze, .inl (cA, 48, .inl en)), (zt, .inl (cA, 24, .inl y.1)), (zo, .inl (cA, 24, .inl y.2))] H → va_D A [(h4, .inr (4, [.ref zc, .int (nI nn), .int (nI zz), .ref zj, .ref ze, .int (nI ed), .ref zt, .ref zo, .ref za, .ref zr, .ref zm, .ref zl, .int qc, .int qs, .int (nI qw), .int (nI qb), .int (nI ql)])), (zj, .inl (cA, 48, .inl ju)), (ze, .inl (cA, 48, .inl en)), (zt, .inl (cA, 24, .inl y.1)), (zo, .inl (cA, 24, .inl y.2))] → va_S A s.heap H locs → ∀ (ls : Array Slot), lv_has ls 5 [(0, .ref h4), (1, .int (nI r)), (2, .int (nI i))] → W p l e (headSpec wsX4_classes ({ frames := 0, cells := 0, slots := 0, locals := 0 })).room s m ([.ref h4] : List Value).toArray below meth c H locs 0 0 (MQ below (rwV D A [(h4, .inr (4, [.ref zc, .int (nI nn), .int (nI zz), .ref zj, .ref ze, .int (nI ed), .ref zt, .ref zo, .ref za, .ref zr, .ref zm, .ref zl, .int qc, .int qs, .int (nI qw), .int (nI qb), .int (nI ql)])), (zj, .inl (cA, 48, .inl ju)), (ze, .inl (cA, 48, .inl en)), (zt, .inl (cA, 24, .inl ((cls ju en ot oj ed).1))), (zo, .inl (cA, 24, .inl ((cls ju en ot oj ed).2)))]) ([.ref h4] : List Value).toArray s 0 0 A) (F0 m 86 ls []) := by
                      intro n
                      induction n with
                      | zero => intro i y hi hfu hy86; exact absurd hfu (by omega)
                      | succ n ih86 =>
                        intro i y hi hfu hy86 H locs hP hD hS ls hl
                        refine lv_iload_n hx hb dX4_classes_86 rfl (lv_at hl 2 rfl) ?_
                        refine lv_aload_n hx hb dX4_classes_87 rfl (lv_at hl 0 rfl) ?_
                        refine va_get (D := D) (ci := 4) (v := .int (nI ed)) (C := RX4) (T := TX4) (N := 17) hx hb hts iw_X4_classes_X4 hown hK hP 0 rfl rfl 5 (by decide) (hts (.fieldLink RX4 58 "JumpGuardModel" "edges" "I") (List.mem_of_getElem? (l := wsX4_classes) (i := 3) rfl)) (fun _ h9 => h9) rfl dX4_classes_88 ?_
                        refine lv_icmp_ge (tgt := 171) hx hb dX4_classes_91 (by decide) (fun c_91 => ?_) (fun c_91 => ?_)
                        · have hi2 : i = ed := by
                            rcases Nat.lt_or_ge i ed with q | q
                            · exact absurd c_91 (nI_ge q (by omega))
                            · omega
                          rw [hi2] at hy86
                          refine lv_iinc (v := (nI (r + 1))) (lv' := [(1, .int (nI (r + 1))), (0, .ref h4), (2, .int (nI i))]) hx hb dX4_classes_171 hl (k := 1) rfl (jn_a1 _) (by decide) rfl (fun ls hl => ?_)
                          refine lv_goto (tgt := 78) hx hb dX4_classes_174 (by decide) ?_
                          exact ih78 (r + 1) y (by omega) (by omega) (by rw [hy86]; rfl) _ _ (jP_sub (w2 := [(h4, .inr (4, [.ref zc, .int (nI nn), .int (nI zz), .ref zj, .ref ze, .int (nI ed), .ref zt, .ref zo, .ref za, .ref zr, .ref zm, .ref zl, .int qc, .int qs, .int (nI qw), .int (nI qb), .int (nI ql)])), (zj, .inl (cA, 48, .inl ju)), (ze, .inl (cA, 48, .inl en)), (zt, .inl (cA, 24, .inl y.1)), (zo, .inl (cA, 24, .inl y.2))]) hP [0, 1, 2, 3, 4] rfl) (hD.sub (ws' := [(h4, .inr (4, [.ref zc, .int (nI nn), .int (nI zz), .ref zj, .ref ze, .int (nI ed), .ref zt, .ref zo, .ref za, .ref zr, .ref zm, .ref zl, .int qc, .int qs, .int (nI qw), .int (nI qb), .int (nI ql)])), (zj, .inl (cA, 48, .inl ju)), (ze, .inl (cA, 48, .inl en)), (zt, .inl (cA, 24, .inl y.1)), (zo, .inl (cA, 24, .inl y.2))]) [0, 1, 2, 3, 4] (by decide) rfl) hS ls (lv_sub hl [1, 0] rfl)
                        · have hi2 : i < ed := by
                            rcases Nat.lt_or_ge i ed with q | q
                            · exact q
                            · exact absurd (nI_le q (by omega)) c_91
                          obtain ⟨⟨j, hj, ej⟩, t, ht, et⟩ := hE i hi2
                          refine lv_aload_n hx hb dX4_classes_94 rfl (lv_at hl 0 rfl) ?_
                          refine va_get (D := D) (ci := 4) (v := .ref zo) (C := RX4) (T := TX4) (N := 17) hx hb hts iw_X4_classes_X4 hown hK hP 0 rfl rfl 7 (by decide) (hts (.fieldLink RX4 22 "JumpGuardModel" "ofJump" "[I") (List.mem_of_getElem? (l := wsX4_classes) (i := 2) rfl)) (fun _ h9 => h9) rfl dX4_classes_95 ?_
                          refine lv_aload_n hx hb dX4_classes_98 rfl (lv_at hl 0 rfl) ?_
                          refine va_get (D := D) (ci := 4) (v := .ref zj) (C := RX4) (T := TX4) (N := 17) hx hb hts iw_X4_classes_X4 hown hK hP 0 rfl rfl 3 (by decide) (hts (.fieldLink RX4 13 "JumpGuardModel" "jump" "[I") (List.mem_of_getElem? (l := wsX4_classes) (i := 5) rfl)) (fun _ h9 => h9) rfl dX4_classes_99 ?_
                          refine lv_iload_n hx hb dX4_classes_102 rfl (lv_at hl 2 rfl) ?_
                          refine jk_ald hx hb hK hP 1 0 rfl rfl (k := i) rfl (by omega) (by omega) dX4_classes_103 ?_
                          refine jk_ald hx hb hK hP 4 0 rfl rfl (k := j) ej (by omega) (by omega) dX4_classes_104 ?_
                          refine lv_istore_n (lv' := [(3, .int (y.2 j)), (0, .ref h4), (1, .int (nI r)), (2, .int (nI i))]) hx hb dX4_classes_105 rfl hl (by decide) rfl (fun ls hl => ?_)
                          refine lv_aload_n hx hb dX4_classes_106 rfl (lv_at hl 1 rfl) ?_
                          refine va_get (D := D) (ci := 4) (v := .ref zt) (C := RX4) (T := TX4) (N := 17) hx hb hts iw_X4_classes_X4 hown hK hP 0 rfl rfl 6 (by decide) (hts (.fieldLink RX4 19 "JumpGuardModel" "ofTarget" "[I") (List.mem_of_getElem? (l := wsX4_classes) (i := 1) rfl)) (fun _ h9 => h9) rfl dX4_classes_107 ?_
                          refine lv_aload_n hx hb dX4_classes_110 rfl (lv_at hl 1 rfl) ?_
                          refine va_get (D := D) (ci := 4) (v := .ref ze) (C := RX4) (T := TX4) (N := 17) hx hb hts iw_X4_classes_X4 hown hK hP 0 rfl rfl 4 (by decide) (hts (.fieldLink RX4 16 "JumpGuardModel" "end" "[I") (List.mem_of_getElem? (l := wsX4_classes) (i := 4) rfl)) (fun _ h9 => h9) rfl dX4_classes_111 ?_
                          refine lv_iload_n hx hb dX4_classes_114 rfl (lv_at hl 3 rfl) ?_
                          refine jk_ald hx hb hK hP 2 0 rfl rfl (k := i) rfl (by omega) (by omega) dX4_classes_115 ?_
                          refine jk_ald hx hb hK hP 3 0 rfl rfl (k := t) et (by omega) (by omega) dX4_classes_116 ?_
                          refine lv_istore (lv' := [(4, .int (y.1 t)), (3, .int (y.2 j)), (0, .ref h4), (1, .int (nI r)), (2, .int (nI i))]) hx hb dX4_classes_117 hl (by decide) rfl (fun ls hl => ?_)
                          refine lv_aload_n hx hb dX4_classes_119 rfl (lv_at hl 2 rfl) ?_
                          refine va_get (D := D) (ci := 4) (v := .ref zo) (C := RX4) (T := TX4) (N := 17) hx hb hts iw_X4_classes_X4 hown hK hP 0 rfl rfl 7 (by decide) (hts (.fieldLink RX4 22 "JumpGuardModel" "ofJump" "[I") (List.mem_of_getElem? (l := wsX4_classes) (i := 2) rfl)) (fun _ h9 => h9) rfl dX4_classes_120 ?_
                          refine lv_aload_n hx hb dX4_classes_123 rfl (lv_at hl 2 rfl) ?_
                          refine va_get (D := D) (ci := 4) (v := .ref zj) (C := RX4) (T := TX4) (N := 17) hx hb hts iw_X4_classes_X4 hown hK hP 0 rfl rfl 3 (by decide) (hts (.fieldLink RX4 13 "JumpGuardModel" "jump" "[I") (List.mem_of_getElem? (l := wsX4_classes) (i := 5) rfl)) (fun _ h9 => h9) rfl dX4_classes_124 ?_
                          refine lv_iload_n hx hb dX4_classes_127 rfl (lv_at hl 4 rfl) ?_
                          refine jk_ald hx hb hK hP 1 0 rfl rfl (k := i) rfl (by omega) (by omega) dX4_classes_128 ?_
                          refine lv_iload_n hx hb dX4_classes_129 rfl (lv_at hl 1 rfl) ?_
                          refine lv_iload hx hb dX4_classes_130 (lv_at hl 0 rfl) ?_
                          refine lv_icmp_ge (tgt := 139) hx hb dX4_classes_132 (by decide) (fun c_132 => ?_) (fun c_132 => ?_)
                          · refine lv_iload hx hb dX4_classes_139 (lv_at hl 0 rfl) ?_
                            refine jk_ast hx hb hK hP hD hS 4 0 rfl rfl (k := j) ej (by omega) (by omega) dX4_classes_141 (fun H locs hP hD hS => ?_)
                            have hP : va_P D vwCl [(h4, .inr (4, [.ref zc, .int (nI nn), .int (nI zz), .ref zj, .ref ze, .int (nI ed), .ref zt, .ref zo, .ref za, .ref zr, .ref zm, .ref zl, .int qc, .int qs, .int (nI qw), .int (nI qb), .int (nI ql)])), (zj, .inl (cA, 48, .inl ju)), (ze, .inl (cA, 48, .inl en)), (zt, .inl (cA, 24, .inl y.1)), (zo, .inl (cA, 24, .inl (upd y.2 j (y.1 t))))] H := hP
                            have hD : va_D A [(h4, .inr (4, [.ref zc, .int (nI nn), .int (nI zz), .ref zj, .ref ze, .int (nI ed), .ref zt, .ref zo, .ref za, .ref zr, .ref zm, .ref zl, .int qc, .int qs, .int (nI qw), .int (nI qb), .int (nI ql)])), (zj, .inl (cA, 48, .inl ju)), (ze, .inl (cA, 48, .inl en)), (zt, .inl (cA, 24, .inl y.1)), (zo, .inl (cA, 24, .inl (upd y.2 j (y.1 t))))] := hD
                            refine lv_aload_n hx hb dX4_classes_142 rfl (lv_at hl 2 rfl) ?_
                            refine va_get (D := D) (ci := 4) (v := .ref zt) (C := RX4) (T := TX4) (N := 17) hx hb hts iw_X4_classes_X4 hown hK hP 0 rfl rfl 6 (by decide) (hts (.fieldLink RX4 19 "JumpGuardModel" "ofTarget" "[I") (List.mem_of_getElem? (l := wsX4_classes) (i := 1) rfl)) (fun _ h9 => h9) rfl dX4_classes_143 ?_
                            refine lv_aload_n hx hb dX4_classes_146 rfl (lv_at hl 2 rfl) ?_
                            refine va_get (D := D) (ci := 4) (v := .ref ze) (C := RX4) (T := TX4) (N := 17) hx hb hts iw_X4_classes_X4 hown hK hP 0 rfl rfl 4 (by decide) (hts (.fieldLink RX4 16 "JumpGuardModel" "end" "[I") (List.mem_of_getElem? (l := wsX4_classes) (i := 4) rfl)) (fun _ h9 => h9) rfl dX4_classes_147 ?_
                            refine lv_iload_n hx hb dX4_classes_150 rfl (lv_at hl 4 rfl) ?_
                            refine jk_ald hx hb hK hP 2 0 rfl rfl (k := i) rfl (by omega) (by omega) dX4_classes_151 ?_
                            refine lv_iload_n hx hb dX4_classes_152 rfl (lv_at hl 1 rfl) ?_
                            refine lv_iload hx hb dX4_classes_153 (lv_at hl 0 rfl) ?_
                            refine lv_icmp_ge (tgt := 162) hx hb dX4_classes_155 (by decide) (fun c_155 => ?_) (fun c_155 => ?_)
                            · have hm : y.1 t = jMn (y.2 j) (y.1 t) := jMn_r c_132
                              refine lv_iload hx hb dX4_classes_162 (lv_at hl 0 rfl) ?_
                              refine jk_ast hx hb hK hP hD hS 3 0 rfl rfl (k := t) et (by omega) (by omega) dX4_classes_164 (fun H locs hP hD hS => ?_)
                              have hP : va_P D vwCl [(h4, .inr (4, [.ref zc, .int (nI nn), .int (nI zz), .ref zj, .ref ze, .int (nI ed), .ref zt, .ref zo, .ref za, .ref zr, .ref zm, .ref zl, .int qc, .int qs, .int (nI qw), .int (nI qb), .int (nI ql)])), (zj, .inl (cA, 48, .inl ju)), (ze, .inl (cA, 48, .inl en)), (zt, .inl (cA, 24, .inl (upd y.1 t (y.1 t)))), (zo, .inl (cA, 24, .inl (upd y.2 j (y.1 t))))] H := hP
                              have hD : va_D A [(h4, .inr (4, [.ref zc, .int (nI nn), .int (nI zz), .ref zj, .ref ze, .int (nI ed), .ref zt, .ref zo, .ref za, .ref zr, .ref zm, .ref zl, .int qc, .int qs, .int (nI qw), .int (nI qb), .int (nI ql)])), (zj, .inl (cA, 48, .inl ju)), (ze, .inl (cA, 48, .inl en)), (zt, .inl (cA, 24, .inl (upd y.1 t (y.1 t)))), (zo, .inl (cA, 24, .inl (upd y.2 j (y.1 t))))] := hD
                              refine lv_iinc (v := (nI (i + 1))) (lv' := [(2, .int (nI (i + 1))), (4, .int (y.1 t)), (3, .int (y.2 j)), (0, .ref h4), (1, .int (nI r))]) hx hb dX4_classes_165 hl (k := 4) rfl (jn_a1 _) (by decide) rfl (fun ls hl => ?_)
                              refine lv_goto (tgt := 86) hx hb dX4_classes_168 (by decide) ?_
                              exact ih86 (i + 1) (upd y.1 t (y.1 t), upd y.2 j (y.1 t)) (by omega) (by omega) (by rw [cX_at hj ht ej et hm, hy86]; rfl) _ _ (jP_sub (w2 := [(h4, .inr (4, [.ref zc, .int (nI nn), .int (nI zz), .ref zj, .ref ze, .int (nI ed), .ref zt, .ref zo, .ref za, .ref zr, .ref zm, .ref zl, .int qc, .int qs, .int (nI qw), .int (nI qb), .int (nI ql)])), (zj, .inl (cA, 48, .inl ju)), (ze, .inl (cA, 48, .inl en)), (zt, .inl (cA, 24, .inl ((upd y.1 t (y.1 t), upd y.2 j (y.1 t)).1))), (zo, .inl (cA, 24, .inl ((upd y.1 t (y.1 t), upd y.2 j (y.1 t)).2)))]) hP [0, 1, 2, 3, 4] rfl) (hD.sub (ws' := [(h4, .inr (4, [.ref zc, .int (nI nn), .int (nI zz), .ref zj, .ref ze, .int (nI ed), .ref zt, .ref zo, .ref za, .ref zr, .ref zm, .ref zl, .int qc, .int qs, .int (nI qw), .int (nI qb), .int (nI ql)])), (zj, .inl (cA, 48, .inl ju)), (ze, .inl (cA, 48, .inl en)), (zt, .inl (cA, 24, .inl ((upd y.1 t (y.1 t), upd y.2 j (y.1 t)).1))), (zo, .inl (cA, 24, .inl ((upd y.1 t (y.1 t), upd y.2 j (y.1 t)).2)))]) [0, 1, 2, 3, 4] (by decide) rfl) hS ls (lv_sub hl [3, 4, 0] rfl)
                            · exact absurd c_132 c_155
                          · refine lv_iload_n hx hb dX4_classes_135 rfl (lv_at hl 1 rfl) ?_
                            refine lv_goto (tgt := 141) hx hb dX4_classes_136 (by decide) ?_
                            refine jk_ast hx hb hK hP hD hS 4 0 rfl rfl (k := j) ej (by omega) (by omega) dX4_classes_141 (fun H locs hP hD hS => ?_)
                            have hP : va_P D vwCl [(h4, .inr (4, [.ref zc, .int (nI nn), .int (nI zz), .ref zj, .ref ze, .int (nI ed), .ref zt, .ref zo, .ref za, .ref zr, .ref zm, .ref zl, .int qc, .int qs, .int (nI qw), .int (nI qb), .int (nI ql)])), (zj, .inl (cA, 48, .inl ju)), (ze, .inl (cA, 48, .inl en)), (zt, .inl (cA, 24, .inl y.1)), (zo, .inl (cA, 24, .inl (upd y.2 j (y.2 j))))] H := hP
                            have hD : va_D A [(h4, .inr (4, [.ref zc, .int (nI nn), .int (nI zz), .ref zj, .ref ze, .int (nI ed), .ref zt, .ref zo, .ref za, .ref zr, .ref zm, .ref zl, .int qc, .int qs, .int (nI qw), .int (nI qb), .int (nI ql)])), (zj, .inl (cA, 48, .inl ju)), (ze, .inl (cA, 48, .inl en)), (zt, .inl (cA, 24, .inl y.1)), (zo, .inl (cA, 24, .inl (upd y.2 j (y.2 j))))] := hD
                            refine lv_aload_n hx hb dX4_classes_142 rfl (lv_at hl 2 rfl) ?_
                            refine va_get (D := D) (ci := 4) (v := .ref zt) (C := RX4) (T := TX4) (N := 17) hx hb hts iw_X4_classes_X4 hown hK hP 0 rfl rfl 6 (by decide) (hts (.fieldLink RX4 19 "JumpGuardModel" "ofTarget" "[I") (List.mem_of_getElem? (l := wsX4_classes) (i := 1) rfl)) (fun _ h9 => h9) rfl dX4_classes_143 ?_
                            refine lv_aload_n hx hb dX4_classes_146 rfl (lv_at hl 2 rfl) ?_
                            refine va_get (D := D) (ci := 4) (v := .ref ze) (C := RX4) (T := TX4) (N := 17) hx hb hts iw_X4_classes_X4 hown hK hP 0 rfl rfl 4 (by decide) (hts (.fieldLink RX4 16 "JumpGuardModel" "end" "[I") (List.mem_of_getElem? (l := wsX4_classes) (i := 4) rfl)) (fun _ h9 => h9) rfl dX4_classes_147 ?_
                            refine lv_iload_n hx hb dX4_classes_150 rfl (lv_at hl 4 rfl) ?_
                            refine jk_ald hx hb hK hP 2 0 rfl rfl (k := i) rfl (by omega) (by omega) dX4_classes_151 ?_
                            refine lv_iload_n hx hb dX4_classes_152 rfl (lv_at hl 1 rfl) ?_
                            refine lv_iload hx hb dX4_classes_153 (lv_at hl 0 rfl) ?_
                            refine lv_icmp_ge (tgt := 162) hx hb dX4_classes_155 (by decide) (fun c_155 => ?_) (fun c_155 => ?_)
                            · exact absurd c_155 c_132
                            · have hm : y.2 j = jMn (y.2 j) (y.1 t) := jMn_l c_132
                              refine lv_iload_n hx hb dX4_classes_158 rfl (lv_at hl 1 rfl) ?_
                              refine lv_goto (tgt := 164) hx hb dX4_classes_159 (by decide) ?_
                              refine jk_ast hx hb hK hP hD hS 3 0 rfl rfl (k := t) et (by omega) (by omega) dX4_classes_164 (fun H locs hP hD hS => ?_)
                              have hP : va_P D vwCl [(h4, .inr (4, [.ref zc, .int (nI nn), .int (nI zz), .ref zj, .ref ze, .int (nI ed), .ref zt, .ref zo, .ref za, .ref zr, .ref zm, .ref zl, .int qc, .int qs, .int (nI qw), .int (nI qb), .int (nI ql)])), (zj, .inl (cA, 48, .inl ju)), (ze, .inl (cA, 48, .inl en)), (zt, .inl (cA, 24, .inl (upd y.1 t (y.2 j)))), (zo, .inl (cA, 24, .inl (upd y.2 j (y.2 j))))] H := hP
                              have hD : va_D A [(h4, .inr (4, [.ref zc, .int (nI nn), .int (nI zz), .ref zj, .ref ze, .int (nI ed), .ref zt, .ref zo, .ref za, .ref zr, .ref zm, .ref zl, .int qc, .int qs, .int (nI qw), .int (nI qb), .int (nI ql)])), (zj, .inl (cA, 48, .inl ju)), (ze, .inl (cA, 48, .inl en)), (zt, .inl (cA, 24, .inl (upd y.1 t (y.2 j)))), (zo, .inl (cA, 24, .inl (upd y.2 j (y.2 j))))] := hD
                              refine lv_iinc (v := (nI (i + 1))) (lv' := [(2, .int (nI (i + 1))), (4, .int (y.1 t)), (3, .int (y.2 j)), (0, .ref h4), (1, .int (nI r))]) hx hb dX4_classes_165 hl (k := 4) rfl (jn_a1 _) (by decide) rfl (fun ls hl => ?_)
                              refine lv_goto (tgt := 86) hx hb dX4_classes_168 (by decide) ?_
                              exact ih86 (i + 1) (upd y.1 t (y.2 j), upd y.2 j (y.2 j)) (by omega) (by omega) (by rw [cX_at hj ht ej et hm, hy86]; rfl) _ _ (jP_sub (w2 := [(h4, .inr (4, [.ref zc, .int (nI nn), .int (nI zz), .ref zj, .ref ze, .int (nI ed), .ref zt, .ref zo, .ref za, .ref zr, .ref zm, .ref zl, .int qc, .int qs, .int (nI qw), .int (nI qb), .int (nI ql)])), (zj, .inl (cA, 48, .inl ju)), (ze, .inl (cA, 48, .inl en)), (zt, .inl (cA, 24, .inl ((upd y.1 t (y.2 j), upd y.2 j (y.2 j)).1))), (zo, .inl (cA, 24, .inl ((upd y.1 t (y.2 j), upd y.2 j (y.2 j)).2)))]) hP [0, 1, 2, 3, 4] rfl) (hD.sub (ws' := [(h4, .inr (4, [.ref zc, .int (nI nn), .int (nI zz), .ref zj, .ref ze, .int (nI ed), .ref zt, .ref zo, .ref za, .ref zr, .ref zm, .ref zl, .int qc, .int qs, .int (nI qw), .int (nI qb), .int (nI ql)])), (zj, .inl (cA, 48, .inl ju)), (ze, .inl (cA, 48, .inl en)), (zt, .inl (cA, 24, .inl ((upd y.1 t (y.2 j), upd y.2 j (y.2 j)).1))), (zo, .inl (cA, 24, .inl ((upd y.1 t (y.2 j), upd y.2 j (y.2 j)).2)))]) [0, 1, 2, 3, 4] (by decide) rfl) hS ls (lv_sub hl [3, 4, 0] rfl)
                    exact loop86 (ed + 1) 0 y (by omega) (by omega) hy _ _ (jP_sub (w2 := [(h4, .inr (4, [.ref zc, .int (nI nn), .int (nI zz), .ref zj, .ref ze, .int (nI ed), .ref zt, .ref zo, .ref za, .ref zr, .ref zm, .ref zl, .int qc, .int qs, .int (nI qw), .int (nI qb), .int (nI ql)])), (zj, .inl (cA, 48, .inl ju)), (ze, .inl (cA, 48, .inl en)), (zt, .inl (cA, 24, .inl y.1)), (zo, .inl (cA, 24, .inl y.2))]) hP [0, 1, 2, 3, 4] rfl) (hD.sub (ws' := [(h4, .inr (4, [.ref zc, .int (nI nn), .int (nI zz), .ref zj, .ref ze, .int (nI ed), .ref zt, .ref zo, .ref za, .ref zr, .ref zm, .ref zl, .int qc, .int qs, .int (nI qw), .int (nI qb), .int (nI ql)])), (zj, .inl (cA, 48, .inl ju)), (ze, .inl (cA, 48, .inl en)), (zt, .inl (cA, 24, .inl y.1)), (zo, .inl (cA, 24, .inl y.2))]) [0, 1, 2, 3, 4] (by decide) rfl) hS ls (lv_sub hl [1, 2, 0] rfl)
              exact loop78 101 0 y (by omega) (by omega) (by rw [hy]; rfl) _ _ (jP_sub (w2 := [(h4, .inr (4, [.ref zc, .int (nI nn), .int (nI zz), .ref zj, .ref ze, .int (nI ed), .ref zt, .ref zo, .ref za, .ref zr, .ref zm, .ref zl, .int qc, .int qs, .int (nI qw), .int (nI qb), .int (nI ql)])), (zj, .inl (cA, 48, .inl ju)), (ze, .inl (cA, 48, .inl en)), (zt, .inl (cA, 24, .inl y.1)), (zo, .inl (cA, 24, .inl y.2))]) hP [0, 1, 2, 3, 4] rfl) (hD.sub (ws' := [(h4, .inr (4, [.ref zc, .int (nI nn), .int (nI zz), .ref zj, .ref ze, .int (nI ed), .ref zt, .ref zo, .ref za, .ref zr, .ref zm, .ref zl, .int qc, .int qs, .int (nI qw), .int (nI qb), .int (nI ql)])), (zj, .inl (cA, 48, .inl ju)), (ze, .inl (cA, 48, .inl en)), (zt, .inl (cA, 24, .inl y.1)), (zo, .inl (cA, 24, .inl y.2))]) [0, 1, 2, 3, 4] (by decide) rfl) hS ls (lv_sub hl [1, 0] rfl)
            · have hi2 : i < ed := by
                rcases Nat.lt_or_ge i ed with q | q
                · exact q
                · exact absurd (nI_le q (by omega)) c_35
              obtain ⟨⟨j, hj, ej⟩, t, ht, et⟩ := hE i hi2
              refine lv_aload_n hx hb dX4_classes_38 rfl (lv_at hl 0 rfl) ?_
              refine va_get (D := D) (ci := 4) (v := .ref zt) (C := RX4) (T := TX4) (N := 17) hx hb hts iw_X4_classes_X4 hown hK hP 0 rfl rfl 6 (by decide) (hts (.fieldLink RX4 19 "JumpGuardModel" "ofTarget" "[I") (List.mem_of_getElem? (l := wsX4_classes) (i := 1) rfl)) (fun _ h9 => h9) rfl dX4_classes_39 ?_
              refine lv_aload_n hx hb dX4_classes_42 rfl (lv_at hl 0 rfl) ?_
              refine va_get (D := D) (ci := 4) (v := .ref ze) (C := RX4) (T := TX4) (N := 17) hx hb hts iw_X4_classes_X4 hown hK hP 0 rfl rfl 4 (by decide) (hts (.fieldLink RX4 16 "JumpGuardModel" "end" "[I") (List.mem_of_getElem? (l := wsX4_classes) (i := 4) rfl)) (fun _ h9 => h9) rfl dX4_classes_43 ?_
              refine lv_iload_n hx hb dX4_classes_46 rfl (lv_at hl 1 rfl) ?_
              refine jk_ald hx hb hK hP 2 0 rfl rfl (k := i) rfl (by omega) (by omega) dX4_classes_47 ?_
              refine lv_aload_n hx hb dX4_classes_48 rfl (lv_at hl 0 rfl) ?_
              refine va_get (D := D) (ci := 4) (v := .ref ze) (C := RX4) (T := TX4) (N := 17) hx hb hts iw_X4_classes_X4 hown hK hP 0 rfl rfl 4 (by decide) (hts (.fieldLink RX4 16 "JumpGuardModel" "end" "[I") (List.mem_of_getElem? (l := wsX4_classes) (i := 4) rfl)) (fun _ h9 => h9) rfl dX4_classes_49 ?_
              refine lv_iload_n hx hb dX4_classes_52 rfl (lv_at hl 1 rfl) ?_
              refine jk_ald hx hb hK hP 2 0 rfl rfl (k := i) rfl (by omega) (by omega) dX4_classes_53 ?_
              refine lv_iconst (v := 1) hx hb dX4_classes_54 (by decide) ?_
              refine lv_iadd hx hb dX4_classes_55 ?_
              refine jk_ast hx hb hK hP hD hS 3 0 rfl rfl (k := t) et (by omega) (by omega) dX4_classes_56 (fun H locs hP hD hS => ?_)
              have hP : va_P D vwCl [(h4, .inr (4, [.ref zc, .int (nI nn), .int (nI zz), .ref zj, .ref ze, .int (nI ed), .ref zt, .ref zo, .ref za, .ref zr, .ref zm, .ref zl, .int qc, .int qs, .int (nI qw), .int (nI qb), .int (nI ql)])), (zj, .inl (cA, 48, .inl ju)), (ze, .inl (cA, 48, .inl en)), (zt, .inl (cA, 24, .inl (upd y.1 t ((en i) + 1)))), (zo, .inl (cA, 24, .inl y.2))] H := hP
              have hD : va_D A [(h4, .inr (4, [.ref zc, .int (nI nn), .int (nI zz), .ref zj, .ref ze, .int (nI ed), .ref zt, .ref zo, .ref za, .ref zr, .ref zm, .ref zl, .int qc, .int qs, .int (nI qw), .int (nI qb), .int (nI ql)])), (zj, .inl (cA, 48, .inl ju)), (ze, .inl (cA, 48, .inl en)), (zt, .inl (cA, 24, .inl (upd y.1 t ((en i) + 1)))), (zo, .inl (cA, 24, .inl y.2))] := hD
              refine lv_aload_n hx hb dX4_classes_57 rfl (lv_at hl 0 rfl) ?_
              refine va_get (D := D) (ci := 4) (v := .ref zo) (C := RX4) (T := TX4) (N := 17) hx hb hts iw_X4_classes_X4 hown hK hP 0 rfl rfl 7 (by decide) (hts (.fieldLink RX4 22 "JumpGuardModel" "ofJump" "[I") (List.mem_of_getElem? (l := wsX4_classes) (i := 2) rfl)) (fun _ h9 => h9) rfl dX4_classes_58 ?_
              refine lv_aload_n hx hb dX4_classes_61 rfl (lv_at hl 0 rfl) ?_
              refine va_get (D := D) (ci := 4) (v := .ref zj) (C := RX4) (T := TX4) (N := 17) hx hb hts iw_X4_classes_X4 hown hK hP 0 rfl rfl 3 (by decide) (hts (.fieldLink RX4 13 "JumpGuardModel" "jump" "[I") (List.mem_of_getElem? (l := wsX4_classes) (i := 5) rfl)) (fun _ h9 => h9) rfl dX4_classes_62 ?_
              refine lv_iload_n hx hb dX4_classes_65 rfl (lv_at hl 1 rfl) ?_
              refine jk_ald hx hb hK hP 1 0 rfl rfl (k := i) rfl (by omega) (by omega) dX4_classes_66 ?_
              refine lv_bipush (v := 99) hx hb dX4_classes_67 (by decide) ?_
              refine jk_ast hx hb hK hP hD hS 4 0 rfl rfl (k := j) ej (by omega) (by omega) dX4_classes_69 (fun H locs hP hD hS => ?_)
              have hP : va_P D vwCl [(h4, .inr (4, [.ref zc, .int (nI nn), .int (nI zz), .ref zj, .ref ze, .int (nI ed), .ref zt, .ref zo, .ref za, .ref zr, .ref zm, .ref zl, .int qc, .int qs, .int (nI qw), .int (nI qb), .int (nI ql)])), (zj, .inl (cA, 48, .inl ju)), (ze, .inl (cA, 48, .inl en)), (zt, .inl (cA, 24, .inl (upd y.1 t ((en i) + 1)))), (zo, .inl (cA, 24, .inl (upd y.2 j 99)))] H := hP
              have hD : va_D A [(h4, .inr (4, [.ref zc, .int (nI nn), .int (nI zz), .ref zj, .ref ze, .int (nI ed), .ref zt, .ref zo, .ref za, .ref zr, .ref zm, .ref zl, .int qc, .int qs, .int (nI qw), .int (nI qb), .int (nI ql)])), (zj, .inl (cA, 48, .inl ju)), (ze, .inl (cA, 48, .inl en)), (zt, .inl (cA, 24, .inl (upd y.1 t ((en i) + 1)))), (zo, .inl (cA, 24, .inl (upd y.2 j 99)))] := hD
              refine lv_iinc (v := (nI (i + 1))) (lv' := [(1, .int (nI (i + 1))), (0, .ref h4)]) hx hb dX4_classes_70 hl (k := 1) rfl (jn_a1 _) (by decide) rfl (fun ls hl => ?_)
              refine lv_goto (tgt := 30) hx hb dX4_classes_73 (by decide) ?_
              exact ih30 (i + 1) (upd y.1 t (en i + 1), upd y.2 j 99) (by omega) (by omega) (by rw [cS_at hj ht ej et, hy]; rfl) _ _ (jP_sub (w2 := [(h4, .inr (4, [.ref zc, .int (nI nn), .int (nI zz), .ref zj, .ref ze, .int (nI ed), .ref zt, .ref zo, .ref za, .ref zr, .ref zm, .ref zl, .int qc, .int qs, .int (nI qw), .int (nI qb), .int (nI ql)])), (zj, .inl (cA, 48, .inl ju)), (ze, .inl (cA, 48, .inl en)), (zt, .inl (cA, 24, .inl ((upd y.1 t (en i + 1), upd y.2 j 99).1))), (zo, .inl (cA, 24, .inl ((upd y.1 t (en i + 1), upd y.2 j 99).2)))]) hP [0, 1, 2, 3, 4] rfl) (hD.sub (ws' := [(h4, .inr (4, [.ref zc, .int (nI nn), .int (nI zz), .ref zj, .ref ze, .int (nI ed), .ref zt, .ref zo, .ref za, .ref zr, .ref zm, .ref zl, .int qc, .int qs, .int (nI qw), .int (nI qb), .int (nI ql)])), (zj, .inl (cA, 48, .inl ju)), (ze, .inl (cA, 48, .inl en)), (zt, .inl (cA, 24, .inl ((upd y.1 t (en i + 1), upd y.2 j 99).1))), (zo, .inl (cA, 24, .inl ((upd y.1 t (en i + 1), upd y.2 j 99).2)))]) [0, 1, 2, 3, 4] (by decide) rfl) hS ls (lv_sub hl [1, 0] rfl)
        exact loop30 (ed + 1) 0 (jFill ot 0 24, jFill oj 0 24) (by omega) (by omega) rfl _ _ (jP_sub (w2 := [(h4, .inr (4, [.ref zc, .int (nI nn), .int (nI zz), .ref zj, .ref ze, .int (nI ed), .ref zt, .ref zo, .ref za, .ref zr, .ref zm, .ref zl, .int qc, .int qs, .int (nI qw), .int (nI qb), .int (nI ql)])), (zj, .inl (cA, 48, .inl ju)), (ze, .inl (cA, 48, .inl en)), (zt, .inl (cA, 24, .inl ((jFill ot 0 24, jFill oj 0 24).1))), (zo, .inl (cA, 24, .inl ((jFill ot 0 24, jFill oj 0 24).2)))]) hP [0, 1, 2, 3, 4] rfl) (hD.sub (ws' := [(h4, .inr (4, [.ref zc, .int (nI nn), .int (nI zz), .ref zj, .ref ze, .int (nI ed), .ref zt, .ref zo, .ref za, .ref zr, .ref zm, .ref zl, .int qc, .int qs, .int (nI qw), .int (nI qb), .int (nI ql)])), (zj, .inl (cA, 48, .inl ju)), (ze, .inl (cA, 48, .inl en)), (zt, .inl (cA, 24, .inl ((jFill ot 0 24, jFill oj 0 24).1))), (zo, .inl (cA, 24, .inl ((jFill ot 0 24, jFill oj 0 24).2)))]) [0, 1, 2, 3, 4] (by decide) rfl) hS ls (lv_sub hl [1, 0] rfl)
      · have hi2 : i < 24 := by
          rcases Nat.lt_or_ge i 24 with q | q
          · exact q
          · exact absurd (nI_le q (by omega)) c_5
        refine lv_aload_n hx hb dX4_classes_8 rfl (lv_at hl 0 rfl) ?_
        refine va_get (D := D) (ci := 4) (v := .ref zt) (C := RX4) (T := TX4) (N := 17) hx hb hts iw_X4_classes_X4 hown hK hP 0 rfl rfl 6 (by decide) (hts (.fieldLink RX4 19 "JumpGuardModel" "ofTarget" "[I") (List.mem_of_getElem? (l := wsX4_classes) (i := 1) rfl)) (fun _ h9 => h9) rfl dX4_classes_9 ?_
        refine lv_iload_n hx hb dX4_classes_12 rfl (lv_at hl 1 rfl) ?_
        refine lv_iconst (v := 0) hx hb dX4_classes_13 (by decide) ?_
        refine jk_ast hx hb hK hP hD hS 3 0 rfl rfl (k := i) rfl (by omega) (by omega) dX4_classes_14 (fun H locs hP hD hS => ?_)
        have hP : va_P D vwCl [(h4, .inr (4, [.ref zc, .int (nI nn), .int (nI zz), .ref zj, .ref ze, .int (nI ed), .ref zt, .ref zo, .ref za, .ref zr, .ref zm, .ref zl, .int qc, .int qs, .int (nI qw), .int (nI qb), .int (nI ql)])), (zj, .inl (cA, 48, .inl ju)), (ze, .inl (cA, 48, .inl en)), (zt, .inl (cA, 24, .inl (upd F i 0))), (zo, .inl (cA, 24, .inl E))] H := hP
        have hD : va_D A [(h4, .inr (4, [.ref zc, .int (nI nn), .int (nI zz), .ref zj, .ref ze, .int (nI ed), .ref zt, .ref zo, .ref za, .ref zr, .ref zm, .ref zl, .int qc, .int qs, .int (nI qw), .int (nI qb), .int (nI ql)])), (zj, .inl (cA, 48, .inl ju)), (ze, .inl (cA, 48, .inl en)), (zt, .inl (cA, 24, .inl (upd F i 0))), (zo, .inl (cA, 24, .inl E))] := hD
        refine lv_aload_n hx hb dX4_classes_15 rfl (lv_at hl 0 rfl) ?_
        refine va_get (D := D) (ci := 4) (v := .ref zo) (C := RX4) (T := TX4) (N := 17) hx hb hts iw_X4_classes_X4 hown hK hP 0 rfl rfl 7 (by decide) (hts (.fieldLink RX4 22 "JumpGuardModel" "ofJump" "[I") (List.mem_of_getElem? (l := wsX4_classes) (i := 2) rfl)) (fun _ h9 => h9) rfl dX4_classes_16 ?_
        refine lv_iload_n hx hb dX4_classes_19 rfl (lv_at hl 1 rfl) ?_
        refine lv_iconst (v := 0) hx hb dX4_classes_20 (by decide) ?_
        refine jk_ast hx hb hK hP hD hS 4 0 rfl rfl (k := i) rfl (by omega) (by omega) dX4_classes_21 (fun H locs hP hD hS => ?_)
        have hP : va_P D vwCl [(h4, .inr (4, [.ref zc, .int (nI nn), .int (nI zz), .ref zj, .ref ze, .int (nI ed), .ref zt, .ref zo, .ref za, .ref zr, .ref zm, .ref zl, .int qc, .int qs, .int (nI qw), .int (nI qb), .int (nI ql)])), (zj, .inl (cA, 48, .inl ju)), (ze, .inl (cA, 48, .inl en)), (zt, .inl (cA, 24, .inl (upd F i 0))), (zo, .inl (cA, 24, .inl (upd E i 0)))] H := hP
        have hD : va_D A [(h4, .inr (4, [.ref zc, .int (nI nn), .int (nI zz), .ref zj, .ref ze, .int (nI ed), .ref zt, .ref zo, .ref za, .ref zr, .ref zm, .ref zl, .int qc, .int qs, .int (nI qw), .int (nI qb), .int (nI ql)])), (zj, .inl (cA, 48, .inl ju)), (ze, .inl (cA, 48, .inl en)), (zt, .inl (cA, 24, .inl (upd F i 0))), (zo, .inl (cA, 24, .inl (upd E i 0)))] := hD
        refine lv_iinc (v := (nI (i + 1))) (lv' := [(1, .int (nI (i + 1))), (0, .ref h4)]) hx hb dX4_classes_22 hl (k := 1) rfl (jn_a1 _) (by decide) rfl (fun ls hl => ?_)
        refine lv_goto (tgt := 2) hx hb dX4_classes_25 (by decide) ?_
        exact ih2 (i + 1) (upd F i 0) (upd E i 0) (by omega) (by omega) (by subst hF; exact jFill_s ot 0 i) (by subst hJ; exact jFill_s oj 0 i) _ _ (jP_sub (w2 := [(h4, .inr (4, [.ref zc, .int (nI nn), .int (nI zz), .ref zj, .ref ze, .int (nI ed), .ref zt, .ref zo, .ref za, .ref zr, .ref zm, .ref zl, .int qc, .int qs, .int (nI qw), .int (nI qb), .int (nI ql)])), (zj, .inl (cA, 48, .inl ju)), (ze, .inl (cA, 48, .inl en)), (zt, .inl (cA, 24, .inl (upd F i 0))), (zo, .inl (cA, 24, .inl (upd E i 0)))]) hP [0, 1, 2, 3, 4] rfl) (hD.sub (ws' := [(h4, .inr (4, [.ref zc, .int (nI nn), .int (nI zz), .ref zj, .ref ze, .int (nI ed), .ref zt, .ref zo, .ref za, .ref zr, .ref zm, .ref zl, .int qc, .int qs, .int (nI qw), .int (nI qb), .int (nI ql)])), (zj, .inl (cA, 48, .inl ju)), (ze, .inl (cA, 48, .inl en)), (zt, .inl (cA, 24, .inl (upd F i 0))), (zo, .inl (cA, 24, .inl (upd E i 0)))]) [0, 1, 2, 3, 4] (by decide) rfl) hS ls (lv_sub hl [1, 0] rfl)
  exact loop2 25 0 ot oj (by omega) (by omega) (jFill_0 ot 0) (jFill_0 oj 0) _ _ (jP_sub (w2 := [(h4, .inr (4, [.ref zc, .int (nI nn), .int (nI zz), .ref zj, .ref ze, .int (nI ed), .ref zt, .ref zo, .ref za, .ref zr, .ref zm, .ref zl, .int qc, .int qs, .int (nI qw), .int (nI qb), .int (nI ql)])), (zj, .inl (cA, 48, .inl ju)), (ze, .inl (cA, 48, .inl en)), (zt, .inl (cA, 24, .inl ot)), (zo, .inl (cA, 24, .inl oj))]) hP [0, 1, 2, 3, 4] rfl) (hD.sub (ws' := [(h4, .inr (4, [.ref zc, .int (nI nn), .int (nI zz), .ref zj, .ref ze, .int (nI ed), .ref zt, .ref zo, .ref za, .ref zr, .ref zm, .ref zl, .int qc, .int qs, .int (nI qw), .int (nI qb), .int (nI ql)])), (zj, .inl (cA, 48, .inl ju)), (ze, .inl (cA, 48, .inl en)), (zt, .inl (cA, 24, .inl ot)), (zo, .inl (cA, 24, .inl oj))]) [0, 1, 2, 3, 4] (by decide) rfl) hS ls (lv_sub hl [1, 0] rfl)
