/-! ===== what every call keeps ===== -/
def setSt (x : MS) (s : Int32) : MS := (x.1, x.2.1, x.2.2.1, x.2.2.2.1, s, x.2.2.2.2.2)
def setC (x : MS) (C : Nat → Int32) : MS := (x.1, C, x.2.2.1, x.2.2.2.1, x.2.2.2.2.1, x.2.2.2.2.2)
def setB (x : MS) : MS := (jFill x.1 0 4, jFill x.2.1 0 16, x.2.2.1, 0, 0, 0)
theorem RelX_st {x y : MS} (h : RelX x y) (s : Int32) : RelX (setSt x s) (setSt y s) := ⟨h.1, h.2.1, h.2.2.1, rfl, h.2.2.2.2.1, h.2.2.2.2.2⟩
section REL
variable {p1 p2 k1 : Nat} {f1 : Nat → Int32} {k2 : Nat} {f2 : Nat → Int32} {ec : Nat} {tg tn jn P : Nat → Int32} {pp : Nat} {x : MS} {nn zz ed : Nat} {cd ju en at9 : Nat → Int32} {qb ql : Nat} {y : MS}
theorem Rel_0 (p1 p2 pp qb ql : Nat) : Rel p1 p2 0 (fun _ => 0) 0 (fun _ => 0) 0 (fun _ => 0) (fun _ => 0) (fun _ => 0) (fun _ => 0) pp ((fun _ => 0), (fun _ => 0), (fun _ => 0), 0, (-1), 0) 0 0 0 (fun _ => 0) (fun _ => 0) (fun _ => 0) (fun _ => 0) qb ql ((fun _ => 0), (fun _ => 0), (fun _ => 0), 0, (-1), 0) := by
  refine ⟨⟨rfl, by omega, fun _ _ => rfl, fun i hi => absurd hi (by omega)⟩, ⟨rfl, by omega, fun k hk => absurd hk (by omega), fun j t _ _ => ⟨fun _ k hk => absurd hk (by omega), fun _ => by rw [Int32.zero_and]⟩, fun k hk => absurd hk (by omega), fun t _ h => absurd rfl h, fun j _ h => absurd rfl h⟩, ⟨rfl, by omega, fun j hj => absurd hj (by omega), fun h => absurd h (by omega)⟩, ⟨rfl, rfl, rfl, rfl, rfl, fun j _ hj => absurd hj (by show ¬ j < 0; omega)⟩, Or.inl rfl⟩
theorem app_s {k : Nat} {f cd : Nat → Int32} (h : ∀ j, j < 3 * k → f j = cd j) (a b c : Int32) : ∀ j, j < 3 * (k + 1) → pApp f k a b c j = rApp cd k a b c j := by
  intro j hj
  unfold pApp rApp upd
  by_cases q2 : j = k * 3 + 2
  · rw [if_pos q2, if_pos (show j = 3 * k + 2 by omega)]
  · rw [if_neg q2, if_neg (show ¬ j = 3 * k + 2 by omega)]
    by_cases q1 : j = k * 3 + 1
    · rw [if_pos q1, if_pos (show j = 3 * k + 1 by omega)]
    · rw [if_neg q1, if_neg (show ¬ j = 3 * k + 1 by omega)]
      by_cases q0 : j = k * 3
      · rw [if_pos q0, if_pos (show j = 3 * k by omega)]
      · rw [if_neg q0, if_neg (show ¬ j = 3 * k by omega)]; exact h j (by omega)
theorem rApp_new (cd : Nat → Int32) (k : Nat) (a b c : Int32) : rApp cd k a b c (3 * k) = a ∧ rApp cd k a b c (3 * k + 1) = b ∧ rApp cd k a b c (3 * k + 2) = c := by
  unfold rApp upd
  refine ⟨?_, ?_, ?_⟩
  · rw [if_neg (by omega), if_neg (by omega), if_pos rfl]
  · rw [if_neg (by omega), if_pos rfl]
  · rw [if_pos rfl]
theorem rApp_old {cd : Nat → Int32} {k j : Nat} {a b c : Int32} (h : j < 3 * k) : rApp cd k a b c j = cd j := by
  unfold rApp upd
  rw [if_neg (by omega), if_neg (by omega), if_neg (by omega)]
theorem Rel_add (h : Rel p1 p2 k1 f1 k2 f2 ec tg tn jn P pp x nn zz ed cd ju en at9 qb ql y) (a b c : Int32) : Rel p1 p2 (if aOk k1 a b c then k1 + 1 else k1) (if aOk k1 a b c then pApp f1 k1 a b c else f1) (if aOk k1 a b c then 0 else k2) f2 ec tg tn jn P pp (setSt x (if aOk k1 a b c then (-1) else x.2.2.2.2.1)) (if aOk nn a b c then nn + 1 else nn) (if aOk nn a b c then 0 else zz) ed (if aOk nn a b c then rApp cd nn a b c else cd) ju en at9 qb ql (setSt y (if aOk nn a b c then (-1) else y.2.2.2.2.1)) := by
  have e : k1 = nn := h.1.1
  subst e
  by_cases q : aOk k1 a b c
  · simp only [if_pos q]
    obtain ⟨⟨-, hn, hf, hs⟩, hE, hG, hX, hM⟩ := h
    refine ⟨⟨rfl, by have := q.2; omega, app_s hf a b c, ?_⟩, hE, ⟨rfl, by omega, fun j hj => absurd hj (by omega), fun h => absurd h (by omega)⟩, RelX_st hX (-1), Or.inl rfl⟩
    intro i hi
    by_cases z : i = k1
    · subst z
      obtain ⟨u, v, w⟩ := rApp_new cd i a b c
      rw [u, v, w]; exact q.1
    · rw [rApp_old (by omega), rApp_old (by omega), rApp_old (by omega)]
      exact hs i (by omega)
  · simp only [if_neg q]
    exact h
theorem Rel_allow (h : Rel p1 p2 k1 f1 k2 f2 ec tg tn jn P pp x nn zz ed cd ju en at9 qb ql y) (a b : Int32) : Rel p1 p2 k1 f1 (if aAl f1 k1 tg ec a b then 0 else k2) f2 (if aAl f1 k1 tg ec a b then ec + 1 else ec) (if aAl f1 k1 tg ec a b then upd tg a.toNatClampNeg (tg a.toNatClampNeg ||| eBit b.toNatClampNeg) else tg) (if aAl f1 k1 tg ec a b then eTn (eT1 tn b.toNatClampNeg) jn a.toNatClampNeg b.toNatClampNeg else tn) (if aAl f1 k1 tg ec a b then eJn (eT1 tn b.toNatClampNeg) jn a.toNatClampNeg b.toNatClampNeg else jn) P pp (setSt x (if aAl f1 k1 tg ec a b then (-1) else x.2.2.2.2.1)) nn (if rAl cd nn ju en ed a b then 0 else zz) (if rAl cd nn ju en ed a b then ed + 1 else ed) cd (if rAl cd nn ju en ed a b then upd ju ed a else ju) (if rAl cd nn ju en ed a b then upd en ed b else en) at9 qb ql (setSt y (if rAl cd nn ju en ed a b then (-1) else y.2.2.2.2.1)) := by
  have e := allow_iff h.1 h.2.1 a b
  by_cases q : rAl cd nn ju en ed a b
  · have q1 := e.mpr q
    simp only [if_pos q, if_pos q1]
    obtain ⟨hS, hE, hG, hX, hM⟩ := h
    exact ⟨hS, allow_rel hS hE q, ⟨rfl, by omega, fun j hj => absurd hj (by omega), fun h => absurd h (by omega)⟩, RelX_st hX (-1), Or.inl rfl⟩
  · have q1 : ¬ aAl f1 k1 tg ec a b := fun z => q (e.mp z)
    simp only [if_neg q, if_neg q1]
    exact h
theorem allow_res (h : Rel p1 p2 k1 f1 k2 f2 ec tg tn jn P pp x nn zz ed cd ju en at9 qb ql y) (a b : Int32) : jB (aAl f1 k1 tg ec a b) = jB (rAl cd nn ju en ed a b) := jB_i (allow_iff h.1 h.2.1 a b)
theorem prot_core (h : Rel p1 p2 k1 f1 k2 f2 ec tg tn jn P pp x nn zz ed cd ju en at9 qb ql y) (ot oj : Nat → Int32) (hw : rWh cd nn) : gRel (gN f1 tn jn (plP f1 tn P k1) f2 k1) (rN cd (cls ju en ot oj ed).1 (cls ju en ot oj ed).2 (rAt cd (cls ju en ot oj ed).1 at9 nn) nn) ∧ (∀ t, t < nn → plP f1 tn P k1 t = rAt cd (cls ju en ot oj ed).1 at9 nn t) ∧ (∀ t, t < nn → plP f1 tn P k1 t = nI (plN f1 tn t)) := by
  have hc := (wh_iff h.1).mpr hw
  obtain ⟨⟨rfl, hn, hf, hs⟩, ⟨-, -, hE, -, hC⟩, -⟩ := h
  have ca := cls_is hE hC ot oj
  have h0 : ∀ t, t < 24 → (tn t ≤ 0 ↔ tn t = 0) := fun t ht => num_0 hC ht
  have pl := pl_rel hn hf ca.1 h0
  have u1 : ∀ t, t < k1 → plP f1 tn P k1 t = nI (plN f1 tn t) := fun t ht => if_pos ht
  have u2 : ∀ t, t < k1 → plP f1 tn P k1 t = rAt cd (cls ju en ot oj ed).1 at9 k1 t := by
    intro t ht
    rw [u1 t ht, show rAt cd (cls ju en ot oj ed).1 at9 k1 t = nI (rPl cd (cls ju en ot oj ed).1 t) from if_pos ht, pl t (by omega)]
  exact ⟨gN_rel hn hf ca.1 ca.2 h0 u2 hs hc.2 k1 (Nat.le_refl _), u2, u1⟩
theorem prot_res (h : Rel p1 p2 k1 f1 k2 f2 ec tg tn jn P pp x nn zz ed cd ju en at9 qb ql y) (ot oj : Nat → Int32) : (if clO f1 k1 then nI (gN f1 tn jn (plP f1 tn P k1) f2 k1).1 else -1) = (if rWh cd nn then nI (rN cd (cls ju en ot oj ed).1 (cls ju en ot oj ed).2 (rAt cd (cls ju en ot oj ed).1 at9 nn) nn).1 else -1) := by
  by_cases q : rWh cd nn
  · rw [if_pos q, if_pos ((wh_iff h.1).mpr q), (prot_core h ot oj q).1.1]
  · rw [if_neg q, if_neg (fun z => q ((wh_iff h.1).mp z))]
theorem Rel_protect (h : Rel p1 p2 k1 f1 k2 f2 ec tg tn jn P pp x nn zz ed cd ju en at9 qb ql y) (ot oj : Nat → Int32) : Rel p1 p2 k1 f1 (if clO f1 k1 then (gN f1 tn jn (plP f1 tn P k1) f2 k1).1 else 0) (if clO f1 k1 then (gN f1 tn jn (plP f1 tn P k1) f2 k1).2 else f2) ec tg tn jn (if clO f1 k1 then plP f1 tn P k1 else P) pp (setSt x (-1)) nn (if rWh cd nn then (rN cd (cls ju en ot oj ed).1 (cls ju en ot oj ed).2 (rAt cd (cls ju en ot oj ed).1 at9 nn) nn).1 else 0) ed (if rWh cd nn then (rN cd (cls ju en ot oj ed).1 (cls ju en ot oj ed).2 (rAt cd (cls ju en ot oj ed).1 at9 nn) nn).2 else cd) ju en (if rWh cd nn then rAt cd (cls ju en ot oj ed).1 at9 nn else at9) qb ql (setSt y (-1)) := by
  by_cases q : rWh cd nn
  · have q1 := (wh_iff h.1).mpr q
    obtain ⟨g1, g2, g3⟩ := prot_core h ot oj q
    simp only [if_pos q, if_pos q1]
    obtain ⟨⟨rfl, hn, hf, hs⟩, hE, hG, hX, hM⟩ := h
    have low : ∀ j, j < 72 → (rN cd (cls ju en ot oj ed).1 (cls ju en ot oj ed).2 (rAt cd (cls ju en ot oj ed).1 at9 k1) k1).2 j = cd j := fun j hj => rN_low _ _ _ _ _ hj
    have hs1 : ∀ i, i < k1 → sI (f1 (i * 3)) (f1 (i * 3 + 1)) (f1 (i * 3 + 2)) := by
      intro i hi
      rw [hf _ (by omega), hf _ (by omega), hf _ (by omega), Nat.mul_comm]
      exact hs i hi
    have wg := wf_guarded (jn := jn) (f2 := f2) hn g3 hs1 q1
    have ws := wf_source hn hs1 q1
    have le : (gN f1 tn jn (plP f1 tn P k1) f2 k1).1 ≤ 72 := wg.1
    refine ⟨⟨rfl, hn, fun j hj => by rw [low j (by omega)]; exact hf j hj, fun i hi => by rw [low _ (by omega), low _ (by omega), low _ (by omega)]; exact hs i hi⟩, hE, ⟨g1.1, by rw [← g1.1]; exact le, fun j hj => g1.2 j (by rw [g1.1]; exact hj), fun _ => ⟨q.1, g2, ?_, ?_⟩⟩, RelX_st hX (-1), Or.inl rfl⟩
    · refine mWF_congr (g := f1) (fun j hj => ?_) ws
      show (rN cd (cls ju en ot oj ed).1 (cls ju en ot oj ed).2 (rAt cd (cls ju en ot oj ed).1 at9 k1) k1).2 (0 + j) = f1 j
      rw [Nat.zero_add, low j (by omega), hf j hj]
    · rw [← g1.1]
      exact mWF_congr (g := (gN f1 tn jn (plP f1 tn P k1) f2 k1).2) (fun j hj => (g1.2 j hj).symm) wg
  · have q1 : ¬ clO f1 k1 := fun z => q ((wh_iff h.1).mp z)
    simp only [if_neg q, if_neg q1]
    obtain ⟨hS, hE, hG, hX, hM⟩ := h
    exact ⟨hS, hE, ⟨rfl, by omega, fun j hj => absurd hj (by omega), fun h => absurd h (by omega)⟩, RelX_st hX (-1), Or.inl rfl⟩
theorem src_res (h : Rel p1 p2 k1 f1 k2 f2 ec tg tn jn P pp x nn zz ed cd ju en at9 qb ql y) (a b : Int32) : pGet f1 k1 a b = rGet cd 0 nn a b := by
  obtain ⟨⟨rfl, hn, hf, -⟩, -⟩ := h
  exact pGet_rGet (by omega) (fun j hj => by rw [Nat.zero_add]; exact hf j hj) a b
theorem gua_res (h : Rel p1 p2 k1 f1 k2 f2 ec tg tn jn P pp x nn zz ed cd ju en at9 qb ql y) (a b : Int32) : pGet f2 k2 a b = rGet cd 72 zz a b := by
  obtain ⟨-, -, ⟨rfl, hn, hf, -⟩, -⟩ := h
  exact pGet_rGet (by omega) hf a b
theorem plc_res (h : Rel p1 p2 k1 f1 k2 f2 ec tg tn jn P pp x nn zz ed cd ju en at9 qb ql y) (a : Int32) : (if 0 < k2 ∧ jIn a (nI k1) then pPl P a else -1) = (if 0 < zz ∧ jIn a (nI nn) then at9 a.toNatClampNeg else -1) := by
  obtain ⟨⟨rfl, hn, -⟩, -, ⟨rfl, hz, -, hp⟩, -⟩ := h
  by_cases q : 0 < k2 ∧ jIn a (nI k1)
  · rw [if_pos q, if_pos q]
    obtain ⟨j, hj, rfl⟩ := jN_of (n := k1) (by omega) q.2
    rw [pPl_n (by omega), nI_clamp (by omega), (hp q.1).2.1 j hj]
  · rw [if_neg q, if_neg q]
theorem lab_res (h : Rel p1 p2 k1 f1 k2 f2 ec tg tn jn P pp x nn zz ed cd ju en at9 qb ql y) (ot oj : Nat → Int32) (a : Int32) : (if jIn a (nI k1) then jAt tn 24 a else -1) = (if jIn a (nI nn) then (cls ju en ot oj ed).1 a.toNatClampNeg else -1) := by
  obtain ⟨⟨rfl, hn, -⟩, ⟨-, -, hE, -, hC⟩, -⟩ := h
  by_cases q : jIn a (nI k1)
  · rw [if_pos q, if_pos q]
    obtain ⟨j, hj, rfl⟩ := jN_of (n := k1) (by omega) q
    rw [show jAt tn 24 (nI j) = tn j from jAt_n (n := 24) (by omega) (by decide), nI_clamp (by omega), (cls_is hE hC ot oj).1 j (by omega)]
  · rw [if_neg q, if_neg q]
theorem st_iff (h : Rel p1 p2 k1 f1 k2 f2 ec tg tn jn P pp x nn zz ed cd ju en at9 qb ql y) : x.2.2.2.2.1 = (-1) ↔ y.2.2.2.2.1 < 0 := by
  obtain ⟨-, -, -, hX, hM⟩ := h
  rw [hX.2.2.2.1]
  rcases hM with q | q
  · rw [q]; exact ⟨fun _ => by decide, fun _ => rfl⟩
  · exact ⟨fun z => absurd (by rw [z]; decide) q.1, fun z => absurd z q.1⟩
theorem st_res (h : Rel p1 p2 k1 f1 k2 f2 ec tg tn jn P pp x nn zz ed cd ju en at9 qb ql y) : x.2.2.2.2.1 = y.2.2.2.2.1 := h.2.2.2.1.2.2.2.1
theorem ask_res (h : Rel p1 p2 k1 f1 k2 f2 ec tg tn jn P pp x nn zz ed cd ju en at9 qb ql y) {v u w : Int32} (e : u = w) : (if x.2.2.2.2.1 = (-1) then v else u) = (if y.2.2.2.2.1 < 0 then v else w) := by
  by_cases q : y.2.2.2.2.1 < 0
  · rw [if_pos q, if_pos ((st_iff h).mpr q)]
  · rw [if_neg q, if_neg (fun z => q ((st_iff h).mp z)), e]
theorem pc_res (h : Rel p1 p2 k1 f1 k2 f2 ec tg tn jn P pp x nn zz ed cd ju en at9 qb ql y) : (if x.2.2.2.2.1 = (-1) then (-1) else nI x.2.2.2.1) = (if y.2.2.2.2.1 < 0 then (-1) else nI y.2.2.2.1) := ask_res h (by rw [h.2.2.2.1.2.2.1])
theorem shows_res (h : Rel p1 p2 k1 f1 k2 f2 ec tg tn jn P pp x nn zz ed cd ju en at9 qb ql y) : (if x.2.2.2.2.1 = (-1) then 0 else nI x.2.2.2.2.2) = (if y.2.2.2.2.1 < 0 then 0 else nI y.2.2.2.2.2) := ask_res h (by rw [h.2.2.2.1.2.2.2.2.1])
theorem mem_res (h : Rel p1 p2 k1 f1 k2 f2 ec tg tn jn P pp x nn zz ed cd ju en at9 qb ql y) (a : Int32) : (if x.2.2.2.2.1 = (-1) then 0 else jAt x.2.1 16 a) = (if y.2.2.2.2.1 < 0 then 0 else jAt y.2.1 16 a) := ask_res h (by rw [h.2.2.2.1.2.1])
theorem reg_res (h : Rel p1 p2 k1 f1 k2 f2 ec tg tn jn P pp x nn zz ed cd ju en at9 qb ql y) (a : Int32) : (if x.2.2.2.2.1 = (-1) then 0 else jAt x.1 4 a) = (if y.2.2.2.2.1 < 0 then 0 else jAt y.1 4 a) := ask_res h (by rw [h.2.2.2.1.1])
theorem shown_res (h : Rel p1 p2 k1 f1 k2 f2 ec tg tn jn P pp x nn zz ed cd ju en at9 qb ql y) (hw : y.2.2.2.2.2 < 1000000) (a : Int32) : (if x.2.2.2.2.1 = (-1) then 0 else mShown x.2.2.1 x.2.2.2.2.2 a) = (if y.2.2.2.2.1 < 0 then 0 else rShown y.2.2.1 y.2.2.2.2.2 a) := by
  refine ask_res h ?_
  obtain ⟨-, -, -, -, ew, hs⟩ := h.2.2.2.1
  rw [ew]
  by_cases q : jIn a 8 ∧ ¬ nI y.2.2.2.2.2 ≤ a
  · obtain ⟨j, hj, rfl⟩ := jN_of (n := 8) (by decide) q.1
    have hjw : j < y.2.2.2.2.2 := by
      rcases Nat.lt_or_ge j y.2.2.2.2.2 with z | z
      · exact z
      · exact absurd (nI_le z (by omega)) q.2
    rw [mShown_at hj hjw (by omega), rShown_at hj hjw (by omega)]
    exact hs j hj hjw
  · rw [mShown_no q, rShown_no q]
theorem over_res (h : Rel p1 p2 k1 f1 k2 f2 ec tg tn jn P pp x nn zz ed cd ju en at9 qb ql y) (a : Int32) : jB (¬ x.2.2.2.2.1 = (-1) ∧ jIn a 16) = jB (¬ y.2.2.2.2.1 < 0 ∧ jIn a 16) := jB_i ⟨fun z => ⟨fun w => z.1 ((st_iff h).mpr w), z.2⟩, fun z => ⟨fun w => z.1 ((st_iff h).mp w), z.2⟩⟩
theorem Rel_over (h : Rel p1 p2 k1 f1 k2 f2 ec tg tn jn P pp x nn zz ed cd ju en at9 qb ql y) (a v : Int32) : Rel p1 p2 k1 f1 k2 f2 ec tg tn jn P pp (setC x (if x.2.2.2.2.1 = (-1) then x.2.1 else jPut x.2.1 16 a v)) nn zz ed cd ju en at9 qb ql (setC y (if y.2.2.2.2.1 < 0 then y.2.1 else jPut y.2.1 16 a v)) := by
  have e := st_iff h
  obtain ⟨hS, hE, hG, hX, hM⟩ := h
  refine ⟨hS, hE, hG, ⟨hX.1, ?_, hX.2.2⟩, hM⟩
  show (if x.2.2.2.2.1 = (-1) then x.2.1 else jPut x.2.1 16 a v) = (if y.2.2.2.2.1 < 0 then y.2.1 else jPut y.2.1 16 a v)
  rw [hX.2.1]
  by_cases q : y.2.2.2.2.1 < 0
  · rw [if_pos q, if_pos (e.mpr q)]
  · rw [if_neg q, if_neg (fun z => q (e.mp z))]
theorem Rel_startS (h : Rel p1 p2 k1 f1 k2 f2 ec tg tn jn P pp x nn zz ed cd ju en at9 qb ql y) (hz : 0 < zz) : Rel p1 p2 k1 f1 k2 f2 ec tg tn jn P p1 (setB x) nn zz ed cd ju en at9 0 nn (setB y) := by
  obtain ⟨hS, hE, hG, hX, hM⟩ := h
  have hn : 0 < nn := (hG.2.2.2 hz).1
  exact ⟨hS, hE, hG, ⟨by show jFill _ _ _ = jFill _ _ _; rw [hX.1], by show jFill _ _ _ = jFill _ _ _; rw [hX.2.1], rfl, rfl, rfl, fun j _ hj => absurd hj (by show ¬ j < 0; omega)⟩, Or.inr ⟨by show ¬ (0 : Int32) < 0; decide, hz, Or.inl ⟨rfl, rfl, rfl⟩, fun _ => hn⟩⟩
theorem Rel_startG (h : Rel p1 p2 k1 f1 k2 f2 ec tg tn jn P pp x nn zz ed cd ju en at9 qb ql y) (hz : 0 < zz) : Rel p1 p2 k1 f1 k2 f2 ec tg tn jn P p2 (setB x) nn zz ed cd ju en at9 72 zz (setB y) := by
  obtain ⟨hS, hE, hG, hX, hM⟩ := h
  exact ⟨hS, hE, hG, ⟨by show jFill _ _ _ = jFill _ _ _; rw [hX.1], by show jFill _ _ _ = jFill _ _ _; rw [hX.2.1], rfl, rfl, rfl, fun j _ hj => absurd hj (by show ¬ j < 0; omega)⟩, Or.inr ⟨by show ¬ (0 : Int32) < 0; decide, hz, Or.inr ⟨rfl, rfl, rfl⟩, fun _ => hz⟩⟩
theorem run_cor {f g : Nat → Int32} {k : Nat} (hf : ∀ j, j < 3 * k → f j = g j) (w : mWF g k) (n : Nat) (X : RelX x y) (hi : y.2.2.2.2.1 = 0 → y.2.2.2.1 < k) (h0 : ¬ y.2.2.2.2.1 < 0) : nI (mRun f k n x).1 = nI (rRun g k n y).1 ∧ RelX (mRun f k n x).2 (rRun g k n y).2 ∧ ¬ (rRun g k n y).2.2.2.2.2.1 < 0 ∧ ((rRun g k n y).2.2.2.2.2.1 = 0 → (rRun g k n y).2.2.2.2.1 < k) ∧ (rRun g k n y).2.2.2.2.2.2 ≤ y.2.2.2.2.2 + n := by
  obtain ⟨a, b, c, d⟩ := run_rel hf w n x y hi X
  exact ⟨by rw [a], b, run_st n y h0, c, d⟩
theorem agS (h : Rel p1 p2 k1 f1 k2 f2 ec tg tn jn P pp x nn zz ed cd ju en at9 qb ql y) : k1 = nn ∧ nn ≤ 24 ∧ ∀ j, j < 3 * nn → f1 j = rF cd 0 j := ⟨h.1.1, h.1.2.1, fun j hj => by show f1 j = cd (0 + j); rw [Nat.zero_add]; exact h.1.2.2.1 j hj⟩
theorem agG (h : Rel p1 p2 k1 f1 k2 f2 ec tg tn jn P pp x nn zz ed cd ju en at9 qb ql y) : k2 = zz ∧ zz ≤ 72 ∧ ∀ j, j < 3 * zz → f2 j = rF cd 72 j := ⟨h.2.2.1.1, h.2.2.1.2.1, fun j hj => h.2.2.1.2.2.1 j hj⟩
/-- where it runs: what runs -/
theorem run_on (h : Rel p1 p2 k1 f1 k2 f2 ec tg tn jn P pp x nn zz ed cd ju en at9 qb ql y) (h0 : y.2.2.2.2.1 = 0) : 0 < zz ∧ y.2.2.2.1 < ql ∧ mWF (rF cd 0) nn ∧ mWF (rF cd 72) zz ∧ ((pp = p1 ∧ qb = 0 ∧ ql = nn) ∨ (pp = p2 ∧ qb = 72 ∧ ql = zz)) := by
  rcases h.2.2.2.2 with q | q
  · rw [h0] at q; exact absurd q (by decide)
  · have g := h.2.2.1.2.2.2 q.2.1
    exact ⟨q.2.1, q.2.2.2 h0, g.2.2.1, g.2.2.2, q.2.2.1⟩
theorem Rel_runS (h : Rel p1 p2 k1 f1 k2 f2 ec tg tn jn P p1 x nn zz ed cd ju en at9 0 nn y) (h0 : y.2.2.2.2.1 = 0) (n : Nat) : nI (mRun f1 k1 n x).1 = nI (rRun (rF cd 0) nn n y).1 ∧ Rel p1 p2 k1 f1 k2 f2 ec tg tn jn P p1 (mRun f1 k1 n x).2 nn zz ed cd ju en at9 0 nn (rRun (rF cd 0) nn n y).2 ∧ (rRun (rF cd 0) nn n y).2.2.2.2.2.2 ≤ y.2.2.2.2.2 + n := by
  obtain ⟨hz, hi, w0, w7, -⟩ := run_on h h0
  obtain ⟨e, hn, hf⟩ := agS h
  subst e
  obtain ⟨a, b, c, d, e⟩ := run_cor hf w0 n h.2.2.2.1 (fun _ => hi) (by rw [h0]; decide)
  exact ⟨a, ⟨h.1, h.2.1, h.2.2.1, b, Or.inr ⟨c, hz, Or.inl ⟨rfl, rfl, rfl⟩, d⟩⟩, e⟩
theorem Rel_runG (h : Rel p1 p2 k1 f1 k2 f2 ec tg tn jn P p2 x nn zz ed cd ju en at9 72 zz y) (h0 : y.2.2.2.2.1 = 0) (n : Nat) : nI (mRun f2 k2 n x).1 = nI (rRun (rF cd 72) zz n y).1 ∧ Rel p1 p2 k1 f1 k2 f2 ec tg tn jn P p2 (mRun f2 k2 n x).2 nn zz ed cd ju en at9 72 zz (rRun (rF cd 72) zz n y).2 ∧ (rRun (rF cd 72) zz n y).2.2.2.2.2.2 ≤ y.2.2.2.2.2 + n := by
  obtain ⟨hz, hi, w0, w7, -⟩ := run_on h h0
  obtain ⟨e, hn, hf⟩ := agG h
  subst e
  obtain ⟨a, b, c, d, e⟩ := run_cor hf w7 n h.2.2.2.1 (fun _ => hi) (by rw [h0]; decide)
  exact ⟨a, ⟨h.1, h.2.1, h.2.2.1, b, Or.inr ⟨c, hz, Or.inr ⟨rfl, rfl, rfl⟩, d⟩⟩, e⟩
end REL
