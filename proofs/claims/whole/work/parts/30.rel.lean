/-! ===== both sides ===== -/
def RelS (f1 : Nat → Int32) (k1 : Nat) (cd : Nat → Int32) (nn : Nat) : Prop := k1 = nn ∧ nn ≤ 24 ∧ (∀ j, j < 3 * nn → f1 j = cd j) ∧ ∀ i, i < nn → sI (cd (3 * i)) (cd (3 * i + 1)) (cd (3 * i + 2))
/-- closed under the edges -/
def eCl (ed : Nat) (ju en : Nat → Int32) (PT PJ : Nat → Prop) : Prop := ∀ k, k < ed → ∀ j t, j < 24 → t < 24 → ju k = nI j → en k = nI t → (PT t ↔ PJ j)
/-- the classes' numbers -/
def Cls (tn jn : Nat → Int32) (ed : Nat) (ju en : Nat → Int32) : Prop :=
  (∀ k, k < ed → ∀ j t, j < 24 → t < 24 → ju k = nI j → en k = nI t → tn t = jn j ∧ ¬ tn t = 0) ∧
  (∀ t, t < 24 → ¬ tn t = 0 → (∃ k, k < ed ∧ en k = nI t) ∧ ∃ r, r ≤ t ∧ tn t = nI (r + 1) ∧ tn r = nI (r + 1) ∧ ∀ PT PJ : Nat → Prop, eCl ed ju en PT PJ → PT r → PT t) ∧
  (∀ j, j < 24 → ¬ jn j = 0 → ∃ k, k < ed ∧ ju k = nI j)
def RelE (ec : Nat) (tg tn jn : Nat → Int32) (ed : Nat) (ju en : Nat → Int32) : Prop := ec = ed ∧ ed ≤ 48 ∧ rEd ju en ed ∧ (∀ j t, j < 24 → t < 24 → ((tg j &&& eBit t) = 0 ↔ ∀ k, k < ed → ¬ (ju k = nI j ∧ en k = nI t))) ∧ Cls tn jn ed ju en
def RelG (k2 : Nat) (f2 P cd : Nat → Int32) (nn zz : Nat) (at9 : Nat → Int32) : Prop := k2 = zz ∧ zz ≤ 72 ∧ (∀ j, j < 3 * zz → f2 j = cd (72 + j)) ∧ (0 < zz → 0 < nn ∧ (∀ i, i < nn → P i = at9 i) ∧ mWF (rF cd 0) nn ∧ mWF (rF cd 72) zz)
def RelX (x y : MS) : Prop := x.1 = y.1 ∧ x.2.1 = y.2.1 ∧ x.2.2.2.1 = y.2.2.2.1 ∧ x.2.2.2.2.1 = y.2.2.2.2.1 ∧ x.2.2.2.2.2 = y.2.2.2.2.2 ∧ ∀ j, j < 8 → j < y.2.2.2.2.2 → x.2.2.1 ((y.2.2.2.2.2 - 1 - j) % 8) = y.2.2.1 j
def RelM (x y : MS) (pp p1 p2 qb ql nn zz : Nat) : Prop := RelX x y ∧ (y.2.2.2.2.1 = (-1) ∨ (¬ y.2.2.2.2.1 < 0 ∧ 0 < zz ∧ ((pp = p1 ∧ qb = 0 ∧ ql = nn) ∨ (pp = p2 ∧ qb = 72 ∧ ql = zz)) ∧ (y.2.2.2.2.1 = 0 → y.2.2.2.1 < ql)))
def Rel (p1 p2 k1 : Nat) (f1 : Nat → Int32) (k2 : Nat) (f2 : Nat → Int32) (ec : Nat) (tg tn jn P : Nat → Int32) (pp : Nat) (x : MS) (nn zz ed : Nat) (cd ju en at9 : Nat → Int32) (qb ql : Nat) (y : MS) : Prop := RelS f1 k1 cd nn ∧ RelE ec tg tn jn ed ju en ∧ RelG k2 f2 P cd nn zz at9 ∧ RelM x y pp p1 p2 qb ql nn zz
theorem mWF_congr {f g : Nat → Int32} {k : Nat} (h : ∀ j, j < 3 * k → f j = g j) (w : mWF g k) : mWF f k := by
  refine ⟨w.1, fun i hi => ?_⟩
  rw [h (i * 3) (by omega), h (i * 3 + 1) (by omega), h (i * 3 + 2) (by omega)]
  exact w.2 i hi
theorem pGet_congr {f g : Nat → Int32} {k : Nat} (hk : k < 1000) (h : ∀ j, j < 3 * k → f j = g j) (x y : Int32) : pGet f k x y = pGet g k x y := by
  by_cases q : jIn x (nI k) ∧ jIn y 3
  · obtain ⟨j, hj, rfl⟩ := jN_of (by omega) q.1
    obtain ⟨t, ht, rfl⟩ := jN_of (n := 3) (by decide) q.2
    rw [pGet_at hj ht (by omega), pGet_at hj ht (by omega), h _ (by omega)]
  · rw [pGet_no q, pGet_no q]
theorem pGet_rGet {f cd : Nat → Int32} {k ba : Nat} (hk : k < 1000) (h : ∀ j, j < 3 * k → f j = cd (ba + j)) (x y : Int32) : pGet f k x y = rGet cd ba k x y := by
  by_cases q : jIn x (nI k) ∧ jIn y 3
  · obtain ⟨j, hj, rfl⟩ := jN_of (by omega) q.1
    obtain ⟨t, ht, rfl⟩ := jN_of (n := 3) (by decide) q.2
    rw [pGet_at hj ht (by omega), rGet_at hj ht (by omega), h _ (by omega), show ba + (j * 3 + t) = ba + 3 * j + t by omega]
  · rw [pGet_no q, rGet_no q]
/-- steps in step -/
theorem step_rel {f g : Nat → Int32} {k : Nat} {x y : MS} (h : ∀ j, j < 3 * k → f j = g j) (w : mWF g k) (hi : y.2.2.2.1 < k) (X : RelX x y) : RelX (mStep f k x) (rStep g k y) := by
  obtain ⟨hk, -⟩ := w
  obtain ⟨x1, x2, x3, x4, x5, x6⟩ := x
  obtain ⟨y1, y2, y3, y4, y5, y6⟩ := y
  obtain ⟨e1, e2, e3, e4, e5, e6⟩ := X
  dsimp only at e1 e2 e3 e4 e5 e6 hi
  subst e1; subst e2; subst e3; subst e4; subst e5
  have h0 : mOp f x4 = mOp g x4 := by unfold mOp; rw [h _ (by omega)]
  have h1 : f (x4 * 3 + 1) = g (x4 * 3 + 1) := h _ (by omega)
  have h2 : f (x4 * 3 + 2) = g (x4 * 3 + 2) := h _ (by omega)
  have hS : ∀ (o : Nat) (a b : Int32) (R : Nat → Int32) (st : Int32), mvS o a b R f k st = mvS o a b R g k st := by
    intro o a b R st
    unfold mvS mvG mvJ
    rw [pGet_congr (by omega) h, pGet_congr (by omega) h]
  refine ⟨?_, ?_, ?_, ?_, ?_, ?_⟩
  · show mvR _ _ _ _ _ = mvR _ _ _ _ _
    dsimp only; rw [h0, h1, h2]
  · show mvC _ _ _ _ _ = mvC _ _ _ _ _
    dsimp only; rw [h0, h1, h2]
  · show (if _ then _ else _) = (if _ then _ else _)
    dsimp only; rw [h0, h1, h2, hS]
  · show mvS _ _ _ _ _ _ _ = mvS _ _ _ _ _ _ _
    dsimp only; rw [h0, h1, h2, hS]
  · show mvW _ _ = mvW _ _
    dsimp only; rw [h0]
  · intro j hj hw
    show mvL _ _ _ _ _ _ = rvL _ _ _ _ _
    have hw2 : j < mvW (mOp g x4) x6 := hw
    show mvL (mOp f x4) (f (x4 * 3 + 1)) x1 x3 x6 ((mvW (mOp g x4) x6 - 1 - j) % 8) = rvL (mOp g x4) (g (x4 * 3 + 1)) x1 y3 j
    rw [h0, h1]
    unfold mvL rvL mvW at *
    by_cases q : mOp g x4 = 5
    · rw [if_pos q] at hw2
      rw [if_pos q, if_pos q, if_pos q]
      unfold upd tSh
      by_cases q2 : j = 0
      · subst q2
        rw [if_pos (by omega), if_pos rfl]
      · rw [if_neg (by omega), if_neg q2, if_pos (by omega)]
        have := e6 (j - 1) (by omega) (by omega)
        rw [show x6 - 1 - (j - 1) = x6 + 1 - 1 - j by omega] at this
        exact this
    · rw [if_neg q] at hw2
      rw [if_neg q, if_neg q, if_neg q]
      exact e6 j hj hw2
theorem run_rel {f g : Nat → Int32} {k : Nat} (h : ∀ j, j < 3 * k → f j = g j) (w : mWF g k) : ∀ (n : Nat) (x y : MS), (y.2.2.2.2.1 = 0 → y.2.2.2.1 < k) → RelX x y → (mRun f k n x).1 = (rRun g k n y).1 ∧ RelX (mRun f k n x).2 (rRun g k n y).2 ∧ ((rRun g k n y).2.2.2.2.2.1 = 0 → (rRun g k n y).2.2.2.2.1 < k) ∧ ((rRun g k n y).2.2.2.2.2.2 ≤ y.2.2.2.2.2 + n) := by
  intro n
  induction n with
  | zero => intro x y hi X; exact ⟨rfl, X, hi, Nat.le_refl _⟩
  | succ n ih =>
    intro x y hi X
    by_cases q : y.2.2.2.2.1 = 0
    · have q2 : x.2.2.2.2.1 = 0 := by rw [X.2.2.2.1]; exact q
      have e : mRun f k (n + 1) x = ((mRun f k n (mStep f k x)).1 + 1, (mRun f k n (mStep f k x)).2) := by
        show (if _ then _ else _) = _
        rw [if_pos q2]
      obtain ⟨a1, a2, a3, a4⟩ := ih (mStep f k x) (rStep g k y) (rStep_lt w (hi q)) (step_rel h w (hi q) X)
      rw [e, rRun_s q]
      have := rStep_w g k y
      exact ⟨by show _ + 1 = _ + 1; rw [a1], a2, a3, by dsimp only; omega⟩
    · have q2 : ¬ x.2.2.2.2.1 = 0 := by rw [X.2.2.2.1]; exact q
      rw [mRun_stop q2, rRun_stop q]
      exact ⟨rfl, X, hi, by dsimp only; omega⟩
/-- the running state is one of five -/
theorem run_st {g : Nat → Int32} {k : Nat} : ∀ (n : Nat) (y : MS), ¬ y.2.2.2.2.1 < 0 → ¬ (rRun g k n y).2.2.2.2.2.1 < 0 := by
  intro n
  induction n with
  | zero => intro y h; exact h
  | succ n ih =>
    intro y h
    by_cases q : y.2.2.2.2.1 = 0
    · rw [rRun_s q]
      refine ih _ ?_
      show ¬ mvS _ _ _ _ _ _ _ < 0
      unfold mvS mvJ mvG
      rw [q]
      split
      · decide
      · split
        · split <;> decide
        · split
          · split <;> decide
          · decide
    · rw [rRun_stop q]; exact h
