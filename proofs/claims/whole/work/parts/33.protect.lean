/-! ===== protect, side by side ===== -/
theorem sI_op {o a b : Int32} (h : sI o a b) : ∃ n, n < 10 ∧ o = nI n := by
  rcases h with q | q | q | q | q | q
  · exact ⟨0, by omega, q⟩
  · rcases q.1 with q | q | q
    · exact ⟨1, by omega, q⟩
    · exact ⟨5, by omega, q⟩
    · exact ⟨8, by omega, q⟩
  · rcases q.1 with q | q
    · exact ⟨2, by omega, q⟩
    · exact ⟨3, by omega, q⟩
  · exact ⟨4, by omega, q.1⟩
  · exact ⟨6, by omega, q.1⟩
  · rcases q.1 with q | q
    · exact ⟨7, by omega, q⟩
    · exact ⟨9, by omega, q⟩
theorem sI_a {o a b : Int32} (h : sI o a b) (h0 : ¬ o = 0) (h6 : ¬ o = 6) : ∃ t, t < 4 ∧ a = nI t := by
  rcases h with q | q | q | q | q | q
  · exact absurd q h0
  · exact jN_of (n := 4) (by decide) q.2
  · exact jN_of (n := 4) (by decide) q.2.1
  · exact jN_of (n := 4) (by decide) q.2.1
  · exact absurd q.1 h6
  · exact jN_of (n := 4) (by decide) q.2.1
theorem sI_c {o a b : Int32} (h : sI o a b) (hc : o = 2 ∨ o = 3) : ∃ t, t < 16 ∧ b = nI t := jN_of (n := 16) (by decide) ((sI_23 hc).mp h).2
theorem sI_r {o a b : Int32} (h : sI o a b) (hc : o = 4) : ∃ t, t < 4 ∧ b = nI t := jN_of (n := 4) (by decide) ((sI_4 hc).mp h).2
theorem sI_6a {o a b : Int32} (h : sI o a b) (hc : o = 6) : ∃ t, t < 24 ∧ a = nI t := jN_of (n := 24) (by decide) ((sI_6 hc).mp h)
theorem sI_79b {o a b : Int32} (h : sI o a b) (hc : o = 7 ∨ o = 9) : ∃ t, t < 24 ∧ b = nI t := jN_of (n := 24) (by decide) ((sI_79 hc).mp h).2
theorem fit_of {f1 cd : Nat → Int32} {k1 nn : Nat} (S : RelS f1 k1 cd nn) : rFit cd nn := fun i hi => ⟨fun h => sI_6a (S.2.2.2 i hi) h, fun h => sI_79b (S.2.2.2 i hi) h⟩
theorem in_iff {x : Int32} {n t : Nat} (hn : n < 1000) (ht : t < 1000) (e : x = nI t) : jIn x (nI n) ↔ ¬ nI n ≤ x := by
  subst e
  exact ⟨fun h => h.2, fun h => ⟨nI_pos (by omega), h⟩⟩
theorem wh_iff {f1 cd : Nat → Int32} {k1 nn : Nat} (S : RelS f1 k1 cd nn) : clO f1 k1 ↔ rWh cd nn := by
  obtain ⟨rfl, hn, hf, hs⟩ := S
  have hh : ∀ i, i < k1 → (hA f1 k1 i ↔ rHA cd k1 i) := by
    intro i hi
    have e0 : f1 (i * 3) = cd (3 * i) := by rw [hf _ (by omega), Nat.mul_comm]
    have e1 : f1 (i * 3 + 1) = cd (3 * i + 1) := by rw [hf _ (by omega), Nat.mul_comm]
    have e2 : f1 (i * 3 + 2) = cd (3 * i + 2) := by rw [hf _ (by omega), Nat.mul_comm]
    unfold hA rHA
    rw [e0, e1, e2]
    constructor
    · intro h
      refine ⟨fun q => ?_, fun q => ?_⟩
      · exact (h.1 q.1).2 q.2
      · exact (h.2 q.1).2 q.2
    · intro h
      refine ⟨fun q => ?_, fun q => ?_⟩
      · obtain ⟨t, ht, et⟩ := sI_6a (hs i hi) q
        exact (in_iff (by omega) (by omega) et).mpr (fun z => h.1 ⟨q, z⟩)
      · obtain ⟨t, ht, et⟩ := sI_79b (hs i hi) q
        exact (in_iff (by omega) (by omega) et).mpr (fun z => h.2 ⟨q, z⟩)
  have hall : (∀ i, i < k1 → hA f1 k1 i) ↔ ∀ i, i < k1 → rHA cd k1 i := ⟨fun h i hi => (hh i hi).mp (h i hi), fun h i hi => (hh i hi).mpr (h i hi)⟩
  rcases Nat.eq_zero_or_pos k1 with z | z
  · subst z
    constructor
    · intro h
      have e : lst f1 0 = -9 := pGet_no (fun q => q.1.1 (by decide))
      have h1 := h.1
      rw [e] at h1
      exact absurd h1 (by decide)
    · intro h; exact absurd h.1 (by omega)
  · have e : lst f1 k1 = cd (3 * k1 - 3) := by
      unfold lst
      rw [show nI k1 - 1 = nI (k1 - 1) from pk_sub (a := k1) (b := 1) (by omega)]
      have := pGet_at (f := f1) (k := k1) (j := k1 - 1) (q := 0) (by omega) (by decide) (by omega)
      rw [hf _ (by omega), show (k1 - 1) * 3 + 0 = 3 * k1 - 3 by omega] at this
      exact this
    unfold clO rWh
    rw [e, hall]
    exact ⟨fun h => ⟨z, h.1, h.2⟩, fun h => ⟨h.2.1, h.2.2⟩⟩
theorem num_0 {tn jn : Nat → Int32} {ed : Nat} {ju en : Nat → Int32} (hC : Cls tn jn ed ju en) {t : Nat} (ht : t < 24) : tn t ≤ 0 ↔ tn t = 0 := by
  by_cases z : tn t = 0
  · rw [z]; exact ⟨fun _ => rfl, fun _ => Int32.le_refl 0⟩
  · obtain ⟨-, r, h1, h2, -⟩ := hC.2.1 t ht z
    refine ⟨fun h => ?_, fun h => absurd h z⟩
    rw [h2] at h
    exact absurd h (nI_nle (by omega) (by omega))
theorem pl_rel {f1 cd tn T : Nat → Int32} {nn : Nat} (hn : nn ≤ 24) (hf : ∀ j, j < 3 * nn → f1 j = cd j) (hT : ∀ t, t < 24 → T t = tn t) (h0 : ∀ t, t < 24 → (tn t ≤ 0 ↔ tn t = 0)) : ∀ i, i ≤ nn → plN f1 tn i = rPl cd T i := by
  intro i
  induction i with
  | zero => intro _; rfl
  | succ i ih =>
    intro hi
    show plN f1 tn i + 1 + (if tn i = 0 then 0 else 1) + (if f1 (i * 3) = 8 then 1 else 0) = rPl cd T i + 1 + (if T i ≤ 0 then 0 else 1) + (if cd (3 * i) = 8 then 1 else 0)
    have e0 : f1 (i * 3) = cd (3 * i) := by rw [hf _ (by omega), Nat.mul_comm]
    have e1 : (if tn i = 0 then 0 else 1) = (if T i ≤ 0 then 0 else 1) := by
      rw [hT i (by omega)]
      by_cases z : tn i = 0
      · rw [if_pos z, if_pos ((h0 i (by omega)).mpr z)]
      · rw [if_neg z, if_neg (fun q => z ((h0 i (by omega)).mp q))]
    rw [ih (by omega), e0, e1]
theorem app_rel {f c : Nat → Int32} {k : Nat} (h : ∀ j, j < 3 * k → f j = c (72 + j)) (x y z : Int32) : ∀ j, j < 3 * (k + 1) → pApp f k x y z j = rPut c k x y z (72 + j) := by
  intro j hj
  unfold pApp rPut upd
  by_cases q2 : j = k * 3 + 2
  · rw [if_pos q2, if_pos (show 72 + j = 74 + 3 * k by omega)]
  · rw [if_neg q2, if_neg (show ¬ 72 + j = 74 + 3 * k by omega)]
    by_cases q1 : j = k * 3 + 1
    · rw [if_pos q1, if_pos (show 72 + j = 73 + 3 * k by omega)]
    · rw [if_neg q1, if_neg (show ¬ 72 + j = 73 + 3 * k by omega)]
      by_cases q0 : j = k * 3
      · rw [if_pos q0, if_pos (show 72 + j = 72 + 3 * k by omega)]
      · rw [if_neg q0, if_neg (show ¬ 72 + j = 72 + 3 * k by omega)]; exact h j (by omega)
def gRel (g h : GS) : Prop := g.1 = h.1 ∧ ∀ j, j < 3 * g.1 → g.2 j = h.2 (72 + j)
theorem gRel_app {g h : GS} (R : gRel g h) (x y z : Int32) : gRel (g.1 + 1, pApp g.2 g.1 x y z) (h.1 + 1, rPut h.2 h.1 x y z) := by
  obtain ⟨e, R⟩ := R
  refine ⟨by show g.1 + 1 = h.1 + 1; rw [e], ?_⟩
  show ∀ j, j < 3 * (g.1 + 1) → pApp g.2 g.1 x y z j = rPut h.2 h.1 x y z (72 + j)
  rw [← e]
  exact app_rel R x y z
theorem gA_rel {f1 cd tn jn T J P F : Nat → Int32} {nn i : Nat} (hn : nn ≤ 24) (hi : i < nn) (hf : ∀ j, j < 3 * nn → f1 j = cd j) (hT : ∀ t, t < 24 → T t = tn t) (hJ : ∀ t, t < 24 → J t = jn t) (h0 : ∀ t, t < 24 → (tn t ≤ 0 ↔ tn t = 0)) (hP : ∀ t, t < nn → P t = F t) (hs : sI (cd (3 * i)) (cd (3 * i + 1)) (cd (3 * i + 2))) (hh : hA f1 nn i) {g h : GS} (R : gRel g h) (hlow : ∀ j, j < 72 → h.2 j = cd j) : gRel (gA f1 tn jn P i g) (rA T J F i h) := by
  have e0 : f1 (i * 3) = cd (3 * i) := by rw [hf _ (by omega), Nat.mul_comm]
  have e1 : f1 (i * 3 + 1) = cd (3 * i + 1) := by rw [hf _ (by omega), Nat.mul_comm]
  have e2 : f1 (i * 3 + 2) = cd (3 * i + 2) := by rw [hf _ (by omega), Nat.mul_comm]
  unfold hA at hh
  rw [e0, e1, e2] at hh
  unfold gA rA
  rw [hlow (3 * i) (by omega), hlow (3 * i + 1) (by omega), hlow (3 * i + 2) (by omega)]
  have R1 : gRel (gA1 tn i g) (rA1 T i h) := by
    unfold gA1 rA1
    rw [hT i (by omega)]
    by_cases z : tn i = 0
    · rw [if_pos z, if_pos ((h0 i (by omega)).mpr z)]; exact R
    · rw [if_neg z, if_neg (fun q => z ((h0 i (by omega)).mp q))]; exact gRel_app R _ _ _
  have R2 : gRel (gA2 f1 jn i (gA1 tn i g)) (rA2 (cd (3 * i)) (cd (3 * i + 1)) (J i) (rA1 T i h)) := by
    unfold gA2 rA2
    rw [hJ i (by omega), e0, e1]
    by_cases z : cd (3 * i) = 8
    · rw [if_pos z, if_pos z]; exact gRel_app R1 _ _ _
    · rw [if_neg z, if_neg z]; exact R1
  generalize gA2 f1 jn i (gA1 tn i g) = g2 at R2 ⊢
  generalize rA2 (cd (3 * i)) (cd (3 * i + 1)) (J i) (rA1 T i h) = h2 at R2 ⊢
  unfold gA3 rA3 gX gY
  rw [e0, e1, e2]
  by_cases z6 : cd (3 * i) = 6
  · have n79 : ¬ (cd (3 * i) = 7 ∨ cd (3 * i) = 9) := by rw [z6]; decide
    rw [if_pos z6, if_neg n79, if_pos z6]
    obtain ⟨t, ht, et⟩ := jN_of (n := nn) (by omega) (hh.1 z6)
    rw [et, pPl_n (by omega), hP t ht, nI_clamp (by omega)]
    exact gRel_app R2 _ _ _
  · rw [if_neg z6, if_neg z6]
    by_cases z79 : cd (3 * i) = 7 ∨ cd (3 * i) = 9
    · rw [if_pos z79, if_pos z79]
      obtain ⟨t, ht, et⟩ := jN_of (n := nn) (by omega) (hh.2 z79)
      rw [et, pPl_n (by omega), hP t ht, nI_clamp (by omega)]
      exact gRel_app R2 _ _ _
    · rw [if_neg z79, if_neg z79]
      exact gRel_app R2 _ _ _
theorem gN_rel {f1 cd tn jn T J P F f2 : Nat → Int32} {nn : Nat} (hn : nn ≤ 24) (hf : ∀ j, j < 3 * nn → f1 j = cd j) (hT : ∀ t, t < 24 → T t = tn t) (hJ : ∀ t, t < 24 → J t = jn t) (h0 : ∀ t, t < 24 → (tn t ≤ 0 ↔ tn t = 0)) (hP : ∀ t, t < nn → P t = F t) (hs : ∀ i, i < nn → sI (cd (3 * i)) (cd (3 * i + 1)) (cd (3 * i + 2))) (hh : ∀ i, i < nn → hA f1 nn i) : ∀ i, i ≤ nn → gRel (gN f1 tn jn P f2 i) (rN cd T J F i) := by
  intro i
  induction i with
  | zero => intro _; exact ⟨rfl, fun j hj => absurd hj (by show ¬ j < 3 * 0; omega)⟩
  | succ i ih =>
    intro hi
    exact gA_rel hn (by omega) hf hT hJ h0 hP (hs i (by omega)) (hh i (by omega)) (ih (by omega)) (fun j hj => rN_low cd T J F i hj)
/-- an instruction of the guarded program, its addresses as places -/
def okI (nn : Nat) (pl : Nat → Nat) (x a b : Int32) : Prop := ∃ o, o < 12 ∧ x = nI o ∧ (o = 6 → ∃ t, t < nn ∧ a = nI (pl t)) ∧ (o = 7 → ∃ t, t < nn ∧ b = nI (pl t)) ∧ (o ≠ 0 → o ≠ 6 → o ≠ 10 → ∃ t, t < 4 ∧ a = nI t) ∧ (o = 2 ∨ o = 3 → ∃ t, t < 16 ∧ b = nI t) ∧ (o = 4 → ∃ t, t < 4 ∧ b = nI t)
def okG (nn : Nat) (pl : Nat → Nat) (g : GS) : Prop := ∀ p, p < g.1 → okI nn pl (g.2 (p * 3)) (g.2 (p * 3 + 1)) (g.2 (p * 3 + 2))
theorem pApp_new (f : Nat → Int32) (k : Nat) (x y z : Int32) : pApp f k x y z (k * 3) = x ∧ pApp f k x y z (k * 3 + 1) = y ∧ pApp f k x y z (k * 3 + 2) = z := by
  unfold pApp upd
  refine ⟨?_, ?_, ?_⟩
  · rw [if_neg (by omega), if_neg (by omega), if_pos rfl]
  · rw [if_neg (by omega), if_pos rfl]
  · rw [if_pos rfl]
theorem pApp_old {f : Nat → Int32} {k j : Nat} {x y z : Int32} (h : j < k * 3) : pApp f k x y z j = f j := by
  unfold pApp upd
  rw [if_neg (by omega), if_neg (by omega), if_neg (by omega)]
theorem okG_app {nn : Nat} {pl : Nat → Nat} {g : GS} {x y z : Int32} (h : okG nn pl g) (hx : okI nn pl x y z) : okG nn pl (g.1 + 1, pApp g.2 g.1 x y z) := by
  intro p hp
  have hp2 : p < g.1 + 1 := hp
  dsimp only
  by_cases q : p = g.1
  · subst q
    obtain ⟨a, b, c⟩ := pApp_new g.2 g.1 x y z
    rw [a, b, c]; exact hx
  · rw [pApp_old (by omega), pApp_old (by omega), pApp_old (by omega)]
    exact h p (by omega)
theorem okG_gA {f1 tn jn P : Nat → Int32} {nn i : Nat} {pl : Nat → Nat} (hn : nn ≤ 24) (hP : ∀ t, t < nn → P t = nI (pl t)) (hs : sI (f1 (i * 3)) (f1 (i * 3 + 1)) (f1 (i * 3 + 2))) (hh : hA f1 nn i) {g : GS} (h : okG nn pl g) : okG nn pl (gA f1 tn jn P i g) := by
  have h1 : okG nn pl (gA1 tn i g) := by
    unfold gA1
    by_cases z : tn i = 0
    · rw [if_pos z]; exact h
    · rw [if_neg z]
      exact okG_app h ⟨10, by omega, rfl, fun q => absurd q (by omega), fun q => absurd q (by omega), fun _ _ q => absurd rfl q, fun q => absurd q (by omega), fun q => absurd q (by omega)⟩
  have h2 : okG nn pl (gA2 f1 jn i (gA1 tn i g)) := by
    unfold gA2
    by_cases z : f1 (i * 3) = 8
    · rw [if_pos z]
      exact okG_app h1 ⟨11, by omega, rfl, fun q => absurd q (by omega), fun q => absurd q (by omega), fun _ _ _ => sI_a hs (by rw [z]; decide) (by rw [z]; decide), fun q => absurd q (by omega), fun q => absurd q (by omega)⟩
    · rw [if_neg z]; exact h1
  unfold gA
  generalize gA2 f1 jn i (gA1 tn i g) = g2 at h2 ⊢
  unfold gA3
  refine okG_app h2 ?_
  obtain ⟨o, ho, eo⟩ := sI_op hs
  have lit : ∀ m : Nat, m < 12 → (f1 (i * 3) = nI m ↔ o = m) := by
    intro m hm; rw [eo]; exact nI_eq (by omega) (by omega)
  refine ⟨o, by omega, eo, ?_, ?_, ?_, ?_, ?_⟩
  · intro q
    have z : f1 (i * 3) = 6 := (lit 6 (by omega)).mpr q
    obtain ⟨t, ht, et⟩ := jN_of (n := nn) (by omega) (hh.1 z)
    refine ⟨t, ht, ?_⟩
    unfold gX
    rw [if_pos z, et, pPl_n (by omega), hP t ht]
  · intro q
    have z : f1 (i * 3) = 7 := (lit 7 (by omega)).mpr q
    obtain ⟨t, ht, et⟩ := jN_of (n := nn) (by omega) (hh.2 (Or.inl z))
    refine ⟨t, ht, ?_⟩
    unfold gY
    rw [if_pos (Or.inl z), et, pPl_n (by omega), hP t ht]
  · intro q0 q6 _
    have z0 : ¬ f1 (i * 3) = 0 := fun z => q0 ((lit 0 (by omega)).mp z)
    have z6 : ¬ f1 (i * 3) = 6 := fun z => q6 ((lit 6 (by omega)).mp z)
    unfold gX
    rw [if_neg z6]
    exact sI_a hs z0 z6
  · intro q
    have z : f1 (i * 3) = 2 ∨ f1 (i * 3) = 3 := q.elim (fun q => Or.inl ((lit 2 (by omega)).mpr q)) (fun q => Or.inr ((lit 3 (by omega)).mpr q))
    have n79 : ¬ (f1 (i * 3) = 7 ∨ f1 (i * 3) = 9) := by rcases z with z | z <;> (rw [z]; decide)
    unfold gY
    rw [if_neg n79]
    exact sI_c hs z
  · intro q
    have z : f1 (i * 3) = 4 := (lit 4 (by omega)).mpr q
    have n79 : ¬ (f1 (i * 3) = 7 ∨ f1 (i * 3) = 9) := by rw [z]; decide
    unfold gY
    rw [if_neg n79]
    exact sI_r hs z
theorem gA_last (f1 tn jn P : Nat → Int32) (i : Nat) (g : GS) : ∃ m, (gA f1 tn jn P i g).1 = m + 1 ∧ (gA f1 tn jn P i g).2 (m * 3) = f1 (i * 3) := by
  unfold gA gA3
  exact ⟨(gA2 f1 jn i (gA1 tn i g)).1, rfl, (pApp_new _ _ _ _ _).1⟩
theorem plN_lt (f tn : Nat → Int32) {a b : Nat} (h : a < b) : plN f tn a < plN f tn b := by
  induction b with
  | zero => exact absurd h (by omega)
  | succ b ih =>
    have e : plN f tn (b + 1) = plN f tn b + 1 + (if tn b = 0 then 0 else 1) + (if f (b * 3) = 8 then 1 else 0) := rfl
    by_cases q : a = b
    · subst q; rw [e]; omega
    · have := ih (by omega); rw [e]; omega
theorem wf_guarded {f1 tn jn P f2 : Nat → Int32} {nn : Nat} (hn : nn ≤ 24) (hP : ∀ t, t < nn → P t = nI (plN f1 tn t)) (hs : ∀ i, i < nn → sI (f1 (i * 3)) (f1 (i * 3 + 1)) (f1 (i * 3 + 2))) (hc : clO f1 nn) : mWF (gN f1 tn jn P f2 nn).2 (gN f1 tn jn P f2 nn).1 := by
  have ok : ∀ i, i ≤ nn → okG nn (plN f1 tn) (gN f1 tn jn P f2 i) := by
    intro i
    induction i with
    | zero => intro _ p hp; exact absurd hp (by show ¬ p < 0; omega)
    | succ i ih => intro hi; exact okG_gA hn hP (hs i (by omega)) (hc.2 i (by omega)) (ih (by omega))
  have e1 := gN_1 f1 tn jn P f2 nn
  have le := plN_le f1 tn nn
  refine ⟨by omega, fun p hp => ?_⟩
  obtain ⟨o, h1, h2, h3, h4, h5, h6, h7⟩ := ok nn (Nat.le_refl _) p hp
  refine ⟨o, h1, h2, ?_, ?_, ?_, h5, h6, h7⟩
  · intro q
    obtain ⟨t, ht, et⟩ := h3 q
    exact ⟨plN f1 tn t, by rw [e1]; exact plN_lt f1 tn ht, et⟩
  · intro q
    obtain ⟨t, ht, et⟩ := h4 q
    exact ⟨plN f1 tn t, by rw [e1]; exact plN_lt f1 tn ht, et⟩
  · intro q0 q6 q8
    rcases Nat.eq_zero_or_pos nn with z | z
    · subst z; exact absurd hp (by show ¬ p < 0; omega)
    · obtain ⟨n, rfl⟩ : ∃ n, nn = n + 1 := ⟨nn - 1, by omega⟩
      obtain ⟨m, em, el⟩ := gA_last f1 tn jn P n (gN f1 tn jn P f2 n)
      have em2 : (gN f1 tn jn P f2 (n + 1)).1 = m + 1 := em
      have el2 : (gN f1 tn jn P f2 (n + 1)).2 (m * 3) = f1 (n * 3) := el
      by_cases q : p = m
      · subst q
        have e : lst f1 (n + 1) = f1 (n * 3) := by
          unfold lst
          rw [show nI (n + 1) - 1 = nI n from nI_pred n]
          exact pGet_at (f := f1) (k := n + 1) (j := n) (q := 0) (by omega) (by decide) (by omega)
        have hl := hc.1
        rw [e, ← el2, h2] at hl
        rcases hl with w | w | w
        · exact absurd ((nI_eq (b := 0) (by omega) (by decide)).mp w) q0
        · exact absurd ((nI_eq (b := 6) (by omega) (by decide)).mp w) q6
        · exact absurd ((nI_eq (b := 8) (by omega) (by decide)).mp w) q8
      · omega
theorem wf_source {f1 : Nat → Int32} {nn : Nat} (hn : nn ≤ 24) (hs : ∀ i, i < nn → sI (f1 (i * 3)) (f1 (i * 3 + 1)) (f1 (i * 3 + 2))) (hc : clO f1 nn) : mWF f1 nn := by
  refine ⟨by omega, fun i hi => ?_⟩
  obtain ⟨o, ho, eo⟩ := sI_op (hs i hi)
  have lit : ∀ m : Nat, m < 12 → (f1 (i * 3) = nI m ↔ o = m) := by
    intro m hm; rw [eo]; exact nI_eq (by omega) (by omega)
  refine ⟨o, by omega, eo, ?_, ?_, ?_, ?_, ?_, ?_⟩
  · intro q; exact jN_of (n := nn) (by omega) ((hc.2 i hi).1 ((lit 6 (by omega)).mpr q))
  · intro q; exact jN_of (n := nn) (by omega) ((hc.2 i hi).2 (Or.inl ((lit 7 (by omega)).mpr q)))
  · intro q0 q6 q8
    by_cases q : i + 1 < nn
    · exact q
    · have e : lst f1 nn = f1 (i * 3) := by
        unfold lst
        rw [show nn = i + 1 by omega, show nI (i + 1) - 1 = nI i from nI_pred i]
        exact pGet_at (f := f1) (k := i + 1) (j := i) (q := 0) (by omega) (by decide) (by omega)
      have hl := hc.1
      rw [e] at hl
      rcases hl with w | w | w
      · exact absurd ((lit 0 (by omega)).mp w) q0
      · exact absurd ((lit 6 (by omega)).mp w) q6
      · exact absurd ((lit 8 (by omega)).mp w) q8
  · intro q0 q6 _
    exact sI_a (hs i hi) (fun z => q0 ((lit 0 (by omega)).mp z)) (fun z => q6 ((lit 6 (by omega)).mp z))
  · intro q
    exact sI_c (hs i hi) (q.elim (fun q => Or.inl ((lit 2 (by omega)).mpr q)) (fun q => Or.inr ((lit 3 (by omega)).mpr q)))
  · intro q; exact sI_r (hs i hi) ((lit 4 (by omega)).mpr q)
