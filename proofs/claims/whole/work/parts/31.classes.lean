/-! ===== the reference's hundred rounds come to the classes' numbers ===== -/
def cnt (p : Nat → Bool) : Nat → Nat
  | 0 => 0
  | n + 1 => cnt p n + (if p n = true then 1 else 0)
theorem cnt_le_n (p : Nat → Bool) (n : Nat) : cnt p n ≤ n := by
  induction n with
  | zero => exact Nat.le_refl 0
  | succ n ih => show cnt p n + (if p n = true then 1 else 0) ≤ n + 1; split <;> omega
theorem cnt_mono {p q : Nat → Bool} {n : Nat} (h : ∀ i, i < n → p i = true → q i = true) : cnt p n ≤ cnt q n := by
  induction n with
  | zero => exact Nat.le_refl 0
  | succ n ih =>
    have := ih (fun i hi => h i (by omega))
    show cnt p n + (if p n = true then 1 else 0) ≤ cnt q n + (if q n = true then 1 else 0)
    by_cases e : p n = true
    · rw [if_pos e, if_pos (h n (by omega) e)]; omega
    · rw [if_neg e]; omega
theorem cnt_lt {p q : Nat → Bool} {n : Nat} (h : ∀ i, i < n → p i = true → q i = true) (i : Nat) (hi : i < n) (hq : q i = true) (hp : ¬ p i = true) : cnt p n < cnt q n := by
  induction n with
  | zero => exact absurd hi (by omega)
  | succ n ih =>
    show cnt p n + (if p n = true then 1 else 0) < cnt q n + (if q n = true then 1 else 0)
    by_cases e : i = n
    · subst e
      have := cnt_mono (p := p) (q := q) (n := i) (fun j hj => h j (by omega))
      rw [if_neg hp, if_pos hq]; omega
    · have := ih (fun j hj => h j (by omega)) (by omega)
      by_cases e : p n = true
      · rw [if_pos e, if_pos (h n (by omega) e)]; omega
      · rw [if_neg e]; omega
section CLS
variable {tn jn : Nat → Int32} {ed : Nat} {ju en : Nat → Int32}
/-- never below the numbers; nothing where there is none -/
def cLo (tn jn : Nat → Int32) (x : TJ) : Prop := (∀ t, t < 24 → (tn t = 0 → x.1 t = 0) ∧ (¬ tn t = 0 → tn t ≤ x.1 t)) ∧ (∀ j, j < 24 → (jn j = 0 → x.2 j = 0) ∧ (¬ jn j = 0 → jn j ≤ x.2 j))
theorem jMn_ge {a b c : Int32} (h1 : a ≤ b) (h2 : a ≤ c) : a ≤ jMn b c := by unfold jMn; split <;> assumption
theorem jMn_eqL {a b : Int32} (h : a ≤ b) : jMn a b = a := by
  unfold jMn
  by_cases q : a < b
  · rw [if_pos q]
  · rw [if_neg q]; exact Int32.le_antisymm (Int32.not_lt.mp q) h
theorem jMn_eqR {a b : Int32} (h : b ≤ a) : jMn a b = b := by
  unfold jMn; rw [if_neg (Int32.not_lt.mpr h)]
theorem cX_lo (hE : rEd ju en ed) (hC : Cls tn jn ed ju en) {k : Nat} (hk : k < ed) {x : TJ} (h : cLo tn jn x) : cLo tn jn (cX ju en k x) := by
  obtain ⟨⟨j, hj, ej⟩, t, ht, et⟩ := hE k hk
  rw [← cX_at hj ht ej et rfl]
  obtain ⟨e1, e2⟩ := hC.1 k hk j t hj ht ej et
  have e3 : ¬ jn j = 0 := by rw [← e1]; exact e2
  have b1 := (h.1 t ht).2 e2
  have b2 := (h.2 j hj).2 e3
  have b3 : tn t ≤ jMn (x.2 j) (x.1 t) := jMn_ge (by rw [e1]; exact b2) b1
  refine ⟨fun t' ht' => ?_, fun j' hj' => ?_⟩
  · by_cases q : t' = t
    · subst q; dsimp only; rw [pk_us]; exact ⟨fun z => absurd z e2, fun _ => b3⟩
    · dsimp only; rw [pk_un q]; exact h.1 t' ht'
  · by_cases q : j' = j
    · subst q; dsimp only; rw [pk_us]; exact ⟨fun z => absurd z e3, fun _ => by rw [← e1]; exact b3⟩
    · dsimp only; rw [pk_un q]; exact h.2 j' hj'
theorem cE_lo (hE : rEd ju en ed) (hC : Cls tn jn ed ju en) {x : TJ} (h : cLo tn jn x) : ∀ k, k ≤ ed → cLo tn jn (cE ju en k x) := by
  intro k
  induction k with
  | zero => intro _; exact h
  | succ k ih => intro hk; exact cX_lo hE hC (by omega) (ih (by omega))
/-- what has come to its number stays -/
theorem cX_st (hE : rEd ju en ed) (hC : Cls tn jn ed ju en) {k : Nat} (hk : k < ed) {x : TJ} (h : cLo tn jn x) : (∀ t, t < 24 → x.1 t = tn t → (cX ju en k x).1 t = tn t) ∧ (∀ j, j < 24 → x.2 j = jn j → (cX ju en k x).2 j = jn j) := by
  obtain ⟨⟨j, hj, ej⟩, t, ht, et⟩ := hE k hk
  rw [← cX_at hj ht ej et rfl]
  obtain ⟨e1, e2⟩ := hC.1 k hk j t hj ht ej et
  have e3 : ¬ jn j = 0 := by rw [← e1]; exact e2
  have b1 := (h.1 t ht).2 e2
  have b2 := (h.2 j hj).2 e3
  refine ⟨fun t' ht' q => ?_, fun j' hj' q => ?_⟩
  · dsimp only
    by_cases z : t' = t
    · subst z; rw [pk_us, q, jMn_eqR (by rw [e1]; exact b2)]
    · rw [pk_un z]; exact q
  · dsimp only
    by_cases z : j' = j
    · subst z; rw [pk_us, q, jMn_eqL (by rw [← e1]; exact b1)]
    · rw [pk_un z]; exact q
theorem cX_do (hE : rEd ju en ed) (hC : Cls tn jn ed ju en) {k : Nat} (hk : k < ed) {x : TJ} (h : cLo tn jn x) {j t : Nat} (hj : j < 24) (ht : t < 24) (ej : ju k = nI j) (et : en k = nI t) (q : x.1 t = tn t ∨ x.2 j = jn j) : (cX ju en k x).1 t = tn t ∧ (cX ju en k x).2 j = jn j := by
  rw [← cX_at hj ht ej et rfl]
  obtain ⟨e1, e2⟩ := hC.1 k hk j t hj ht ej et
  have e3 : ¬ jn j = 0 := by rw [← e1]; exact e2
  have b1 := (h.1 t ht).2 e2
  have b2 := (h.2 j hj).2 e3
  dsimp only
  rw [pk_us, pk_us]
  rcases q with q | q
  · rw [q, jMn_eqR (by rw [e1]; exact b2)]; exact ⟨rfl, e1⟩
  · rw [q, jMn_eqL (by rw [← e1]; exact b1)]; exact ⟨e1.symm, rfl⟩
theorem cE_st (hE : rEd ju en ed) (hC : Cls tn jn ed ju en) {x : TJ} (h : cLo tn jn x) : ∀ k, k ≤ ed → (∀ t, t < 24 → x.1 t = tn t → (cE ju en k x).1 t = tn t) ∧ (∀ j, j < 24 → x.2 j = jn j → (cE ju en k x).2 j = jn j) := by
  intro k
  induction k with
  | zero => intro _; exact ⟨fun _ _ q => q, fun _ _ q => q⟩
  | succ k ih =>
    intro hk
    have a := ih (by omega)
    have b := cX_st hE hC (k := k) (by omega) (cE_lo hE hC h k (by omega))
    exact ⟨fun t ht q => b.1 t ht (a.1 t ht q), fun j hj q => b.2 j hj (a.2 j hj q)⟩
theorem cE_do (hE : rEd ju en ed) (hC : Cls tn jn ed ju en) {x : TJ} (h : cLo tn jn x) {k : Nat} {j t : Nat} (hj : j < 24) (ht : t < 24) (ej : ju k = nI j) (et : en k = nI t) (q : x.1 t = tn t ∨ x.2 j = jn j) : ∀ m, k < m → m ≤ ed → (cE ju en m x).1 t = tn t ∧ (cE ju en m x).2 j = jn j := by
  intro m
  induction m with
  | zero => intro h1; exact absurd h1 (by omega)
  | succ m ih =>
    intro h1 h2
    have lo := cE_lo hE hC h m (by omega)
    by_cases z : k = m
    · subst z
      have s := cE_st hE hC h k (by omega)
      exact cX_do hE hC (by omega) lo hj ht ej et (q.elim (fun q => Or.inl (s.1 t ht q)) (fun q => Or.inr (s.2 j hj q)))
    · have a := ih (by omega) (by omega)
      have b := cX_st hE hC (k := m) (by omega) lo
      exact ⟨b.1 t ht a.1, b.2 j hj a.2⟩
/-- how many have come to their numbers -/
def cN (tn jn : Nat → Int32) (x : TJ) : Nat := cnt (fun t => decide (x.1 t = tn t)) 24 + cnt (fun j => decide (x.2 j = jn j)) 24
def cAll (tn jn : Nat → Int32) (x : TJ) : Prop := (∀ t, t < 24 → x.1 t = tn t) ∧ ∀ j, j < 24 → x.2 j = jn j
def cRoot (tn : Nat → Int32) (x : TJ) : Prop := ∀ r, r < 24 → tn r = nI (r + 1) → x.1 r = tn r
theorem cE_more (hE : rEd ju en ed) (hC : Cls tn jn ed ju en) {x : TJ} (h : cLo tn jn x) (hr : cRoot tn x) : cAll tn jn x ∨ cN tn jn x < cN tn jn (cE ju en ed x) := by
  have s := cE_st hE hC h ed (Nat.le_refl _)
  have m1 : ∀ i, i < 24 → decide (x.1 i = tn i) = true → decide ((cE ju en ed x).1 i = tn i) = true := fun i hi q => decide_eq_true (s.1 i hi (of_decide_eq_true q))
  have m2 : ∀ i, i < 24 → decide (x.2 i = jn i) = true → decide ((cE ju en ed x).2 i = jn i) = true := fun i hi q => decide_eq_true (s.2 i hi (of_decide_eq_true q))
  have c1 := cnt_mono m1
  have c2 := cnt_mono m2
  by_cases n1 : ∃ i, i < 24 ∧ (cE ju en ed x).1 i = tn i ∧ ¬ x.1 i = tn i
  · right
    obtain ⟨i, hi, a, b⟩ := n1
    have := cnt_lt m1 i hi (decide_eq_true a) (fun z => b (of_decide_eq_true z))
    unfold cN; omega
  · by_cases n2 : ∃ i, i < 24 ∧ (cE ju en ed x).2 i = jn i ∧ ¬ x.2 i = jn i
    · right
      obtain ⟨i, hi, a, b⟩ := n2
      have := cnt_lt m2 i hi (decide_eq_true a) (fun z => b (of_decide_eq_true z))
      unfold cN; omega
    · left
      have u1 : ∀ i, i < 24 → (cE ju en ed x).1 i = tn i → x.1 i = tn i := fun i hi a => Decidable.byContradiction (fun b => n1 ⟨i, hi, a, b⟩)
      have u2 : ∀ i, i < 24 → (cE ju en ed x).2 i = jn i → x.2 i = jn i := fun i hi a => Decidable.byContradiction (fun b => n2 ⟨i, hi, a, b⟩)
      have cl : eCl ed ju en (fun t => x.1 t = tn t) (fun j => x.2 j = jn j) := by
        intro k hk j t hj ht ej et
        constructor
        · intro q; exact u2 j hj (cE_do hE hC h hj ht ej et (Or.inl q) ed hk (Nat.le_refl _)).2
        · intro q; exact u1 t ht (cE_do hE hC h hj ht ej et (Or.inr q) ed hk (Nat.le_refl _)).1
      have allT : ∀ t, t < 24 → x.1 t = tn t := by
        intro t ht
        by_cases z : tn t = 0
        · rw [z]; exact (h.1 t ht).1 z
        · obtain ⟨-, r, hr1, hr2, hr3, hr4⟩ := hC.2.1 t ht z
          exact hr4 _ _ cl (hr r (by omega) hr3)
      refine ⟨allT, fun j hj => ?_⟩
      by_cases z : jn j = 0
      · rw [z]; exact (h.2 j hj).1 z
      · obtain ⟨k, hk, ek⟩ := hC.2.2 j hj z
        obtain ⟨-, t, ht, et⟩ := hE k hk
        exact (cl k hk j t hj ht ek et).mp (allT t ht)
theorem cR_all (hE : rEd ju en ed) (hC : Cls tn jn ed ju en) {x : TJ} (h : cLo tn jn x) (hr : cRoot tn x) : ∀ r, cLo tn jn (cR ju en ed r x) ∧ cRoot tn (cR ju en ed r x) ∧ (cAll tn jn (cR ju en ed r x) ∨ r ≤ cN tn jn (cR ju en ed r x)) := by
  intro r
  induction r with
  | zero => exact ⟨h, hr, Or.inr (Nat.zero_le _)⟩
  | succ r ih =>
    obtain ⟨a, b, c⟩ := ih
    have s := cE_st hE hC a ed (Nat.le_refl _)
    refine ⟨cE_lo hE hC a ed (Nat.le_refl _), fun q hq e => s.1 q hq (b q hq e), ?_⟩
    rcases c with c | c
    · exact Or.inl ⟨fun t ht => s.1 t ht (c.1 t ht), fun j hj => s.2 j hj (c.2 j hj)⟩
    · rcases cE_more hE hC a b with d | d
      · exact Or.inl ⟨fun t ht => s.1 t ht (d.1 t ht), fun j hj => s.2 j hj (d.2 j hj)⟩
      · right
        show r + 1 ≤ cN tn jn (cE ju en ed (cR ju en ed r x))
        omega
theorem cN_le (x : TJ) : cN tn jn x ≤ 48 := by
  have a := cnt_le_n (fun t => decide (x.1 t = tn t)) 24
  have b := cnt_le_n (fun j => decide (x.2 j = jn j)) 24
  unfold cN; omega
/-- the start of the rounds -/
theorem cI_is (hE : rEd ju en ed) {x : TJ} : ∀ k, k ≤ ed → (∀ t, t < 24 → (cI ju en k x).1 t = if ∃ q, q < k ∧ en q = nI t then nI (t + 1) else x.1 t) ∧ (∀ j, j < 24 → (cI ju en k x).2 j = if ∃ q, q < k ∧ ju q = nI j then 99 else x.2 j) := by
  intro k
  induction k with
  | zero => intro _; exact ⟨fun t _ => by rw [if_neg (fun z => by obtain ⟨q, hq, -⟩ := z; omega)]; rfl, fun t _ => by rw [if_neg (fun z => by obtain ⟨q, hq, -⟩ := z; omega)]; rfl⟩
  | succ k ih =>
    intro hk
    obtain ⟨a, b⟩ := ih (by omega)
    obtain ⟨⟨j, hj, ej⟩, t, ht, et⟩ := hE k (by omega)
    have e : cI ju en (k + 1) x = (upd (cI ju en k x).1 t (en k + 1), upd (cI ju en k x).2 j 99) := (cS_at hj ht ej et).symm
    rw [e]
    refine ⟨fun t' ht' => ?_, fun j' hj' => ?_⟩
    · dsimp only
      by_cases z : t' = t
      · subst z; rw [pk_us, if_pos ⟨k, by omega, et⟩, et, jn_a1]
      · rw [pk_un z, a t' ht']
        by_cases y : ∃ q, q < k ∧ en q = nI t'
        · obtain ⟨q, hq, eq⟩ := y
          rw [if_pos ⟨q, hq, eq⟩, if_pos ⟨q, by omega, eq⟩]
        · rw [if_neg y, if_neg (fun w => by
            obtain ⟨q, hq, eq⟩ := w
            by_cases v : q = k
            · subst v; rw [et] at eq; exact z ((nI_eq (by omega) (by omega)).mp eq).symm
            · exact y ⟨q, by omega, eq⟩)]
    · dsimp only
      by_cases z : j' = j
      · subst z; rw [pk_us, if_pos ⟨k, by omega, ej⟩]
      · rw [pk_un z, b j' hj']
        by_cases y : ∃ q, q < k ∧ ju q = nI j'
        · obtain ⟨q, hq, eq⟩ := y
          rw [if_pos ⟨q, hq, eq⟩, if_pos ⟨q, by omega, eq⟩]
        · rw [if_neg y, if_neg (fun w => by
            obtain ⟨q, hq, eq⟩ := w
            by_cases v : q = k
            · subst v; rw [ej] at eq; exact z ((nI_eq (by omega) (by omega)).mp eq).symm
            · exact y ⟨q, by omega, eq⟩)]
theorem cls_is (hE : rEd ju en ed) (hC : Cls tn jn ed ju en) (ot oj : Nat → Int32) : cAll tn jn (cls ju en ot oj ed) := by
  obtain ⟨a, b⟩ := cI_is hE (x := (jFill ot 0 24, jFill oj 0 24)) ed (Nat.le_refl _)
  have f1 : ∀ t, t < 24 → jFill ot 0 24 t = 0 := fun t ht => by unfold jFill; rw [if_pos ht]
  have f2 : ∀ t, t < 24 → jFill oj 0 24 t = 0 := fun t ht => by unfold jFill; rw [if_pos ht]
  have tgt : ∀ t, t < 24 → (∃ q, q < ed ∧ en q = nI t) → ¬ tn t = 0 := by
    intro t ht w
    obtain ⟨q, hq, eq⟩ := w
    obtain ⟨⟨j, hj, ej⟩, -⟩ := hE q hq
    exact (hC.1 q hq j t hj ht ej eq).2
  have jmp : ∀ j, j < 24 → (∃ q, q < ed ∧ ju q = nI j) → ∃ t, t < 24 ∧ tn t = jn j ∧ ¬ jn j = 0 := by
    intro j hj w
    obtain ⟨q, hq, eq⟩ := w
    obtain ⟨-, t, ht, et⟩ := hE q hq
    obtain ⟨e1, e2⟩ := hC.1 q hq j t hj ht eq et
    exact ⟨t, ht, e1, by rw [← e1]; exact e2⟩
  have num : ∀ t, t < 24 → ¬ tn t = 0 → ∃ r, r ≤ t ∧ tn t = nI (r + 1) := fun t ht z => by
    obtain ⟨-, r, h1, h2, -⟩ := hC.2.1 t ht z
    exact ⟨r, h1, h2⟩
  have lo : cLo tn jn (cI ju en ed (jFill ot 0 24, jFill oj 0 24)) := by
    refine ⟨fun t ht => ?_, fun j hj => ?_⟩
    · rw [a t ht]
      by_cases w : ∃ q, q < ed ∧ en q = nI t
      · rw [if_pos w]
        refine ⟨fun z => absurd z (tgt t ht w), fun z => ?_⟩
        obtain ⟨r, h1, h2⟩ := num t ht z
        rw [h2]; exact nI_le (by omega) (by omega)
      · rw [if_neg w]
        refine ⟨fun _ => f1 t ht, fun z => absurd (hC.2.1 t ht z).1 w⟩
    · rw [b j hj]
      by_cases w : ∃ q, q < ed ∧ ju q = nI j
      · rw [if_pos w]
        obtain ⟨t, ht, e1, e2⟩ := jmp j hj w
        refine ⟨fun z => absurd z e2, fun _ => ?_⟩
        obtain ⟨r, h1, h2⟩ := num t ht (by rw [e1]; exact e2)
        rw [← e1, h2]
        exact nI_le (b := 99) (by omega) (by decide)
      · rw [if_neg w]
        exact ⟨fun _ => f2 j hj, fun z => absurd (hC.2.2 j hj z) w⟩
  have rt : cRoot tn (cI ju en ed (jFill ot 0 24, jFill oj 0 24)) := by
    intro r hr e
    have nz : ¬ tn r = 0 := by rw [e]; exact nI_ne0 (by omega) (by omega)
    rw [a r hr, if_pos (hC.2.1 r hr nz).1, e]
  obtain ⟨-, -, q⟩ := cR_all hE hC lo rt 100
  rcases q with q | q
  · exact q
  · have := cN_le (tn := tn) (jn := jn) (cR ju en ed 100 (cI ju en ed (jFill ot 0 24, jFill oj 0 24)))
    omega
end CLS
