/-! ===== a new edge ===== -/
theorem eCl_not {ed : Nat} {ju en : Nat → Int32} {PT PJ : Nat → Prop} (h : eCl ed ju en PT PJ) : eCl ed ju en (fun t => ¬ PT t) (fun j => ¬ PJ j) := by
  intro k hk j t hj ht ej et
  have := h k hk j t hj ht ej et
  exact ⟨fun a b => a (this.mpr b), fun a b => a (this.mp b)⟩
theorem reach_iff {ed : Nat} {ju en : Nat → Int32} {r t : Nat} (h : ∀ PT PJ : Nat → Prop, eCl ed ju en PT PJ → PT r → PT t) {PT PJ : Nat → Prop} (c : eCl ed ju en PT PJ) : PT r ↔ PT t := by
  refine ⟨h PT PJ c, fun q => ?_⟩
  by_cases z : PT r
  · exact z
  · exact absurd q (h _ _ (eCl_not c) z)
theorem eCl_old {ed : Nat} {ju en : Nat → Int32} {PT PJ : Nat → Prop} {x y : Int32} (h : eCl (ed + 1) (upd ju ed x) (upd en ed y) PT PJ) : eCl ed ju en PT PJ := by
  intro k hk j t hj ht ej et
  exact h k (by omega) j t hj ht (by rw [pk_un (by omega)]; exact ej) (by rw [pk_un (by omega)]; exact et)
theorem eCl_new {ed : Nat} {ju en : Nat → Int32} {PT PJ : Nat → Prop} {j t : Nat} (hj : j < 24) (ht : t < 24) (h : eCl (ed + 1) (upd ju ed (nI j)) (upd en ed (nI t)) PT PJ) : PT t ↔ PJ j := h ed (by omega) j t hj ht pk_us pk_us
theorem jMax_n {a b : Nat} (ha : a < 1000) (hb : b < 1000) : jMax (nI a) (nI b) = nI (max a b) := by
  unfold jMax
  by_cases q : a < b
  · rw [if_pos (nI_lt q (by omega)), show max a b = b by omega]
  · rw [if_neg (nI_nlt (by omega) (by omega)), show max a b = a by omega]
theorem jMin_n {a b : Nat} (ha : a < 1000) (hb : b < 1000) : jMin (nI a) (nI b) = nI (min a b) := by
  unfold jMin
  by_cases q : b < a
  · rw [if_pos (nI_lt q (by omega)), show min a b = b by omega]
  · rw [if_neg (nI_nlt (by omega) (by omega)), show min a b = a by omega]
theorem nI_nz {r : Nat} (h : r < 1000) : ¬ nI (r + 1) = 0 := nI_ne0 (by omega) (by omega)
theorem Cls_add {tn jn : Nat → Int32} {ed : Nat} {ju en : Nat → Int32} (hE : rEd ju en ed) (hC : Cls tn jn ed ju en) {j t : Nat} (hj : j < 24) (ht : t < 24) : Cls (eTn (eT1 tn t) jn j t) (eJn (eT1 tn t) jn j t) (ed + 1) (upd ju ed (nI j)) (upd en ed (nI t)) := by
  obtain ⟨ca, cb, cc⟩ := hC
  obtain ⟨T, hT⟩ : ∃ T, T = eT1 tn t := ⟨_, rfl⟩
  have T_ne : ∀ t', t' ≠ t → T t' = tn t' := by
    intro t' q; rw [hT]; unfold eT1
    by_cases z : tn t = 0
    · rw [if_pos z, pk_un q]
    · rw [if_neg z]
  have T_old : ¬ tn t = 0 → T = tn := by
    intro z; rw [hT]; unfold eT1; rw [if_neg z]
  have T_new : tn t = 0 → T t = nI (t + 1) := by
    intro z; rw [hT]; unfold eT1; rw [if_pos z, pk_us]
  have T_keep : ∀ t', ¬ tn t' = 0 → T t' = tn t' := by
    intro t' z
    by_cases q : t' = t
    · subst q; rw [T_old z]
    · exact T_ne t' q
  have T_nz : ¬ T t = 0 := by
    by_cases z : tn t = 0
    · rw [T_new z]; exact nI_nz (by omega)
    · rw [T_old z]; exact z
  have F2 : ∀ t', t' < 24 → ¬ T t' = 0 → ∃ r, r ≤ t' ∧ T t' = nI (r + 1) ∧ T r = nI (r + 1) ∧ ∀ PT PJ : Nat → Prop, eCl ed ju en PT PJ → PT r → PT t' := by
    intro t' h' z
    by_cases q : tn t' = 0
    · have e : t' = t := Decidable.byContradiction (fun n => z (by rw [T_ne t' n]; exact q))
      subst e
      exact ⟨t', Nat.le_refl _, T_new q, T_new q, fun _ _ _ p => p⟩
    · obtain ⟨-, r, h1, h2, h3, h4⟩ := cb t' h' q
      exact ⟨r, h1, by rw [T_keep t' q]; exact h2, by rw [T_keep r (by rw [h3]; exact nI_nz (by omega))]; exact h3, h4⟩
  have F3 : ∀ t', t' < 24 → ¬ T t' = 0 → ∃ k, k < ed + 1 ∧ upd en ed (nI t) k = nI t' := by
    intro t' h' z
    by_cases q : t' = t
    · exact ⟨ed, by omega, by rw [pk_us, q]⟩
    · rw [T_ne t' q] at z
      obtain ⟨⟨k, hk, ek⟩, -⟩ := cb t' h' z
      exact ⟨k, by omega, by rw [pk_un (by omega)]; exact ek⟩
  have F1 : ∀ k, k < ed → ∀ j2 t2, j2 < 24 → t2 < 24 → ju k = nI j2 → en k = nI t2 → T t2 = jn j2 ∧ ¬ T t2 = 0 := by
    intro k hk j2 t2 h2 h3 e2 e3
    obtain ⟨a, b⟩ := ca k hk j2 t2 h2 h3 e2 e3
    rw [T_keep t2 b]; exact ⟨a, b⟩
  rw [← hT]
  clear hT
  have split : ∀ k, k < ed + 1 → ∀ j2 t2, j2 < 24 → t2 < 24 → upd ju ed (nI j) k = nI j2 → upd en ed (nI t) k = nI t2 → (k < ed ∧ ju k = nI j2 ∧ en k = nI t2) ∨ (j2 = j ∧ t2 = t) := by
    intro k hk j2 t2 h2 h3 e2 e3
    by_cases q : k = ed
    · subst q
      rw [pk_us] at e2 e3
      exact Or.inr ⟨((nI_eq (by omega) (by omega)).mp e2).symm, ((nI_eq (by omega) (by omega)).mp e3).symm⟩
    · rw [pk_un q] at e2 e3
      exact Or.inl ⟨by omega, e2, e3⟩
  by_cases m0 : jn j = 0
  · have e1 : eTn T jn j t = T := if_pos m0
    have e2 : eJn T jn j t = upd jn j (T t) := if_pos m0
    rw [e1, e2]
    refine ⟨?_, ?_, ?_⟩
    · intro k hk j2 t2 h2 h3 ea eb
      rcases split k hk j2 t2 h2 h3 ea eb with ⟨q, u, v⟩ | ⟨u, v⟩
      · obtain ⟨a, b⟩ := F1 k q j2 t2 h2 h3 u v
        refine ⟨?_, b⟩
        have n : j2 ≠ j := fun w => b (by rw [a, w]; exact m0)
        rw [pk_un n]; exact a
      · subst u; subst v; rw [pk_us]; exact ⟨rfl, T_nz⟩
    · intro t' h' z
      refine ⟨F3 t' h' z, ?_⟩
      obtain ⟨r, h1, h2, h3, h4⟩ := F2 t' h' z
      exact ⟨r, h1, h2, h3, fun PT PJ c => h4 PT PJ (eCl_old c)⟩
    · intro j' h' z
      by_cases q : j' = j
      · exact ⟨ed, by omega, by rw [pk_us, q]⟩
      · rw [pk_un q] at z
        obtain ⟨k, hk, ek⟩ := cc j' h' z
        exact ⟨k, by omega, by rw [pk_un (by omega)]; exact ek⟩
  · obtain ⟨k1, hk1, ek1⟩ := cc j hj m0
    obtain ⟨-, t2, ht2, et2⟩ := hE k1 hk1
    obtain ⟨u1, u2⟩ := F1 k1 hk1 j t2 hj ht2 ek1 et2
    obtain ⟨r1, a1, a2, a3, a4⟩ := F2 t2 ht2 u2
    obtain ⟨r2, b1, b2, b3, b4⟩ := F2 t ht T_nz
    have ea : jn j = nI (r1 + 1) := by rw [← u1]; exact a2
    have link : ∀ PT PJ : Nat → Prop, eCl (ed + 1) (upd ju ed (nI j)) (upd en ed (nI t)) PT PJ → (PT r1 ↔ PT r2) := by
      intro PT PJ c
      have c0 := eCl_old c
      exact (reach_iff a4 c0).trans ((c0 k1 hk1 j t2 hj ht2 ek1 et2).trans ((eCl_new hj ht c).symm.trans (reach_iff b4 c0).symm))
    have e1 : eTn T jn j t = jRen T (nI (max r1 r2 + 1)) (nI (min r1 r2 + 1)) 24 := by
      unfold eTn; rw [if_neg m0, ea, b2, jMax_n (by omega) (by omega), jMin_n (by omega) (by omega), show max (r1 + 1) (r2 + 1) = max r1 r2 + 1 by omega, show min (r1 + 1) (r2 + 1) = min r1 r2 + 1 by omega]
    have e2 : eJn T jn j t = jRen jn (nI (max r1 r2 + 1)) (nI (min r1 r2 + 1)) 24 := by
      unfold eJn; rw [if_neg m0, ea, b2, jMax_n (by omega) (by omega), jMin_n (by omega) (by omega), show max (r1 + 1) (r2 + 1) = max r1 r2 + 1 by omega, show min (r1 + 1) (r2 + 1) = min r1 r2 + 1 by omega]
    rw [e1, e2]
    obtain ⟨G, hG⟩ : ∃ G, G = max r1 r2 := ⟨_, rfl⟩
    obtain ⟨K, hK⟩ : ∃ K, K = min r1 r2 := ⟨_, rfl⟩
    rw [← hG, ← hK]
    have ren_y : ∀ (f : Nat → Int32) (i : Nat), i < 24 → f i = nI (G + 1) → jRen f (nI (G + 1)) (nI (K + 1)) 24 i = nI (K + 1) := fun f i hi e => if_pos ⟨hi, e⟩
    have ren_n : ∀ (f : Nat → Int32) (i : Nat), ¬ f i = nI (G + 1) → jRen f (nI (G + 1)) (nI (K + 1)) 24 i = f i := fun f i e => if_neg (fun q => e q.2)
    have ren_k : ∀ (f : Nat → Int32) (i : Nat), i < 24 → f i = nI (K + 1) → jRen f (nI (G + 1)) (nI (K + 1)) 24 i = nI (K + 1) := by
      intro f i hi e
      by_cases q : f i = nI (G + 1)
      · exact ren_y f i hi q
      · rw [ren_n f i q]; exact e
    have root : T K = nI (K + 1) := by
      by_cases q : r1 ≤ r2
      · rw [show K = r1 by omega]; exact a3
      · rw [show K = r2 by omega]; exact b3
    refine ⟨?_, ?_, ?_⟩
    · intro k hk j3 t3 h2 h3 ew ez
      rcases split k hk j3 t3 h2 h3 ew ez with ⟨q, u, v⟩ | ⟨u, v⟩
      · obtain ⟨a, b⟩ := F1 k q j3 t3 h2 h3 u v
        by_cases w : T t3 = nI (G + 1)
        · rw [ren_y T t3 h3 w, ren_y jn j3 h2 (by rw [← a]; exact w)]
          exact ⟨rfl, nI_nz (by omega)⟩
        · rw [ren_n T t3 w, ren_n jn j3 (by rw [← a]; exact w)]
          exact ⟨a, b⟩
      · subst u; subst v
        have w1 : jRen T (nI (G + 1)) (nI (K + 1)) 24 t3 = nI (K + 1) := by
          by_cases q : r1 ≤ r2
          · exact ren_y T t3 h3 (by rw [b2, show G = r2 by omega])
          · exact ren_k T t3 h3 (by rw [b2, show K = r2 by omega])
        have w2 : jRen jn (nI (G + 1)) (nI (K + 1)) 24 j3 = nI (K + 1) := by
          by_cases q : r1 ≤ r2
          · exact ren_k jn j3 h2 (by rw [ea, show K = r1 by omega])
          · exact ren_y jn j3 h2 (by rw [ea, show G = r1 by omega])
        rw [w1, w2]
        exact ⟨rfl, nI_nz (by omega)⟩
    · intro t' h' z
      by_cases w : T t' = nI (G + 1)
      · have nz : ¬ T t' = 0 := by rw [w]; exact nI_nz (by omega)
        refine ⟨F3 t' h' nz, K, ?_, ren_y T t' h' w, ren_k T K (by omega) root, ?_⟩
        · obtain ⟨r, h1, h2, -⟩ := F2 t' h' nz
          rw [w] at h2
          have := (nI_eq (by omega) (by omega)).mp h2
          omega
        · intro PT PJ c pk
          obtain ⟨r, h1, h2, h3, h4⟩ := F2 t' h' nz
          rw [w] at h2
          have er := (nI_eq (by omega) (by omega)).mp h2
          have l := link PT PJ c
          refine h4 PT PJ (eCl_old c) ?_
          rw [show r = G by omega]
          by_cases q : r1 ≤ r2
          · rw [show G = r2 by omega]; rw [show K = r1 by omega] at pk; exact l.mp pk
          · rw [show G = r1 by omega]; rw [show K = r2 by omega] at pk; exact l.mpr pk
      · rw [ren_n T t' w] at z ⊢
        obtain ⟨r, h1, h2, h3, h4⟩ := F2 t' h' z
        refine ⟨F3 t' h' z, r, h1, h2, ?_, fun PT PJ c => h4 PT PJ (eCl_old c)⟩
        rw [ren_n T r (by rw [h3, ← h2]; exact w)]
        exact h3
    · intro j' h' z
      have nz : ¬ jn j' = 0 := by
        intro q
        apply z
        rw [ren_n jn j' (by rw [q]; exact fun e => nI_nz (r := G) (by omega) e.symm)]
        exact q
      obtain ⟨k, hk, ek⟩ := cc j' h' nz
      exact ⟨k, by omega, by rw [pk_un (by omega)]; exact ek⟩
theorem eBit_and : ∀ t, t < 24 → ∀ u, u < 24 → ((eBit t &&& eBit u) = 0 ↔ t ≠ u) := by decide +kernel
theorem or_and0 (a b c : Int32) : ((a ||| b) &&& c) = 0 ↔ (a &&& c) = 0 ∧ (b &&& c) = 0 := by
  rw [show (a ||| b) &&& c = (a &&& c) ||| (b &&& c) from Int32.toBitVec_inj.1 BitVec.and_or_distrib_right]
  exact Int32.or_eq_zero_iff
theorem tg_add {tg : Nat → Int32} {ed : Nat} {ju en : Nat → Int32} (h : ∀ j t, j < 24 → t < 24 → ((tg j &&& eBit t) = 0 ↔ ∀ k, k < ed → ¬ (ju k = nI j ∧ en k = nI t))) {j t : Nat} (hj : j < 24) (ht : t < 24) : ∀ j2 t2, j2 < 24 → t2 < 24 → ((upd tg j (tg j ||| eBit t) j2 &&& eBit t2) = 0 ↔ ∀ k, k < ed + 1 → ¬ (upd ju ed (nI j) k = nI j2 ∧ upd en ed (nI t) k = nI t2)) := by
  intro j2 t2 h2 h3
  have key : (∀ k, k < ed + 1 → ¬ (upd ju ed (nI j) k = nI j2 ∧ upd en ed (nI t) k = nI t2)) ↔ (∀ k, k < ed → ¬ (ju k = nI j2 ∧ en k = nI t2)) ∧ ¬ (j = j2 ∧ t = t2) := by
    constructor
    · intro q
      refine ⟨fun k hk z => q k (by omega) (by rw [pk_un (by omega), pk_un (by omega)]; exact z), fun z => q ed (by omega) (by rw [pk_us, pk_us, z.1, z.2]; exact ⟨rfl, rfl⟩)⟩
    · intro q k hk z
      by_cases w : k = ed
      · subst w
        rw [pk_us, pk_us] at z
        exact q.2 ⟨(nI_eq (by omega) (by omega)).mp z.1, (nI_eq (by omega) (by omega)).mp z.2⟩
      · rw [pk_un w, pk_un w] at z
        exact q.1 k (by omega) z
  rw [key]
  by_cases q : j2 = j
  · subst q
    rw [pk_us, or_and0, h j2 t2 h2 h3, eBit_and t ht t2 h3]
    exact ⟨fun z => ⟨z.1, fun w => z.2 w.2⟩, fun z => ⟨z.1, fun w => z.2 ⟨rfl, w⟩⟩⟩
  · rw [pk_un q, h j2 t2 h2 h3]
    exact ⟨fun z => ⟨z, fun w => q w.1.symm⟩, fun z => z.1⟩
/-- allow: both or neither -/
theorem allow_iff {f1 cd tg tn jn ju en : Nat → Int32} {k1 nn ec ed : Nat} (S : RelS f1 k1 cd nn) (E : RelE ec tg tn jn ed ju en) (x y : Int32) : aAl f1 k1 tg ec x y ↔ rAl cd nn ju en ed x y := by
  obtain ⟨rfl, hn, hf, -⟩ := S
  obtain ⟨rfl, he, -, hb, -⟩ := E
  constructor
  · intro h
    obtain ⟨j, hj, rfl⟩ := jN_of (n := k1) (by omega) (pGet_in (show ¬ (8 : Int32) = -9 by decide) h.1)
    obtain ⟨t, ht, rfl⟩ := jN_of (n := k1) (by omega) h.2.1
    have ej : (nI j).toNatClampNeg = j := nI_clamp (by omega)
    have et : (nI t).toNatClampNeg = t := nI_clamp (by omega)
    have h8 : f1 (j * 3 + 0) = 8 := (pGet_at (q := 0) hj (by decide) (by omega)).symm.trans h.1
    have h2 := h.2.2
    rw [ej, et] at h2
    refine ⟨((jIn_n (by omega)).mpr hj).1, h.2.1, ?_, h2.1, (hb j t (by omega) (by omega)).mp h2.2⟩
    rw [ej, ← hf _ (by omega), Nat.mul_comm]; exact h8
  · intro h
    obtain ⟨j, hj, rfl⟩ := jN_of (n := k1) (by omega) h.1
    obtain ⟨t, ht, rfl⟩ := jN_of (n := k1) (by omega) h.2.1
    have ej : (nI j).toNatClampNeg = j := nI_clamp (by omega)
    have et : (nI t).toNatClampNeg = t := nI_clamp (by omega)
    have h8 := h.2.2.1
    rw [ej] at h8
    refine ⟨?_, h.2.1, h.2.2.2.1, ?_⟩
    · exact (pGet_at (q := 0) hj (by decide) (by omega)).trans (by rw [hf _ (by omega), show j * 3 + 0 = 3 * j by omega]; exact h8)
    · rw [ej, et]; exact (hb j t (by omega) (by omega)).mpr h.2.2.2.2
theorem allow_rel {f1 cd tg tn jn ju en : Nat → Int32} {k1 nn ec ed : Nat} (S : RelS f1 k1 cd nn) (E : RelE ec tg tn jn ed ju en) {x y : Int32} (h : rAl cd nn ju en ed x y) : RelE (ec + 1) (upd tg x.toNatClampNeg (tg x.toNatClampNeg ||| eBit y.toNatClampNeg)) (eTn (eT1 tn y.toNatClampNeg) jn x.toNatClampNeg y.toNatClampNeg) (eJn (eT1 tn y.toNatClampNeg) jn x.toNatClampNeg y.toNatClampNeg) (ed + 1) (upd ju ed x) (upd en ed y) := by
  obtain ⟨rfl, hn, hf, -⟩ := S
  obtain ⟨rfl, he, hE, hb, hC⟩ := E
  obtain ⟨j, hj, rfl⟩ := jN_of (n := k1) (by omega) h.1
  obtain ⟨t, ht, rfl⟩ := jN_of (n := k1) (by omega) h.2.1
  rw [nI_clamp (show j < 2 ^ 31 by omega), nI_clamp (show t < 2 ^ 31 by omega)]
  have h48 := h.2.2.2.1
  refine ⟨rfl, by omega, ?_, tg_add hb (by omega) (by omega), Cls_add hE hC (by omega) (by omega)⟩
  intro k hk
  by_cases q : k = ec
  · subst q; rw [pk_us, pk_us]; exact ⟨⟨j, by omega, rfl⟩, t, by omega, rfl⟩
  · rw [pk_un q, pk_un q]; exact hE k (by omega)
