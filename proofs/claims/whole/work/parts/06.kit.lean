/-! ===== the verifier's own kit: truth as an int, contracts of methods that read and of methods that write, calls ===== -/
def jB (p : Prop) [Decidable p] : Int32 := if p then 1 else 0
theorem jB_t {p : Prop} [Decidable p] (h : p) : jB p = 1 := if_pos h
theorem jB_f {p : Prop} [Decidable p] (h : ¬ p) : jB p = 0 := if_neg h
theorem jB_z {p : Prop} [Decidable p] : jB p = 0 ↔ ¬ p := by
  by_cases h : p
  · rw [jB_t h]; exact ⟨fun e => absurd e (by decide), fun e => absurd h e⟩
  · rw [jB_f h]; exact ⟨fun _ => h, fun _ => rfl⟩
theorem jB_nz {p : Prop} [Decidable p] : ¬ jB p = 0 ↔ p := by rw [jB_z]; exact Decidable.not_not
theorem jB_nar {p : Prop} [Decidable p] : narrow .boolean (.int (jB p)) = .int (jB p) := by
  by_cases h : p
  · rw [jB_t h]; rfl
  · rw [jB_f h]; rfl
theorem jB_i {p q : Prop} [Decidable p] [Decidable q] (h : p ↔ q) : jB p = jB q := by
  by_cases hp : p
  · rw [jB_t hp, jB_t (h.mp hp)]
  · rw [jB_f hp, jB_f (fun hq => hp (h.mpr hq))]
abbrev jIn (x n : Int32) : Prop := ¬ x < 0 ∧ ¬ n ≤ x
theorem jk_ret {a b : Int32} (h : a = b) : Outcome.returned (some (.int a)) = Outcome.returned (some (.int b)) := by rw [h]
theorem jN_of {x : Int32} {n : Nat} (hn : n < 2 ^ 31) (h : jIn x (nI n)) : ∃ j : Nat, j < n ∧ x = nI j := by
  rcases pk_ix x hn with q | q | q
  · exact absurd q h.1
  · exact absurd q h.2
  · exact q
theorem jIn_n {j n : Nat} (hn : n < 2 ^ 31) : jIn (nI j) (nI n) ∧ j < 2 ^ 31 ↔ j < n := by
  constructor
  · intro h
    obtain ⟨⟨h1, h2⟩, h3⟩ := h
    rcases Nat.lt_or_ge j n with q | q
    · exact q
    · exact absurd (nI_le q h3) h2
  · intro h
    exact ⟨⟨nI_pos (by omega), nI_ge h hn⟩, by omega⟩
theorem jIn_vp {x : Int32} {n : Nat} (hn : n < 2 ^ 31) (h : jIn x (nI n)) : vp_in x n := by
  obtain ⟨j, h1, rfl⟩ := jN_of hn h
  exact vp_in_nI h1 hn
/-- the links between nest mates -/
def jN (U : State) : Prop := va_Nw (.methodLinkNest RX3 23 yX0_init RX3) U ∧ va_Nw (.methodLinkNest RX3 34 yX1_init RX3) U ∧ va_Nw (.fieldLinkNest RX3 116 RX1 "counter" "I" RX3) U ∧ va_Nw (.fieldLinkNest RX3 96 RX1 "condition" "I" RX3) U ∧ va_Nw (.fieldLinkNest RX3 119 RX1 "showCount" "I" RX3) U ∧ va_Nw (.methodLinkNest RX0 21 yX3_isAddress RX3) U ∧ va_Nw (.methodLinkNest RX1 49 yX3_isRegister RX3) U ∧ va_Nw (.methodLinkNest RX1 53 yX3_isCell RX3) U
theorem jN.warm {s U : State} (hW : s.WarmedH U.vm) (h : jN s) : jN U := by
  obtain ⟨h1, h2, h3, h4, h5, h6, h7, h8⟩ := h
  exact ⟨va_Nw.warmM hW h1, va_Nw.warmM hW h2, va_Nw.warmF hW h3, va_Nw.warmF hW h4, va_Nw.warmF hW h5, va_Nw.warmM hW h6, va_Nw.warmM hW h7, va_Nw.warmM hW h8⟩
theorem jN.same {u U : State} (e : u.vm = U.vm) (h : jN u) : jN U := by
  obtain ⟨h1, h2, h3, h4, h5, h6, h7, h8⟩ := h
  exact ⟨h1.same rfl e, h2.same rfl e, h3.same rfl e, h4.same rfl e, h5.same rfl e, h6.same rfl e, h7.same rfl e, h8.same rfl e⟩
/-- what a method that only reads starts from -/
def roP (D : va_G) (cA : ClassId) (av : List Value) (ws : va_W) : Array Value → State → Prop := va_Pc av (fun U => va_P D vwCl ws U.heap ∧ va_K D vwCl [(cA, .int)] U ∧ jN U)
theorem roP.blind {D : va_G} {cA : ClassId} {av : List Value} {ws : va_W} : FrameBlind (roP D cA av ws) := by
  intro a U g mk q
  obtain ⟨q0, qP, qK, qN⟩ := q
  exact ⟨q0, qP, va_K.moved (u := U) (U := U.calling g mk a) (Vm.Alike.refl U.vm) qK, qN.same rfl⟩
theorem roP.S {D : va_G} {cA : ClassId} {av : List Value} {ws : va_W} {s : State} {H : Heap} (hP : va_P D vwCl ws H) (hK : va_K D vwCl [(cA, .int)] s) (hN : jN s) : PreS s H (roP D cA av ws) av :=
  ⟨roP.blind, fun U hU hW => ⟨rfl, by rw [hU]; exact hP, va_K.moved hW.alike hK, hN.warm hW⟩⟩
theorem roP.V {D : va_G} {cA : ClassId} {As : List Value} {ws : va_W} {s : State} {H : Heap} {C : String} {b : Nat} (hR : ∃ cell : Cell, H[b]? = some cell ∧ cell.vm.isStatics = false ∧ s.vm.findClass C = some cell.cls) (hP : va_P D vwCl ws H) (hK : va_K D vwCl [(cA, .int)] s) (hN : jN s) : PreV s H C b (roP D cA (.ref b :: As) ws) As :=
  ⟨roP.blind, hR, fun U hU hW => ⟨rfl, by rw [hU]; exact hP, va_K.moved hW.alike hK, hN.warm hW⟩⟩
/-- what a method that writes starts from -/
def rwP (D : va_G) (cA : ClassId) (av : List Value) (sz : Nat) (ws : va_W) : Array Value → State → Prop := va_Pc av (fun U => U.heap.size = sz ∧ va_P D vwCl ws U.heap ∧ va_K D vwCl [(cA, .int)] U ∧ jN U ∧ va_D (fun _ => True) ws)
theorem rwP.blind {D : va_G} {cA : ClassId} {av : List Value} {sz : Nat} {ws : va_W} : FrameBlind (rwP D cA av sz ws) := by
  intro a U g mk q
  obtain ⟨q0, qz, qP, qK, qN, qD⟩ := q
  exact ⟨q0, qz, qP, va_K.moved (u := U) (U := U.calling g mk a) (Vm.Alike.refl U.vm) qK, qN.same rfl, qD⟩
theorem jP_sub {D : va_G} {cl : List vw_C} {ws w2 : va_W} {H : Heap} (h : va_P D cl ws H) (is : List Nat) (hs : is.map (fun i => ws[i]?) = w2.map some) : va_P D cl w2 H := by
  intro k q hq
  have h1 : (is.map (fun i => ws[i]?))[k]? = some (some q) := by rw [hs, List.getElem?_map, hq]; rfl
  rw [List.getElem?_map] at h1
  cases hi : is[k]? with
  | none => rw [hi] at h1; cases h1
  | some i => rw [hi] at h1; exact h i q (Option.some.inj h1)
theorem rwP.S {A : Nat → Prop} {D : va_G} {cA : ClassId} {av : List Value} {ws wc : va_W} {s : State} {H : Heap} (hP : va_P D vwCl ws H) (hD : va_D A ws) (hK : va_K D vwCl [(cA, .int)] s) (hN : jN s) (is : List Nat) (hn : va_nd is = true) (hs : is.map (fun i => ws[i]?) = wc.map some) : PreS s H (rwP D cA av H.size wc) av :=
  ⟨rwP.blind, fun U hU hW => ⟨rfl, by rw [hU], by rw [hU]; exact jP_sub hP is hs, va_K.moved hW.alike hK, hN.warm hW, (hD.sub is hn hs).weaken (fun _ _ _ _ => trivial)⟩⟩
theorem rwP.V {A : Nat → Prop} {D : va_G} {cA : ClassId} {As : List Value} {ws wc : va_W} {s : State} {H : Heap} {C : String} {b : Nat} (hR : ∃ cell : Cell, H[b]? = some cell ∧ cell.vm.isStatics = false ∧ s.vm.findClass C = some cell.cls) (hP : va_P D vwCl ws H) (hD : va_D A ws) (hK : va_K D vwCl [(cA, .int)] s) (hN : jN s) (is : List Nat) (hn : va_nd is = true) (hs : is.map (fun i => ws[i]?) = wc.map some) : PreV s H C b (rwP D cA (.ref b :: As) H.size wc) As :=
  ⟨rwP.blind, hR, (rwP.S (av := .ref b :: As) hP hD hK hN is hn hs).2⟩
/-- what a method that writes comes to: its answer, its world -/
def rwI (D : va_G) (A : Nat → Prop) (r : Int32) (w1 : va_W) : Array Value → State → Outcome → State → Prop := va_Qi (fun r' (_ : Unit) => r' = r) (fun _ t => va_P D vwCl w1 t.heap ∧ va_D A w1) A
def rwV (D : va_G) (A : Nat → Prop) (w1 : va_W) : Array Value → State → Outcome → State → Prop := va_Qv (fun (_ : Unit) => True) (fun _ t => va_P D vwCl w1 t.heap ∧ va_D A w1) A
/-- the same where cells are made: u has their addresses -/
def rwE (D : va_G) (A : Nat → Prop) (w1 : (Nat → Nat) → va_W) : Array Value → State → Outcome → State → Prop := va_Qv (fun (_ : Nat → Nat) => True) (fun u t => va_P D vwCl (w1 u) t.heap ∧ va_D A (w1 u)) A
section JW
variable {p : Program} {l : Launch} {e : Env} {R : Room} {s : State} {m : MethodId} {args : Array Value} {below : List Frame} {meth : Method} {c : Code} {H : Heap} {locs : List Loc} {cells slots : Nat} {Q : State → Prop}
variable {pc : Nat} {ls : Array Slot} {rest st0 : List Value} {a : Array Value} {A0 : Nat → Prop} {H0 : Heap} {mc ms : Nat} {free : Addr → Prop} {D : va_G} {ws wc wr w1 w2 : va_W} {r : Int32}
/-- behind a call of a method that only reads -/
theorem jr_i (hr : va_Run p l e R s m args below meth c H locs cells slots 0 0 (F0 m pc ls st0) rest (QcRead r a) (fun _ => False)) (kk : W p l e R s m args below meth c H locs cells slots Q (F0 m (pc + 3) ls (.int r :: rest))) : W p l e R s m args below meth c H locs cells slots Q (F0 m pc ls st0) := by
  intro T hT X
  obtain ⟨v, st₀, t, T', L, h0, X', hL, e1, e2, ⟨hv, hh⟩, st⟩ := hr T hT X
  cases hv
  obtain ⟨t2, a1, b1⟩ := kk T' (by rw [e1, hh, h0]) (Stand.forget X' (fun q h => (hL q h).elim))
  exact ⟨t2, st t2 a1, b1⟩
theorem jw_i (hr : va_Run p l e R s m args below meth c H locs cells slots mc ms (F0 m pc ls st0) rest (rwI D (va_A wc H.size) r w1 a) (va_A wc H.size)) (hP : va_P D vwCl ws H) (hD : va_D A0 ws) (hS : va_S A0 H0 H locs) (hA : ∀ q, H0.size ≤ q → A0 q) (isC isR is : List Nat) (hC : isC.map (fun i => ws[i]?) = wc.map some) (hR : isR.map (fun i => ws[i]?) = wr.map some) (hn : va_nd isR = true) (hdis : ∀ i ∈ isR, i ∉ isC) (h2 : va_nd is = true) (h3 : is.map (fun i => (wr ++ w1)[i]?) = w2.map some)
    (kk : ∀ (H1 : Heap) (locs1 : List Loc), va_P D vwCl w2 H1 → va_D A0 w2 → va_S A0 H0 H1 locs1 → W p l e R s m args below meth c H1 locs1 (cells + mc) (slots + ms) Q (F0 m (pc + 3) ls (.int r :: rest))) : W p l e R s m args below meth c H locs cells slots Q (F0 m pc ls st0) := by
  have hF := va_free (wc := wc) hD hS hA isC hC
  refine va_calli hr hS (fun q _ h => hF q h) hF (fun r' u t H1 locs1 ht hvm hw hB hz1 hk1 hS1 => ?_)
  subst hw
  obtain ⟨hP1, hD1⟩ := hB
  rw [ht] at hP1
  obtain ⟨hPj, hDj⟩ := va_join (wr := wr) (w1 := w1) hP hD isC isR hC hR hn hdis hk1 hF hP1 hD1
  exact kk H1 locs1 (jP_sub hPj is h3) (hDj.sub is h2 h3) hS1
theorem jw_v (hr : va_Run p l e R s m args below meth c H locs cells slots mc ms (F0 m pc ls st0) rest (rwV D (va_A wc H.size) w1 a) (va_A wc H.size)) (hP : va_P D vwCl ws H) (hD : va_D A0 ws) (hS : va_S A0 H0 H locs) (hA : ∀ q, H0.size ≤ q → A0 q) (isC isR is : List Nat) (hC : isC.map (fun i => ws[i]?) = wc.map some) (hR : isR.map (fun i => ws[i]?) = wr.map some) (hn : va_nd isR = true) (hdis : ∀ i ∈ isR, i ∉ isC) (h2 : va_nd is = true) (h3 : is.map (fun i => (wr ++ w1)[i]?) = w2.map some)
    (kk : ∀ (H1 : Heap) (locs1 : List Loc), va_P D vwCl w2 H1 → va_D A0 w2 → va_S A0 H0 H1 locs1 → W p l e R s m args below meth c H1 locs1 (cells + mc) (slots + ms) Q (F0 m (pc + 3) ls rest)) : W p l e R s m args below meth c H locs cells slots Q (F0 m pc ls st0) := by
  have hF := va_free (wc := wc) hD hS hA isC hC
  refine va_callv hr hS (fun q _ h => hF q h) hF (fun u t H1 locs1 ht hvm hw hB hz1 hk1 hS1 => ?_)
  obtain ⟨hP1, hD1⟩ := hB
  rw [ht] at hP1
  obtain ⟨hPj, hDj⟩ := va_join (wr := wr) (w1 := w1) hP hD isC isR hC hR hn hdis hk1 hF hP1 hD1
  exact kk H1 locs1 (jP_sub hPj is h3) (hDj.sub is h2 h3) hS1
theorem jw_e {w3 : (Nat → Nat) → va_W} {w4 : (Nat → Nat) → va_W} (hr : va_Run p l e R s m args below meth c H locs cells slots mc ms (F0 m pc ls st0) rest (rwE D (va_A wc H.size) w3 a) (va_A wc H.size)) (hP : va_P D vwCl ws H) (hD : va_D A0 ws) (hS : va_S A0 H0 H locs) (hA : ∀ q, H0.size ≤ q → A0 q) (isC isR is : List Nat) (hC : isC.map (fun i => ws[i]?) = wc.map some) (hR : isR.map (fun i => ws[i]?) = wr.map some) (hn : va_nd isR = true) (hdis : ∀ i ∈ isR, i ∉ isC) (h2 : va_nd is = true) (h3 : ∀ u, is.map (fun i => (wr ++ w3 u)[i]?) = (w4 u).map some)
    (kk : ∀ (u : Nat → Nat) (H1 : Heap) (locs1 : List Loc), va_P D vwCl (w4 u) H1 → va_D A0 (w4 u) → va_S A0 H0 H1 locs1 → W p l e R s m args below meth c H1 locs1 (cells + mc) (slots + ms) Q (F0 m (pc + 3) ls rest)) : W p l e R s m args below meth c H locs cells slots Q (F0 m pc ls st0) := by
  have hF := va_free (wc := wc) hD hS hA isC hC
  refine va_callv hr hS (fun q _ h => hF q h) hF (fun u t H1 locs1 ht hvm hw hB hz1 hk1 hS1 => ?_)
  obtain ⟨hP1, hD1⟩ := hB
  rw [ht] at hP1
  obtain ⟨hPj, hDj⟩ := va_join (wr := wr) (w1 := w3 u) hP hD isC isR hC hR hn hdis hk1 hF hP1 hD1
  exact kk u H1 locs1 (jP_sub hPj is (h3 u)) (hDj.sub is h2 (h3 u)) hS1
end JW
/-- int rows are of one kind -/
theorem jK_one {D : va_G} {U : State} {c1 c2 : ClassId} (h : va_K D vwCl ([(c1, .int)] ++ [(c2, .int)]) U) : c2 = c1 := by
  have h1 := (h.2 0 (c1, .int) rfl).2
  have h2 := (h.2 1 (c2, .int) rfl).2
  exact Option.some.inj (h2.symm.trans h1)
/-- a world's end -/
theorem jk_end {D : va_G} {A : Nat → Prop} {ws w2 : va_W} {H : Heap} (hP : va_P D vwCl ws H) (hD : va_D A ws) (is : List Nat) (h2 : va_nd is = true) (h3 : is.map (fun i => ws[i]?) = w2.map some) : va_P D vwCl w2 H ∧ va_D A w2 := ⟨jP_sub hP is h3, hD.sub is h2 h3⟩
