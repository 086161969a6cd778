section
-- ===== PART A: goes FIRST, ahead of the names: the tables' words, and 'selects' of the private methods out of them =====
/-- a private method of a class that the tables say can be made, by its rows of tables_1 -/
def lw_okq (q : MethodName × Nat) : Prop := (q.1.cls ≠ "java/lang/invoke/MethodHandle" ∧ q.1.cls ≠ "java/lang/invoke/VarHandle") ∧ Cond.instantiable q.1.cls q.2 ∈ tables_1 ∧ Cond.privateMethod q.1 ∈ tables_1 ∧ Cond.instanceMethod q.1 ∈ tables_1
theorem lw_p0 : lw_okq (⟨"JumpGuard", "dropGuarded", "()V"⟩, 5) := ⟨⟨by decide +kernel, by decide +kernel⟩, List.mem_of_getElem? (i := 9) (by decide +kernel), List.mem_of_getElem? (i := 137) (by decide +kernel), List.mem_of_getElem? (i := 138) (by decide +kernel)⟩
theorem lw_p1 : lw_okq (⟨"JumpGuard$Edges", "joinClasses", "(II)V"⟩, 4) := ⟨⟨by decide +kernel, by decide +kernel⟩, List.mem_of_getElem? (i := 40) (by decide +kernel), List.mem_of_getElem? (i := 167) (by decide +kernel), List.mem_of_getElem? (i := 168) (by decide +kernel)⟩
theorem lw_p2 : lw_okq (⟨"JumpGuard", "isClosed", "()Z"⟩, 5) := ⟨⟨by decide +kernel, by decide +kernel⟩, List.mem_of_getElem? (i := 9) (by decide +kernel), List.mem_of_getElem? (i := 188) (by decide +kernel), List.mem_of_getElem? (i := 189) (by decide +kernel)⟩
theorem lw_p3 : lw_okq (⟨"JumpGuard", "hasItsAddress", "(I)Z"⟩, 5) := ⟨⟨by decide +kernel, by decide +kernel⟩, List.mem_of_getElem? (i := 9) (by decide +kernel), List.mem_of_getElem? (i := 192) (by decide +kernel), List.mem_of_getElem? (i := 193) (by decide +kernel)⟩
theorem lw_p4 : lw_okq (⟨"JumpGuard", "setPlaces", "()V"⟩, 5) := ⟨⟨by decide +kernel, by decide +kernel⟩, List.mem_of_getElem? (i := 9) (by decide +kernel), List.mem_of_getElem? (i := 199) (by decide +kernel), List.mem_of_getElem? (i := 200) (by decide +kernel)⟩
theorem lw_p5 : lw_okq (⟨"JumpGuard", "appendGuarded", "(I)V"⟩, 5) := ⟨⟨by decide +kernel, by decide +kernel⟩, List.mem_of_getElem? (i := 9) (by decide +kernel), List.mem_of_getElem? (i := 204) (by decide +kernel), List.mem_of_getElem? (i := 205) (by decide +kernel)⟩
theorem lw_p6 : lw_okq (⟨"JumpGuard", "placeOf", "(I)I"⟩, 5) := ⟨⟨by decide +kernel, by decide +kernel⟩, List.mem_of_getElem? (i := 9) (by decide +kernel), List.mem_of_getElem? (i := 209) (by decide +kernel), List.mem_of_getElem? (i := 210) (by decide +kernel)⟩
theorem lw_p7 : lw_okq (⟨"JumpGuard", "isGuarded", "()Z"⟩, 5) := ⟨⟨by decide +kernel, by decide +kernel⟩, List.mem_of_getElem? (i := 9) (by decide +kernel), List.mem_of_getElem? (i := 225) (by decide +kernel), List.mem_of_getElem? (i := 226) (by decide +kernel)⟩
theorem lw_p8 : lw_okq (⟨"JumpGuard$Machine", "makeStep", "()V"⟩, 7) := ⟨⟨by decide +kernel, by decide +kernel⟩, List.mem_of_getElem? (i := 59) (by decide +kernel), List.mem_of_getElem? (i := 252) (by decide +kernel), List.mem_of_getElem? (i := 253) (by decide +kernel)⟩
theorem lw_p9 : lw_okq (⟨"JumpGuard$Machine", "carryOut", "(III)I"⟩, 7) := ⟨⟨by decide +kernel, by decide +kernel⟩, List.mem_of_getElem? (i := 59) (by decide +kernel), List.mem_of_getElem? (i := 257) (by decide +kernel), List.mem_of_getElem? (i := 258) (by decide +kernel)⟩
theorem lw_p10 : lw_okq (⟨"JumpGuard$Machine", "setRegister", "(II)V"⟩, 7) := ⟨⟨by decide +kernel, by decide +kernel⟩, List.mem_of_getElem? (i := 59) (by decide +kernel), List.mem_of_getElem? (i := 261) (by decide +kernel), List.mem_of_getElem? (i := 262) (by decide +kernel)⟩
theorem lw_p11 : lw_okq (⟨"JumpGuard$Machine", "keepShown", "(I)V"⟩, 7) := ⟨⟨by decide +kernel, by decide +kernel⟩, List.mem_of_getElem? (i := 59) (by decide +kernel), List.mem_of_getElem? (i := 279) (by decide +kernel), List.mem_of_getElem? (i := 280) (by decide +kernel)⟩
theorem lw_p12 : lw_okq (⟨"JumpGuard$Machine", "jumpTo", "(I)I"⟩, 7) := ⟨⟨by decide +kernel, by decide +kernel⟩, List.mem_of_getElem? (i := 59) (by decide +kernel), List.mem_of_getElem? (i := 283) (by decide +kernel), List.mem_of_getElem? (i := 284) (by decide +kernel)⟩
theorem lw_p13 : lw_okq (⟨"JumpGuard$Machine", "checkLabel", "(II)V"⟩, 7) := ⟨⟨by decide +kernel, by decide +kernel⟩, List.mem_of_getElem? (i := 59) (by decide +kernel), List.mem_of_getElem? (i := 288) (by decide +kernel), List.mem_of_getElem? (i := 289) (by decide +kernel)⟩
theorem lw_p14 : lw_okq (⟨"JumpGuardModel", "undo", "()V"⟩, 17) := ⟨⟨by decide +kernel, by decide +kernel⟩, List.mem_of_getElem? (i := 331) (by decide +kernel), List.mem_of_getElem? (i := 399) (by decide +kernel), List.mem_of_getElem? (i := 400) (by decide +kernel)⟩
theorem lw_p15 : lw_okq (⟨"JumpGuardModel", "whole", "()Z"⟩, 17) := ⟨⟨by decide +kernel, by decide +kernel⟩, List.mem_of_getElem? (i := 331) (by decide +kernel), List.mem_of_getElem? (i := 411) (by decide +kernel), List.mem_of_getElem? (i := 412) (by decide +kernel)⟩
def lw_privs_1 : List (MethodName × Nat) := [(⟨"JumpGuard", "dropGuarded", "()V"⟩, 5), (⟨"JumpGuard$Edges", "joinClasses", "(II)V"⟩, 4), (⟨"JumpGuard", "isClosed", "()Z"⟩, 5), (⟨"JumpGuard", "hasItsAddress", "(I)Z"⟩, 5), (⟨"JumpGuard", "setPlaces", "()V"⟩, 5), (⟨"JumpGuard", "appendGuarded", "(I)V"⟩, 5), (⟨"JumpGuard", "placeOf", "(I)I"⟩, 5), (⟨"JumpGuard", "isGuarded", "()Z"⟩, 5), (⟨"JumpGuard$Machine", "makeStep", "()V"⟩, 7), (⟨"JumpGuard$Machine", "carryOut", "(III)I"⟩, 7), (⟨"JumpGuard$Machine", "setRegister", "(II)V"⟩, 7), (⟨"JumpGuard$Machine", "keepShown", "(I)V"⟩, 7), (⟨"JumpGuard$Machine", "jumpTo", "(I)I"⟩, 7), (⟨"JumpGuard$Machine", "checkLabel", "(II)V"⟩, 7), (⟨"JumpGuardModel", "undo", "()V"⟩, 17), (⟨"JumpGuardModel", "whole", "()Z"⟩, 17)]
theorem lw_r1 : ∀ q ∈ lw_privs_1, lw_okq q := List.forall_mem_cons.mpr ⟨lw_p0, List.forall_mem_cons.mpr ⟨lw_p1, List.forall_mem_cons.mpr ⟨lw_p2, List.forall_mem_cons.mpr ⟨lw_p3, List.forall_mem_cons.mpr ⟨lw_p4, List.forall_mem_cons.mpr ⟨lw_p5, List.forall_mem_cons.mpr ⟨lw_p6, List.forall_mem_cons.mpr ⟨lw_p7, List.forall_mem_cons.mpr ⟨lw_p8, List.forall_mem_cons.mpr ⟨lw_p9, List.forall_mem_cons.mpr ⟨lw_p10, List.forall_mem_cons.mpr ⟨lw_p11, List.forall_mem_cons.mpr ⟨lw_p12, List.forall_mem_cons.mpr ⟨lw_p13, List.forall_mem_cons.mpr ⟨lw_p14, List.forall_mem_cons.mpr ⟨lw_p15, fun _ h => absurd h List.not_mem_nil⟩⟩⟩⟩⟩⟩⟩⟩⟩⟩⟩⟩⟩⟩⟩⟩
theorem lw_p16 : lw_okq (⟨"JumpGuardModel", "classes", "()V"⟩, 17) := ⟨⟨by decide +kernel, by decide +kernel⟩, List.mem_of_getElem? (i := 331) (by decide +kernel), List.mem_of_getElem? (i := 415) (by decide +kernel), List.mem_of_getElem? (i := 416) (by decide +kernel)⟩
theorem lw_p17 : lw_okq (⟨"JumpGuardModel", "put", "(III)V"⟩, 17) := ⟨⟨by decide +kernel, by decide +kernel⟩, List.mem_of_getElem? (i := 331) (by decide +kernel), List.mem_of_getElem? (i := 419) (by decide +kernel), List.mem_of_getElem? (i := 420) (by decide +kernel)⟩
theorem lw_p18 : lw_okq (⟨"JumpGuardModel", "step", "()V"⟩, 17) := ⟨⟨by decide +kernel, by decide +kernel⟩, List.mem_of_getElem? (i := 331) (by decide +kernel), List.mem_of_getElem? (i := 447) (by decide +kernel), List.mem_of_getElem? (i := 448) (by decide +kernel)⟩
def lw_privs_2 : List (MethodName × Nat) := [(⟨"JumpGuardModel", "classes", "()V"⟩, 17), (⟨"JumpGuardModel", "put", "(III)V"⟩, 17), (⟨"JumpGuardModel", "step", "()V"⟩, 17)]
theorem lw_r2 : ∀ q ∈ lw_privs_2, lw_okq q := List.forall_mem_cons.mpr ⟨lw_p16, List.forall_mem_cons.mpr ⟨lw_p17, List.forall_mem_cons.mpr ⟨lw_p18, fun _ h => absurd h List.not_mem_nil⟩⟩⟩
def lw_privs : List (MethodName × Nat) := lw_privs_1 ++ (lw_privs_2)
def lw_tbl : List Cond := k2_sels lw_privs ++ tables_1
theorem lw_privs_ok : ∀ q ∈ lw_privs, lw_okq q := by
  show ∀ q ∈ lw_privs_1 ++ (lw_privs_2), lw_okq q
  exact List.forall_mem_append.mpr ⟨lw_r1, lw_r2⟩
/-! ===== BEGIN words of one list among another's, by their places ===== -/
theorem goodIn_r {big : List Cond} (ws : List Cond) (ps : List Nat) (hp : ws = ps.filterMap (fun i => big[i]?)) (h : ws.all goodWord = true) : GoodIn big ws := by
  intro w hw
  have h1 := List.all_eq_true.mp h w hw
  rw [hp] at hw
  obtain ⟨i, -, hi⟩ := List.mem_filterMap.mp hw
  have hm : w ∈ big := by first | exact List.mem_of_getElem? hi | exact List.getElem?_mem hi
  exact ⟨hm, good_of_word h1⟩
theorem goodIn_app {big a b : List Cond} (ha : GoodIn big a) (hb : GoodIn big b) : GoodIn big (a ++ b) := fun w h => (List.mem_append.mp h).elim (ha w) (hb w)
theorem goodIn_ca {big a b : List Cond} {c : Cond} (ha : GoodIn big (c :: a)) (hb : GoodIn big b) : GoodIn big (c :: (a ++ b)) := fun w h => (List.mem_cons.mp h).elim (fun e => ha w (List.mem_cons.mpr (Or.inl e))) (fun h => (List.mem_append.mp h).elim (fun h => ha w (List.mem_cons.mpr (Or.inr h))) (hb w))
theorem goodIn_sub {big ws : List Cond} (hm : ∀ w ∈ ws, w ∈ big) (h : ws.all goodWord = true) : GoodIn big ws := fun w hw => ⟨hm w hw, good_of_word (List.all_eq_true.mp h w hw)⟩
/-! ===== END ===== -/

/-! ===== BEGIN printed: names, fields, word lists, decode rows ===== -/
def RX0 : String := "JumpGuard$Edges"
def TX0 : u_T := fun k => match k with
  | 0 => ("JumpGuard$Edges", "targets", "[I", true)
  | 1 => ("JumpGuard$Edges", "targetNumbers", "[I", true)
  | 2 => ("JumpGuard$Edges", "jumpNumbers", "[I", true)
  | _ => ("JumpGuard$Edges", "count", "I", false)
def tyX0 : Nat → FieldType := fun k => match k with
  | 0 => .array .int
  | 1 => .array .int
  | 2 => .array .int
  | _ => .int
abbrev wsX00 : List Cond := u_ws RX0 TX0 4
theorem nmX0 : ∀ a, a < 4 → ∀ b, b < 4 → a ≠ b → (TX0 a).2.1 ≠ (TX0 b).2.1 := by decide +kernel
theorem tyX0_ok : ∀ k, k < 4 → parseFieldDescriptor (TX0 k).2.2.1 = some (tyX0 k) := by decide +kernel
abbrev cX0_init : ByteArray := prog_2_method_1_code
def yX0_init : MethodName := ⟨RX0, "<init>", "()V"⟩
abbrev cX0_connect : ByteArray := prog_2_method_2_code
def yX0_connect : MethodName := ⟨RX0, "connect", "(II)Z"⟩
abbrev cX0_numberOfTarget : ByteArray := prog_2_method_3_code
def yX0_numberOfTarget : MethodName := ⟨RX0, "numberOfTarget", "(I)I"⟩
abbrev cX0_numberOfJump : ByteArray := prog_2_method_4_code
def yX0_numberOfJump : MethodName := ⟨RX0, "numberOfJump", "(I)I"⟩
abbrev cX0_joinClasses : ByteArray := prog_2_method_5_code
def yX0_joinClasses : MethodName := ⟨RX0, "joinClasses", "(II)V"⟩
abbrev cX0_renumber : ByteArray := prog_2_method_6_code
def yX0_renumber : MethodName := ⟨RX0, "renumber", "([III)V"⟩
def RX1 : String := "JumpGuard$Machine"
def TX1 : u_T := fun k => match k with
  | 0 => ("JumpGuard$Machine", "registers", "[I", true)
  | 1 => ("JumpGuard$Machine", "cells", "[I", true)
  | 2 => ("JumpGuard$Machine", "lastShown", "[I", true)
  | 3 => ("JumpGuard$Machine", "program", "LJumpGuard$Program;", false)
  | 4 => ("JumpGuard$Machine", "counter", "I", false)
  | 5 => ("JumpGuard$Machine", "condition", "I", false)
  | _ => ("JumpGuard$Machine", "showCount", "I", false)
def tyX1 : Nat → FieldType := fun k => match k with
  | 0 => .array .int
  | 1 => .array .int
  | 2 => .array .int
  | 3 => .object "JumpGuard$Program"
  | 4 => .int
  | 5 => .int
  | _ => .int
abbrev wsX10 : List Cond := u_ws RX1 TX1 7
theorem nmX1 : ∀ a, a < 7 → ∀ b, b < 7 → a ≠ b → (TX1 a).2.1 ≠ (TX1 b).2.1 := by decide +kernel
theorem tyX1_ok : ∀ k, k < 7 → parseFieldDescriptor (TX1 k).2.2.1 = some (tyX1 k) := by decide +kernel
abbrev cX1_init : ByteArray := prog_3_method_1_code
def yX1_init : MethodName := ⟨RX1, "<init>", "()V"⟩
abbrev cX1_begin : ByteArray := prog_3_method_2_code
def yX1_begin : MethodName := ⟨RX1, "begin", "(LJumpGuard$Program;)V"⟩
abbrev cX1_stop : ByteArray := prog_3_method_3_code
def yX1_stop : MethodName := ⟨RX1, "stop", "()V"⟩
abbrev cX1_isIdle : ByteArray := prog_3_method_4_code
def yX1_isIdle : MethodName := ⟨RX1, "isIdle", "()Z"⟩
abbrev cX1_makeSteps : ByteArray := prog_3_method_5_code
def yX1_makeSteps : MethodName := ⟨RX1, "makeSteps", "(I)I"⟩
abbrev cX1_registerValue : ByteArray := prog_3_method_6_code
def yX1_registerValue : MethodName := ⟨RX1, "registerValue", "(I)I"⟩
abbrev cX1_cellValue : ByteArray := prog_3_method_7_code
def yX1_cellValue : MethodName := ⟨RX1, "cellValue", "(I)I"⟩
abbrev cX1_setCell : ByteArray := prog_3_method_8_code
def yX1_setCell : MethodName := ⟨RX1, "setCell", "(II)V"⟩
abbrev cX1_shownBefore : ByteArray := prog_3_method_9_code
def yX1_shownBefore : MethodName := ⟨RX1, "shownBefore", "(I)I"⟩
abbrev cX1_makeStep : ByteArray := prog_3_method_10_code
def yX1_makeStep : MethodName := ⟨RX1, "makeStep", "()V"⟩
abbrev cX1_carryOut : ByteArray := prog_3_method_11_code
def yX1_carryOut : MethodName := ⟨RX1, "carryOut", "(III)I"⟩
abbrev cX1_setRegister : ByteArray := prog_3_method_12_code
def yX1_setRegister : MethodName := ⟨RX1, "setRegister", "(II)V"⟩
abbrev cX1_keepShown : ByteArray := prog_3_method_13_code
def yX1_keepShown : MethodName := ⟨RX1, "keepShown", "(I)V"⟩
abbrev cX1_jumpTo : ByteArray := prog_3_method_14_code
def yX1_jumpTo : MethodName := ⟨RX1, "jumpTo", "(I)I"⟩
abbrev cX1_checkLabel : ByteArray := prog_3_method_15_code
def yX1_checkLabel : MethodName := ⟨RX1, "checkLabel", "(II)V"⟩
def RX2 : String := "JumpGuard$Program"
def TX2 : u_T := fun k => match k with
  | 0 => ("JumpGuard$Program", "numbers", "[I", true)
  | 1 => ("JumpGuard$Program", "most", "I", true)
  | _ => ("JumpGuard$Program", "count", "I", false)
def tyX2 : Nat → FieldType := fun k => match k with
  | 0 => .array .int
  | 1 => .int
  | _ => .int
abbrev wsX20 : List Cond := u_ws RX2 TX2 3
theorem nmX2 : ∀ a, a < 3 → ∀ b, b < 3 → a ≠ b → (TX2 a).2.1 ≠ (TX2 b).2.1 := by decide +kernel
theorem tyX2_ok : ∀ k, k < 3 → parseFieldDescriptor (TX2 k).2.2.1 = some (tyX2 k) := by decide +kernel
abbrev cX2_init : ByteArray := prog_4_method_1_code
def yX2_init : MethodName := ⟨RX2, "<init>", "(I)V"⟩
abbrev cX2_length : ByteArray := prog_4_method_2_code
def yX2_length : MethodName := ⟨RX2, "length", "()I"⟩
abbrev cX2_isFull : ByteArray := prog_4_method_3_code
def yX2_isFull : MethodName := ⟨RX2, "isFull", "()Z"⟩
abbrev cX2_has : ByteArray := prog_4_method_4_code
def yX2_has : MethodName := ⟨RX2, "has", "(I)Z"⟩
abbrev cX2_get : ByteArray := prog_4_method_5_code
def yX2_get : MethodName := ⟨RX2, "get", "(II)I"⟩
abbrev cX2_append : ByteArray := prog_4_method_6_code
def yX2_append : MethodName := ⟨RX2, "append", "(III)V"⟩
abbrev cX2_clear : ByteArray := prog_4_method_7_code
def yX2_clear : MethodName := ⟨RX2, "clear", "()V"⟩
def RX3 : String := "JumpGuard"
def TX3 : u_T := fun k => match k with
  | 0 => ("JumpGuard", "sourceProgram", "LJumpGuard$Program;", true)
  | 1 => ("JumpGuard", "guardedProgram", "LJumpGuard$Program;", true)
  | 2 => ("JumpGuard", "edges", "LJumpGuard$Edges;", true)
  | 3 => ("JumpGuard", "places", "[I", true)
  | _ => ("JumpGuard", "machine", "LJumpGuard$Machine;", true)
def tyX3 : Nat → FieldType := fun k => match k with
  | 0 => .object "JumpGuard$Program"
  | 1 => .object "JumpGuard$Program"
  | 2 => .object "JumpGuard$Edges"
  | 3 => .array .int
  | _ => .object "JumpGuard$Machine"
abbrev wsX30 : List Cond := u_ws RX3 TX3 5
theorem nmX3 : ∀ a, a < 5 → ∀ b, b < 5 → a ≠ b → (TX3 a).2.1 ≠ (TX3 b).2.1 := by decide +kernel
theorem tyX3_ok : ∀ k, k < 5 → parseFieldDescriptor (TX3 k).2.2.1 = some (tyX3 k) := by decide +kernel
abbrev cX3_init : ByteArray := prog_1_method_1_code
def yX3_init : MethodName := ⟨RX3, "<init>", "()V"⟩
abbrev cX3_add : ByteArray := prog_1_method_2_code
def yX3_add : MethodName := ⟨RX3, "add", "(III)I"⟩
abbrev cX3_allow : ByteArray := prog_1_method_3_code
def yX3_allow : MethodName := ⟨RX3, "allow", "(II)Z"⟩
abbrev cX3_protect : ByteArray := prog_1_method_4_code
def yX3_protect : MethodName := ⟨RX3, "protect", "()I"⟩
abbrev cX3_source : ByteArray := prog_1_method_5_code
def yX3_source : MethodName := ⟨RX3, "source", "(II)I"⟩
abbrev cX3_guarded : ByteArray := prog_1_method_6_code
def yX3_guarded : MethodName := ⟨RX3, "guarded", "(II)I"⟩
abbrev cX3_place : ByteArray := prog_1_method_7_code
def yX3_place : MethodName := ⟨RX3, "place", "(I)I"⟩
abbrev cX3_label : ByteArray := prog_1_method_8_code
def yX3_label : MethodName := ⟨RX3, "label", "(I)I"⟩
abbrev cX3_start : ByteArray := prog_1_method_9_code
def yX3_start : MethodName := ⟨RX3, "start", "(Z)Z"⟩
abbrev cX3_run : ByteArray := prog_1_method_10_code
def yX3_run : MethodName := ⟨RX3, "run", "(I)I"⟩
abbrev cX3_state : ByteArray := prog_1_method_11_code
def yX3_state : MethodName := ⟨RX3, "state", "()I"⟩
abbrev cX3_overwrite : ByteArray := prog_1_method_12_code
def yX3_overwrite : MethodName := ⟨RX3, "overwrite", "(II)Z"⟩
abbrev cX3_memory : ByteArray := prog_1_method_13_code
def yX3_memory : MethodName := ⟨RX3, "memory", "(I)I"⟩
abbrev cX3_register : ByteArray := prog_1_method_14_code
def yX3_register : MethodName := ⟨RX3, "register", "(I)I"⟩
abbrev cX3_pc : ByteArray := prog_1_method_15_code
def yX3_pc : MethodName := ⟨RX3, "pc", "()I"⟩
abbrev cX3_shows : ByteArray := prog_1_method_16_code
def yX3_shows : MethodName := ⟨RX3, "shows", "()I"⟩
abbrev cX3_shown : ByteArray := prog_1_method_17_code
def yX3_shown : MethodName := ⟨RX3, "shown", "(I)I"⟩
abbrev cX3_isSourceInstruction : ByteArray := prog_1_method_18_code
def yX3_isSourceInstruction : MethodName := ⟨RX3, "isSourceInstruction", "(III)Z"⟩
abbrev cX3_isRegister : ByteArray := prog_1_method_19_code
def yX3_isRegister : MethodName := ⟨RX3, "isRegister", "(I)Z"⟩
abbrev cX3_isCell : ByteArray := prog_1_method_20_code
def yX3_isCell : MethodName := ⟨RX3, "isCell", "(I)Z"⟩
abbrev cX3_isAddress : ByteArray := prog_1_method_21_code
def yX3_isAddress : MethodName := ⟨RX3, "isAddress", "(I)Z"⟩
abbrev cX3_holdsAddressInB : ByteArray := prog_1_method_22_code
def yX3_holdsAddressInB : MethodName := ⟨RX3, "holdsAddressInB", "(I)Z"⟩
abbrev cX3_isGuarded : ByteArray := prog_1_method_23_code
def yX3_isGuarded : MethodName := ⟨RX3, "isGuarded", "()Z"⟩
abbrev cX3_dropGuarded : ByteArray := prog_1_method_24_code
def yX3_dropGuarded : MethodName := ⟨RX3, "dropGuarded", "()V"⟩
abbrev cX3_isClosed : ByteArray := prog_1_method_25_code
def yX3_isClosed : MethodName := ⟨RX3, "isClosed", "()Z"⟩
abbrev cX3_hasItsAddress : ByteArray := prog_1_method_26_code
def yX3_hasItsAddress : MethodName := ⟨RX3, "hasItsAddress", "(I)Z"⟩
abbrev cX3_setPlaces : ByteArray := prog_1_method_27_code
def yX3_setPlaces : MethodName := ⟨RX3, "setPlaces", "()V"⟩
abbrev cX3_placeOf : ByteArray := prog_1_method_28_code
def yX3_placeOf : MethodName := ⟨RX3, "placeOf", "(I)I"⟩
abbrev cX3_appendGuarded : ByteArray := prog_1_method_29_code
def yX3_appendGuarded : MethodName := ⟨RX3, "appendGuarded", "(I)V"⟩
def RX4 : String := "JumpGuardModel"
def TX4 : u_T := fun k => match k with
  | 0 => ("JumpGuardModel", "code", "[I", true)
  | 1 => ("JumpGuardModel", "n", "I", false)
  | 2 => ("JumpGuardModel", "size", "I", false)
  | 3 => ("JumpGuardModel", "jump", "[I", true)
  | 4 => ("JumpGuardModel", "end", "[I", true)
  | 5 => ("JumpGuardModel", "edges", "I", false)
  | 6 => ("JumpGuardModel", "ofTarget", "[I", true)
  | 7 => ("JumpGuardModel", "ofJump", "[I", true)
  | 8 => ("JumpGuardModel", "at", "[I", true)
  | 9 => ("JumpGuardModel", "reg", "[I", true)
  | 10 => ("JumpGuardModel", "mem", "[I", true)
  | 11 => ("JumpGuardModel", "told", "[I", true)
  | 12 => ("JumpGuardModel", "pc", "I", false)
  | 13 => ("JumpGuardModel", "state", "I", false)
  | 14 => ("JumpGuardModel", "shows", "I", false)
  | 15 => ("JumpGuardModel", "base", "I", false)
  | _ => ("JumpGuardModel", "length", "I", false)
def tyX4 : Nat → FieldType := fun k => match k with
  | 0 => .array .int
  | 1 => .int
  | 2 => .int
  | 3 => .array .int
  | 4 => .array .int
  | 5 => .int
  | 6 => .array .int
  | 7 => .array .int
  | 8 => .array .int
  | 9 => .array .int
  | 10 => .array .int
  | 11 => .array .int
  | 12 => .int
  | 13 => .int
  | 14 => .int
  | 15 => .int
  | _ => .int
abbrev wsX40 : List Cond := u_ws RX4 TX4 17
theorem nmX4 : ∀ a, a < 17 → ∀ b, b < 17 → a ≠ b → (TX4 a).2.1 ≠ (TX4 b).2.1 := by decide +kernel
theorem tyX4_ok : ∀ k, k < 17 → parseFieldDescriptor (TX4 k).2.2.1 = some (tyX4 k) := by decide +kernel
abbrev cX4_init : ByteArray := prog_6_method_1_code
def yX4_init : MethodName := ⟨RX4, "<init>", "()V"⟩
abbrev cX4_within : ByteArray := prog_6_method_2_code
def yX4_within : MethodName := ⟨RX4, "within", "(II)Z"⟩
abbrev cX4_fits : ByteArray := prog_6_method_3_code
def yX4_fits : MethodName := ⟨RX4, "fits", "(III)Z"⟩
abbrev cX4_undo : ByteArray := prog_6_method_4_code
def yX4_undo : MethodName := ⟨RX4, "undo", "()V"⟩
abbrev cX4_add : ByteArray := prog_6_method_5_code
def yX4_add : MethodName := ⟨RX4, "add", "(III)I"⟩
abbrev cX4_allow : ByteArray := prog_6_method_6_code
def yX4_allow : MethodName := ⟨RX4, "allow", "(II)Z"⟩
abbrev cX4_classes : ByteArray := prog_6_method_7_code
def yX4_classes : MethodName := ⟨RX4, "classes", "()V"⟩
abbrev cX4_whole : ByteArray := prog_6_method_8_code
def yX4_whole : MethodName := ⟨RX4, "whole", "()Z"⟩
abbrev cX4_put : ByteArray := prog_6_method_9_code
def yX4_put : MethodName := ⟨RX4, "put", "(III)V"⟩
abbrev cX4_protect : ByteArray := prog_6_method_10_code
def yX4_protect : MethodName := ⟨RX4, "protect", "()I"⟩
abbrev cX4_source : ByteArray := prog_6_method_11_code
def yX4_source : MethodName := ⟨RX4, "source", "(II)I"⟩
abbrev cX4_guarded : ByteArray := prog_6_method_12_code
def yX4_guarded : MethodName := ⟨RX4, "guarded", "(II)I"⟩
abbrev cX4_place : ByteArray := prog_6_method_13_code
def yX4_place : MethodName := ⟨RX4, "place", "(I)I"⟩
abbrev cX4_label : ByteArray := prog_6_method_14_code
def yX4_label : MethodName := ⟨RX4, "label", "(I)I"⟩
abbrev cX4_start : ByteArray := prog_6_method_15_code
def yX4_start : MethodName := ⟨RX4, "start", "(Z)Z"⟩
abbrev cX4_step : ByteArray := prog_6_method_16_code
def yX4_step : MethodName := ⟨RX4, "step", "()V"⟩
abbrev cX4_run : ByteArray := prog_6_method_17_code
def yX4_run : MethodName := ⟨RX4, "run", "(I)I"⟩
abbrev cX4_state : ByteArray := prog_6_method_18_code
def yX4_state : MethodName := ⟨RX4, "state", "()I"⟩
abbrev cX4_overwrite : ByteArray := prog_6_method_19_code
def yX4_overwrite : MethodName := ⟨RX4, "overwrite", "(II)Z"⟩
abbrev cX4_memory : ByteArray := prog_6_method_20_code
def yX4_memory : MethodName := ⟨RX4, "memory", "(I)I"⟩
abbrev cX4_register : ByteArray := prog_6_method_21_code
def yX4_register : MethodName := ⟨RX4, "register", "(I)I"⟩
abbrev cX4_pc : ByteArray := prog_6_method_22_code
def yX4_pc : MethodName := ⟨RX4, "pc", "()I"⟩
abbrev cX4_shows : ByteArray := prog_6_method_23_code
def yX4_shows : MethodName := ⟨RX4, "shows", "()I"⟩
abbrev cX4_shown : ByteArray := prog_6_method_24_code
def yX4_shown : MethodName := ⟨RX4, "shown", "(I)I"⟩
def RJ9 : String := "java/lang/Math"
def TJ9 : u_T := fun k => match k with
  | _ => ("", "", "", false)
def tyJ9 : Nat → FieldType := fun k => match k with
  | _ => .int
abbrev wsJ90 : List Cond := u_ws RJ9 TJ9 0
theorem nmJ9 : ∀ a, a < 0 → ∀ b, b < 0 → a ≠ b → (TJ9 a).2.1 ≠ (TJ9 b).2.1 := by decide +kernel
theorem tyJ9_ok : ∀ k, k < 0 → parseFieldDescriptor (TJ9 k).2.2.1 = some (tyJ9 k) := by decide +kernel
abbrev cJ9_max_7cf53 : ByteArray := prog_7_method_65_code
def yJ9_max_7cf53 : MethodName := ⟨RJ9, "max", "(II)I"⟩
abbrev cJ9_min_7cf53 : ByteArray := prog_7_method_69_code
def yJ9_min_7cf53 : MethodName := ⟨RJ9, "min", "(II)I"⟩
def RJ7 : String := "java/util/Arrays"
def TJ7 : u_T := fun k => match k with
  | _ => ("", "", "", false)
def tyJ7 : Nat → FieldType := fun k => match k with
  | _ => .int
abbrev wsJ70 : List Cond := u_ws RJ7 TJ7 0
theorem nmJ7 : ∀ a, a < 0 → ∀ b, b < 0 → a ≠ b → (TJ7 a).2.1 ≠ (TJ7 b).2.1 := by decide +kernel
theorem tyJ7_ok : ∀ k, k < 0 → parseFieldDescriptor (TJ7 k).2.2.1 = some (tyJ7 k) := by decide +kernel
abbrev cJ7_fill_53178 : ByteArray := prog_8_method_103_code
def yJ7_fill_53178 : MethodName := ⟨RJ7, "fill", "([II)V"⟩
def RL : String := "JumpGuardLaw"
abbrev cL_law : ByteArray := code
def yL_law : MethodName := ⟨RL, "law", "([I)Z"⟩
def wsX0_init : List Cond := .code yX0_init cX0_init 1 none :: ([.methodLink RX0 3 objectInit, .instanceMethod objectInit, .code objectInit ⟨#[0xb1]⟩ 1 none, .arrayClass .int, .fieldLink RX0 9 "JumpGuard$Edges" "targets" "[I", .fieldLink RX0 15 "JumpGuard$Edges" "targetNumbers" "[I", .fieldLink RX0 18 "JumpGuard$Edges" "jumpNumbers" "[I"] ++ wsX00)
def wsX3_isAddress : List Cond := .code yX3_isAddress cX3_isAddress 1 (some .boolean) :: ([])
def wsX0_numberOfJump : List Cond := .code yX0_numberOfJump cX0_numberOfJump 2 (some .int) :: ([.fieldLink RX0 18 "JumpGuard$Edges" "jumpNumbers" "[I", .static yX3_isAddress, .initialized RX3, .code yX3_isAddress cX3_isAddress 1 (some .boolean)] ++ wsX00)
def wsX0_numberOfTarget : List Cond := .code yX0_numberOfTarget cX0_numberOfTarget 2 (some .int) :: ([.fieldLink RX0 15 "JumpGuard$Edges" "targetNumbers" "[I", .static yX3_isAddress, .initialized RX3, .code yX3_isAddress cX3_isAddress 1 (some .boolean)] ++ wsX00)
def wsX0_renumber : List Cond := .code yX0_renumber cX0_renumber 4 none :: ([])
def wsX0_joinClasses : List Cond := .code yX0_joinClasses cX0_joinClasses 7 none :: ([.fieldLink RX0 18 "JumpGuard$Edges" "jumpNumbers" "[I", .methodLink RX0 40 Lib.Math.min.name, .static Lib.Math.min.name, .initialized "java/lang/Math", .code Lib.Math.min.name Lib.Math.min.code 2 (some .int), .methodLink RX0 46 Lib.Math.max.name, .static Lib.Math.max.name, .code Lib.Math.max.name Lib.Math.max.code 2 (some .int), .fieldLink RX0 15 "JumpGuard$Edges" "targetNumbers" "[I", .methodLink RX0 33 yX0_numberOfJump, .instanceMethod yX0_numberOfJump, .selects RX0 yX0_numberOfJump yX0_numberOfJump, .initialized RX0, .code yX0_numberOfJump cX0_numberOfJump 2 (some .int), .static yX3_isAddress, .initialized RX3, .code yX3_isAddress cX3_isAddress 1 (some .boolean), .methodLink RX0 37 yX0_numberOfTarget, .instanceMethod yX0_numberOfTarget, .selects RX0 yX0_numberOfTarget yX0_numberOfTarget, .code yX0_numberOfTarget cX0_numberOfTarget 2 (some .int), .methodLink RX0 49 yX0_renumber, .static yX0_renumber, .code yX0_renumber cX0_renumber 4 none] ++ wsX00)
def wsX0_connect_r1 : List Cond := [Cond.fieldLink RX0 25 "JumpGuard$Edges" "count" "I", Cond.fieldLink RX0 9 "JumpGuard$Edges" "targets" "[I", Cond.fieldLink RX0 15 "JumpGuard$Edges" "targetNumbers" "[I", Cond.static yX3_isAddress, Cond.initialized RX3, Cond.code yX3_isAddress cX3_isAddress 1 (some .boolean), Cond.methodLink RX0 29 yX0_joinClasses, Cond.instanceMethod yX0_joinClasses, Cond.selects RX0 yX0_joinClasses yX0_joinClasses, Cond.initialized RX0, Cond.code yX0_joinClasses cX0_joinClasses 7 none, Cond.fieldLink RX0 18 "JumpGuard$Edges" "jumpNumbers" "[I", Cond.methodLink RX0 40 Lib.Math.min.name, Cond.static Lib.Math.min.name, Cond.initialized "java/lang/Math", Cond.code Lib.Math.min.name Lib.Math.min.code 2 (some .int), Cond.methodLink RX0 46 Lib.Math.max.name, Cond.static Lib.Math.max.name, Cond.code Lib.Math.max.name Lib.Math.max.code 2 (some .int), Cond.methodLink RX0 33 yX0_numberOfJump, Cond.instanceMethod yX0_numberOfJump, Cond.selects RX0 yX0_numberOfJump yX0_numberOfJump, Cond.code yX0_numberOfJump cX0_numberOfJump 2 (some .int), Cond.methodLink RX0 37 yX0_numberOfTarget]
def wsX0_connect_r2 : List Cond := [Cond.instanceMethod yX0_numberOfTarget, Cond.selects RX0 yX0_numberOfTarget yX0_numberOfTarget, Cond.code yX0_numberOfTarget cX0_numberOfTarget 2 (some .int), Cond.methodLink RX0 49 yX0_renumber, Cond.static yX0_renumber, Cond.code yX0_renumber cX0_renumber 4 none]
def wsX0_connect : List Cond := .code yX0_connect cX0_connect 4 (some .boolean) :: ((wsX0_connect_r1 ++ wsX0_connect_r2) ++ wsX00)
def wsX2_init : List Cond := .code yX2_init cX2_init 2 none :: ([.methodLink RX2 3 objectInit, .instanceMethod objectInit, .code objectInit ⟨#[0xb1]⟩ 1 none, .methodLink RX2 9 Lib.Math.min.name, .static Lib.Math.min.name, .initialized "java/lang/Math", .code Lib.Math.min.name Lib.Math.min.code 2 (some .int), .methodLink RX2 15 Lib.Math.max.name, .static Lib.Math.max.name, .code Lib.Math.max.name Lib.Math.max.code 2 (some .int), .fieldLink RX2 18 "JumpGuard$Program" "most" "I", .arrayClass .int, .fieldLink RX2 24 "JumpGuard$Program" "numbers" "[I"] ++ wsX20)
def wsX1_init_r1 : List Cond := [Cond.methodLink RX1 3 objectInit, Cond.instanceMethod objectInit, Cond.code objectInit ⟨#[0xb1]⟩ 1 none, Cond.arrayClass .int, Cond.fieldLink RX1 9 "JumpGuard$Machine" "registers" "[I", Cond.fieldLink RX1 15 "JumpGuard$Machine" "cells" "[I", Cond.fieldLink RX1 18 "JumpGuard$Machine" "lastShown" "[I", Cond.classLink RX1 21 RX2, Cond.instantiable RX2 3, Cond.initialized RX2, Cond.fieldLink RX1 26 "JumpGuard$Machine" "program" "LJumpGuard$Program;", Cond.fieldLink RX1 30 "JumpGuard$Machine" "condition" "I", Cond.methodLink RX1 23 yX2_init, Cond.instanceMethod yX2_init, Cond.code yX2_init cX2_init 2 none, Cond.methodLink RX2 3 objectInit, Cond.methodLink RX2 9 Lib.Math.min.name, Cond.static Lib.Math.min.name, Cond.initialized "java/lang/Math", Cond.code Lib.Math.min.name Lib.Math.min.code 2 (some .int), Cond.methodLink RX2 15 Lib.Math.max.name, Cond.static Lib.Math.max.name, Cond.code Lib.Math.max.name Lib.Math.max.code 2 (some .int), Cond.fieldLink RX2 18 "JumpGuard$Program" "most" "I"]
def wsX1_init_r2 : List Cond := [Cond.fieldLink RX2 24 "JumpGuard$Program" "numbers" "[I"]
def wsX1_init : List Cond := .code yX1_init cX1_init 1 none :: ((wsX1_init_r1 ++ wsX1_init_r2) ++ wsX10 ++ wsX20)
def wsJ7_fill_53178 : List Cond := .code yJ7_fill_53178 cJ7_fill_53178 4 none :: ([])
def wsX1_begin : List Cond := .code yX1_begin cX1_begin 2 none :: ([.fieldLink RX1 26 "JumpGuard$Machine" "program" "LJumpGuard$Program;", .fieldLink RX1 9 "JumpGuard$Machine" "registers" "[I", .fieldLink RX1 15 "JumpGuard$Machine" "cells" "[I", .fieldLink RX1 40 "JumpGuard$Machine" "counter" "I", .fieldLink RX1 43 "JumpGuard$Machine" "showCount" "I", .fieldLink RX1 30 "JumpGuard$Machine" "condition" "I", .methodLink RX1 34 yJ7_fill_53178, .static yJ7_fill_53178, .initialized RJ7, .code yJ7_fill_53178 cJ7_fill_53178 4 none] ++ wsX10)
def wsX1_stop : List Cond := .code yX1_stop cX1_stop 1 none :: ([.fieldLink RX1 30 "JumpGuard$Machine" "condition" "I"] ++ wsX10)
def wsX1_isIdle : List Cond := .code yX1_isIdle cX1_isIdle 1 (some .boolean) :: ([.fieldLink RX1 30 "JumpGuard$Machine" "condition" "I"] ++ wsX10)
def wsX2_has : List Cond := .code yX2_has cX2_has 2 (some .boolean) :: ([.fieldLink RX2 28 "JumpGuard$Program" "count" "I"] ++ wsX20)
def wsX2_get : List Cond := .code yX2_get cX2_get 3 (some .int) :: ([.fieldLink RX2 24 "JumpGuard$Program" "numbers" "[I", .methodLink RX2 31 yX2_has, .instanceMethod yX2_has, .selects RX2 yX2_has yX2_has, .initialized RX2, .code yX2_has cX2_has 2 (some .boolean), .fieldLink RX2 28 "JumpGuard$Program" "count" "I"] ++ wsX20)
def wsX3_isRegister : List Cond := .code yX3_isRegister cX3_isRegister 1 (some .boolean) :: ([])
def wsX1_setRegister : List Cond := .code yX1_setRegister cX1_setRegister 3 none :: ([.fieldLink RX1 9 "JumpGuard$Machine" "registers" "[I", .static yX3_isRegister, .initialized RX3, .code yX3_isRegister cX3_isRegister 1 (some .boolean)] ++ wsX10)
def wsX3_isCell : List Cond := .code yX3_isCell cX3_isCell 1 (some .boolean) :: ([])
def wsX1_cellValue : List Cond := .code yX1_cellValue cX1_cellValue 2 (some .int) :: ([.fieldLink RX1 15 "JumpGuard$Machine" "cells" "[I", .static yX3_isCell, .initialized RX3, .code yX3_isCell cX3_isCell 1 (some .boolean)] ++ wsX10)
def wsX1_registerValue : List Cond := .code yX1_registerValue cX1_registerValue 2 (some .int) :: ([.fieldLink RX1 9 "JumpGuard$Machine" "registers" "[I", .static yX3_isRegister, .initialized RX3, .code yX3_isRegister cX3_isRegister 1 (some .boolean)] ++ wsX10)
def wsX1_setCell : List Cond := .code yX1_setCell cX1_setCell 3 none :: ([.fieldLink RX1 15 "JumpGuard$Machine" "cells" "[I", .static yX3_isCell, .initialized RX3, .code yX3_isCell cX3_isCell 1 (some .boolean)] ++ wsX10)
def wsX1_keepShown : List Cond := .code yX1_keepShown cX1_keepShown 2 none :: ([.fieldLink RX1 18 "JumpGuard$Machine" "lastShown" "[I", .fieldLink RX1 43 "JumpGuard$Machine" "showCount" "I"] ++ wsX10)
def wsX1_jumpTo : List Cond := .code yX1_jumpTo cX1_jumpTo 2 (some .int) :: ([.fieldLink RX1 26 "JumpGuard$Machine" "program" "LJumpGuard$Program;", .fieldLink RX1 30 "JumpGuard$Machine" "condition" "I", .methodLink RX1 87 yX2_has, .instanceMethod yX2_has, .selects RX2 yX2_has yX2_has, .initialized RX2, .code yX2_has cX2_has 2 (some .boolean), .fieldLink RX2 28 "JumpGuard$Program" "count" "I"] ++ wsX10 ++ wsX20)
def wsX1_checkLabel : List Cond := .code yX1_checkLabel cX1_checkLabel 3 none :: ([.fieldLink RX1 26 "JumpGuard$Machine" "program" "LJumpGuard$Program;", .fieldLink RX1 30 "JumpGuard$Machine" "condition" "I", .methodLink RX1 56 yX2_get, .instanceMethod yX2_get, .selects RX2 yX2_get yX2_get, .initialized RX2, .code yX2_get cX2_get 3 (some .int), .fieldLink RX2 24 "JumpGuard$Program" "numbers" "[I", .methodLink RX2 31 yX2_has, .instanceMethod yX2_has, .selects RX2 yX2_has yX2_has, .code yX2_has cX2_has 2 (some .boolean), .fieldLink RX2 28 "JumpGuard$Program" "count" "I"] ++ wsX10 ++ wsX20)
def wsX1_carryOut_r1 : List Cond := [Cond.fieldLink RX1 40 "JumpGuard$Machine" "counter" "I", Cond.fieldLink RX1 30 "JumpGuard$Machine" "condition" "I", Cond.methodLink RX1 64 yX1_setRegister, Cond.instanceMethod yX1_setRegister, Cond.selects RX1 yX1_setRegister yX1_setRegister, Cond.initialized RX1, Cond.code yX1_setRegister cX1_setRegister 3 none, Cond.fieldLink RX1 9 "JumpGuard$Machine" "registers" "[I", Cond.static yX3_isRegister, Cond.initialized RX3, Cond.code yX3_isRegister cX3_isRegister 1 (some .boolean), Cond.methodLink RX1 68 yX1_cellValue, Cond.instanceMethod yX1_cellValue, Cond.selects RX1 yX1_cellValue yX1_cellValue, Cond.code yX1_cellValue cX1_cellValue 2 (some .int), Cond.fieldLink RX1 15 "JumpGuard$Machine" "cells" "[I", Cond.static yX3_isCell, Cond.code yX3_isCell cX3_isCell 1 (some .boolean), Cond.methodLink RX1 72 yX1_registerValue, Cond.instanceMethod yX1_registerValue, Cond.selects RX1 yX1_registerValue yX1_registerValue, Cond.code yX1_registerValue cX1_registerValue 2 (some .int), Cond.methodLink RX1 75 yX1_setCell, Cond.instanceMethod yX1_setCell]
def wsX1_carryOut_r2 : List Cond := [Cond.selects RX1 yX1_setCell yX1_setCell, Cond.code yX1_setCell cX1_setCell 3 none, Cond.methodLink RX1 78 yX1_keepShown, Cond.instanceMethod yX1_keepShown, Cond.selects RX1 yX1_keepShown yX1_keepShown, Cond.code yX1_keepShown cX1_keepShown 2 none, Cond.fieldLink RX1 18 "JumpGuard$Machine" "lastShown" "[I", Cond.fieldLink RX1 43 "JumpGuard$Machine" "showCount" "I", Cond.methodLink RX1 81 yX1_jumpTo, Cond.instanceMethod yX1_jumpTo, Cond.selects RX1 yX1_jumpTo yX1_jumpTo, Cond.code yX1_jumpTo cX1_jumpTo 2 (some .int), Cond.fieldLink RX1 26 "JumpGuard$Machine" "program" "LJumpGuard$Program;", Cond.methodLink RX1 87 yX2_has, Cond.instanceMethod yX2_has, Cond.selects RX2 yX2_has yX2_has, Cond.initialized RX2, Cond.code yX2_has cX2_has 2 (some .boolean), Cond.fieldLink RX2 28 "JumpGuard$Program" "count" "I", Cond.methodLink RX1 84 yX1_checkLabel, Cond.instanceMethod yX1_checkLabel, Cond.selects RX1 yX1_checkLabel yX1_checkLabel, Cond.code yX1_checkLabel cX1_checkLabel 3 none, Cond.methodLink RX1 56 yX2_get]
def wsX1_carryOut_r3 : List Cond := [Cond.instanceMethod yX2_get, Cond.selects RX2 yX2_get yX2_get, Cond.code yX2_get cX2_get 3 (some .int), Cond.fieldLink RX2 24 "JumpGuard$Program" "numbers" "[I", Cond.methodLink RX2 31 yX2_has]
def wsX1_carryOut : List Cond := .code yX1_carryOut cX1_carryOut 5 (some .int) :: ((wsX1_carryOut_r1 ++ (wsX1_carryOut_r2 ++ wsX1_carryOut_r3)) ++ wsX10 ++ wsX20)
def wsX1_makeStep_r1 : List Cond := [Cond.fieldLink RX1 26 "JumpGuard$Machine" "program" "LJumpGuard$Program;", Cond.fieldLink RX1 40 "JumpGuard$Machine" "counter" "I", Cond.fieldLink RX1 30 "JumpGuard$Machine" "condition" "I", Cond.methodLink RX1 56 yX2_get, Cond.instanceMethod yX2_get, Cond.selects RX2 yX2_get yX2_get, Cond.initialized RX2, Cond.code yX2_get cX2_get 3 (some .int), Cond.fieldLink RX2 24 "JumpGuard$Program" "numbers" "[I", Cond.methodLink RX2 31 yX2_has, Cond.instanceMethod yX2_has, Cond.selects RX2 yX2_has yX2_has, Cond.code yX2_has cX2_has 2 (some .boolean), Cond.fieldLink RX2 28 "JumpGuard$Program" "count" "I", Cond.methodLink RX1 60 yX1_carryOut, Cond.instanceMethod yX1_carryOut, Cond.selects RX1 yX1_carryOut yX1_carryOut, Cond.initialized RX1, Cond.code yX1_carryOut cX1_carryOut 5 (some .int), Cond.methodLink RX1 64 yX1_setRegister, Cond.instanceMethod yX1_setRegister, Cond.selects RX1 yX1_setRegister yX1_setRegister, Cond.code yX1_setRegister cX1_setRegister 3 none, Cond.fieldLink RX1 9 "JumpGuard$Machine" "registers" "[I"]
def wsX1_makeStep_r2 : List Cond := [Cond.static yX3_isRegister, Cond.initialized RX3, Cond.code yX3_isRegister cX3_isRegister 1 (some .boolean), Cond.methodLink RX1 68 yX1_cellValue, Cond.instanceMethod yX1_cellValue, Cond.selects RX1 yX1_cellValue yX1_cellValue, Cond.code yX1_cellValue cX1_cellValue 2 (some .int), Cond.fieldLink RX1 15 "JumpGuard$Machine" "cells" "[I", Cond.static yX3_isCell, Cond.code yX3_isCell cX3_isCell 1 (some .boolean), Cond.methodLink RX1 72 yX1_registerValue, Cond.instanceMethod yX1_registerValue, Cond.selects RX1 yX1_registerValue yX1_registerValue, Cond.code yX1_registerValue cX1_registerValue 2 (some .int), Cond.methodLink RX1 75 yX1_setCell, Cond.instanceMethod yX1_setCell, Cond.selects RX1 yX1_setCell yX1_setCell, Cond.code yX1_setCell cX1_setCell 3 none, Cond.methodLink RX1 78 yX1_keepShown, Cond.instanceMethod yX1_keepShown, Cond.selects RX1 yX1_keepShown yX1_keepShown, Cond.code yX1_keepShown cX1_keepShown 2 none, Cond.fieldLink RX1 18 "JumpGuard$Machine" "lastShown" "[I", Cond.fieldLink RX1 43 "JumpGuard$Machine" "showCount" "I"]
def wsX1_makeStep_r3 : List Cond := [Cond.methodLink RX1 81 yX1_jumpTo, Cond.instanceMethod yX1_jumpTo, Cond.selects RX1 yX1_jumpTo yX1_jumpTo, Cond.code yX1_jumpTo cX1_jumpTo 2 (some .int), Cond.methodLink RX1 87 yX2_has, Cond.methodLink RX1 84 yX1_checkLabel, Cond.instanceMethod yX1_checkLabel, Cond.selects RX1 yX1_checkLabel yX1_checkLabel, Cond.code yX1_checkLabel cX1_checkLabel 3 none]
def wsX1_makeStep : List Cond := .code yX1_makeStep cX1_makeStep 2 none :: ((wsX1_makeStep_r1 ++ (wsX1_makeStep_r2 ++ wsX1_makeStep_r3)) ++ wsX10 ++ wsX20)
def wsX1_makeSteps_r1 : List Cond := [Cond.fieldLink RX1 30 "JumpGuard$Machine" "condition" "I", Cond.methodLink RX1 46 yX1_makeStep, Cond.instanceMethod yX1_makeStep, Cond.selects RX1 yX1_makeStep yX1_makeStep, Cond.initialized RX1, Cond.code yX1_makeStep cX1_makeStep 2 none, Cond.fieldLink RX1 26 "JumpGuard$Machine" "program" "LJumpGuard$Program;", Cond.fieldLink RX1 40 "JumpGuard$Machine" "counter" "I", Cond.methodLink RX1 56 yX2_get, Cond.instanceMethod yX2_get, Cond.selects RX2 yX2_get yX2_get, Cond.initialized RX2, Cond.code yX2_get cX2_get 3 (some .int), Cond.fieldLink RX2 24 "JumpGuard$Program" "numbers" "[I", Cond.methodLink RX2 31 yX2_has, Cond.instanceMethod yX2_has, Cond.selects RX2 yX2_has yX2_has, Cond.code yX2_has cX2_has 2 (some .boolean), Cond.fieldLink RX2 28 "JumpGuard$Program" "count" "I", Cond.methodLink RX1 60 yX1_carryOut, Cond.instanceMethod yX1_carryOut, Cond.selects RX1 yX1_carryOut yX1_carryOut, Cond.code yX1_carryOut cX1_carryOut 5 (some .int), Cond.methodLink RX1 64 yX1_setRegister]
def wsX1_makeSteps_r2 : List Cond := [Cond.instanceMethod yX1_setRegister, Cond.selects RX1 yX1_setRegister yX1_setRegister, Cond.code yX1_setRegister cX1_setRegister 3 none, Cond.fieldLink RX1 9 "JumpGuard$Machine" "registers" "[I", Cond.static yX3_isRegister, Cond.initialized RX3, Cond.code yX3_isRegister cX3_isRegister 1 (some .boolean), Cond.methodLink RX1 68 yX1_cellValue, Cond.instanceMethod yX1_cellValue, Cond.selects RX1 yX1_cellValue yX1_cellValue, Cond.code yX1_cellValue cX1_cellValue 2 (some .int), Cond.fieldLink RX1 15 "JumpGuard$Machine" "cells" "[I", Cond.static yX3_isCell, Cond.code yX3_isCell cX3_isCell 1 (some .boolean), Cond.methodLink RX1 72 yX1_registerValue, Cond.instanceMethod yX1_registerValue, Cond.selects RX1 yX1_registerValue yX1_registerValue, Cond.code yX1_registerValue cX1_registerValue 2 (some .int), Cond.methodLink RX1 75 yX1_setCell, Cond.instanceMethod yX1_setCell, Cond.selects RX1 yX1_setCell yX1_setCell, Cond.code yX1_setCell cX1_setCell 3 none, Cond.methodLink RX1 78 yX1_keepShown, Cond.instanceMethod yX1_keepShown]
def wsX1_makeSteps_r3 : List Cond := [Cond.selects RX1 yX1_keepShown yX1_keepShown, Cond.code yX1_keepShown cX1_keepShown 2 none, Cond.fieldLink RX1 18 "JumpGuard$Machine" "lastShown" "[I", Cond.fieldLink RX1 43 "JumpGuard$Machine" "showCount" "I", Cond.methodLink RX1 81 yX1_jumpTo, Cond.instanceMethod yX1_jumpTo, Cond.selects RX1 yX1_jumpTo yX1_jumpTo, Cond.code yX1_jumpTo cX1_jumpTo 2 (some .int), Cond.methodLink RX1 87 yX2_has, Cond.methodLink RX1 84 yX1_checkLabel, Cond.instanceMethod yX1_checkLabel, Cond.selects RX1 yX1_checkLabel yX1_checkLabel, Cond.code yX1_checkLabel cX1_checkLabel 3 none]
def wsX1_makeSteps : List Cond := .code yX1_makeSteps cX1_makeSteps 3 (some .int) :: ((wsX1_makeSteps_r1 ++ (wsX1_makeSteps_r2 ++ wsX1_makeSteps_r3)) ++ wsX10 ++ wsX20)
def wsX1_shownBefore : List Cond := .code yX1_shownBefore cX1_shownBefore 2 (some .int) :: ([.fieldLink RX1 43 "JumpGuard$Machine" "showCount" "I", .fieldLink RX1 18 "JumpGuard$Machine" "lastShown" "[I"] ++ wsX10)
def wsX2_length : List Cond := .code yX2_length cX2_length 1 (some .int) :: ([.fieldLink RX2 28 "JumpGuard$Program" "count" "I"] ++ wsX20)
def wsX2_isFull : List Cond := .code yX2_isFull cX2_isFull 1 (some .boolean) :: ([.fieldLink RX2 28 "JumpGuard$Program" "count" "I", .fieldLink RX2 18 "JumpGuard$Program" "most" "I"] ++ wsX20)
def wsX2_append : List Cond := .code yX2_append cX2_append 4 none :: ([.fieldLink RX2 24 "JumpGuard$Program" "numbers" "[I", .fieldLink RX2 28 "JumpGuard$Program" "count" "I", .methodLink RX2 35 yX2_isFull, .instanceMethod yX2_isFull, .selects RX2 yX2_isFull yX2_isFull, .initialized RX2, .code yX2_isFull cX2_isFull 1 (some .boolean), .fieldLink RX2 18 "JumpGuard$Program" "most" "I"] ++ wsX20)
def wsX2_clear : List Cond := .code yX2_clear cX2_clear 1 none :: ([.fieldLink RX2 28 "JumpGuard$Program" "count" "I"] ++ wsX20)
def wsX3_init_r1 : List Cond := [Cond.methodLink RX3 1 objectInit, Cond.instanceMethod objectInit, Cond.code objectInit ⟨#[0xb1]⟩ 1 none, Cond.classLink RX3 7 RX2, Cond.instantiable RX2 3, Cond.initialized RX2, Cond.fieldLink RX3 14 "JumpGuard" "sourceProgram" "LJumpGuard$Program;", Cond.fieldLink RX3 18 "JumpGuard" "guardedProgram" "LJumpGuard$Program;", Cond.classLink RX3 21 RX0, Cond.instantiable RX0 4, Cond.initialized RX0, Cond.fieldLink RX3 24 "JumpGuard" "edges" "LJumpGuard$Edges;", Cond.arrayClass .int, Cond.fieldLink RX3 28 "JumpGuard" "places" "[I", Cond.classLink RX3 32 RX1, Cond.instantiable RX1 7, Cond.initialized RX1, Cond.fieldLink RX3 35 "JumpGuard" "machine" "LJumpGuard$Machine;", Cond.methodLink RX3 11 yX2_init, Cond.instanceMethod yX2_init, Cond.code yX2_init cX2_init 2 none, Cond.methodLink RX2 3 objectInit, Cond.methodLink RX2 9 Lib.Math.min.name, Cond.static Lib.Math.min.name]
def wsX3_init_r2 : List Cond := [Cond.initialized "java/lang/Math", Cond.code Lib.Math.min.name Lib.Math.min.code 2 (some .int), Cond.methodLink RX2 15 Lib.Math.max.name, Cond.static Lib.Math.max.name, Cond.code Lib.Math.max.name Lib.Math.max.code 2 (some .int), Cond.fieldLink RX2 18 "JumpGuard$Program" "most" "I", Cond.fieldLink RX2 24 "JumpGuard$Program" "numbers" "[I", Cond.instanceMethod yX0_init, Cond.code yX0_init cX0_init 1 none, Cond.methodLink RX0 3 objectInit, Cond.fieldLink RX0 9 "JumpGuard$Edges" "targets" "[I", Cond.fieldLink RX0 15 "JumpGuard$Edges" "targetNumbers" "[I", Cond.fieldLink RX0 18 "JumpGuard$Edges" "jumpNumbers" "[I", Cond.instanceMethod yX1_init, Cond.code yX1_init cX1_init 1 none, Cond.methodLink RX1 3 objectInit, Cond.fieldLink RX1 9 "JumpGuard$Machine" "registers" "[I", Cond.fieldLink RX1 15 "JumpGuard$Machine" "cells" "[I", Cond.fieldLink RX1 18 "JumpGuard$Machine" "lastShown" "[I", Cond.classLink RX1 21 RX2, Cond.fieldLink RX1 26 "JumpGuard$Machine" "program" "LJumpGuard$Program;", Cond.fieldLink RX1 30 "JumpGuard$Machine" "condition" "I", Cond.methodLink RX1 23 yX2_init]
def wsX3_init : List Cond := .code yX3_init cX3_init 1 none :: ((wsX3_init_r1 ++ wsX3_init_r2) ++ wsX20 ++ wsX30 ++ wsX00 ++ wsX10)
def wsX3_isSourceInstruction : List Cond := .code yX3_isSourceInstruction cX3_isSourceInstruction 3 (some .boolean) :: ([.methodLink RX3 125 yX3_isRegister, .static yX3_isRegister, .initialized RX3, .code yX3_isRegister cX3_isRegister 1 (some .boolean), .methodLink RX3 103 yX3_isCell, .static yX3_isCell, .code yX3_isCell cX3_isCell 1 (some .boolean), .methodLink RX3 128 yX3_isAddress, .static yX3_isAddress, .code yX3_isAddress cX3_isAddress 1 (some .boolean)])
def wsX3_dropGuarded : List Cond := .code yX3_dropGuarded cX3_dropGuarded 1 none :: ([.fieldLink RX3 18 "JumpGuard" "guardedProgram" "LJumpGuard$Program;", .fieldLink RX3 35 "JumpGuard" "machine" "LJumpGuard$Machine;", .methodLink RX3 131 yX2_clear, .instanceMethod yX2_clear, .selects RX2 yX2_clear yX2_clear, .initialized RX2, .code yX2_clear cX2_clear 1 none, .fieldLink RX2 28 "JumpGuard$Program" "count" "I", .methodLink RX3 134 yX1_stop, .instanceMethod yX1_stop, .selects RX1 yX1_stop yX1_stop, .initialized RX1, .code yX1_stop cX1_stop 1 none, .fieldLink RX1 30 "JumpGuard$Machine" "condition" "I"] ++ wsX30 ++ wsX20 ++ wsX10)
def wsX3_add_r1 : List Cond := [Cond.fieldLink RX3 14 "JumpGuard" "sourceProgram" "LJumpGuard$Program;", Cond.methodLink RX3 39 yX3_isSourceInstruction, Cond.static yX3_isSourceInstruction, Cond.initialized RX3, Cond.code yX3_isSourceInstruction cX3_isSourceInstruction 3 (some .boolean), Cond.methodLink RX3 125 yX3_isRegister, Cond.static yX3_isRegister, Cond.code yX3_isRegister cX3_isRegister 1 (some .boolean), Cond.methodLink RX3 103 yX3_isCell, Cond.static yX3_isCell, Cond.code yX3_isCell cX3_isCell 1 (some .boolean), Cond.methodLink RX3 128 yX3_isAddress, Cond.static yX3_isAddress, Cond.code yX3_isAddress cX3_isAddress 1 (some .boolean), Cond.methodLink RX3 43 yX2_isFull, Cond.instanceMethod yX2_isFull, Cond.selects RX2 yX2_isFull yX2_isFull, Cond.initialized RX2, Cond.code yX2_isFull cX2_isFull 1 (some .boolean), Cond.fieldLink RX2 28 "JumpGuard$Program" "count" "I", Cond.fieldLink RX2 18 "JumpGuard$Program" "most" "I", Cond.methodLink RX3 47 yX2_length, Cond.instanceMethod yX2_length, Cond.selects RX2 yX2_length yX2_length]
def wsX3_add_r2 : List Cond := [Cond.code yX2_length cX2_length 1 (some .int), Cond.methodLink RX3 51 yX2_append, Cond.instanceMethod yX2_append, Cond.selects RX2 yX2_append yX2_append, Cond.code yX2_append cX2_append 4 none, Cond.fieldLink RX2 24 "JumpGuard$Program" "numbers" "[I", Cond.methodLink RX2 35 yX2_isFull, Cond.methodLink RX3 55 yX3_dropGuarded, Cond.instanceMethod yX3_dropGuarded, Cond.selects RX3 yX3_dropGuarded yX3_dropGuarded, Cond.code yX3_dropGuarded cX3_dropGuarded 1 none, Cond.fieldLink RX3 18 "JumpGuard" "guardedProgram" "LJumpGuard$Program;", Cond.fieldLink RX3 35 "JumpGuard" "machine" "LJumpGuard$Machine;", Cond.methodLink RX3 131 yX2_clear, Cond.instanceMethod yX2_clear, Cond.selects RX2 yX2_clear yX2_clear, Cond.code yX2_clear cX2_clear 1 none, Cond.methodLink RX3 134 yX1_stop, Cond.instanceMethod yX1_stop, Cond.selects RX1 yX1_stop yX1_stop, Cond.initialized RX1, Cond.code yX1_stop cX1_stop 1 none, Cond.fieldLink RX1 30 "JumpGuard$Machine" "condition" "I"]
def wsX3_add : List Cond := .code yX3_add cX3_add 5 (some .int) :: ((wsX3_add_r1 ++ wsX3_add_r2) ++ wsX30 ++ wsX20 ++ wsX10)
def wsX3_allow_r1 : List Cond := [Cond.fieldLink RX3 14 "JumpGuard" "sourceProgram" "LJumpGuard$Program;", Cond.fieldLink RX3 24 "JumpGuard" "edges" "LJumpGuard$Edges;", Cond.methodLink RX3 58 yX2_get, Cond.instanceMethod yX2_get, Cond.selects RX2 yX2_get yX2_get, Cond.initialized RX2, Cond.code yX2_get cX2_get 3 (some .int), Cond.fieldLink RX2 24 "JumpGuard$Program" "numbers" "[I", Cond.methodLink RX2 31 yX2_has, Cond.instanceMethod yX2_has, Cond.selects RX2 yX2_has yX2_has, Cond.code yX2_has cX2_has 2 (some .boolean), Cond.fieldLink RX2 28 "JumpGuard$Program" "count" "I", Cond.methodLink RX3 62 yX2_has, Cond.methodLink RX3 66 yX0_connect, Cond.instanceMethod yX0_connect, Cond.selects RX0 yX0_connect yX0_connect, Cond.initialized RX0, Cond.code yX0_connect cX0_connect 4 (some .boolean), Cond.fieldLink RX0 25 "JumpGuard$Edges" "count" "I", Cond.fieldLink RX0 9 "JumpGuard$Edges" "targets" "[I", Cond.fieldLink RX0 15 "JumpGuard$Edges" "targetNumbers" "[I", Cond.static yX3_isAddress, Cond.initialized RX3]
def wsX3_allow_r2 : List Cond := [Cond.code yX3_isAddress cX3_isAddress 1 (some .boolean), Cond.methodLink RX0 29 yX0_joinClasses, Cond.instanceMethod yX0_joinClasses, Cond.selects RX0 yX0_joinClasses yX0_joinClasses, Cond.code yX0_joinClasses cX0_joinClasses 7 none, Cond.fieldLink RX0 18 "JumpGuard$Edges" "jumpNumbers" "[I", Cond.methodLink RX0 40 Lib.Math.min.name, Cond.static Lib.Math.min.name, Cond.initialized "java/lang/Math", Cond.code Lib.Math.min.name Lib.Math.min.code 2 (some .int), Cond.methodLink RX0 46 Lib.Math.max.name, Cond.static Lib.Math.max.name, Cond.code Lib.Math.max.name Lib.Math.max.code 2 (some .int), Cond.methodLink RX0 33 yX0_numberOfJump, Cond.instanceMethod yX0_numberOfJump, Cond.selects RX0 yX0_numberOfJump yX0_numberOfJump, Cond.code yX0_numberOfJump cX0_numberOfJump 2 (some .int), Cond.methodLink RX0 37 yX0_numberOfTarget, Cond.instanceMethod yX0_numberOfTarget, Cond.selects RX0 yX0_numberOfTarget yX0_numberOfTarget, Cond.code yX0_numberOfTarget cX0_numberOfTarget 2 (some .int), Cond.methodLink RX0 49 yX0_renumber, Cond.static yX0_renumber, Cond.code yX0_renumber cX0_renumber 4 none]
def wsX3_allow_r3 : List Cond := [Cond.methodLink RX3 55 yX3_dropGuarded, Cond.instanceMethod yX3_dropGuarded, Cond.selects RX3 yX3_dropGuarded yX3_dropGuarded, Cond.code yX3_dropGuarded cX3_dropGuarded 1 none, Cond.fieldLink RX3 18 "JumpGuard" "guardedProgram" "LJumpGuard$Program;", Cond.fieldLink RX3 35 "JumpGuard" "machine" "LJumpGuard$Machine;", Cond.methodLink RX3 131 yX2_clear, Cond.instanceMethod yX2_clear, Cond.selects RX2 yX2_clear yX2_clear, Cond.code yX2_clear cX2_clear 1 none, Cond.methodLink RX3 134 yX1_stop, Cond.instanceMethod yX1_stop, Cond.selects RX1 yX1_stop yX1_stop, Cond.initialized RX1, Cond.code yX1_stop cX1_stop 1 none, Cond.fieldLink RX1 30 "JumpGuard$Machine" "condition" "I"]
def wsX3_allow : List Cond := .code yX3_allow cX3_allow 3 (some .boolean) :: ((wsX3_allow_r1 ++ (wsX3_allow_r2 ++ wsX3_allow_r3)) ++ wsX30 ++ wsX20 ++ wsX00 ++ wsX10)
def wsX3_holdsAddressInB : List Cond := .code yX3_holdsAddressInB cX3_holdsAddressInB 1 (some .boolean) :: ([])
def wsX3_hasItsAddress : List Cond := .code yX3_hasItsAddress cX3_hasItsAddress 3 (some .boolean) :: ([.fieldLink RX3 14 "JumpGuard" "sourceProgram" "LJumpGuard$Program;", .methodLink RX3 58 yX2_get, .instanceMethod yX2_get, .selects RX2 yX2_get yX2_get, .initialized RX2, .code yX2_get cX2_get 3 (some .int), .fieldLink RX2 24 "JumpGuard$Program" "numbers" "[I", .methodLink RX2 31 yX2_has, .instanceMethod yX2_has, .selects RX2 yX2_has yX2_has, .code yX2_has cX2_has 2 (some .boolean), .fieldLink RX2 28 "JumpGuard$Program" "count" "I", .methodLink RX3 62 yX2_has, .methodLink RX3 140 yX3_holdsAddressInB, .static yX3_holdsAddressInB, .initialized RX3, .code yX3_holdsAddressInB cX3_holdsAddressInB 1 (some .boolean)] ++ wsX30 ++ wsX20)
def wsX3_isClosed_r1 : List Cond := [Cond.fieldLink RX3 14 "JumpGuard" "sourceProgram" "LJumpGuard$Program;", Cond.methodLink RX3 47 yX2_length, Cond.instanceMethod yX2_length, Cond.selects RX2 yX2_length yX2_length, Cond.initialized RX2, Cond.code yX2_length cX2_length 1 (some .int), Cond.fieldLink RX2 28 "JumpGuard$Program" "count" "I", Cond.methodLink RX3 58 yX2_get, Cond.instanceMethod yX2_get, Cond.selects RX2 yX2_get yX2_get, Cond.code yX2_get cX2_get 3 (some .int), Cond.fieldLink RX2 24 "JumpGuard$Program" "numbers" "[I", Cond.methodLink RX2 31 yX2_has, Cond.instanceMethod yX2_has, Cond.selects RX2 yX2_has yX2_has, Cond.code yX2_has cX2_has 2 (some .boolean), Cond.methodLink RX3 137 yX3_hasItsAddress, Cond.instanceMethod yX3_hasItsAddress, Cond.selects RX3 yX3_hasItsAddress yX3_hasItsAddress, Cond.initialized RX3, Cond.code yX3_hasItsAddress cX3_hasItsAddress 3 (some .boolean), Cond.methodLink RX3 62 yX2_has, Cond.methodLink RX3 140 yX3_holdsAddressInB, Cond.static yX3_holdsAddressInB]
def wsX3_isClosed_r2 : List Cond := [Cond.code yX3_holdsAddressInB cX3_holdsAddressInB 1 (some .boolean)]
def wsX3_isClosed : List Cond := .code yX3_isClosed cX3_isClosed 3 (some .boolean) :: ((wsX3_isClosed_r1 ++ wsX3_isClosed_r2) ++ wsX30 ++ wsX20)
def wsX3_setPlaces_r1 : List Cond := [Cond.fieldLink RX3 14 "JumpGuard" "sourceProgram" "LJumpGuard$Program;", Cond.fieldLink RX3 28 "JumpGuard" "places" "[I", Cond.fieldLink RX3 24 "JumpGuard" "edges" "LJumpGuard$Edges;", Cond.methodLink RX3 47 yX2_length, Cond.instanceMethod yX2_length, Cond.selects RX2 yX2_length yX2_length, Cond.initialized RX2, Cond.code yX2_length cX2_length 1 (some .int), Cond.fieldLink RX2 28 "JumpGuard$Program" "count" "I", Cond.methodLink RX3 86 yX0_numberOfTarget, Cond.instanceMethod yX0_numberOfTarget, Cond.selects RX0 yX0_numberOfTarget yX0_numberOfTarget, Cond.initialized RX0, Cond.code yX0_numberOfTarget cX0_numberOfTarget 2 (some .int), Cond.fieldLink RX0 15 "JumpGuard$Edges" "targetNumbers" "[I", Cond.static yX3_isAddress, Cond.initialized RX3, Cond.code yX3_isAddress cX3_isAddress 1 (some .boolean), Cond.methodLink RX3 58 yX2_get, Cond.instanceMethod yX2_get, Cond.selects RX2 yX2_get yX2_get, Cond.code yX2_get cX2_get 3 (some .int), Cond.fieldLink RX2 24 "JumpGuard$Program" "numbers" "[I", Cond.methodLink RX2 31 yX2_has]
def wsX3_setPlaces_r2 : List Cond := [Cond.instanceMethod yX2_has, Cond.selects RX2 yX2_has yX2_has, Cond.code yX2_has cX2_has 2 (some .boolean)]
def wsX3_setPlaces : List Cond := .code yX3_setPlaces cX3_setPlaces 3 none :: ((wsX3_setPlaces_r1 ++ wsX3_setPlaces_r2) ++ wsX30 ++ wsX20 ++ wsX00)
def wsX3_placeOf : List Cond := .code yX3_placeOf cX3_placeOf 2 (some .int) :: ([.fieldLink RX3 28 "JumpGuard" "places" "[I", .methodLink RX3 128 yX3_isAddress, .static yX3_isAddress, .initialized RX3, .code yX3_isAddress cX3_isAddress 1 (some .boolean)] ++ wsX30)
def wsX3_appendGuarded_r1 : List Cond := [Cond.fieldLink RX3 14 "JumpGuard" "sourceProgram" "LJumpGuard$Program;", Cond.fieldLink RX3 24 "JumpGuard" "edges" "LJumpGuard$Edges;", Cond.fieldLink RX3 18 "JumpGuard" "guardedProgram" "LJumpGuard$Program;", Cond.methodLink RX3 58 yX2_get, Cond.instanceMethod yX2_get, Cond.selects RX2 yX2_get yX2_get, Cond.initialized RX2, Cond.code yX2_get cX2_get 3 (some .int), Cond.fieldLink RX2 24 "JumpGuard$Program" "numbers" "[I", Cond.methodLink RX2 31 yX2_has, Cond.instanceMethod yX2_has, Cond.selects RX2 yX2_has yX2_has, Cond.code yX2_has cX2_has 2 (some .boolean), Cond.fieldLink RX2 28 "JumpGuard$Program" "count" "I", Cond.methodLink RX3 86 yX0_numberOfTarget, Cond.instanceMethod yX0_numberOfTarget, Cond.selects RX0 yX0_numberOfTarget yX0_numberOfTarget, Cond.initialized RX0, Cond.code yX0_numberOfTarget cX0_numberOfTarget 2 (some .int), Cond.fieldLink RX0 15 "JumpGuard$Edges" "targetNumbers" "[I", Cond.static yX3_isAddress, Cond.initialized RX3, Cond.code yX3_isAddress cX3_isAddress 1 (some .boolean), Cond.methodLink RX3 51 yX2_append]
def wsX3_appendGuarded_r2 : List Cond := [Cond.instanceMethod yX2_append, Cond.selects RX2 yX2_append yX2_append, Cond.code yX2_append cX2_append 4 none, Cond.methodLink RX2 35 yX2_isFull, Cond.instanceMethod yX2_isFull, Cond.selects RX2 yX2_isFull yX2_isFull, Cond.code yX2_isFull cX2_isFull 1 (some .boolean), Cond.fieldLink RX2 18 "JumpGuard$Program" "most" "I", Cond.methodLink RX3 143 yX0_numberOfJump, Cond.instanceMethod yX0_numberOfJump, Cond.selects RX0 yX0_numberOfJump yX0_numberOfJump, Cond.code yX0_numberOfJump cX0_numberOfJump 2 (some .int), Cond.fieldLink RX0 18 "JumpGuard$Edges" "jumpNumbers" "[I", Cond.methodLink RX3 82 yX3_placeOf, Cond.instanceMethod yX3_placeOf, Cond.selects RX3 yX3_placeOf yX3_placeOf, Cond.code yX3_placeOf cX3_placeOf 2 (some .int), Cond.fieldLink RX3 28 "JumpGuard" "places" "[I", Cond.methodLink RX3 128 yX3_isAddress, Cond.methodLink RX3 140 yX3_holdsAddressInB, Cond.static yX3_holdsAddressInB, Cond.code yX3_holdsAddressInB cX3_holdsAddressInB 1 (some .boolean)]
def wsX3_appendGuarded : List Cond := .code yX3_appendGuarded cX3_appendGuarded 6 none :: ((wsX3_appendGuarded_r1 ++ wsX3_appendGuarded_r2) ++ wsX30 ++ wsX20 ++ wsX00)
def wsX3_protect_r1 : List Cond := [Cond.fieldLink RX3 14 "JumpGuard" "sourceProgram" "LJumpGuard$Program;", Cond.fieldLink RX3 18 "JumpGuard" "guardedProgram" "LJumpGuard$Program;", Cond.methodLink RX3 55 yX3_dropGuarded, Cond.instanceMethod yX3_dropGuarded, Cond.selects RX3 yX3_dropGuarded yX3_dropGuarded, Cond.initialized RX3, Cond.code yX3_dropGuarded cX3_dropGuarded 1 none, Cond.fieldLink RX3 35 "JumpGuard" "machine" "LJumpGuard$Machine;", Cond.methodLink RX3 131 yX2_clear, Cond.instanceMethod yX2_clear, Cond.selects RX2 yX2_clear yX2_clear, Cond.initialized RX2, Cond.code yX2_clear cX2_clear 1 none, Cond.fieldLink RX2 28 "JumpGuard$Program" "count" "I", Cond.methodLink RX3 134 yX1_stop, Cond.instanceMethod yX1_stop, Cond.selects RX1 yX1_stop yX1_stop, Cond.initialized RX1, Cond.code yX1_stop cX1_stop 1 none, Cond.fieldLink RX1 30 "JumpGuard$Machine" "condition" "I", Cond.methodLink RX3 70 yX3_isClosed, Cond.instanceMethod yX3_isClosed, Cond.selects RX3 yX3_isClosed yX3_isClosed, Cond.code yX3_isClosed cX3_isClosed 3 (some .boolean)]
def wsX3_protect_r2 : List Cond := [Cond.methodLink RX3 47 yX2_length, Cond.instanceMethod yX2_length, Cond.selects RX2 yX2_length yX2_length, Cond.code yX2_length cX2_length 1 (some .int), Cond.methodLink RX3 58 yX2_get, Cond.instanceMethod yX2_get, Cond.selects RX2 yX2_get yX2_get, Cond.code yX2_get cX2_get 3 (some .int), Cond.fieldLink RX2 24 "JumpGuard$Program" "numbers" "[I", Cond.methodLink RX2 31 yX2_has, Cond.instanceMethod yX2_has, Cond.selects RX2 yX2_has yX2_has, Cond.code yX2_has cX2_has 2 (some .boolean), Cond.methodLink RX3 137 yX3_hasItsAddress, Cond.instanceMethod yX3_hasItsAddress, Cond.selects RX3 yX3_hasItsAddress yX3_hasItsAddress, Cond.code yX3_hasItsAddress cX3_hasItsAddress 3 (some .boolean), Cond.methodLink RX3 62 yX2_has, Cond.methodLink RX3 140 yX3_holdsAddressInB, Cond.static yX3_holdsAddressInB, Cond.code yX3_holdsAddressInB cX3_holdsAddressInB 1 (some .boolean), Cond.methodLink RX3 73 yX3_setPlaces, Cond.instanceMethod yX3_setPlaces, Cond.selects RX3 yX3_setPlaces yX3_setPlaces]
def wsX3_protect_r3 : List Cond := [Cond.code yX3_setPlaces cX3_setPlaces 3 none, Cond.fieldLink RX3 28 "JumpGuard" "places" "[I", Cond.fieldLink RX3 24 "JumpGuard" "edges" "LJumpGuard$Edges;", Cond.methodLink RX3 86 yX0_numberOfTarget, Cond.instanceMethod yX0_numberOfTarget, Cond.selects RX0 yX0_numberOfTarget yX0_numberOfTarget, Cond.initialized RX0, Cond.code yX0_numberOfTarget cX0_numberOfTarget 2 (some .int), Cond.fieldLink RX0 15 "JumpGuard$Edges" "targetNumbers" "[I", Cond.static yX3_isAddress, Cond.code yX3_isAddress cX3_isAddress 1 (some .boolean), Cond.methodLink RX3 76 yX3_appendGuarded, Cond.instanceMethod yX3_appendGuarded, Cond.selects RX3 yX3_appendGuarded yX3_appendGuarded, Cond.code yX3_appendGuarded cX3_appendGuarded 6 none, Cond.methodLink RX3 51 yX2_append, Cond.instanceMethod yX2_append, Cond.selects RX2 yX2_append yX2_append, Cond.code yX2_append cX2_append 4 none, Cond.methodLink RX2 35 yX2_isFull, Cond.instanceMethod yX2_isFull, Cond.selects RX2 yX2_isFull yX2_isFull, Cond.code yX2_isFull cX2_isFull 1 (some .boolean), Cond.fieldLink RX2 18 "JumpGuard$Program" "most" "I"]
def wsX3_protect_r4 : List Cond := [Cond.methodLink RX3 143 yX0_numberOfJump, Cond.instanceMethod yX0_numberOfJump, Cond.selects RX0 yX0_numberOfJump yX0_numberOfJump, Cond.code yX0_numberOfJump cX0_numberOfJump 2 (some .int), Cond.fieldLink RX0 18 "JumpGuard$Edges" "jumpNumbers" "[I", Cond.methodLink RX3 82 yX3_placeOf, Cond.instanceMethod yX3_placeOf, Cond.selects RX3 yX3_placeOf yX3_placeOf, Cond.code yX3_placeOf cX3_placeOf 2 (some .int), Cond.methodLink RX3 128 yX3_isAddress]
def wsX3_protect : List Cond := .code yX3_protect cX3_protect 2 (some .int) :: ((wsX3_protect_r1 ++ (wsX3_protect_r2 ++ (wsX3_protect_r3 ++ wsX3_protect_r4))) ++ wsX30 ++ wsX20 ++ wsX10 ++ wsX00)
def wsX3_source : List Cond := .code yX3_source cX3_source 3 (some .int) :: ([.fieldLink RX3 14 "JumpGuard" "sourceProgram" "LJumpGuard$Program;", .methodLink RX3 58 yX2_get, .instanceMethod yX2_get, .selects RX2 yX2_get yX2_get, .initialized RX2, .code yX2_get cX2_get 3 (some .int), .fieldLink RX2 24 "JumpGuard$Program" "numbers" "[I", .methodLink RX2 31 yX2_has, .instanceMethod yX2_has, .selects RX2 yX2_has yX2_has, .code yX2_has cX2_has 2 (some .boolean), .fieldLink RX2 28 "JumpGuard$Program" "count" "I"] ++ wsX30 ++ wsX20)
def wsX3_guarded : List Cond := .code yX3_guarded cX3_guarded 3 (some .int) :: ([.fieldLink RX3 18 "JumpGuard" "guardedProgram" "LJumpGuard$Program;", .methodLink RX3 58 yX2_get, .instanceMethod yX2_get, .selects RX2 yX2_get yX2_get, .initialized RX2, .code yX2_get cX2_get 3 (some .int), .fieldLink RX2 24 "JumpGuard$Program" "numbers" "[I", .methodLink RX2 31 yX2_has, .instanceMethod yX2_has, .selects RX2 yX2_has yX2_has, .code yX2_has cX2_has 2 (some .boolean), .fieldLink RX2 28 "JumpGuard$Program" "count" "I"] ++ wsX30 ++ wsX20)
def wsX3_isGuarded : List Cond := .code yX3_isGuarded cX3_isGuarded 1 (some .boolean) :: ([.fieldLink RX3 18 "JumpGuard" "guardedProgram" "LJumpGuard$Program;", .methodLink RX3 47 yX2_length, .instanceMethod yX2_length, .selects RX2 yX2_length yX2_length, .initialized RX2, .code yX2_length cX2_length 1 (some .int), .fieldLink RX2 28 "JumpGuard$Program" "count" "I"] ++ wsX30 ++ wsX20)
def wsX3_place_r1 : List Cond := [Cond.fieldLink RX3 14 "JumpGuard" "sourceProgram" "LJumpGuard$Program;", Cond.methodLink RX3 79 yX3_isGuarded, Cond.instanceMethod yX3_isGuarded, Cond.selects RX3 yX3_isGuarded yX3_isGuarded, Cond.initialized RX3, Cond.code yX3_isGuarded cX3_isGuarded 1 (some .boolean), Cond.fieldLink RX3 18 "JumpGuard" "guardedProgram" "LJumpGuard$Program;", Cond.methodLink RX3 47 yX2_length, Cond.instanceMethod yX2_length, Cond.selects RX2 yX2_length yX2_length, Cond.initialized RX2, Cond.code yX2_length cX2_length 1 (some .int), Cond.fieldLink RX2 28 "JumpGuard$Program" "count" "I", Cond.methodLink RX3 62 yX2_has, Cond.instanceMethod yX2_has, Cond.selects RX2 yX2_has yX2_has, Cond.code yX2_has cX2_has 2 (some .boolean), Cond.methodLink RX3 82 yX3_placeOf, Cond.instanceMethod yX3_placeOf, Cond.selects RX3 yX3_placeOf yX3_placeOf, Cond.code yX3_placeOf cX3_placeOf 2 (some .int), Cond.fieldLink RX3 28 "JumpGuard" "places" "[I", Cond.methodLink RX3 128 yX3_isAddress, Cond.static yX3_isAddress]
def wsX3_place_r2 : List Cond := [Cond.code yX3_isAddress cX3_isAddress 1 (some .boolean)]
def wsX3_place : List Cond := .code yX3_place cX3_place 2 (some .int) :: ((wsX3_place_r1 ++ wsX3_place_r2) ++ wsX30 ++ wsX20)
def wsX3_label : List Cond := .code yX3_label cX3_label 2 (some .int) :: ([.fieldLink RX3 14 "JumpGuard" "sourceProgram" "LJumpGuard$Program;", .fieldLink RX3 24 "JumpGuard" "edges" "LJumpGuard$Edges;", .methodLink RX3 62 yX2_has, .instanceMethod yX2_has, .selects RX2 yX2_has yX2_has, .initialized RX2, .code yX2_has cX2_has 2 (some .boolean), .fieldLink RX2 28 "JumpGuard$Program" "count" "I", .methodLink RX3 86 yX0_numberOfTarget, .instanceMethod yX0_numberOfTarget, .selects RX0 yX0_numberOfTarget yX0_numberOfTarget, .initialized RX0, .code yX0_numberOfTarget cX0_numberOfTarget 2 (some .int), .fieldLink RX0 15 "JumpGuard$Edges" "targetNumbers" "[I", .static yX3_isAddress, .initialized RX3, .code yX3_isAddress cX3_isAddress 1 (some .boolean)] ++ wsX30 ++ wsX20 ++ wsX00)
def wsX3_start_r1 : List Cond := [Cond.fieldLink RX3 35 "JumpGuard" "machine" "LJumpGuard$Machine;", Cond.fieldLink RX3 18 "JumpGuard" "guardedProgram" "LJumpGuard$Program;", Cond.fieldLink RX3 14 "JumpGuard" "sourceProgram" "LJumpGuard$Program;", Cond.methodLink RX3 79 yX3_isGuarded, Cond.instanceMethod yX3_isGuarded, Cond.selects RX3 yX3_isGuarded yX3_isGuarded, Cond.initialized RX3, Cond.code yX3_isGuarded cX3_isGuarded 1 (some .boolean), Cond.methodLink RX3 47 yX2_length, Cond.instanceMethod yX2_length, Cond.selects RX2 yX2_length yX2_length, Cond.initialized RX2, Cond.code yX2_length cX2_length 1 (some .int), Cond.fieldLink RX2 28 "JumpGuard$Program" "count" "I", Cond.methodLink RX3 89 yX1_begin, Cond.instanceMethod yX1_begin, Cond.selects RX1 yX1_begin yX1_begin, Cond.initialized RX1, Cond.code yX1_begin cX1_begin 2 none, Cond.fieldLink RX1 26 "JumpGuard$Machine" "program" "LJumpGuard$Program;", Cond.fieldLink RX1 9 "JumpGuard$Machine" "registers" "[I", Cond.fieldLink RX1 15 "JumpGuard$Machine" "cells" "[I", Cond.fieldLink RX1 40 "JumpGuard$Machine" "counter" "I", Cond.fieldLink RX1 43 "JumpGuard$Machine" "showCount" "I"]
def wsX3_start_r2 : List Cond := [Cond.fieldLink RX1 30 "JumpGuard$Machine" "condition" "I", Cond.methodLink RX1 34 yJ7_fill_53178, Cond.static yJ7_fill_53178, Cond.initialized RJ7, Cond.code yJ7_fill_53178 cJ7_fill_53178 4 none]
def wsX3_start : List Cond := .code yX3_start cX3_start 2 (some .boolean) :: ((wsX3_start_r1 ++ wsX3_start_r2) ++ wsX30 ++ wsX20 ++ wsX10)
def wsX3_run_r1 : List Cond := [Cond.fieldLink RX3 35 "JumpGuard" "machine" "LJumpGuard$Machine;", Cond.methodLink RX3 93 yX1_makeSteps, Cond.instanceMethod yX1_makeSteps, Cond.selects RX1 yX1_makeSteps yX1_makeSteps, Cond.initialized RX1, Cond.code yX1_makeSteps cX1_makeSteps 3 (some .int), Cond.fieldLink RX1 30 "JumpGuard$Machine" "condition" "I", Cond.methodLink RX1 46 yX1_makeStep, Cond.instanceMethod yX1_makeStep, Cond.selects RX1 yX1_makeStep yX1_makeStep, Cond.code yX1_makeStep cX1_makeStep 2 none, Cond.fieldLink RX1 26 "JumpGuard$Machine" "program" "LJumpGuard$Program;", Cond.fieldLink RX1 40 "JumpGuard$Machine" "counter" "I", Cond.methodLink RX1 56 yX2_get, Cond.instanceMethod yX2_get, Cond.selects RX2 yX2_get yX2_get, Cond.initialized RX2, Cond.code yX2_get cX2_get 3 (some .int), Cond.fieldLink RX2 24 "JumpGuard$Program" "numbers" "[I", Cond.methodLink RX2 31 yX2_has, Cond.instanceMethod yX2_has, Cond.selects RX2 yX2_has yX2_has, Cond.code yX2_has cX2_has 2 (some .boolean), Cond.fieldLink RX2 28 "JumpGuard$Program" "count" "I"]
def wsX3_run_r2 : List Cond := [Cond.methodLink RX1 60 yX1_carryOut, Cond.instanceMethod yX1_carryOut, Cond.selects RX1 yX1_carryOut yX1_carryOut, Cond.code yX1_carryOut cX1_carryOut 5 (some .int), Cond.methodLink RX1 64 yX1_setRegister, Cond.instanceMethod yX1_setRegister, Cond.selects RX1 yX1_setRegister yX1_setRegister, Cond.code yX1_setRegister cX1_setRegister 3 none, Cond.fieldLink RX1 9 "JumpGuard$Machine" "registers" "[I", Cond.static yX3_isRegister, Cond.initialized RX3, Cond.code yX3_isRegister cX3_isRegister 1 (some .boolean), Cond.methodLink RX1 68 yX1_cellValue, Cond.instanceMethod yX1_cellValue, Cond.selects RX1 yX1_cellValue yX1_cellValue, Cond.code yX1_cellValue cX1_cellValue 2 (some .int), Cond.fieldLink RX1 15 "JumpGuard$Machine" "cells" "[I", Cond.static yX3_isCell, Cond.code yX3_isCell cX3_isCell 1 (some .boolean), Cond.methodLink RX1 72 yX1_registerValue, Cond.instanceMethod yX1_registerValue, Cond.selects RX1 yX1_registerValue yX1_registerValue, Cond.code yX1_registerValue cX1_registerValue 2 (some .int), Cond.methodLink RX1 75 yX1_setCell]
def wsX3_run_r3 : List Cond := [Cond.instanceMethod yX1_setCell, Cond.selects RX1 yX1_setCell yX1_setCell, Cond.code yX1_setCell cX1_setCell 3 none, Cond.methodLink RX1 78 yX1_keepShown, Cond.instanceMethod yX1_keepShown, Cond.selects RX1 yX1_keepShown yX1_keepShown, Cond.code yX1_keepShown cX1_keepShown 2 none, Cond.fieldLink RX1 18 "JumpGuard$Machine" "lastShown" "[I", Cond.fieldLink RX1 43 "JumpGuard$Machine" "showCount" "I", Cond.methodLink RX1 81 yX1_jumpTo, Cond.instanceMethod yX1_jumpTo, Cond.selects RX1 yX1_jumpTo yX1_jumpTo, Cond.code yX1_jumpTo cX1_jumpTo 2 (some .int), Cond.methodLink RX1 87 yX2_has, Cond.methodLink RX1 84 yX1_checkLabel, Cond.instanceMethod yX1_checkLabel, Cond.selects RX1 yX1_checkLabel yX1_checkLabel, Cond.code yX1_checkLabel cX1_checkLabel 3 none]
def wsX3_run : List Cond := .code yX3_run cX3_run 2 (some .int) :: ((wsX3_run_r1 ++ (wsX3_run_r2 ++ wsX3_run_r3)) ++ wsX30 ++ wsX10 ++ wsX20)
def wsX3_state : List Cond := .code yX3_state cX3_state 1 (some .int) :: ([.fieldLink RX3 35 "JumpGuard" "machine" "LJumpGuard$Machine;"] ++ wsX30 ++ wsX10)
def wsX3_overwrite : List Cond := .code yX3_overwrite cX3_overwrite 3 (some .boolean) :: ([.fieldLink RX3 35 "JumpGuard" "machine" "LJumpGuard$Machine;", .methodLink RX3 100 yX1_isIdle, .instanceMethod yX1_isIdle, .selects RX1 yX1_isIdle yX1_isIdle, .initialized RX1, .code yX1_isIdle cX1_isIdle 1 (some .boolean), .fieldLink RX1 30 "JumpGuard$Machine" "condition" "I", .methodLink RX3 103 yX3_isCell, .static yX3_isCell, .initialized RX3, .code yX3_isCell cX3_isCell 1 (some .boolean), .methodLink RX3 106 yX1_setCell, .instanceMethod yX1_setCell, .selects RX1 yX1_setCell yX1_setCell, .code yX1_setCell cX1_setCell 3 none, .fieldLink RX1 15 "JumpGuard$Machine" "cells" "[I"] ++ wsX30 ++ wsX10)
def wsX3_memory : List Cond := .code yX3_memory cX3_memory 2 (some .int) :: ([.fieldLink RX3 35 "JumpGuard" "machine" "LJumpGuard$Machine;", .methodLink RX3 100 yX1_isIdle, .instanceMethod yX1_isIdle, .selects RX1 yX1_isIdle yX1_isIdle, .initialized RX1, .code yX1_isIdle cX1_isIdle 1 (some .boolean), .fieldLink RX1 30 "JumpGuard$Machine" "condition" "I", .methodLink RX3 110 yX1_cellValue, .instanceMethod yX1_cellValue, .selects RX1 yX1_cellValue yX1_cellValue, .code yX1_cellValue cX1_cellValue 2 (some .int), .fieldLink RX1 15 "JumpGuard$Machine" "cells" "[I", .static yX3_isCell, .initialized RX3, .code yX3_isCell cX3_isCell 1 (some .boolean)] ++ wsX30 ++ wsX10)
def wsX3_register : List Cond := .code yX3_register cX3_register 2 (some .int) :: ([.fieldLink RX3 35 "JumpGuard" "machine" "LJumpGuard$Machine;", .methodLink RX3 100 yX1_isIdle, .instanceMethod yX1_isIdle, .selects RX1 yX1_isIdle yX1_isIdle, .initialized RX1, .code yX1_isIdle cX1_isIdle 1 (some .boolean), .fieldLink RX1 30 "JumpGuard$Machine" "condition" "I", .methodLink RX3 113 yX1_registerValue, .instanceMethod yX1_registerValue, .selects RX1 yX1_registerValue yX1_registerValue, .code yX1_registerValue cX1_registerValue 2 (some .int), .fieldLink RX1 9 "JumpGuard$Machine" "registers" "[I", .static yX3_isRegister, .initialized RX3, .code yX3_isRegister cX3_isRegister 1 (some .boolean)] ++ wsX30 ++ wsX10)
def wsX3_pc : List Cond := .code yX3_pc cX3_pc 1 (some .int) :: ([.fieldLink RX3 35 "JumpGuard" "machine" "LJumpGuard$Machine;", .methodLink RX3 100 yX1_isIdle, .instanceMethod yX1_isIdle, .selects RX1 yX1_isIdle yX1_isIdle, .initialized RX1, .code yX1_isIdle cX1_isIdle 1 (some .boolean), .fieldLink RX1 30 "JumpGuard$Machine" "condition" "I"] ++ wsX30 ++ wsX10)
def wsX3_shows : List Cond := .code yX3_shows cX3_shows 1 (some .int) :: ([.fieldLink RX3 35 "JumpGuard" "machine" "LJumpGuard$Machine;", .methodLink RX3 100 yX1_isIdle, .instanceMethod yX1_isIdle, .selects RX1 yX1_isIdle yX1_isIdle, .initialized RX1, .code yX1_isIdle cX1_isIdle 1 (some .boolean), .fieldLink RX1 30 "JumpGuard$Machine" "condition" "I"] ++ wsX30 ++ wsX10)
def wsX3_shown : List Cond := .code yX3_shown cX3_shown 2 (some .int) :: ([.fieldLink RX3 35 "JumpGuard" "machine" "LJumpGuard$Machine;", .methodLink RX3 100 yX1_isIdle, .instanceMethod yX1_isIdle, .selects RX1 yX1_isIdle yX1_isIdle, .initialized RX1, .code yX1_isIdle cX1_isIdle 1 (some .boolean), .fieldLink RX1 30 "JumpGuard$Machine" "condition" "I", .methodLink RX3 122 yX1_shownBefore, .instanceMethod yX1_shownBefore, .selects RX1 yX1_shownBefore yX1_shownBefore, .code yX1_shownBefore cX1_shownBefore 2 (some .int), .fieldLink RX1 43 "JumpGuard$Machine" "showCount" "I", .fieldLink RX1 18 "JumpGuard$Machine" "lastShown" "[I"] ++ wsX30 ++ wsX10)
def wsX4_init : List Cond := .code yX4_init cX4_init 1 none :: ([.methodLink RX4 1 objectInit, .instanceMethod objectInit, .code objectInit ⟨#[0xb1]⟩ 1 none, .arrayClass .int, .fieldLink RX4 7 "JumpGuardModel" "code" "[I", .fieldLink RX4 13 "JumpGuardModel" "jump" "[I", .fieldLink RX4 16 "JumpGuardModel" "end" "[I", .fieldLink RX4 19 "JumpGuardModel" "ofTarget" "[I", .fieldLink RX4 22 "JumpGuardModel" "ofJump" "[I", .fieldLink RX4 25 "JumpGuardModel" "at" "[I", .fieldLink RX4 28 "JumpGuardModel" "reg" "[I", .fieldLink RX4 31 "JumpGuardModel" "mem" "[I", .fieldLink RX4 34 "JumpGuardModel" "told" "[I", .fieldLink RX4 37 "JumpGuardModel" "state" "I"] ++ wsX40)
def wsX4_within : List Cond := .code yX4_within cX4_within 2 (some .boolean) :: ([])
def wsX4_fits : List Cond := .code yX4_fits cX4_fits 3 (some .boolean) :: ([.methodLink RX4 41 yX4_within, .static yX4_within, .initialized RX4, .code yX4_within cX4_within 2 (some .boolean)])
def wsX4_undo : List Cond := .code yX4_undo cX4_undo 1 none :: ([.fieldLink RX4 45 "JumpGuardModel" "size" "I", .fieldLink RX4 37 "JumpGuardModel" "state" "I"] ++ wsX40)
def wsX4_add : List Cond := .code yX4_add cX4_add 4 (some .int) :: ([.fieldLink RX4 52 "JumpGuardModel" "n" "I", .fieldLink RX4 7 "JumpGuardModel" "code" "[I", .methodLink RX4 48 yX4_fits, .static yX4_fits, .initialized RX4, .code yX4_fits cX4_fits 3 (some .boolean), .methodLink RX4 41 yX4_within, .static yX4_within, .code yX4_within cX4_within 2 (some .boolean), .methodLink RX4 55 yX4_undo, .instanceMethod yX4_undo, .selects RX4 yX4_undo yX4_undo, .code yX4_undo cX4_undo 1 none, .fieldLink RX4 45 "JumpGuardModel" "size" "I", .fieldLink RX4 37 "JumpGuardModel" "state" "I"] ++ wsX40)
def wsX4_allow : List Cond := .code yX4_allow cX4_allow 4 (some .boolean) :: ([.fieldLink RX4 52 "JumpGuardModel" "n" "I", .fieldLink RX4 7 "JumpGuardModel" "code" "[I", .fieldLink RX4 58 "JumpGuardModel" "edges" "I", .fieldLink RX4 13 "JumpGuardModel" "jump" "[I", .fieldLink RX4 16 "JumpGuardModel" "end" "[I", .methodLink RX4 41 yX4_within, .static yX4_within, .initialized RX4, .code yX4_within cX4_within 2 (some .boolean), .methodLink RX4 55 yX4_undo, .instanceMethod yX4_undo, .selects RX4 yX4_undo yX4_undo, .code yX4_undo cX4_undo 1 none, .fieldLink RX4 45 "JumpGuardModel" "size" "I", .fieldLink RX4 37 "JumpGuardModel" "state" "I"] ++ wsX40)
def wsX4_classes : List Cond := .code yX4_classes cX4_classes 5 none :: ([.fieldLink RX4 19 "JumpGuardModel" "ofTarget" "[I", .fieldLink RX4 22 "JumpGuardModel" "ofJump" "[I", .fieldLink RX4 58 "JumpGuardModel" "edges" "I", .fieldLink RX4 16 "JumpGuardModel" "end" "[I", .fieldLink RX4 13 "JumpGuardModel" "jump" "[I"] ++ wsX40)
def wsX4_whole : List Cond := .code yX4_whole cX4_whole 4 (some .boolean) :: ([.fieldLink RX4 52 "JumpGuardModel" "n" "I", .fieldLink RX4 7 "JumpGuardModel" "code" "[I"] ++ wsX40)
def wsX4_put : List Cond := .code yX4_put cX4_put 4 none :: ([.fieldLink RX4 7 "JumpGuardModel" "code" "[I", .fieldLink RX4 45 "JumpGuardModel" "size" "I"] ++ wsX40)
def wsX4_protect_r1 : List Cond := [Cond.fieldLink RX4 52 "JumpGuardModel" "n" "I", Cond.fieldLink RX4 25 "JumpGuardModel" "at" "[I", Cond.fieldLink RX4 19 "JumpGuardModel" "ofTarget" "[I", Cond.fieldLink RX4 7 "JumpGuardModel" "code" "[I", Cond.fieldLink RX4 22 "JumpGuardModel" "ofJump" "[I", Cond.fieldLink RX4 45 "JumpGuardModel" "size" "I", Cond.methodLink RX4 55 yX4_undo, Cond.instanceMethod yX4_undo, Cond.selects RX4 yX4_undo yX4_undo, Cond.initialized RX4, Cond.code yX4_undo cX4_undo 1 none, Cond.fieldLink RX4 37 "JumpGuardModel" "state" "I", Cond.methodLink RX4 61 yX4_whole, Cond.instanceMethod yX4_whole, Cond.selects RX4 yX4_whole yX4_whole, Cond.code yX4_whole cX4_whole 4 (some .boolean), Cond.methodLink RX4 65 yX4_classes, Cond.instanceMethod yX4_classes, Cond.selects RX4 yX4_classes yX4_classes, Cond.code yX4_classes cX4_classes 5 none, Cond.fieldLink RX4 58 "JumpGuardModel" "edges" "I", Cond.fieldLink RX4 16 "JumpGuardModel" "end" "[I", Cond.fieldLink RX4 13 "JumpGuardModel" "jump" "[I", Cond.methodLink RX4 68 yX4_put]
def wsX4_protect_r2 : List Cond := [Cond.instanceMethod yX4_put, Cond.selects RX4 yX4_put yX4_put, Cond.code yX4_put cX4_put 4 none]
def wsX4_protect : List Cond := .code yX4_protect cX4_protect 6 (some .int) :: ((wsX4_protect_r1 ++ wsX4_protect_r2) ++ wsX40)
def wsX4_source : List Cond := .code yX4_source cX4_source 3 (some .int) :: ([.fieldLink RX4 52 "JumpGuardModel" "n" "I", .fieldLink RX4 7 "JumpGuardModel" "code" "[I", .methodLink RX4 41 yX4_within, .static yX4_within, .initialized RX4, .code yX4_within cX4_within 2 (some .boolean)] ++ wsX40)
def wsX4_guarded : List Cond := .code yX4_guarded cX4_guarded 3 (some .int) :: ([.fieldLink RX4 45 "JumpGuardModel" "size" "I", .fieldLink RX4 7 "JumpGuardModel" "code" "[I", .methodLink RX4 41 yX4_within, .static yX4_within, .initialized RX4, .code yX4_within cX4_within 2 (some .boolean)] ++ wsX40)
def wsX4_place : List Cond := .code yX4_place cX4_place 2 (some .int) :: ([.fieldLink RX4 52 "JumpGuardModel" "n" "I", .fieldLink RX4 45 "JumpGuardModel" "size" "I", .fieldLink RX4 25 "JumpGuardModel" "at" "[I", .methodLink RX4 41 yX4_within, .static yX4_within, .initialized RX4, .code yX4_within cX4_within 2 (some .boolean)] ++ wsX40)
def wsX4_label : List Cond := .code yX4_label cX4_label 2 (some .int) :: ([.fieldLink RX4 52 "JumpGuardModel" "n" "I", .fieldLink RX4 19 "JumpGuardModel" "ofTarget" "[I", .methodLink RX4 41 yX4_within, .static yX4_within, .initialized RX4, .code yX4_within cX4_within 2 (some .boolean), .methodLink RX4 65 yX4_classes, .instanceMethod yX4_classes, .selects RX4 yX4_classes yX4_classes, .code yX4_classes cX4_classes 5 none, .fieldLink RX4 22 "JumpGuardModel" "ofJump" "[I", .fieldLink RX4 58 "JumpGuardModel" "edges" "I", .fieldLink RX4 16 "JumpGuardModel" "end" "[I", .fieldLink RX4 13 "JumpGuardModel" "jump" "[I"] ++ wsX40)
def wsX4_start : List Cond := .code yX4_start cX4_start 3 (some .boolean) :: ([.fieldLink RX4 45 "JumpGuardModel" "size" "I", .fieldLink RX4 72 "JumpGuardModel" "base" "I", .fieldLink RX4 52 "JumpGuardModel" "n" "I", .fieldLink RX4 75 "JumpGuardModel" "length" "I", .fieldLink RX4 28 "JumpGuardModel" "reg" "[I", .fieldLink RX4 31 "JumpGuardModel" "mem" "[I", .fieldLink RX4 78 "JumpGuardModel" "pc" "I", .fieldLink RX4 37 "JumpGuardModel" "state" "I", .fieldLink RX4 81 "JumpGuardModel" "shows" "I"] ++ wsX40)
def wsX4_step : List Cond := .code yX4_step cX4_step 7 none :: ([.fieldLink RX4 7 "JumpGuardModel" "code" "[I", .fieldLink RX4 72 "JumpGuardModel" "base" "I", .fieldLink RX4 78 "JumpGuardModel" "pc" "I", .fieldLink RX4 37 "JumpGuardModel" "state" "I", .fieldLink RX4 28 "JumpGuardModel" "reg" "[I", .fieldLink RX4 31 "JumpGuardModel" "mem" "[I", .fieldLink RX4 34 "JumpGuardModel" "told" "[I", .fieldLink RX4 81 "JumpGuardModel" "shows" "I", .fieldLink RX4 75 "JumpGuardModel" "length" "I", .methodLink RX4 41 yX4_within, .static yX4_within, .initialized RX4, .code yX4_within cX4_within 2 (some .boolean)] ++ wsX40)
def wsX4_run : List Cond := .code yX4_run cX4_run 4 (some .int) :: ([.fieldLink RX4 37 "JumpGuardModel" "state" "I", .methodLink RX4 84 yX4_step, .instanceMethod yX4_step, .selects RX4 yX4_step yX4_step, .initialized RX4, .code yX4_step cX4_step 7 none, .fieldLink RX4 7 "JumpGuardModel" "code" "[I", .fieldLink RX4 72 "JumpGuardModel" "base" "I", .fieldLink RX4 78 "JumpGuardModel" "pc" "I", .fieldLink RX4 28 "JumpGuardModel" "reg" "[I", .fieldLink RX4 31 "JumpGuardModel" "mem" "[I", .fieldLink RX4 34 "JumpGuardModel" "told" "[I", .fieldLink RX4 81 "JumpGuardModel" "shows" "I", .fieldLink RX4 75 "JumpGuardModel" "length" "I", .methodLink RX4 41 yX4_within, .static yX4_within, .code yX4_within cX4_within 2 (some .boolean)] ++ wsX40)
def wsX4_state : List Cond := .code yX4_state cX4_state 1 (some .int) :: ([.fieldLink RX4 37 "JumpGuardModel" "state" "I"] ++ wsX40)
def wsX4_overwrite : List Cond := .code yX4_overwrite cX4_overwrite 3 (some .boolean) :: ([.fieldLink RX4 37 "JumpGuardModel" "state" "I", .fieldLink RX4 31 "JumpGuardModel" "mem" "[I", .methodLink RX4 41 yX4_within, .static yX4_within, .initialized RX4, .code yX4_within cX4_within 2 (some .boolean)] ++ wsX40)
def wsX4_memory : List Cond := .code yX4_memory cX4_memory 2 (some .int) :: ([.fieldLink RX4 37 "JumpGuardModel" "state" "I", .fieldLink RX4 31 "JumpGuardModel" "mem" "[I", .methodLink RX4 41 yX4_within, .static yX4_within, .initialized RX4, .code yX4_within cX4_within 2 (some .boolean)] ++ wsX40)
def wsX4_register : List Cond := .code yX4_register cX4_register 2 (some .int) :: ([.fieldLink RX4 37 "JumpGuardModel" "state" "I", .fieldLink RX4 28 "JumpGuardModel" "reg" "[I", .methodLink RX4 41 yX4_within, .static yX4_within, .initialized RX4, .code yX4_within cX4_within 2 (some .boolean)] ++ wsX40)
def wsX4_pc : List Cond := .code yX4_pc cX4_pc 1 (some .int) :: ([.fieldLink RX4 37 "JumpGuardModel" "state" "I", .fieldLink RX4 78 "JumpGuardModel" "pc" "I"] ++ wsX40)
def wsX4_shows : List Cond := .code yX4_shows cX4_shows 1 (some .int) :: ([.fieldLink RX4 37 "JumpGuardModel" "state" "I", .fieldLink RX4 81 "JumpGuardModel" "shows" "I"] ++ wsX40)
def wsX4_shown : List Cond := .code yX4_shown cX4_shown 2 (some .int) :: ([.fieldLink RX4 37 "JumpGuardModel" "state" "I", .fieldLink RX4 81 "JumpGuardModel" "shows" "I", .fieldLink RX4 34 "JumpGuardModel" "told" "[I", .methodLink RX4 41 yX4_within, .static yX4_within, .initialized RX4, .code yX4_within cX4_within 2 (some .boolean)] ++ wsX40)
def wsJ9_max_7cf53 : List Cond := .code yJ9_max_7cf53 cJ9_max_7cf53 2 (some .int) :: ([])
def wsJ9_min_7cf53 : List Cond := .code yJ9_min_7cf53 cJ9_min_7cf53 2 (some .int) :: ([])
theorem inX0 : ∀ w ∈ wsX00, w ∈ lw_tbl := by decide +kernel
theorem inX1 : ∀ w ∈ wsX10, w ∈ lw_tbl := by decide +kernel
theorem inX2 : ∀ w ∈ wsX20, w ∈ lw_tbl := by decide +kernel
theorem inX3 : ∀ w ∈ wsX30, w ∈ lw_tbl := by decide +kernel
theorem inX4 : ∀ w ∈ wsX40, w ∈ lw_tbl := by decide +kernel
theorem inJ9 : ∀ w ∈ wsJ90, w ∈ lw_tbl := by decide +kernel
theorem inJ7 : ∀ w ∈ wsJ70, w ∈ lw_tbl := by decide +kernel
abbrev vwCl : List vw_C := [(RX0, TX0, 4), (RX1, TX1, 7), (RX2, TX2, 3), (RX3, TX3, 5), (RX4, TX4, 17)]
end
section
theorem dX0_init_0 : decode cX0_init 0 = .ok (.aload_n 0, 1) := by decide +kernel
theorem dX0_init_1 : decode cX0_init 1 = .ok (.invokespecial 3, 3) := by decide +kernel
theorem dX0_init_4 : decode cX0_init 4 = .ok (.aload_n 0, 1) := by decide +kernel
theorem dX0_init_5 : decode cX0_init 5 = .ok (.bipush 24, 2) := by decide +kernel
theorem dX0_init_7 : decode cX0_init 7 = .ok (.newarray .int, 2) := by decide +kernel
theorem dX0_init_9 : decode cX0_init 9 = .ok (.putfield 9, 3) := by decide +kernel
theorem dX0_init_12 : decode cX0_init 12 = .ok (.aload_n 0, 1) := by decide +kernel
theorem dX0_init_13 : decode cX0_init 13 = .ok (.bipush 24, 2) := by decide +kernel
theorem dX0_init_15 : decode cX0_init 15 = .ok (.newarray .int, 2) := by decide +kernel
theorem dX0_init_17 : decode cX0_init 17 = .ok (.putfield 15, 3) := by decide +kernel
theorem dX0_init_20 : decode cX0_init 20 = .ok (.aload_n 0, 1) := by decide +kernel
theorem dX0_init_21 : decode cX0_init 21 = .ok (.bipush 24, 2) := by decide +kernel
theorem dX0_init_23 : decode cX0_init 23 = .ok (.newarray .int, 2) := by decide +kernel
theorem dX0_init_25 : decode cX0_init 25 = .ok (.putfield 18, 3) := by decide +kernel
theorem dX0_init_28 : decode cX0_init 28 = .ok (.return_, 1) := by decide +kernel
set_option maxRecDepth 20000 in
theorem ggX0_connect_X3_isAddress : GoodIn wsX0_connect wsX3_isAddress := goodIn_r _ [6] (by decide +kernel) (by decide +kernel)
set_option maxRecDepth 20000 in
theorem gX0_connect_X3_isAddress_n21 : GoodIn wsX0_connect (wsX3_isAddress) := ggX0_connect_X3_isAddress
set_option maxRecDepth 20000 in
theorem ggX0_connect_X0_joinClasses : GoodIn wsX0_connect wsX0_joinClasses := goodIn_r _ [11, 12, 13, 14, 15, 16, 17, 18, 19, 3, 20, 21, 22, 10, 23, 4, 5, 6, 24, 25, 26, 27, 28, 29, 30, 31, 32, 33, 34] (by decide +kernel) (by decide +kernel)
set_option maxRecDepth 20000 in
theorem gX0_connect_X0_joinClasses : GoodIn wsX0_connect (wsV RX0 29 RX0 yX0_joinClasses wsX0_joinClasses) := goodIn_app (goodIn_of _ (by decide +kernel)) ggX0_connect_X0_joinClasses
theorem dX0_connect_0 : decode cX0_connect 0 = .ok (.iload_n 1, 1) := by decide +kernel
theorem dX0_connect_1 : decode cX0_connect 1 = .ok (.invokestatic 21, 3) := by decide +kernel
theorem dX0_connect_4 : decode cX0_connect 4 = .ok (.ifCond .eq 19, 3) := by decide +kernel
theorem dX0_connect_7 : decode cX0_connect 7 = .ok (.iload_n 2, 1) := by decide +kernel
theorem dX0_connect_8 : decode cX0_connect 8 = .ok (.invokestatic 21, 3) := by decide +kernel
theorem dX0_connect_11 : decode cX0_connect 11 = .ok (.ifCond .eq 12, 3) := by decide +kernel
theorem dX0_connect_14 : decode cX0_connect 14 = .ok (.aload_n 0, 1) := by decide +kernel
theorem dX0_connect_15 : decode cX0_connect 15 = .ok (.getfield 25, 3) := by decide +kernel
theorem dX0_connect_18 : decode cX0_connect 18 = .ok (.bipush 48, 2) := by decide +kernel
theorem dX0_connect_20 : decode cX0_connect 20 = .ok (.if_icmp .lt 5, 3) := by decide +kernel
theorem dX0_connect_23 : decode cX0_connect 23 = .ok (.iconst 0, 1) := by decide +kernel
theorem dX0_connect_24 : decode cX0_connect 24 = .ok (.ireturn, 1) := by decide +kernel
theorem dX0_connect_25 : decode cX0_connect 25 = .ok (.iconst 1, 1) := by decide +kernel
theorem dX0_connect_26 : decode cX0_connect 26 = .ok (.iload_n 2, 1) := by decide +kernel
theorem dX0_connect_27 : decode cX0_connect 27 = .ok (.ishl, 1) := by decide +kernel
theorem dX0_connect_28 : decode cX0_connect 28 = .ok (.istore_n 3, 1) := by decide +kernel
theorem dX0_connect_29 : decode cX0_connect 29 = .ok (.aload_n 0, 1) := by decide +kernel
theorem dX0_connect_30 : decode cX0_connect 30 = .ok (.getfield 9, 3) := by decide +kernel
theorem dX0_connect_33 : decode cX0_connect 33 = .ok (.iload_n 1, 1) := by decide +kernel
theorem dX0_connect_34 : decode cX0_connect 34 = .ok (.iaload, 1) := by decide +kernel
theorem dX0_connect_35 : decode cX0_connect 35 = .ok (.iload_n 3, 1) := by decide +kernel
theorem dX0_connect_36 : decode cX0_connect 36 = .ok (.iand, 1) := by decide +kernel
theorem dX0_connect_37 : decode cX0_connect 37 = .ok (.ifCond .eq 5, 3) := by decide +kernel
theorem dX0_connect_40 : decode cX0_connect 40 = .ok (.iconst 0, 1) := by decide +kernel
theorem dX0_connect_41 : decode cX0_connect 41 = .ok (.ireturn, 1) := by decide +kernel
theorem dX0_connect_42 : decode cX0_connect 42 = .ok (.aload_n 0, 1) := by decide +kernel
theorem dX0_connect_43 : decode cX0_connect 43 = .ok (.getfield 9, 3) := by decide +kernel
theorem dX0_connect_46 : decode cX0_connect 46 = .ok (.iload_n 1, 1) := by decide +kernel
theorem dX0_connect_47 : decode cX0_connect 47 = .ok (.dup2, 1) := by decide +kernel
theorem dX0_connect_48 : decode cX0_connect 48 = .ok (.iaload, 1) := by decide +kernel
theorem dX0_connect_49 : decode cX0_connect 49 = .ok (.iload_n 3, 1) := by decide +kernel
theorem dX0_connect_50 : decode cX0_connect 50 = .ok (.ior, 1) := by decide +kernel
theorem dX0_connect_51 : decode cX0_connect 51 = .ok (.iastore, 1) := by decide +kernel
theorem dX0_connect_52 : decode cX0_connect 52 = .ok (.aload_n 0, 1) := by decide +kernel
theorem dX0_connect_53 : decode cX0_connect 53 = .ok (.dup, 1) := by decide +kernel
theorem dX0_connect_54 : decode cX0_connect 54 = .ok (.getfield 25, 3) := by decide +kernel
theorem dX0_connect_57 : decode cX0_connect 57 = .ok (.iconst 1, 1) := by decide +kernel
theorem dX0_connect_58 : decode cX0_connect 58 = .ok (.iadd, 1) := by decide +kernel
theorem dX0_connect_59 : decode cX0_connect 59 = .ok (.putfield 25, 3) := by decide +kernel
theorem dX0_connect_62 : decode cX0_connect 62 = .ok (.aload_n 0, 1) := by decide +kernel
theorem dX0_connect_63 : decode cX0_connect 63 = .ok (.getfield 15, 3) := by decide +kernel
theorem dX0_connect_66 : decode cX0_connect 66 = .ok (.iload_n 2, 1) := by decide +kernel
theorem dX0_connect_67 : decode cX0_connect 67 = .ok (.iaload, 1) := by decide +kernel
theorem dX0_connect_68 : decode cX0_connect 68 = .ok (.ifCond .ne 12, 3) := by decide +kernel
theorem dX0_connect_71 : decode cX0_connect 71 = .ok (.aload_n 0, 1) := by decide +kernel
theorem dX0_connect_72 : decode cX0_connect 72 = .ok (.getfield 15, 3) := by decide +kernel
theorem dX0_connect_75 : decode cX0_connect 75 = .ok (.iload_n 2, 1) := by decide +kernel
theorem dX0_connect_76 : decode cX0_connect 76 = .ok (.iload_n 2, 1) := by decide +kernel
theorem dX0_connect_77 : decode cX0_connect 77 = .ok (.iconst 1, 1) := by decide +kernel
theorem dX0_connect_78 : decode cX0_connect 78 = .ok (.iadd, 1) := by decide +kernel
theorem dX0_connect_79 : decode cX0_connect 79 = .ok (.iastore, 1) := by decide +kernel
theorem dX0_connect_80 : decode cX0_connect 80 = .ok (.aload_n 0, 1) := by decide +kernel
theorem dX0_connect_81 : decode cX0_connect 81 = .ok (.iload_n 1, 1) := by decide +kernel
theorem dX0_connect_82 : decode cX0_connect 82 = .ok (.iload_n 2, 1) := by decide +kernel
theorem dX0_connect_83 : decode cX0_connect 83 = .ok (.invokevirtual 29, 3) := by decide +kernel
theorem dX0_connect_86 : decode cX0_connect 86 = .ok (.iconst 1, 1) := by decide +kernel
theorem dX0_connect_87 : decode cX0_connect 87 = .ok (.ireturn, 1) := by decide +kernel
set_option maxRecDepth 20000 in
theorem ggX0_numberOfTarget_X3_isAddress : GoodIn wsX0_numberOfTarget wsX3_isAddress := goodIn_r _ [4] (by decide +kernel) (by decide +kernel)
set_option maxRecDepth 20000 in
theorem gX0_numberOfTarget_X3_isAddress_n21 : GoodIn wsX0_numberOfTarget (wsX3_isAddress) := ggX0_numberOfTarget_X3_isAddress
theorem dX0_numberOfTarget_0 : decode cX0_numberOfTarget 0 = .ok (.iload_n 1, 1) := by decide +kernel
theorem dX0_numberOfTarget_1 : decode cX0_numberOfTarget 1 = .ok (.invokestatic 21, 3) := by decide +kernel
theorem dX0_numberOfTarget_4 : decode cX0_numberOfTarget 4 = .ok (.ifCond .eq 12, 3) := by decide +kernel
theorem dX0_numberOfTarget_7 : decode cX0_numberOfTarget 7 = .ok (.aload_n 0, 1) := by decide +kernel
theorem dX0_numberOfTarget_8 : decode cX0_numberOfTarget 8 = .ok (.getfield 15, 3) := by decide +kernel
theorem dX0_numberOfTarget_11 : decode cX0_numberOfTarget 11 = .ok (.iload_n 1, 1) := by decide +kernel
theorem dX0_numberOfTarget_12 : decode cX0_numberOfTarget 12 = .ok (.iaload, 1) := by decide +kernel
theorem dX0_numberOfTarget_13 : decode cX0_numberOfTarget 13 = .ok (.goto 4, 3) := by decide +kernel
theorem dX0_numberOfTarget_16 : decode cX0_numberOfTarget 16 = .ok (.iconst 0, 1) := by decide +kernel
theorem dX0_numberOfTarget_17 : decode cX0_numberOfTarget 17 = .ok (.ireturn, 1) := by decide +kernel
set_option maxRecDepth 20000 in
theorem ggX0_numberOfJump_X3_isAddress : GoodIn wsX0_numberOfJump wsX3_isAddress := goodIn_r _ [4] (by decide +kernel) (by decide +kernel)
set_option maxRecDepth 20000 in
theorem gX0_numberOfJump_X3_isAddress_n21 : GoodIn wsX0_numberOfJump (wsX3_isAddress) := ggX0_numberOfJump_X3_isAddress
theorem dX0_numberOfJump_0 : decode cX0_numberOfJump 0 = .ok (.iload_n 1, 1) := by decide +kernel
theorem dX0_numberOfJump_1 : decode cX0_numberOfJump 1 = .ok (.invokestatic 21, 3) := by decide +kernel
theorem dX0_numberOfJump_4 : decode cX0_numberOfJump 4 = .ok (.ifCond .eq 12, 3) := by decide +kernel
theorem dX0_numberOfJump_7 : decode cX0_numberOfJump 7 = .ok (.aload_n 0, 1) := by decide +kernel
theorem dX0_numberOfJump_8 : decode cX0_numberOfJump 8 = .ok (.getfield 18, 3) := by decide +kernel
theorem dX0_numberOfJump_11 : decode cX0_numberOfJump 11 = .ok (.iload_n 1, 1) := by decide +kernel
theorem dX0_numberOfJump_12 : decode cX0_numberOfJump 12 = .ok (.iaload, 1) := by decide +kernel
theorem dX0_numberOfJump_13 : decode cX0_numberOfJump 13 = .ok (.goto 4, 3) := by decide +kernel
theorem dX0_numberOfJump_16 : decode cX0_numberOfJump 16 = .ok (.iconst 0, 1) := by decide +kernel
theorem dX0_numberOfJump_17 : decode cX0_numberOfJump 17 = .ok (.ireturn, 1) := by decide +kernel
set_option maxRecDepth 20000 in
theorem ggX0_joinClasses_X0_numberOfJump : GoodIn wsX0_joinClasses wsX0_numberOfJump := goodIn_r _ [14, 1, 15, 16, 17, 25, 26, 27, 28] (by decide +kernel) (by decide +kernel)
set_option maxRecDepth 20000 in
theorem gX0_joinClasses_X0_numberOfJump : GoodIn wsX0_joinClasses (wsV RX0 33 RX0 yX0_numberOfJump wsX0_numberOfJump) := goodIn_app (goodIn_of _ (by decide +kernel)) ggX0_joinClasses_X0_numberOfJump
set_option maxRecDepth 20000 in
theorem ggX0_joinClasses_X0_numberOfTarget : GoodIn wsX0_joinClasses wsX0_numberOfTarget := goodIn_r _ [21, 9, 15, 16, 17, 25, 26, 27, 28] (by decide +kernel) (by decide +kernel)
set_option maxRecDepth 20000 in
theorem gX0_joinClasses_X0_numberOfTarget : GoodIn wsX0_joinClasses (wsV RX0 37 RX0 yX0_numberOfTarget wsX0_numberOfTarget) := goodIn_app (goodIn_of _ (by decide +kernel)) ggX0_joinClasses_X0_numberOfTarget
set_option maxRecDepth 20000 in
theorem ggX0_joinClasses_X0_renumber : GoodIn wsX0_joinClasses wsX0_renumber := goodIn_r _ [24] (by decide +kernel) (by decide +kernel)
set_option maxRecDepth 20000 in
theorem gX0_joinClasses_X0_renumber : GoodIn wsX0_joinClasses (va_wsS RX0 49 yX0_renumber wsX0_renumber) := goodIn_app (goodIn_of _ (by decide +kernel)) ggX0_joinClasses_X0_renumber
theorem dX0_joinClasses_0 : decode cX0_joinClasses 0 = .ok (.aload_n 0, 1) := by decide +kernel
theorem dX0_joinClasses_1 : decode cX0_joinClasses 1 = .ok (.iload_n 1, 1) := by decide +kernel
theorem dX0_joinClasses_2 : decode cX0_joinClasses 2 = .ok (.invokevirtual 33, 3) := by decide +kernel
theorem dX0_joinClasses_5 : decode cX0_joinClasses 5 = .ok (.istore_n 3, 1) := by decide +kernel
theorem dX0_joinClasses_6 : decode cX0_joinClasses 6 = .ok (.aload_n 0, 1) := by decide +kernel
theorem dX0_joinClasses_7 : decode cX0_joinClasses 7 = .ok (.iload_n 2, 1) := by decide +kernel
theorem dX0_joinClasses_8 : decode cX0_joinClasses 8 = .ok (.invokevirtual 37, 3) := by decide +kernel
theorem dX0_joinClasses_11 : decode cX0_joinClasses 11 = .ok (.istore 4, 2) := by decide +kernel
theorem dX0_joinClasses_13 : decode cX0_joinClasses 13 = .ok (.iload_n 3, 1) := by decide +kernel
theorem dX0_joinClasses_14 : decode cX0_joinClasses 14 = .ok (.ifCond .ne 12, 3) := by decide +kernel
theorem dX0_joinClasses_17 : decode cX0_joinClasses 17 = .ok (.aload_n 0, 1) := by decide +kernel
theorem dX0_joinClasses_18 : decode cX0_joinClasses 18 = .ok (.getfield 18, 3) := by decide +kernel
theorem dX0_joinClasses_21 : decode cX0_joinClasses 21 = .ok (.iload_n 1, 1) := by decide +kernel
theorem dX0_joinClasses_22 : decode cX0_joinClasses 22 = .ok (.iload 4, 2) := by decide +kernel
theorem dX0_joinClasses_24 : decode cX0_joinClasses 24 = .ok (.iastore, 1) := by decide +kernel
theorem dX0_joinClasses_25 : decode cX0_joinClasses 25 = .ok (.return_, 1) := by decide +kernel
theorem dX0_joinClasses_26 : decode cX0_joinClasses 26 = .ok (.iload_n 3, 1) := by decide +kernel
theorem dX0_joinClasses_27 : decode cX0_joinClasses 27 = .ok (.iload 4, 2) := by decide +kernel
theorem dX0_joinClasses_29 : decode cX0_joinClasses 29 = .ok (.invokestatic 40, 3) := by decide +kernel
theorem dX0_joinClasses_32 : decode cX0_joinClasses 32 = .ok (.istore 5, 2) := by decide +kernel
theorem dX0_joinClasses_34 : decode cX0_joinClasses 34 = .ok (.iload_n 3, 1) := by decide +kernel
theorem dX0_joinClasses_35 : decode cX0_joinClasses 35 = .ok (.iload 4, 2) := by decide +kernel
theorem dX0_joinClasses_37 : decode cX0_joinClasses 37 = .ok (.invokestatic 46, 3) := by decide +kernel
theorem dX0_joinClasses_40 : decode cX0_joinClasses 40 = .ok (.istore 6, 2) := by decide +kernel
theorem dX0_joinClasses_42 : decode cX0_joinClasses 42 = .ok (.aload_n 0, 1) := by decide +kernel
theorem dX0_joinClasses_43 : decode cX0_joinClasses 43 = .ok (.getfield 15, 3) := by decide +kernel
theorem dX0_joinClasses_46 : decode cX0_joinClasses 46 = .ok (.iload 6, 2) := by decide +kernel
theorem dX0_joinClasses_48 : decode cX0_joinClasses 48 = .ok (.iload 5, 2) := by decide +kernel
theorem dX0_joinClasses_50 : decode cX0_joinClasses 50 = .ok (.invokestatic 49, 3) := by decide +kernel
theorem dX0_joinClasses_53 : decode cX0_joinClasses 53 = .ok (.aload_n 0, 1) := by decide +kernel
theorem dX0_joinClasses_54 : decode cX0_joinClasses 54 = .ok (.getfield 18, 3) := by decide +kernel
theorem dX0_joinClasses_57 : decode cX0_joinClasses 57 = .ok (.iload 6, 2) := by decide +kernel
theorem dX0_joinClasses_59 : decode cX0_joinClasses 59 = .ok (.iload 5, 2) := by decide +kernel
theorem dX0_joinClasses_61 : decode cX0_joinClasses 61 = .ok (.invokestatic 49, 3) := by decide +kernel
theorem dX0_joinClasses_64 : decode cX0_joinClasses 64 = .ok (.return_, 1) := by decide +kernel
theorem dX0_renumber_0 : decode cX0_renumber 0 = .ok (.iconst 0, 1) := by decide +kernel
theorem dX0_renumber_1 : decode cX0_renumber 1 = .ok (.istore_n 3, 1) := by decide +kernel
theorem dX0_renumber_2 : decode cX0_renumber 2 = .ok (.iload_n 3, 1) := by decide +kernel
theorem dX0_renumber_3 : decode cX0_renumber 3 = .ok (.aload_n 0, 1) := by decide +kernel
theorem dX0_renumber_4 : decode cX0_renumber 4 = .ok (.arraylength, 1) := by decide +kernel
theorem dX0_renumber_5 : decode cX0_renumber 5 = .ok (.if_icmp .ge 20, 3) := by decide +kernel
theorem dX0_renumber_8 : decode cX0_renumber 8 = .ok (.aload_n 0, 1) := by decide +kernel
theorem dX0_renumber_9 : decode cX0_renumber 9 = .ok (.iload_n 3, 1) := by decide +kernel
theorem dX0_renumber_10 : decode cX0_renumber 10 = .ok (.iaload, 1) := by decide +kernel
theorem dX0_renumber_11 : decode cX0_renumber 11 = .ok (.iload_n 1, 1) := by decide +kernel
theorem dX0_renumber_12 : decode cX0_renumber 12 = .ok (.if_icmp .ne 7, 3) := by decide +kernel
theorem dX0_renumber_15 : decode cX0_renumber 15 = .ok (.aload_n 0, 1) := by decide +kernel
theorem dX0_renumber_16 : decode cX0_renumber 16 = .ok (.iload_n 3, 1) := by decide +kernel
theorem dX0_renumber_17 : decode cX0_renumber 17 = .ok (.iload_n 2, 1) := by decide +kernel
theorem dX0_renumber_18 : decode cX0_renumber 18 = .ok (.iastore, 1) := by decide +kernel
theorem dX0_renumber_19 : decode cX0_renumber 19 = .ok (.iinc 3 1, 3) := by decide +kernel
theorem dX0_renumber_22 : decode cX0_renumber 22 = .ok (.goto (-20), 3) := by decide +kernel
theorem dX0_renumber_25 : decode cX0_renumber 25 = .ok (.return_, 1) := by decide +kernel
set_option maxRecDepth 20000 in
theorem ggX1_init_X2_init : GoodIn wsX1_init wsX2_init := goodIn_r _ [15, 16, 2, 3, 17, 18, 19, 20, 21, 22, 23, 24, 4, 25, 33, 34, 35] (by decide +kernel) (by decide +kernel)
set_option maxRecDepth 20000 in
theorem gX1_init_X2_init : GoodIn wsX1_init (wsX2_init) := ggX1_init_X2_init
theorem dX1_init_0 : decode cX1_init 0 = .ok (.aload_n 0, 1) := by decide +kernel
theorem dX1_init_1 : decode cX1_init 1 = .ok (.invokespecial 3, 3) := by decide +kernel
theorem dX1_init_4 : decode cX1_init 4 = .ok (.aload_n 0, 1) := by decide +kernel
theorem dX1_init_5 : decode cX1_init 5 = .ok (.iconst 4, 1) := by decide +kernel
theorem dX1_init_6 : decode cX1_init 6 = .ok (.newarray .int, 2) := by decide +kernel
theorem dX1_init_8 : decode cX1_init 8 = .ok (.putfield 9, 3) := by decide +kernel
theorem dX1_init_11 : decode cX1_init 11 = .ok (.aload_n 0, 1) := by decide +kernel
theorem dX1_init_12 : decode cX1_init 12 = .ok (.bipush 16, 2) := by decide +kernel
theorem dX1_init_14 : decode cX1_init 14 = .ok (.newarray .int, 2) := by decide +kernel
theorem dX1_init_16 : decode cX1_init 16 = .ok (.putfield 15, 3) := by decide +kernel
theorem dX1_init_19 : decode cX1_init 19 = .ok (.aload_n 0, 1) := by decide +kernel
theorem dX1_init_20 : decode cX1_init 20 = .ok (.bipush 8, 2) := by decide +kernel
theorem dX1_init_22 : decode cX1_init 22 = .ok (.newarray .int, 2) := by decide +kernel
theorem dX1_init_24 : decode cX1_init 24 = .ok (.putfield 18, 3) := by decide +kernel
theorem dX1_init_27 : decode cX1_init 27 = .ok (.aload_n 0, 1) := by decide +kernel
theorem dX1_init_28 : decode cX1_init 28 = .ok (.new 21, 3) := by decide +kernel
theorem dX1_init_31 : decode cX1_init 31 = .ok (.dup, 1) := by decide +kernel
theorem dX1_init_32 : decode cX1_init 32 = .ok (.iconst 0, 1) := by decide +kernel
theorem dX1_init_33 : decode cX1_init 33 = .ok (.invokespecial 23, 3) := by decide +kernel
theorem dX1_init_36 : decode cX1_init 36 = .ok (.putfield 26, 3) := by decide +kernel
theorem dX1_init_39 : decode cX1_init 39 = .ok (.aload_n 0, 1) := by decide +kernel
theorem dX1_init_40 : decode cX1_init 40 = .ok (.iconst (-1), 1) := by decide +kernel
theorem dX1_init_41 : decode cX1_init 41 = .ok (.putfield 30, 3) := by decide +kernel
theorem dX1_init_44 : decode cX1_init 44 = .ok (.return_, 1) := by decide +kernel
set_option maxRecDepth 20000 in
theorem ggX1_begin_J7_fill_53178 : GoodIn wsX1_begin wsJ7_fill_53178 := goodIn_r _ [10] (by decide +kernel) (by decide +kernel)
set_option maxRecDepth 20000 in
theorem gX1_begin_J7_fill_53178 : GoodIn wsX1_begin (va_wsS RX1 34 yJ7_fill_53178 wsJ7_fill_53178) := goodIn_app (goodIn_of _ (by decide +kernel)) ggX1_begin_J7_fill_53178
theorem dX1_begin_0 : decode cX1_begin 0 = .ok (.aload_n 0, 1) := by decide +kernel
theorem dX1_begin_1 : decode cX1_begin 1 = .ok (.aload_n 1, 1) := by decide +kernel
theorem dX1_begin_2 : decode cX1_begin 2 = .ok (.putfield 26, 3) := by decide +kernel
theorem dX1_begin_5 : decode cX1_begin 5 = .ok (.aload_n 0, 1) := by decide +kernel
theorem dX1_begin_6 : decode cX1_begin 6 = .ok (.getfield 9, 3) := by decide +kernel
theorem dX1_begin_9 : decode cX1_begin 9 = .ok (.iconst 0, 1) := by decide +kernel
theorem dX1_begin_10 : decode cX1_begin 10 = .ok (.invokestatic 34, 3) := by decide +kernel
theorem dX1_begin_13 : decode cX1_begin 13 = .ok (.aload_n 0, 1) := by decide +kernel
theorem dX1_begin_14 : decode cX1_begin 14 = .ok (.getfield 15, 3) := by decide +kernel
theorem dX1_begin_17 : decode cX1_begin 17 = .ok (.iconst 0, 1) := by decide +kernel
theorem dX1_begin_18 : decode cX1_begin 18 = .ok (.invokestatic 34, 3) := by decide +kernel
theorem dX1_begin_21 : decode cX1_begin 21 = .ok (.aload_n 0, 1) := by decide +kernel
theorem dX1_begin_22 : decode cX1_begin 22 = .ok (.iconst 0, 1) := by decide +kernel
theorem dX1_begin_23 : decode cX1_begin 23 = .ok (.putfield 40, 3) := by decide +kernel
theorem dX1_begin_26 : decode cX1_begin 26 = .ok (.aload_n 0, 1) := by decide +kernel
theorem dX1_begin_27 : decode cX1_begin 27 = .ok (.iconst 0, 1) := by decide +kernel
theorem dX1_begin_28 : decode cX1_begin 28 = .ok (.putfield 43, 3) := by decide +kernel
theorem dX1_begin_31 : decode cX1_begin 31 = .ok (.aload_n 0, 1) := by decide +kernel
theorem dX1_begin_32 : decode cX1_begin 32 = .ok (.iconst 0, 1) := by decide +kernel
theorem dX1_begin_33 : decode cX1_begin 33 = .ok (.putfield 30, 3) := by decide +kernel
theorem dX1_begin_36 : decode cX1_begin 36 = .ok (.return_, 1) := by decide +kernel
theorem dX1_stop_0 : decode cX1_stop 0 = .ok (.aload_n 0, 1) := by decide +kernel
theorem dX1_stop_1 : decode cX1_stop 1 = .ok (.iconst (-1), 1) := by decide +kernel
theorem dX1_stop_2 : decode cX1_stop 2 = .ok (.putfield 30, 3) := by decide +kernel
theorem dX1_stop_5 : decode cX1_stop 5 = .ok (.return_, 1) := by decide +kernel
theorem dX1_isIdle_0 : decode cX1_isIdle 0 = .ok (.aload_n 0, 1) := by decide +kernel
theorem dX1_isIdle_1 : decode cX1_isIdle 1 = .ok (.getfield 30, 3) := by decide +kernel
theorem dX1_isIdle_4 : decode cX1_isIdle 4 = .ok (.iconst (-1), 1) := by decide +kernel
theorem dX1_isIdle_5 : decode cX1_isIdle 5 = .ok (.if_icmp .ne 7, 3) := by decide +kernel
theorem dX1_isIdle_8 : decode cX1_isIdle 8 = .ok (.iconst 1, 1) := by decide +kernel
theorem dX1_isIdle_9 : decode cX1_isIdle 9 = .ok (.goto 4, 3) := by decide +kernel
theorem dX1_isIdle_12 : decode cX1_isIdle 12 = .ok (.iconst 0, 1) := by decide +kernel
theorem dX1_isIdle_13 : decode cX1_isIdle 13 = .ok (.ireturn, 1) := by decide +kernel
set_option maxRecDepth 20000 in
theorem ggX1_makeSteps_X1_makeStep : GoodIn wsX1_makeSteps wsX1_makeStep := goodIn_r _ [6, 7, 8, 1, 9, 10, 11, 12, 13, 14, 15, 16, 17, 18, 19, 20, 21, 22, 5, 23, 24, 25, 26, 27, 28, 29, 30, 31, 32, 33, 34, 35, 36, 37, 38, 39, 40, 41, 42, 43, 44, 45, 46, 47, 48, 49, 50, 51, 52, 53, 54, 55, 56, 57, 58, 59, 60, 61, 62, 63, 64, 65, 66, 67, 68, 69, 70, 71] (by decide +kernel) (by decide +kernel)
set_option maxRecDepth 20000 in
theorem gX1_makeSteps_X1_makeStep : GoodIn wsX1_makeSteps (wsV RX1 46 RX1 yX1_makeStep wsX1_makeStep) := goodIn_app (goodIn_of _ (by decide +kernel)) ggX1_makeSteps_X1_makeStep
theorem dX1_makeSteps_0 : decode cX1_makeSteps 0 = .ok (.iconst 0, 1) := by decide +kernel
theorem dX1_makeSteps_1 : decode cX1_makeSteps 1 = .ok (.istore_n 2, 1) := by decide +kernel
theorem dX1_makeSteps_2 : decode cX1_makeSteps 2 = .ok (.iload_n 2, 1) := by decide +kernel
theorem dX1_makeSteps_3 : decode cX1_makeSteps 3 = .ok (.iload_n 1, 1) := by decide +kernel
theorem dX1_makeSteps_4 : decode cX1_makeSteps 4 = .ok (.if_icmp .ge 20, 3) := by decide +kernel
theorem dX1_makeSteps_7 : decode cX1_makeSteps 7 = .ok (.aload_n 0, 1) := by decide +kernel
theorem dX1_makeSteps_8 : decode cX1_makeSteps 8 = .ok (.getfield 30, 3) := by decide +kernel
theorem dX1_makeSteps_11 : decode cX1_makeSteps 11 = .ok (.ifCond .ne 13, 3) := by decide +kernel
theorem dX1_makeSteps_14 : decode cX1_makeSteps 14 = .ok (.aload_n 0, 1) := by decide +kernel
theorem dX1_makeSteps_15 : decode cX1_makeSteps 15 = .ok (.invokevirtual 46, 3) := by decide +kernel
theorem dX1_makeSteps_18 : decode cX1_makeSteps 18 = .ok (.iinc 2 1, 3) := by decide +kernel
theorem dX1_makeSteps_21 : decode cX1_makeSteps 21 = .ok (.goto (-19), 3) := by decide +kernel
theorem dX1_makeSteps_24 : decode cX1_makeSteps 24 = .ok (.iload_n 2, 1) := by decide +kernel
theorem dX1_makeSteps_25 : decode cX1_makeSteps 25 = .ok (.ireturn, 1) := by decide +kernel
set_option maxRecDepth 20000 in
theorem ggX1_registerValue_X3_isRegister : GoodIn wsX1_registerValue wsX3_isRegister := goodIn_r _ [4] (by decide +kernel) (by decide +kernel)
set_option maxRecDepth 20000 in
theorem gX1_registerValue_X3_isRegister_n49 : GoodIn wsX1_registerValue (wsX3_isRegister) := ggX1_registerValue_X3_isRegister
theorem dX1_registerValue_0 : decode cX1_registerValue 0 = .ok (.iload_n 1, 1) := by decide +kernel
theorem dX1_registerValue_1 : decode cX1_registerValue 1 = .ok (.invokestatic 49, 3) := by decide +kernel
theorem dX1_registerValue_4 : decode cX1_registerValue 4 = .ok (.ifCond .eq 12, 3) := by decide +kernel
theorem dX1_registerValue_7 : decode cX1_registerValue 7 = .ok (.aload_n 0, 1) := by decide +kernel
theorem dX1_registerValue_8 : decode cX1_registerValue 8 = .ok (.getfield 9, 3) := by decide +kernel
theorem dX1_registerValue_11 : decode cX1_registerValue 11 = .ok (.iload_n 1, 1) := by decide +kernel
theorem dX1_registerValue_12 : decode cX1_registerValue 12 = .ok (.iaload, 1) := by decide +kernel
theorem dX1_registerValue_13 : decode cX1_registerValue 13 = .ok (.goto 4, 3) := by decide +kernel
theorem dX1_registerValue_16 : decode cX1_registerValue 16 = .ok (.iconst 0, 1) := by decide +kernel
theorem dX1_registerValue_17 : decode cX1_registerValue 17 = .ok (.ireturn, 1) := by decide +kernel
set_option maxRecDepth 20000 in
theorem ggX1_cellValue_X3_isCell : GoodIn wsX1_cellValue wsX3_isCell := goodIn_r _ [4] (by decide +kernel) (by decide +kernel)
set_option maxRecDepth 20000 in
theorem gX1_cellValue_X3_isCell_n53 : GoodIn wsX1_cellValue (wsX3_isCell) := ggX1_cellValue_X3_isCell
theorem dX1_cellValue_0 : decode cX1_cellValue 0 = .ok (.iload_n 1, 1) := by decide +kernel
theorem dX1_cellValue_1 : decode cX1_cellValue 1 = .ok (.invokestatic 53, 3) := by decide +kernel
theorem dX1_cellValue_4 : decode cX1_cellValue 4 = .ok (.ifCond .eq 12, 3) := by decide +kernel
theorem dX1_cellValue_7 : decode cX1_cellValue 7 = .ok (.aload_n 0, 1) := by decide +kernel
theorem dX1_cellValue_8 : decode cX1_cellValue 8 = .ok (.getfield 15, 3) := by decide +kernel
theorem dX1_cellValue_11 : decode cX1_cellValue 11 = .ok (.iload_n 1, 1) := by decide +kernel
theorem dX1_cellValue_12 : decode cX1_cellValue 12 = .ok (.iaload, 1) := by decide +kernel
theorem dX1_cellValue_13 : decode cX1_cellValue 13 = .ok (.goto 4, 3) := by decide +kernel
theorem dX1_cellValue_16 : decode cX1_cellValue 16 = .ok (.iconst 0, 1) := by decide +kernel
theorem dX1_cellValue_17 : decode cX1_cellValue 17 = .ok (.ireturn, 1) := by decide +kernel
set_option maxRecDepth 20000 in
theorem ggX1_setCell_X3_isCell : GoodIn wsX1_setCell wsX3_isCell := goodIn_r _ [4] (by decide +kernel) (by decide +kernel)
set_option maxRecDepth 20000 in
theorem gX1_setCell_X3_isCell_n53 : GoodIn wsX1_setCell (wsX3_isCell) := ggX1_setCell_X3_isCell
theorem dX1_setCell_0 : decode cX1_setCell 0 = .ok (.iload_n 1, 1) := by decide +kernel
theorem dX1_setCell_1 : decode cX1_setCell 1 = .ok (.invokestatic 53, 3) := by decide +kernel
theorem dX1_setCell_4 : decode cX1_setCell 4 = .ok (.ifCond .eq 10, 3) := by decide +kernel
theorem dX1_setCell_7 : decode cX1_setCell 7 = .ok (.aload_n 0, 1) := by decide +kernel
theorem dX1_setCell_8 : decode cX1_setCell 8 = .ok (.getfield 15, 3) := by decide +kernel
theorem dX1_setCell_11 : decode cX1_setCell 11 = .ok (.iload_n 1, 1) := by decide +kernel
theorem dX1_setCell_12 : decode cX1_setCell 12 = .ok (.iload_n 2, 1) := by decide +kernel
theorem dX1_setCell_13 : decode cX1_setCell 13 = .ok (.iastore, 1) := by decide +kernel
theorem dX1_setCell_14 : decode cX1_setCell 14 = .ok (.return_, 1) := by decide +kernel
theorem dX1_shownBefore_0 : decode cX1_shownBefore 0 = .ok (.iload_n 1, 1) := by decide +kernel
theorem dX1_shownBefore_1 : decode cX1_shownBefore 1 = .ok (.ifCond .lt 17, 3) := by decide +kernel
theorem dX1_shownBefore_4 : decode cX1_shownBefore 4 = .ok (.iload_n 1, 1) := by decide +kernel
theorem dX1_shownBefore_5 : decode cX1_shownBefore 5 = .ok (.bipush 8, 2) := by decide +kernel
theorem dX1_shownBefore_7 : decode cX1_shownBefore 7 = .ok (.if_icmp .ge 11, 3) := by decide +kernel
theorem dX1_shownBefore_10 : decode cX1_shownBefore 10 = .ok (.iload_n 1, 1) := by decide +kernel
theorem dX1_shownBefore_11 : decode cX1_shownBefore 11 = .ok (.aload_n 0, 1) := by decide +kernel
theorem dX1_shownBefore_12 : decode cX1_shownBefore 12 = .ok (.getfield 43, 3) := by decide +kernel
theorem dX1_shownBefore_15 : decode cX1_shownBefore 15 = .ok (.if_icmp .lt 5, 3) := by decide +kernel
theorem dX1_shownBefore_18 : decode cX1_shownBefore 18 = .ok (.iconst 0, 1) := by decide +kernel
theorem dX1_shownBefore_19 : decode cX1_shownBefore 19 = .ok (.ireturn, 1) := by decide +kernel
theorem dX1_shownBefore_20 : decode cX1_shownBefore 20 = .ok (.aload_n 0, 1) := by decide +kernel
theorem dX1_shownBefore_21 : decode cX1_shownBefore 21 = .ok (.getfield 18, 3) := by decide +kernel
theorem dX1_shownBefore_24 : decode cX1_shownBefore 24 = .ok (.aload_n 0, 1) := by decide +kernel
theorem dX1_shownBefore_25 : decode cX1_shownBefore 25 = .ok (.getfield 43, 3) := by decide +kernel
theorem dX1_shownBefore_28 : decode cX1_shownBefore 28 = .ok (.iconst 1, 1) := by decide +kernel
theorem dX1_shownBefore_29 : decode cX1_shownBefore 29 = .ok (.isub, 1) := by decide +kernel
theorem dX1_shownBefore_30 : decode cX1_shownBefore 30 = .ok (.iload_n 1, 1) := by decide +kernel
theorem dX1_shownBefore_31 : decode cX1_shownBefore 31 = .ok (.isub, 1) := by decide +kernel
theorem dX1_shownBefore_32 : decode cX1_shownBefore 32 = .ok (.bipush 7, 2) := by decide +kernel
theorem dX1_shownBefore_34 : decode cX1_shownBefore 34 = .ok (.iand, 1) := by decide +kernel
theorem dX1_shownBefore_35 : decode cX1_shownBefore 35 = .ok (.iaload, 1) := by decide +kernel
theorem dX1_shownBefore_36 : decode cX1_shownBefore 36 = .ok (.ireturn, 1) := by decide +kernel
set_option maxRecDepth 20000 in
theorem ggX1_makeStep_X2_get : GoodIn wsX1_makeStep wsX2_get := goodIn_r _ [8, 9, 10, 11, 12, 7, 13, 14, 65, 66, 67] (by decide +kernel) (by decide +kernel)
set_option maxRecDepth 20000 in
theorem gX1_makeStep_X2_get : GoodIn wsX1_makeStep (wsV RX1 56 RX2 yX2_get wsX2_get) := goodIn_app (goodIn_of _ (by decide +kernel)) ggX1_makeStep_X2_get
set_option maxRecDepth 20000 in
theorem ggX1_makeStep_X1_carryOut : GoodIn wsX1_makeStep wsX1_carryOut := goodIn_r _ [19, 2, 3, 20, 21, 22, 18, 23, 24, 25, 26, 27, 28, 29, 30, 31, 32, 33, 34, 35, 36, 37, 38, 39, 40, 41, 42, 43, 44, 45, 46, 47, 48, 49, 50, 51, 52, 1, 53, 11, 12, 7, 13, 14, 54, 55, 56, 57, 4, 5, 6, 8, 9, 10, 58, 59, 60, 61, 62, 63, 64, 65, 66, 67] (by decide +kernel) (by decide +kernel)
set_option maxRecDepth 20000 in
theorem gX1_makeStep_X1_carryOut : GoodIn wsX1_makeStep (wsV RX1 60 RX1 yX1_carryOut wsX1_carryOut) := goodIn_app (goodIn_of _ (by decide +kernel)) ggX1_makeStep_X1_carryOut
theorem dX1_makeStep_0 : decode cX1_makeStep 0 = .ok (.aload_n 0, 1) := by decide +kernel
theorem dX1_makeStep_1 : decode cX1_makeStep 1 = .ok (.aload_n 0, 1) := by decide +kernel
theorem dX1_makeStep_2 : decode cX1_makeStep 2 = .ok (.getfield 26, 3) := by decide +kernel
theorem dX1_makeStep_5 : decode cX1_makeStep 5 = .ok (.aload_n 0, 1) := by decide +kernel
theorem dX1_makeStep_6 : decode cX1_makeStep 6 = .ok (.getfield 40, 3) := by decide +kernel
theorem dX1_makeStep_9 : decode cX1_makeStep 9 = .ok (.iconst 0, 1) := by decide +kernel
theorem dX1_makeStep_10 : decode cX1_makeStep 10 = .ok (.invokevirtual 56, 3) := by decide +kernel
theorem dX1_makeStep_13 : decode cX1_makeStep 13 = .ok (.aload_n 0, 1) := by decide +kernel
theorem dX1_makeStep_14 : decode cX1_makeStep 14 = .ok (.getfield 26, 3) := by decide +kernel
theorem dX1_makeStep_17 : decode cX1_makeStep 17 = .ok (.aload_n 0, 1) := by decide +kernel
theorem dX1_makeStep_18 : decode cX1_makeStep 18 = .ok (.getfield 40, 3) := by decide +kernel
theorem dX1_makeStep_21 : decode cX1_makeStep 21 = .ok (.iconst 1, 1) := by decide +kernel
theorem dX1_makeStep_22 : decode cX1_makeStep 22 = .ok (.invokevirtual 56, 3) := by decide +kernel
theorem dX1_makeStep_25 : decode cX1_makeStep 25 = .ok (.aload_n 0, 1) := by decide +kernel
theorem dX1_makeStep_26 : decode cX1_makeStep 26 = .ok (.getfield 26, 3) := by decide +kernel
theorem dX1_makeStep_29 : decode cX1_makeStep 29 = .ok (.aload_n 0, 1) := by decide +kernel
theorem dX1_makeStep_30 : decode cX1_makeStep 30 = .ok (.getfield 40, 3) := by decide +kernel
theorem dX1_makeStep_33 : decode cX1_makeStep 33 = .ok (.iconst 2, 1) := by decide +kernel
theorem dX1_makeStep_34 : decode cX1_makeStep 34 = .ok (.invokevirtual 56, 3) := by decide +kernel
theorem dX1_makeStep_37 : decode cX1_makeStep 37 = .ok (.invokevirtual 60, 3) := by decide +kernel
theorem dX1_makeStep_40 : decode cX1_makeStep 40 = .ok (.istore_n 1, 1) := by decide +kernel
theorem dX1_makeStep_41 : decode cX1_makeStep 41 = .ok (.aload_n 0, 1) := by decide +kernel
theorem dX1_makeStep_42 : decode cX1_makeStep 42 = .ok (.getfield 30, 3) := by decide +kernel
theorem dX1_makeStep_45 : decode cX1_makeStep 45 = .ok (.ifCond .ne 8, 3) := by decide +kernel
theorem dX1_makeStep_48 : decode cX1_makeStep 48 = .ok (.aload_n 0, 1) := by decide +kernel
theorem dX1_makeStep_49 : decode cX1_makeStep 49 = .ok (.iload_n 1, 1) := by decide +kernel
theorem dX1_makeStep_50 : decode cX1_makeStep 50 = .ok (.putfield 40, 3) := by decide +kernel
theorem dX1_makeStep_53 : decode cX1_makeStep 53 = .ok (.return_, 1) := by decide +kernel
set_option maxRecDepth 20000 in
theorem ggX1_carryOut_X1_setRegister : GoodIn wsX1_carryOut wsX1_setRegister := goodIn_r _ [7, 8, 9, 10, 11, 54, 55, 56, 57, 58, 59, 60] (by decide +kernel) (by decide +kernel)
set_option maxRecDepth 20000 in
theorem gX1_carryOut_X1_setRegister : GoodIn wsX1_carryOut (wsV RX1 64 RX1 yX1_setRegister wsX1_setRegister) := goodIn_app (goodIn_of _ (by decide +kernel)) ggX1_carryOut_X1_setRegister
set_option maxRecDepth 20000 in
theorem ggX1_carryOut_X1_cellValue : GoodIn wsX1_carryOut wsX1_cellValue := goodIn_r _ [15, 16, 17, 10, 18, 54, 55, 56, 57, 58, 59, 60] (by decide +kernel) (by decide +kernel)
set_option maxRecDepth 20000 in
theorem gX1_carryOut_X1_cellValue : GoodIn wsX1_carryOut (wsV RX1 68 RX1 yX1_cellValue wsX1_cellValue) := goodIn_app (goodIn_of _ (by decide +kernel)) ggX1_carryOut_X1_cellValue
set_option maxRecDepth 20000 in
theorem ggX1_carryOut_X1_registerValue : GoodIn wsX1_carryOut wsX1_registerValue := goodIn_r _ [22, 8, 9, 10, 11, 54, 55, 56, 57, 58, 59, 60] (by decide +kernel) (by decide +kernel)
set_option maxRecDepth 20000 in
theorem gX1_carryOut_X1_registerValue : GoodIn wsX1_carryOut (wsV RX1 72 RX1 yX1_registerValue wsX1_registerValue) := goodIn_app (goodIn_of _ (by decide +kernel)) ggX1_carryOut_X1_registerValue
set_option maxRecDepth 20000 in
theorem ggX1_carryOut_X1_setCell : GoodIn wsX1_carryOut wsX1_setCell := goodIn_r _ [26, 16, 17, 10, 18, 54, 55, 56, 57, 58, 59, 60] (by decide +kernel) (by decide +kernel)
set_option maxRecDepth 20000 in
theorem gX1_carryOut_X1_setCell : GoodIn wsX1_carryOut (wsV RX1 75 RX1 yX1_setCell wsX1_setCell) := goodIn_app (goodIn_of _ (by decide +kernel)) ggX1_carryOut_X1_setCell
set_option maxRecDepth 20000 in
theorem ggX1_carryOut_X1_keepShown : GoodIn wsX1_carryOut wsX1_keepShown := goodIn_r _ [30, 31, 32, 54, 55, 56, 57, 58, 59, 60] (by decide +kernel) (by decide +kernel)
set_option maxRecDepth 20000 in
theorem gX1_carryOut_X1_keepShown : GoodIn wsX1_carryOut (wsV RX1 78 RX1 yX1_keepShown wsX1_keepShown) := goodIn_app (goodIn_of _ (by decide +kernel)) ggX1_carryOut_X1_keepShown
set_option maxRecDepth 20000 in
theorem ggX1_carryOut_X1_jumpTo : GoodIn wsX1_carryOut wsX1_jumpTo := goodIn_r _ [36, 37, 2, 38, 39, 40, 41, 42, 43, 54, 55, 56, 57, 58, 59, 60, 61, 62, 63] (by decide +kernel) (by decide +kernel)
set_option maxRecDepth 20000 in
theorem gX1_carryOut_X1_jumpTo : GoodIn wsX1_carryOut (wsV RX1 81 RX1 yX1_jumpTo wsX1_jumpTo) := goodIn_app (goodIn_of _ (by decide +kernel)) ggX1_carryOut_X1_jumpTo
set_option maxRecDepth 20000 in
theorem ggX1_carryOut_X1_checkLabel : GoodIn wsX1_carryOut wsX1_checkLabel := goodIn_r _ [47, 37, 2, 48, 49, 50, 41, 51, 52, 53, 39, 40, 42, 43, 54, 55, 56, 57, 58, 59, 60, 61, 62, 63] (by decide +kernel) (by decide +kernel)
set_option maxRecDepth 20000 in
theorem gX1_carryOut_X1_checkLabel : GoodIn wsX1_carryOut (wsV RX1 84 RX1 yX1_checkLabel wsX1_checkLabel) := goodIn_app (goodIn_of _ (by decide +kernel)) ggX1_carryOut_X1_checkLabel
theorem dX1_carryOut_0 : decode cX1_carryOut 0 = .ok (.aload_n 0, 1) := by decide +kernel
theorem dX1_carryOut_1 : decode cX1_carryOut 1 = .ok (.getfield 40, 3) := by decide +kernel
theorem dX1_carryOut_4 : decode cX1_carryOut 4 = .ok (.iconst 1, 1) := by decide +kernel
theorem dX1_carryOut_5 : decode cX1_carryOut 5 = .ok (.iadd, 1) := by decide +kernel
theorem dX1_carryOut_6 : decode cX1_carryOut 6 = .ok (.istore 4, 2) := by decide +kernel
theorem dX1_carryOut_8 : decode cX1_carryOut 8 = .ok (.iload_n 1, 1) := by decide +kernel
theorem dX1_carryOut_9 : decode cX1_carryOut 9 = .ok (.tableswitch 177 0 11 #[63, 71, 80, 93, 106, 125, 137, 139, 154, 71, 177, 164], 63) := by decide +kernel
theorem dX1_carryOut_72 : decode cX1_carryOut 72 = .ok (.aload_n 0, 1) := by decide +kernel
theorem dX1_carryOut_73 : decode cX1_carryOut 73 = .ok (.iconst 1, 1) := by decide +kernel
theorem dX1_carryOut_74 : decode cX1_carryOut 74 = .ok (.putfield 30, 3) := by decide +kernel
theorem dX1_carryOut_77 : decode cX1_carryOut 77 = .ok (.iload 4, 2) := by decide +kernel
theorem dX1_carryOut_79 : decode cX1_carryOut 79 = .ok (.ireturn, 1) := by decide +kernel
theorem dX1_carryOut_80 : decode cX1_carryOut 80 = .ok (.aload_n 0, 1) := by decide +kernel
theorem dX1_carryOut_81 : decode cX1_carryOut 81 = .ok (.iload_n 2, 1) := by decide +kernel
theorem dX1_carryOut_82 : decode cX1_carryOut 82 = .ok (.iload_n 3, 1) := by decide +kernel
theorem dX1_carryOut_83 : decode cX1_carryOut 83 = .ok (.invokevirtual 64, 3) := by decide +kernel
theorem dX1_carryOut_86 : decode cX1_carryOut 86 = .ok (.iload 4, 2) := by decide +kernel
theorem dX1_carryOut_88 : decode cX1_carryOut 88 = .ok (.ireturn, 1) := by decide +kernel
theorem dX1_carryOut_89 : decode cX1_carryOut 89 = .ok (.aload_n 0, 1) := by decide +kernel
theorem dX1_carryOut_90 : decode cX1_carryOut 90 = .ok (.iload_n 2, 1) := by decide +kernel
theorem dX1_carryOut_91 : decode cX1_carryOut 91 = .ok (.aload_n 0, 1) := by decide +kernel
theorem dX1_carryOut_92 : decode cX1_carryOut 92 = .ok (.iload_n 3, 1) := by decide +kernel
theorem dX1_carryOut_93 : decode cX1_carryOut 93 = .ok (.invokevirtual 68, 3) := by decide +kernel
theorem dX1_carryOut_96 : decode cX1_carryOut 96 = .ok (.invokevirtual 64, 3) := by decide +kernel
theorem dX1_carryOut_99 : decode cX1_carryOut 99 = .ok (.iload 4, 2) := by decide +kernel
theorem dX1_carryOut_101 : decode cX1_carryOut 101 = .ok (.ireturn, 1) := by decide +kernel
theorem dX1_carryOut_102 : decode cX1_carryOut 102 = .ok (.aload_n 0, 1) := by decide +kernel
theorem dX1_carryOut_103 : decode cX1_carryOut 103 = .ok (.iload_n 3, 1) := by decide +kernel
theorem dX1_carryOut_104 : decode cX1_carryOut 104 = .ok (.aload_n 0, 1) := by decide +kernel
theorem dX1_carryOut_105 : decode cX1_carryOut 105 = .ok (.iload_n 2, 1) := by decide +kernel
theorem dX1_carryOut_106 : decode cX1_carryOut 106 = .ok (.invokevirtual 72, 3) := by decide +kernel
theorem dX1_carryOut_109 : decode cX1_carryOut 109 = .ok (.invokevirtual 75, 3) := by decide +kernel
theorem dX1_carryOut_112 : decode cX1_carryOut 112 = .ok (.iload 4, 2) := by decide +kernel
theorem dX1_carryOut_114 : decode cX1_carryOut 114 = .ok (.ireturn, 1) := by decide +kernel
theorem dX1_carryOut_115 : decode cX1_carryOut 115 = .ok (.aload_n 0, 1) := by decide +kernel
theorem dX1_carryOut_116 : decode cX1_carryOut 116 = .ok (.iload_n 2, 1) := by decide +kernel
theorem dX1_carryOut_117 : decode cX1_carryOut 117 = .ok (.aload_n 0, 1) := by decide +kernel
theorem dX1_carryOut_118 : decode cX1_carryOut 118 = .ok (.iload_n 2, 1) := by decide +kernel
theorem dX1_carryOut_119 : decode cX1_carryOut 119 = .ok (.invokevirtual 72, 3) := by decide +kernel
theorem dX1_carryOut_122 : decode cX1_carryOut 122 = .ok (.aload_n 0, 1) := by decide +kernel
theorem dX1_carryOut_123 : decode cX1_carryOut 123 = .ok (.iload_n 3, 1) := by decide +kernel
theorem dX1_carryOut_124 : decode cX1_carryOut 124 = .ok (.invokevirtual 72, 3) := by decide +kernel
theorem dX1_carryOut_127 : decode cX1_carryOut 127 = .ok (.iadd, 1) := by decide +kernel
theorem dX1_carryOut_128 : decode cX1_carryOut 128 = .ok (.invokevirtual 64, 3) := by decide +kernel
theorem dX1_carryOut_131 : decode cX1_carryOut 131 = .ok (.iload 4, 2) := by decide +kernel
theorem dX1_carryOut_133 : decode cX1_carryOut 133 = .ok (.ireturn, 1) := by decide +kernel
theorem dX1_carryOut_134 : decode cX1_carryOut 134 = .ok (.aload_n 0, 1) := by decide +kernel
theorem dX1_carryOut_135 : decode cX1_carryOut 135 = .ok (.aload_n 0, 1) := by decide +kernel
theorem dX1_carryOut_136 : decode cX1_carryOut 136 = .ok (.iload_n 2, 1) := by decide +kernel
theorem dX1_carryOut_137 : decode cX1_carryOut 137 = .ok (.invokevirtual 72, 3) := by decide +kernel
theorem dX1_carryOut_140 : decode cX1_carryOut 140 = .ok (.invokevirtual 78, 3) := by decide +kernel
theorem dX1_carryOut_143 : decode cX1_carryOut 143 = .ok (.iload 4, 2) := by decide +kernel
theorem dX1_carryOut_145 : decode cX1_carryOut 145 = .ok (.ireturn, 1) := by decide +kernel
theorem dX1_carryOut_146 : decode cX1_carryOut 146 = .ok (.iload_n 2, 1) := by decide +kernel
theorem dX1_carryOut_147 : decode cX1_carryOut 147 = .ok (.ireturn, 1) := by decide +kernel
theorem dX1_carryOut_148 : decode cX1_carryOut 148 = .ok (.aload_n 0, 1) := by decide +kernel
theorem dX1_carryOut_149 : decode cX1_carryOut 149 = .ok (.iload_n 2, 1) := by decide +kernel
theorem dX1_carryOut_150 : decode cX1_carryOut 150 = .ok (.invokevirtual 72, 3) := by decide +kernel
theorem dX1_carryOut_153 : decode cX1_carryOut 153 = .ok (.ifCond .ne 7, 3) := by decide +kernel
theorem dX1_carryOut_156 : decode cX1_carryOut 156 = .ok (.iload_n 3, 1) := by decide +kernel
theorem dX1_carryOut_157 : decode cX1_carryOut 157 = .ok (.goto 5, 3) := by decide +kernel
theorem dX1_carryOut_160 : decode cX1_carryOut 160 = .ok (.iload 4, 2) := by decide +kernel
theorem dX1_carryOut_162 : decode cX1_carryOut 162 = .ok (.ireturn, 1) := by decide +kernel
theorem dX1_carryOut_163 : decode cX1_carryOut 163 = .ok (.aload_n 0, 1) := by decide +kernel
theorem dX1_carryOut_164 : decode cX1_carryOut 164 = .ok (.aload_n 0, 1) := by decide +kernel
theorem dX1_carryOut_165 : decode cX1_carryOut 165 = .ok (.iload_n 2, 1) := by decide +kernel
theorem dX1_carryOut_166 : decode cX1_carryOut 166 = .ok (.invokevirtual 72, 3) := by decide +kernel
theorem dX1_carryOut_169 : decode cX1_carryOut 169 = .ok (.invokevirtual 81, 3) := by decide +kernel
theorem dX1_carryOut_172 : decode cX1_carryOut 172 = .ok (.ireturn, 1) := by decide +kernel
theorem dX1_carryOut_173 : decode cX1_carryOut 173 = .ok (.aload_n 0, 1) := by decide +kernel
theorem dX1_carryOut_174 : decode cX1_carryOut 174 = .ok (.aload_n 0, 1) := by decide +kernel
theorem dX1_carryOut_175 : decode cX1_carryOut 175 = .ok (.iload_n 2, 1) := by decide +kernel
theorem dX1_carryOut_176 : decode cX1_carryOut 176 = .ok (.invokevirtual 72, 3) := by decide +kernel
theorem dX1_carryOut_179 : decode cX1_carryOut 179 = .ok (.iload_n 3, 1) := by decide +kernel
theorem dX1_carryOut_180 : decode cX1_carryOut 180 = .ok (.invokevirtual 84, 3) := by decide +kernel
theorem dX1_carryOut_183 : decode cX1_carryOut 183 = .ok (.iload 4, 2) := by decide +kernel
theorem dX1_carryOut_185 : decode cX1_carryOut 185 = .ok (.ireturn, 1) := by decide +kernel
theorem dX1_carryOut_186 : decode cX1_carryOut 186 = .ok (.iload 4, 2) := by decide +kernel
theorem dX1_carryOut_188 : decode cX1_carryOut 188 = .ok (.ireturn, 1) := by decide +kernel
set_option maxRecDepth 20000 in
theorem ggX1_setRegister_X3_isRegister : GoodIn wsX1_setRegister wsX3_isRegister := goodIn_r _ [4] (by decide +kernel) (by decide +kernel)
set_option maxRecDepth 20000 in
theorem gX1_setRegister_X3_isRegister_n49 : GoodIn wsX1_setRegister (wsX3_isRegister) := ggX1_setRegister_X3_isRegister
theorem dX1_setRegister_0 : decode cX1_setRegister 0 = .ok (.iload_n 1, 1) := by decide +kernel
theorem dX1_setRegister_1 : decode cX1_setRegister 1 = .ok (.invokestatic 49, 3) := by decide +kernel
theorem dX1_setRegister_4 : decode cX1_setRegister 4 = .ok (.ifCond .eq 10, 3) := by decide +kernel
theorem dX1_setRegister_7 : decode cX1_setRegister 7 = .ok (.aload_n 0, 1) := by decide +kernel
theorem dX1_setRegister_8 : decode cX1_setRegister 8 = .ok (.getfield 9, 3) := by decide +kernel
theorem dX1_setRegister_11 : decode cX1_setRegister 11 = .ok (.iload_n 1, 1) := by decide +kernel
theorem dX1_setRegister_12 : decode cX1_setRegister 12 = .ok (.iload_n 2, 1) := by decide +kernel
theorem dX1_setRegister_13 : decode cX1_setRegister 13 = .ok (.iastore, 1) := by decide +kernel
theorem dX1_setRegister_14 : decode cX1_setRegister 14 = .ok (.return_, 1) := by decide +kernel
theorem dX1_keepShown_0 : decode cX1_keepShown 0 = .ok (.aload_n 0, 1) := by decide +kernel
theorem dX1_keepShown_1 : decode cX1_keepShown 1 = .ok (.getfield 18, 3) := by decide +kernel
theorem dX1_keepShown_4 : decode cX1_keepShown 4 = .ok (.aload_n 0, 1) := by decide +kernel
theorem dX1_keepShown_5 : decode cX1_keepShown 5 = .ok (.getfield 43, 3) := by decide +kernel
theorem dX1_keepShown_8 : decode cX1_keepShown 8 = .ok (.bipush 7, 2) := by decide +kernel
theorem dX1_keepShown_10 : decode cX1_keepShown 10 = .ok (.iand, 1) := by decide +kernel
theorem dX1_keepShown_11 : decode cX1_keepShown 11 = .ok (.iload_n 1, 1) := by decide +kernel
theorem dX1_keepShown_12 : decode cX1_keepShown 12 = .ok (.iastore, 1) := by decide +kernel
theorem dX1_keepShown_13 : decode cX1_keepShown 13 = .ok (.aload_n 0, 1) := by decide +kernel
theorem dX1_keepShown_14 : decode cX1_keepShown 14 = .ok (.dup, 1) := by decide +kernel
theorem dX1_keepShown_15 : decode cX1_keepShown 15 = .ok (.getfield 43, 3) := by decide +kernel
theorem dX1_keepShown_18 : decode cX1_keepShown 18 = .ok (.iconst 1, 1) := by decide +kernel
theorem dX1_keepShown_19 : decode cX1_keepShown 19 = .ok (.iadd, 1) := by decide +kernel
theorem dX1_keepShown_20 : decode cX1_keepShown 20 = .ok (.putfield 43, 3) := by decide +kernel
theorem dX1_keepShown_23 : decode cX1_keepShown 23 = .ok (.return_, 1) := by decide +kernel
set_option maxRecDepth 20000 in
theorem ggX1_jumpTo_X2_has : GoodIn wsX1_jumpTo wsX2_has := goodIn_r _ [7, 8, 16, 17, 18] (by decide +kernel) (by decide +kernel)
set_option maxRecDepth 20000 in
theorem gX1_jumpTo_X2_has : GoodIn wsX1_jumpTo (wsV RX1 87 RX2 yX2_has wsX2_has) := goodIn_app (goodIn_of _ (by decide +kernel)) ggX1_jumpTo_X2_has
theorem dX1_jumpTo_0 : decode cX1_jumpTo 0 = .ok (.aload_n 0, 1) := by decide +kernel
theorem dX1_jumpTo_1 : decode cX1_jumpTo 1 = .ok (.getfield 26, 3) := by decide +kernel
theorem dX1_jumpTo_4 : decode cX1_jumpTo 4 = .ok (.iload_n 1, 1) := by decide +kernel
theorem dX1_jumpTo_5 : decode cX1_jumpTo 5 = .ok (.invokevirtual 87, 3) := by decide +kernel
theorem dX1_jumpTo_8 : decode cX1_jumpTo 8 = .ok (.ifCond .ne 8, 3) := by decide +kernel
theorem dX1_jumpTo_11 : decode cX1_jumpTo 11 = .ok (.aload_n 0, 1) := by decide +kernel
theorem dX1_jumpTo_12 : decode cX1_jumpTo 12 = .ok (.iconst 3, 1) := by decide +kernel
theorem dX1_jumpTo_13 : decode cX1_jumpTo 13 = .ok (.putfield 30, 3) := by decide +kernel
theorem dX1_jumpTo_16 : decode cX1_jumpTo 16 = .ok (.iload_n 1, 1) := by decide +kernel
theorem dX1_jumpTo_17 : decode cX1_jumpTo 17 = .ok (.ireturn, 1) := by decide +kernel
set_option maxRecDepth 20000 in
theorem ggX1_checkLabel_X2_get : GoodIn wsX1_checkLabel wsX2_get := goodIn_r _ [7, 8, 9, 10, 11, 6, 12, 13, 21, 22, 23] (by decide +kernel) (by decide +kernel)
set_option maxRecDepth 20000 in
theorem gX1_checkLabel_X2_get : GoodIn wsX1_checkLabel (wsV RX1 56 RX2 yX2_get wsX2_get) := goodIn_app (goodIn_of _ (by decide +kernel)) ggX1_checkLabel_X2_get
theorem dX1_checkLabel_0 : decode cX1_checkLabel 0 = .ok (.aload_n 0, 1) := by decide +kernel
theorem dX1_checkLabel_1 : decode cX1_checkLabel 1 = .ok (.getfield 26, 3) := by decide +kernel
theorem dX1_checkLabel_4 : decode cX1_checkLabel 4 = .ok (.iload_n 1, 1) := by decide +kernel
theorem dX1_checkLabel_5 : decode cX1_checkLabel 5 = .ok (.iconst 0, 1) := by decide +kernel
theorem dX1_checkLabel_6 : decode cX1_checkLabel 6 = .ok (.invokevirtual 56, 3) := by decide +kernel
theorem dX1_checkLabel_9 : decode cX1_checkLabel 9 = .ok (.bipush 10, 2) := by decide +kernel
theorem dX1_checkLabel_11 : decode cX1_checkLabel 11 = .ok (.if_icmp .ne 16, 3) := by decide +kernel
theorem dX1_checkLabel_14 : decode cX1_checkLabel 14 = .ok (.aload_n 0, 1) := by decide +kernel
theorem dX1_checkLabel_15 : decode cX1_checkLabel 15 = .ok (.getfield 26, 3) := by decide +kernel
theorem dX1_checkLabel_18 : decode cX1_checkLabel 18 = .ok (.iload_n 1, 1) := by decide +kernel
theorem dX1_checkLabel_19 : decode cX1_checkLabel 19 = .ok (.iconst 1, 1) := by decide +kernel
theorem dX1_checkLabel_20 : decode cX1_checkLabel 20 = .ok (.invokevirtual 56, 3) := by decide +kernel
theorem dX1_checkLabel_23 : decode cX1_checkLabel 23 = .ok (.iload_n 2, 1) := by decide +kernel
theorem dX1_checkLabel_24 : decode cX1_checkLabel 24 = .ok (.if_icmp .eq 8, 3) := by decide +kernel
theorem dX1_checkLabel_27 : decode cX1_checkLabel 27 = .ok (.aload_n 0, 1) := by decide +kernel
theorem dX1_checkLabel_28 : decode cX1_checkLabel 28 = .ok (.iconst 2, 1) := by decide +kernel
theorem dX1_checkLabel_29 : decode cX1_checkLabel 29 = .ok (.putfield 30, 3) := by decide +kernel
theorem dX1_checkLabel_32 : decode cX1_checkLabel 32 = .ok (.return_, 1) := by decide +kernel
theorem dX2_init_0 : decode cX2_init 0 = .ok (.aload_n 0, 1) := by decide +kernel
theorem dX2_init_1 : decode cX2_init 1 = .ok (.invokespecial 3, 3) := by decide +kernel
theorem dX2_init_4 : decode cX2_init 4 = .ok (.aload_n 0, 1) := by decide +kernel
theorem dX2_init_5 : decode cX2_init 5 = .ok (.iconst 0, 1) := by decide +kernel
theorem dX2_init_6 : decode cX2_init 6 = .ok (.iload_n 1, 1) := by decide +kernel
theorem dX2_init_7 : decode cX2_init 7 = .ok (.bipush 72, 2) := by decide +kernel
theorem dX2_init_9 : decode cX2_init 9 = .ok (.invokestatic 9, 3) := by decide +kernel
theorem dX2_init_12 : decode cX2_init 12 = .ok (.invokestatic 15, 3) := by decide +kernel
theorem dX2_init_15 : decode cX2_init 15 = .ok (.putfield 18, 3) := by decide +kernel
theorem dX2_init_18 : decode cX2_init 18 = .ok (.aload_n 0, 1) := by decide +kernel
theorem dX2_init_19 : decode cX2_init 19 = .ok (.aload_n 0, 1) := by decide +kernel
theorem dX2_init_20 : decode cX2_init 20 = .ok (.getfield 18, 3) := by decide +kernel
theorem dX2_init_23 : decode cX2_init 23 = .ok (.iconst 3, 1) := by decide +kernel
theorem dX2_init_24 : decode cX2_init 24 = .ok (.imul, 1) := by decide +kernel
theorem dX2_init_25 : decode cX2_init 25 = .ok (.newarray .int, 2) := by decide +kernel
theorem dX2_init_27 : decode cX2_init 27 = .ok (.putfield 24, 3) := by decide +kernel
theorem dX2_init_30 : decode cX2_init 30 = .ok (.return_, 1) := by decide +kernel
theorem dX2_length_0 : decode cX2_length 0 = .ok (.aload_n 0, 1) := by decide +kernel
theorem dX2_length_1 : decode cX2_length 1 = .ok (.getfield 28, 3) := by decide +kernel
theorem dX2_length_4 : decode cX2_length 4 = .ok (.ireturn, 1) := by decide +kernel
theorem dX2_isFull_0 : decode cX2_isFull 0 = .ok (.aload_n 0, 1) := by decide +kernel
theorem dX2_isFull_1 : decode cX2_isFull 1 = .ok (.getfield 28, 3) := by decide +kernel
theorem dX2_isFull_4 : decode cX2_isFull 4 = .ok (.aload_n 0, 1) := by decide +kernel
theorem dX2_isFull_5 : decode cX2_isFull 5 = .ok (.getfield 18, 3) := by decide +kernel
theorem dX2_isFull_8 : decode cX2_isFull 8 = .ok (.if_icmp .lt 7, 3) := by decide +kernel
theorem dX2_isFull_11 : decode cX2_isFull 11 = .ok (.iconst 1, 1) := by decide +kernel
theorem dX2_isFull_12 : decode cX2_isFull 12 = .ok (.goto 4, 3) := by decide +kernel
theorem dX2_isFull_15 : decode cX2_isFull 15 = .ok (.iconst 0, 1) := by decide +kernel
theorem dX2_isFull_16 : decode cX2_isFull 16 = .ok (.ireturn, 1) := by decide +kernel
theorem dX2_has_0 : decode cX2_has 0 = .ok (.iload_n 1, 1) := by decide +kernel
theorem dX2_has_1 : decode cX2_has 1 = .ok (.ifCond .lt 15, 3) := by decide +kernel
theorem dX2_has_4 : decode cX2_has 4 = .ok (.iload_n 1, 1) := by decide +kernel
theorem dX2_has_5 : decode cX2_has 5 = .ok (.aload_n 0, 1) := by decide +kernel
theorem dX2_has_6 : decode cX2_has 6 = .ok (.getfield 28, 3) := by decide +kernel
theorem dX2_has_9 : decode cX2_has 9 = .ok (.if_icmp .ge 7, 3) := by decide +kernel
theorem dX2_has_12 : decode cX2_has 12 = .ok (.iconst 1, 1) := by decide +kernel
theorem dX2_has_13 : decode cX2_has 13 = .ok (.goto 4, 3) := by decide +kernel
theorem dX2_has_16 : decode cX2_has 16 = .ok (.iconst 0, 1) := by decide +kernel
theorem dX2_has_17 : decode cX2_has 17 = .ok (.ireturn, 1) := by decide +kernel
set_option maxRecDepth 20000 in
theorem ggX2_get_X2_has : GoodIn wsX2_get wsX2_has := goodIn_r _ [6, 7, 8, 9, 10] (by decide +kernel) (by decide +kernel)
set_option maxRecDepth 20000 in
theorem gX2_get_X2_has : GoodIn wsX2_get (wsV RX2 31 RX2 yX2_has wsX2_has) := goodIn_app (goodIn_of _ (by decide +kernel)) ggX2_get_X2_has
theorem dX2_get_0 : decode cX2_get 0 = .ok (.aload_n 0, 1) := by decide +kernel
theorem dX2_get_1 : decode cX2_get 1 = .ok (.iload_n 1, 1) := by decide +kernel
theorem dX2_get_2 : decode cX2_get 2 = .ok (.invokevirtual 31, 3) := by decide +kernel
theorem dX2_get_5 : decode cX2_get 5 = .ok (.ifCond .eq 12, 3) := by decide +kernel
theorem dX2_get_8 : decode cX2_get 8 = .ok (.iload_n 2, 1) := by decide +kernel
theorem dX2_get_9 : decode cX2_get 9 = .ok (.ifCond .lt 8, 3) := by decide +kernel
theorem dX2_get_12 : decode cX2_get 12 = .ok (.iload_n 2, 1) := by decide +kernel
theorem dX2_get_13 : decode cX2_get 13 = .ok (.iconst 3, 1) := by decide +kernel
theorem dX2_get_14 : decode cX2_get 14 = .ok (.if_icmp .lt 6, 3) := by decide +kernel
theorem dX2_get_17 : decode cX2_get 17 = .ok (.bipush (-9), 2) := by decide +kernel
theorem dX2_get_19 : decode cX2_get 19 = .ok (.ireturn, 1) := by decide +kernel
theorem dX2_get_20 : decode cX2_get 20 = .ok (.aload_n 0, 1) := by decide +kernel
theorem dX2_get_21 : decode cX2_get 21 = .ok (.getfield 24, 3) := by decide +kernel
theorem dX2_get_24 : decode cX2_get 24 = .ok (.iload_n 1, 1) := by decide +kernel
theorem dX2_get_25 : decode cX2_get 25 = .ok (.iconst 3, 1) := by decide +kernel
theorem dX2_get_26 : decode cX2_get 26 = .ok (.imul, 1) := by decide +kernel
theorem dX2_get_27 : decode cX2_get 27 = .ok (.iload_n 2, 1) := by decide +kernel
theorem dX2_get_28 : decode cX2_get 28 = .ok (.iadd, 1) := by decide +kernel
theorem dX2_get_29 : decode cX2_get 29 = .ok (.iaload, 1) := by decide +kernel
theorem dX2_get_30 : decode cX2_get 30 = .ok (.ireturn, 1) := by decide +kernel
set_option maxRecDepth 20000 in
theorem ggX2_append_X2_isFull : GoodIn wsX2_append wsX2_isFull := goodIn_r _ [7, 2, 8, 9, 10, 11] (by decide +kernel) (by decide +kernel)
set_option maxRecDepth 20000 in
theorem gX2_append_X2_isFull : GoodIn wsX2_append (wsV RX2 35 RX2 yX2_isFull wsX2_isFull) := goodIn_app (goodIn_of _ (by decide +kernel)) ggX2_append_X2_isFull
theorem dX2_append_0 : decode cX2_append 0 = .ok (.aload_n 0, 1) := by decide +kernel
theorem dX2_append_1 : decode cX2_append 1 = .ok (.invokevirtual 35, 3) := by decide +kernel
theorem dX2_append_4 : decode cX2_append 4 = .ok (.ifCond .eq 4, 3) := by decide +kernel
theorem dX2_append_7 : decode cX2_append 7 = .ok (.return_, 1) := by decide +kernel
theorem dX2_append_8 : decode cX2_append 8 = .ok (.aload_n 0, 1) := by decide +kernel
theorem dX2_append_9 : decode cX2_append 9 = .ok (.getfield 24, 3) := by decide +kernel
theorem dX2_append_12 : decode cX2_append 12 = .ok (.aload_n 0, 1) := by decide +kernel
theorem dX2_append_13 : decode cX2_append 13 = .ok (.getfield 28, 3) := by decide +kernel
theorem dX2_append_16 : decode cX2_append 16 = .ok (.iconst 3, 1) := by decide +kernel
theorem dX2_append_17 : decode cX2_append 17 = .ok (.imul, 1) := by decide +kernel
theorem dX2_append_18 : decode cX2_append 18 = .ok (.iconst 0, 1) := by decide +kernel
theorem dX2_append_19 : decode cX2_append 19 = .ok (.iadd, 1) := by decide +kernel
theorem dX2_append_20 : decode cX2_append 20 = .ok (.iload_n 1, 1) := by decide +kernel
theorem dX2_append_21 : decode cX2_append 21 = .ok (.iastore, 1) := by decide +kernel
theorem dX2_append_22 : decode cX2_append 22 = .ok (.aload_n 0, 1) := by decide +kernel
theorem dX2_append_23 : decode cX2_append 23 = .ok (.getfield 24, 3) := by decide +kernel
theorem dX2_append_26 : decode cX2_append 26 = .ok (.aload_n 0, 1) := by decide +kernel
theorem dX2_append_27 : decode cX2_append 27 = .ok (.getfield 28, 3) := by decide +kernel
theorem dX2_append_30 : decode cX2_append 30 = .ok (.iconst 3, 1) := by decide +kernel
theorem dX2_append_31 : decode cX2_append 31 = .ok (.imul, 1) := by decide +kernel
theorem dX2_append_32 : decode cX2_append 32 = .ok (.iconst 1, 1) := by decide +kernel
theorem dX2_append_33 : decode cX2_append 33 = .ok (.iadd, 1) := by decide +kernel
theorem dX2_append_34 : decode cX2_append 34 = .ok (.iload_n 2, 1) := by decide +kernel
theorem dX2_append_35 : decode cX2_append 35 = .ok (.iastore, 1) := by decide +kernel
theorem dX2_append_36 : decode cX2_append 36 = .ok (.aload_n 0, 1) := by decide +kernel
theorem dX2_append_37 : decode cX2_append 37 = .ok (.getfield 24, 3) := by decide +kernel
theorem dX2_append_40 : decode cX2_append 40 = .ok (.aload_n 0, 1) := by decide +kernel
theorem dX2_append_41 : decode cX2_append 41 = .ok (.getfield 28, 3) := by decide +kernel
theorem dX2_append_44 : decode cX2_append 44 = .ok (.iconst 3, 1) := by decide +kernel
theorem dX2_append_45 : decode cX2_append 45 = .ok (.imul, 1) := by decide +kernel
theorem dX2_append_46 : decode cX2_append 46 = .ok (.iconst 2, 1) := by decide +kernel
theorem dX2_append_47 : decode cX2_append 47 = .ok (.iadd, 1) := by decide +kernel
theorem dX2_append_48 : decode cX2_append 48 = .ok (.iload_n 3, 1) := by decide +kernel
theorem dX2_append_49 : decode cX2_append 49 = .ok (.iastore, 1) := by decide +kernel
theorem dX2_append_50 : decode cX2_append 50 = .ok (.aload_n 0, 1) := by decide +kernel
theorem dX2_append_51 : decode cX2_append 51 = .ok (.dup, 1) := by decide +kernel
theorem dX2_append_52 : decode cX2_append 52 = .ok (.getfield 28, 3) := by decide +kernel
theorem dX2_append_55 : decode cX2_append 55 = .ok (.iconst 1, 1) := by decide +kernel
theorem dX2_append_56 : decode cX2_append 56 = .ok (.iadd, 1) := by decide +kernel
theorem dX2_append_57 : decode cX2_append 57 = .ok (.putfield 28, 3) := by decide +kernel
theorem dX2_append_60 : decode cX2_append 60 = .ok (.return_, 1) := by decide +kernel
theorem dX2_clear_0 : decode cX2_clear 0 = .ok (.aload_n 0, 1) := by decide +kernel
theorem dX2_clear_1 : decode cX2_clear 1 = .ok (.iconst 0, 1) := by decide +kernel
theorem dX2_clear_2 : decode cX2_clear 2 = .ok (.putfield 28, 3) := by decide +kernel
theorem dX2_clear_5 : decode cX2_clear 5 = .ok (.return_, 1) := by decide +kernel
end
section
set_option maxRecDepth 20000 in
theorem ggX3_init_X2_init : GoodIn wsX3_init wsX2_init := goodIn_r _ [21, 22, 2, 3, 23, 24, 25, 26, 27, 28, 29, 30, 13, 31, 48, 49, 50] (by decide +kernel) (by decide +kernel)
set_option maxRecDepth 20000 in
theorem gX3_init_X2_init : GoodIn wsX3_init (wsX2_init) := ggX3_init_X2_init
set_option maxRecDepth 20000 in
theorem ggX3_init_X0_init : GoodIn wsX3_init wsX0_init := goodIn_r _ [33, 34, 2, 3, 13, 35, 36, 37, 56, 57, 58, 59] (by decide +kernel) (by decide +kernel)
set_option maxRecDepth 20000 in
theorem gX3_init_X0_init_n23 : GoodIn wsX3_init (wsX0_init) := ggX3_init_X0_init
set_option maxRecDepth 20000 in
theorem ggX3_init_X1_init : GoodIn wsX3_init wsX1_init := goodIn_r _ [39, 40, 2, 3, 13, 41, 42, 43, 44, 5, 6, 45, 46, 47, 20, 21, 22, 23, 24, 25, 26, 27, 28, 29, 30, 31, 60, 61, 62, 63, 64, 65, 66, 48, 49, 50] (by decide +kernel) (by decide +kernel)
set_option maxRecDepth 20000 in
theorem gX3_init_X1_init_n34 : GoodIn wsX3_init (wsX1_init) := ggX3_init_X1_init
theorem dX3_init_0 : decode cX3_init 0 = .ok (.aload_n 0, 1) := by decide +kernel
theorem dX3_init_1 : decode cX3_init 1 = .ok (.invokespecial 1, 3) := by decide +kernel
theorem dX3_init_4 : decode cX3_init 4 = .ok (.aload_n 0, 1) := by decide +kernel
theorem dX3_init_5 : decode cX3_init 5 = .ok (.new 7, 3) := by decide +kernel
theorem dX3_init_8 : decode cX3_init 8 = .ok (.dup, 1) := by decide +kernel
theorem dX3_init_9 : decode cX3_init 9 = .ok (.bipush 24, 2) := by decide +kernel
theorem dX3_init_11 : decode cX3_init 11 = .ok (.invokespecial 11, 3) := by decide +kernel
theorem dX3_init_14 : decode cX3_init 14 = .ok (.putfield 14, 3) := by decide +kernel
theorem dX3_init_17 : decode cX3_init 17 = .ok (.aload_n 0, 1) := by decide +kernel
theorem dX3_init_18 : decode cX3_init 18 = .ok (.new 7, 3) := by decide +kernel
theorem dX3_init_21 : decode cX3_init 21 = .ok (.dup, 1) := by decide +kernel
theorem dX3_init_22 : decode cX3_init 22 = .ok (.bipush 72, 2) := by decide +kernel
theorem dX3_init_24 : decode cX3_init 24 = .ok (.invokespecial 11, 3) := by decide +kernel
theorem dX3_init_27 : decode cX3_init 27 = .ok (.putfield 18, 3) := by decide +kernel
theorem dX3_init_30 : decode cX3_init 30 = .ok (.aload_n 0, 1) := by decide +kernel
theorem dX3_init_31 : decode cX3_init 31 = .ok (.new 21, 3) := by decide +kernel
theorem dX3_init_34 : decode cX3_init 34 = .ok (.dup, 1) := by decide +kernel
theorem dX3_init_35 : decode cX3_init 35 = .ok (.invokespecial 23, 3) := by decide +kernel
theorem dX3_init_38 : decode cX3_init 38 = .ok (.putfield 24, 3) := by decide +kernel
theorem dX3_init_41 : decode cX3_init 41 = .ok (.aload_n 0, 1) := by decide +kernel
theorem dX3_init_42 : decode cX3_init 42 = .ok (.bipush 24, 2) := by decide +kernel
theorem dX3_init_44 : decode cX3_init 44 = .ok (.newarray .int, 2) := by decide +kernel
theorem dX3_init_46 : decode cX3_init 46 = .ok (.putfield 28, 3) := by decide +kernel
theorem dX3_init_49 : decode cX3_init 49 = .ok (.aload_n 0, 1) := by decide +kernel
theorem dX3_init_50 : decode cX3_init 50 = .ok (.new 32, 3) := by decide +kernel
theorem dX3_init_53 : decode cX3_init 53 = .ok (.dup, 1) := by decide +kernel
theorem dX3_init_54 : decode cX3_init 54 = .ok (.invokespecial 34, 3) := by decide +kernel
theorem dX3_init_57 : decode cX3_init 57 = .ok (.putfield 35, 3) := by decide +kernel
theorem dX3_init_60 : decode cX3_init 60 = .ok (.return_, 1) := by decide +kernel
set_option maxRecDepth 20000 in
theorem ggX3_add_X3_isSourceInstruction : GoodIn wsX3_add wsX3_isSourceInstruction := goodIn_r _ [5, 6, 7, 4, 8, 9, 10, 11, 12, 13, 14] (by decide +kernel) (by decide +kernel)
set_option maxRecDepth 20000 in
theorem gX3_add_X3_isSourceInstruction : GoodIn wsX3_add (va_wsS RX3 39 yX3_isSourceInstruction wsX3_isSourceInstruction) := goodIn_app (goodIn_of _ (by decide +kernel)) ggX3_add_X3_isSourceInstruction
set_option maxRecDepth 20000 in
theorem ggX3_add_X2_isFull : GoodIn wsX3_add wsX2_isFull := goodIn_r _ [19, 20, 21, 53, 54, 55] (by decide +kernel) (by decide +kernel)
set_option maxRecDepth 20000 in
theorem gX3_add_X2_isFull : GoodIn wsX3_add (wsV RX3 43 RX2 yX2_isFull wsX2_isFull) := goodIn_app (goodIn_of _ (by decide +kernel)) ggX3_add_X2_isFull
set_option maxRecDepth 20000 in
theorem ggX3_add_X2_length : GoodIn wsX3_add wsX2_length := goodIn_r _ [25, 20, 53, 54, 55] (by decide +kernel) (by decide +kernel)
set_option maxRecDepth 20000 in
theorem gX3_add_X2_length : GoodIn wsX3_add (wsV RX3 47 RX2 yX2_length wsX2_length) := goodIn_app (goodIn_of _ (by decide +kernel)) ggX3_add_X2_length
set_option maxRecDepth 20000 in
theorem ggX3_add_X2_append : GoodIn wsX3_add wsX2_append := goodIn_r _ [29, 30, 20, 31, 16, 17, 18, 19, 21, 53, 54, 55] (by decide +kernel) (by decide +kernel)
set_option maxRecDepth 20000 in
theorem gX3_add_X2_append : GoodIn wsX3_add (wsV RX3 51 RX2 yX2_append wsX2_append) := goodIn_app (goodIn_of _ (by decide +kernel)) ggX3_add_X2_append
set_option maxRecDepth 20000 in
theorem ggX3_add_X3_dropGuarded : GoodIn wsX3_add wsX3_dropGuarded := goodIn_r _ [35, 36, 37, 38, 39, 40, 18, 41, 20, 42, 43, 44, 45, 46, 47, 48, 49, 50, 51, 52, 53, 54, 55, 56, 57, 58, 59, 60, 61, 62] (by decide +kernel) (by decide +kernel)
set_option maxRecDepth 20000 in
theorem gX3_add_X3_dropGuarded : GoodIn wsX3_add (wsV RX3 55 RX3 yX3_dropGuarded wsX3_dropGuarded) := goodIn_app (goodIn_of _ (by decide +kernel)) ggX3_add_X3_dropGuarded
theorem dX3_add_0 : decode cX3_add 0 = .ok (.iload_n 1, 1) := by decide +kernel
theorem dX3_add_1 : decode cX3_add 1 = .ok (.iload_n 2, 1) := by decide +kernel
theorem dX3_add_2 : decode cX3_add 2 = .ok (.iload_n 3, 1) := by decide +kernel
theorem dX3_add_3 : decode cX3_add 3 = .ok (.invokestatic 39, 3) := by decide +kernel
theorem dX3_add_6 : decode cX3_add 6 = .ok (.ifCond .ne 5, 3) := by decide +kernel
theorem dX3_add_9 : decode cX3_add 9 = .ok (.iconst (-1), 1) := by decide +kernel
theorem dX3_add_10 : decode cX3_add 10 = .ok (.ireturn, 1) := by decide +kernel
theorem dX3_add_11 : decode cX3_add 11 = .ok (.aload_n 0, 1) := by decide +kernel
theorem dX3_add_12 : decode cX3_add 12 = .ok (.getfield 14, 3) := by decide +kernel
theorem dX3_add_15 : decode cX3_add 15 = .ok (.invokevirtual 43, 3) := by decide +kernel
theorem dX3_add_18 : decode cX3_add 18 = .ok (.ifCond .eq 6, 3) := by decide +kernel
theorem dX3_add_21 : decode cX3_add 21 = .ok (.bipush (-2), 2) := by decide +kernel
theorem dX3_add_23 : decode cX3_add 23 = .ok (.ireturn, 1) := by decide +kernel
theorem dX3_add_24 : decode cX3_add 24 = .ok (.aload_n 0, 1) := by decide +kernel
theorem dX3_add_25 : decode cX3_add 25 = .ok (.getfield 14, 3) := by decide +kernel
theorem dX3_add_28 : decode cX3_add 28 = .ok (.invokevirtual 47, 3) := by decide +kernel
theorem dX3_add_31 : decode cX3_add 31 = .ok (.istore 4, 2) := by decide +kernel
theorem dX3_add_33 : decode cX3_add 33 = .ok (.aload_n 0, 1) := by decide +kernel
theorem dX3_add_34 : decode cX3_add 34 = .ok (.getfield 14, 3) := by decide +kernel
theorem dX3_add_37 : decode cX3_add 37 = .ok (.iload_n 1, 1) := by decide +kernel
theorem dX3_add_38 : decode cX3_add 38 = .ok (.iload_n 2, 1) := by decide +kernel
theorem dX3_add_39 : decode cX3_add 39 = .ok (.iload_n 3, 1) := by decide +kernel
theorem dX3_add_40 : decode cX3_add 40 = .ok (.invokevirtual 51, 3) := by decide +kernel
theorem dX3_add_43 : decode cX3_add 43 = .ok (.aload_n 0, 1) := by decide +kernel
theorem dX3_add_44 : decode cX3_add 44 = .ok (.invokevirtual 55, 3) := by decide +kernel
theorem dX3_add_47 : decode cX3_add 47 = .ok (.iload 4, 2) := by decide +kernel
theorem dX3_add_49 : decode cX3_add 49 = .ok (.ireturn, 1) := by decide +kernel
set_option maxRecDepth 20000 in
theorem ggX3_allow_X2_get : GoodIn wsX3_allow wsX2_get := goodIn_r _ [7, 8, 9, 10, 11, 6, 12, 13, 70, 71, 72] (by decide +kernel) (by decide +kernel)
set_option maxRecDepth 20000 in
theorem gX3_allow_X2_get : GoodIn wsX3_allow (wsV RX3 58 RX2 yX2_get wsX2_get) := goodIn_app (goodIn_of _ (by decide +kernel)) ggX3_allow_X2_get
set_option maxRecDepth 20000 in
theorem ggX3_allow_X2_has : GoodIn wsX3_allow wsX2_has := goodIn_r _ [12, 13, 70, 71, 72] (by decide +kernel) (by decide +kernel)
set_option maxRecDepth 20000 in
theorem gX3_allow_X2_has : GoodIn wsX3_allow (wsV RX3 62 RX2 yX2_has wsX2_has) := goodIn_app (goodIn_of _ (by decide +kernel)) ggX3_allow_X2_has
set_option maxRecDepth 20000 in
theorem ggX3_allow_X0_connect : GoodIn wsX3_allow wsX0_connect := goodIn_r _ [19, 20, 21, 22, 23, 24, 25, 26, 27, 28, 18, 29, 30, 31, 32, 33, 34, 35, 36, 37, 38, 39, 40, 41, 42, 43, 44, 45, 46, 47, 48, 73, 74, 75, 76] (by decide +kernel) (by decide +kernel)
set_option maxRecDepth 20000 in
theorem gX3_allow_X0_connect : GoodIn wsX3_allow (wsV RX3 66 RX0 yX0_connect wsX0_connect) := goodIn_app (goodIn_of _ (by decide +kernel)) ggX3_allow_X0_connect
set_option maxRecDepth 20000 in
theorem ggX3_allow_X3_dropGuarded : GoodIn wsX3_allow wsX3_dropGuarded := goodIn_r _ [52, 53, 54, 55, 56, 57, 6, 58, 13, 59, 60, 61, 62, 63, 64, 65, 66, 67, 68, 69, 70, 71, 72, 77, 78, 79, 80, 81, 82, 83] (by decide +kernel) (by decide +kernel)
set_option maxRecDepth 20000 in
theorem gX3_allow_X3_dropGuarded : GoodIn wsX3_allow (wsV RX3 55 RX3 yX3_dropGuarded wsX3_dropGuarded) := goodIn_app (goodIn_of _ (by decide +kernel)) ggX3_allow_X3_dropGuarded
theorem dX3_allow_0 : decode cX3_allow 0 = .ok (.aload_n 0, 1) := by decide +kernel
theorem dX3_allow_1 : decode cX3_allow 1 = .ok (.getfield 14, 3) := by decide +kernel
theorem dX3_allow_4 : decode cX3_allow 4 = .ok (.iload_n 1, 1) := by decide +kernel
theorem dX3_allow_5 : decode cX3_allow 5 = .ok (.iconst 0, 1) := by decide +kernel
theorem dX3_allow_6 : decode cX3_allow 6 = .ok (.invokevirtual 58, 3) := by decide +kernel
theorem dX3_allow_9 : decode cX3_allow 9 = .ok (.bipush 8, 2) := by decide +kernel
theorem dX3_allow_11 : decode cX3_allow 11 = .ok (.if_icmp .ne 14, 3) := by decide +kernel
theorem dX3_allow_14 : decode cX3_allow 14 = .ok (.aload_n 0, 1) := by decide +kernel
theorem dX3_allow_15 : decode cX3_allow 15 = .ok (.getfield 14, 3) := by decide +kernel
theorem dX3_allow_18 : decode cX3_allow 18 = .ok (.iload_n 2, 1) := by decide +kernel
theorem dX3_allow_19 : decode cX3_allow 19 = .ok (.invokevirtual 62, 3) := by decide +kernel
theorem dX3_allow_22 : decode cX3_allow 22 = .ok (.ifCond .ne 5, 3) := by decide +kernel
theorem dX3_allow_25 : decode cX3_allow 25 = .ok (.iconst 0, 1) := by decide +kernel
theorem dX3_allow_26 : decode cX3_allow 26 = .ok (.ireturn, 1) := by decide +kernel
theorem dX3_allow_27 : decode cX3_allow 27 = .ok (.aload_n 0, 1) := by decide +kernel
theorem dX3_allow_28 : decode cX3_allow 28 = .ok (.getfield 24, 3) := by decide +kernel
theorem dX3_allow_31 : decode cX3_allow 31 = .ok (.iload_n 1, 1) := by decide +kernel
theorem dX3_allow_32 : decode cX3_allow 32 = .ok (.iload_n 2, 1) := by decide +kernel
theorem dX3_allow_33 : decode cX3_allow 33 = .ok (.invokevirtual 66, 3) := by decide +kernel
theorem dX3_allow_36 : decode cX3_allow 36 = .ok (.ifCond .ne 5, 3) := by decide +kernel
theorem dX3_allow_39 : decode cX3_allow 39 = .ok (.iconst 0, 1) := by decide +kernel
theorem dX3_allow_40 : decode cX3_allow 40 = .ok (.ireturn, 1) := by decide +kernel
theorem dX3_allow_41 : decode cX3_allow 41 = .ok (.aload_n 0, 1) := by decide +kernel
theorem dX3_allow_42 : decode cX3_allow 42 = .ok (.invokevirtual 55, 3) := by decide +kernel
theorem dX3_allow_45 : decode cX3_allow 45 = .ok (.iconst 1, 1) := by decide +kernel
theorem dX3_allow_46 : decode cX3_allow 46 = .ok (.ireturn, 1) := by decide +kernel
set_option maxRecDepth 20000 in
theorem ggX3_protect_X3_dropGuarded : GoodIn wsX3_protect wsX3_dropGuarded := goodIn_r _ [7, 2, 8, 9, 10, 11, 12, 13, 14, 15, 16, 17, 18, 19, 20, 83, 84, 85, 86, 87, 88, 89, 90, 91, 92, 93, 94, 95, 96, 97] (by decide +kernel) (by decide +kernel)
set_option maxRecDepth 20000 in
theorem gX3_protect_X3_dropGuarded : GoodIn wsX3_protect (wsV RX3 55 RX3 yX3_dropGuarded wsX3_dropGuarded) := goodIn_app (goodIn_of _ (by decide +kernel)) ggX3_protect_X3_dropGuarded
set_option maxRecDepth 20000 in
theorem ggX3_protect_X3_isClosed : GoodIn wsX3_protect wsX3_isClosed := goodIn_r _ [24, 1, 25, 26, 27, 12, 28, 14, 29, 30, 31, 32, 33, 34, 35, 36, 37, 38, 39, 40, 6, 41, 42, 43, 44, 45, 83, 84, 85, 86, 87, 88, 89, 90] (by decide +kernel) (by decide +kernel)
set_option maxRecDepth 20000 in
theorem gX3_protect_X3_isClosed : GoodIn wsX3_protect (wsV RX3 70 RX3 yX3_isClosed wsX3_isClosed) := goodIn_app (goodIn_of _ (by decide +kernel)) ggX3_protect_X3_isClosed
set_option maxRecDepth 20000 in
theorem ggX3_protect_X3_setPlaces : GoodIn wsX3_protect wsX3_setPlaces := goodIn_r _ [49, 1, 50, 51, 25, 26, 27, 12, 28, 14, 52, 53, 54, 55, 56, 57, 58, 6, 59, 29, 30, 31, 32, 33, 34, 35, 36, 37, 83, 84, 85, 86, 87, 88, 89, 90, 98, 99, 100, 101] (by decide +kernel) (by decide +kernel)
set_option maxRecDepth 20000 in
theorem gX3_protect_X3_setPlaces : GoodIn wsX3_protect (wsV RX3 73 RX3 yX3_setPlaces wsX3_setPlaces) := goodIn_app (goodIn_of _ (by decide +kernel)) ggX3_protect_X3_setPlaces
set_option maxRecDepth 20000 in
theorem ggX3_protect_X2_length : GoodIn wsX3_protect wsX2_length := goodIn_r _ [28, 14, 88, 89, 90] (by decide +kernel) (by decide +kernel)
set_option maxRecDepth 20000 in
theorem gX3_protect_X2_length : GoodIn wsX3_protect (wsV RX3 47 RX2 yX2_length wsX2_length) := goodIn_app (goodIn_of _ (by decide +kernel)) ggX3_protect_X2_length
set_option maxRecDepth 20000 in
theorem ggX3_protect_X3_appendGuarded : GoodIn wsX3_protect wsX3_appendGuarded := goodIn_r _ [63, 1, 51, 2, 29, 30, 31, 12, 32, 33, 34, 35, 36, 37, 14, 52, 53, 54, 55, 56, 57, 58, 6, 59, 64, 65, 66, 67, 68, 69, 70, 71, 72, 73, 74, 75, 76, 77, 78, 79, 80, 81, 50, 82, 43, 44, 45, 83, 84, 85, 86, 87, 88, 89, 90, 98, 99, 100, 101] (by decide +kernel) (by decide +kernel)
set_option maxRecDepth 20000 in
theorem gX3_protect_X3_appendGuarded : GoodIn wsX3_protect (wsV RX3 76 RX3 yX3_appendGuarded wsX3_appendGuarded) := goodIn_app (goodIn_of _ (by decide +kernel)) ggX3_protect_X3_appendGuarded
theorem dX3_protect_0 : decode cX3_protect 0 = .ok (.aload_n 0, 1) := by decide +kernel
theorem dX3_protect_1 : decode cX3_protect 1 = .ok (.invokevirtual 55, 3) := by decide +kernel
theorem dX3_protect_4 : decode cX3_protect 4 = .ok (.aload_n 0, 1) := by decide +kernel
theorem dX3_protect_5 : decode cX3_protect 5 = .ok (.invokevirtual 70, 3) := by decide +kernel
theorem dX3_protect_8 : decode cX3_protect 8 = .ok (.ifCond .ne 5, 3) := by decide +kernel
theorem dX3_protect_11 : decode cX3_protect 11 = .ok (.iconst (-1), 1) := by decide +kernel
theorem dX3_protect_12 : decode cX3_protect 12 = .ok (.ireturn, 1) := by decide +kernel
theorem dX3_protect_13 : decode cX3_protect 13 = .ok (.aload_n 0, 1) := by decide +kernel
theorem dX3_protect_14 : decode cX3_protect 14 = .ok (.invokevirtual 73, 3) := by decide +kernel
theorem dX3_protect_17 : decode cX3_protect 17 = .ok (.iconst 0, 1) := by decide +kernel
theorem dX3_protect_18 : decode cX3_protect 18 = .ok (.istore_n 1, 1) := by decide +kernel
theorem dX3_protect_19 : decode cX3_protect 19 = .ok (.iload_n 1, 1) := by decide +kernel
theorem dX3_protect_20 : decode cX3_protect 20 = .ok (.aload_n 0, 1) := by decide +kernel
theorem dX3_protect_21 : decode cX3_protect 21 = .ok (.getfield 14, 3) := by decide +kernel
theorem dX3_protect_24 : decode cX3_protect 24 = .ok (.invokevirtual 47, 3) := by decide +kernel
theorem dX3_protect_27 : decode cX3_protect 27 = .ok (.if_icmp .ge 14, 3) := by decide +kernel
theorem dX3_protect_30 : decode cX3_protect 30 = .ok (.aload_n 0, 1) := by decide +kernel
theorem dX3_protect_31 : decode cX3_protect 31 = .ok (.iload_n 1, 1) := by decide +kernel
theorem dX3_protect_32 : decode cX3_protect 32 = .ok (.invokevirtual 76, 3) := by decide +kernel
theorem dX3_protect_35 : decode cX3_protect 35 = .ok (.iinc 1 1, 3) := by decide +kernel
theorem dX3_protect_38 : decode cX3_protect 38 = .ok (.goto (-19), 3) := by decide +kernel
theorem dX3_protect_41 : decode cX3_protect 41 = .ok (.aload_n 0, 1) := by decide +kernel
theorem dX3_protect_42 : decode cX3_protect 42 = .ok (.getfield 18, 3) := by decide +kernel
theorem dX3_protect_45 : decode cX3_protect 45 = .ok (.invokevirtual 47, 3) := by decide +kernel
theorem dX3_protect_48 : decode cX3_protect 48 = .ok (.ireturn, 1) := by decide +kernel
set_option maxRecDepth 20000 in
theorem ggX3_source_X2_get : GoodIn wsX3_source wsX2_get := goodIn_r _ [6, 7, 8, 9, 10, 5, 11, 12, 18, 19, 20] (by decide +kernel) (by decide +kernel)
set_option maxRecDepth 20000 in
theorem gX3_source_X2_get : GoodIn wsX3_source (wsV RX3 58 RX2 yX2_get wsX2_get) := goodIn_app (goodIn_of _ (by decide +kernel)) ggX3_source_X2_get
theorem dX3_source_0 : decode cX3_source 0 = .ok (.aload_n 0, 1) := by decide +kernel
theorem dX3_source_1 : decode cX3_source 1 = .ok (.getfield 14, 3) := by decide +kernel
theorem dX3_source_4 : decode cX3_source 4 = .ok (.iload_n 1, 1) := by decide +kernel
theorem dX3_source_5 : decode cX3_source 5 = .ok (.iload_n 2, 1) := by decide +kernel
theorem dX3_source_6 : decode cX3_source 6 = .ok (.invokevirtual 58, 3) := by decide +kernel
theorem dX3_source_9 : decode cX3_source 9 = .ok (.ireturn, 1) := by decide +kernel
set_option maxRecDepth 20000 in
theorem ggX3_guarded_X2_get : GoodIn wsX3_guarded wsX2_get := goodIn_r _ [6, 7, 8, 9, 10, 5, 11, 12, 18, 19, 20] (by decide +kernel) (by decide +kernel)
set_option maxRecDepth 20000 in
theorem gX3_guarded_X2_get : GoodIn wsX3_guarded (wsV RX3 58 RX2 yX2_get wsX2_get) := goodIn_app (goodIn_of _ (by decide +kernel)) ggX3_guarded_X2_get
theorem dX3_guarded_0 : decode cX3_guarded 0 = .ok (.aload_n 0, 1) := by decide +kernel
theorem dX3_guarded_1 : decode cX3_guarded 1 = .ok (.getfield 18, 3) := by decide +kernel
theorem dX3_guarded_4 : decode cX3_guarded 4 = .ok (.iload_n 1, 1) := by decide +kernel
theorem dX3_guarded_5 : decode cX3_guarded 5 = .ok (.iload_n 2, 1) := by decide +kernel
theorem dX3_guarded_6 : decode cX3_guarded 6 = .ok (.invokevirtual 58, 3) := by decide +kernel
theorem dX3_guarded_9 : decode cX3_guarded 9 = .ok (.ireturn, 1) := by decide +kernel
set_option maxRecDepth 20000 in
theorem ggX3_place_X3_isGuarded : GoodIn wsX3_place wsX3_isGuarded := goodIn_r _ [6, 7, 8, 9, 10, 11, 12, 13, 26, 27, 28, 29, 30, 31, 32, 33] (by decide +kernel) (by decide +kernel)
set_option maxRecDepth 20000 in
theorem gX3_place_X3_isGuarded : GoodIn wsX3_place (wsV RX3 79 RX3 yX3_isGuarded wsX3_isGuarded) := goodIn_app (goodIn_of _ (by decide +kernel)) ggX3_place_X3_isGuarded
set_option maxRecDepth 20000 in
theorem ggX3_place_X2_has : GoodIn wsX3_place wsX2_has := goodIn_r _ [17, 13, 31, 32, 33] (by decide +kernel) (by decide +kernel)
set_option maxRecDepth 20000 in
theorem gX3_place_X2_has : GoodIn wsX3_place (wsV RX3 62 RX2 yX2_has wsX2_has) := goodIn_app (goodIn_of _ (by decide +kernel)) ggX3_place_X2_has
set_option maxRecDepth 20000 in
theorem ggX3_place_X3_placeOf : GoodIn wsX3_place wsX3_placeOf := goodIn_r _ [21, 22, 23, 24, 5, 25, 26, 27, 28, 29, 30] (by decide +kernel) (by decide +kernel)
set_option maxRecDepth 20000 in
theorem gX3_place_X3_placeOf : GoodIn wsX3_place (wsV RX3 82 RX3 yX3_placeOf wsX3_placeOf) := goodIn_app (goodIn_of _ (by decide +kernel)) ggX3_place_X3_placeOf
theorem dX3_place_0 : decode cX3_place 0 = .ok (.aload_n 0, 1) := by decide +kernel
theorem dX3_place_1 : decode cX3_place 1 = .ok (.invokevirtual 79, 3) := by decide +kernel
theorem dX3_place_4 : decode cX3_place 4 = .ok (.ifCond .eq 14, 3) := by decide +kernel
theorem dX3_place_7 : decode cX3_place 7 = .ok (.aload_n 0, 1) := by decide +kernel
theorem dX3_place_8 : decode cX3_place 8 = .ok (.getfield 14, 3) := by decide +kernel
theorem dX3_place_11 : decode cX3_place 11 = .ok (.iload_n 1, 1) := by decide +kernel
theorem dX3_place_12 : decode cX3_place 12 = .ok (.invokevirtual 62, 3) := by decide +kernel
theorem dX3_place_15 : decode cX3_place 15 = .ok (.ifCond .ne 5, 3) := by decide +kernel
theorem dX3_place_18 : decode cX3_place 18 = .ok (.iconst (-1), 1) := by decide +kernel
theorem dX3_place_19 : decode cX3_place 19 = .ok (.ireturn, 1) := by decide +kernel
theorem dX3_place_20 : decode cX3_place 20 = .ok (.aload_n 0, 1) := by decide +kernel
theorem dX3_place_21 : decode cX3_place 21 = .ok (.iload_n 1, 1) := by decide +kernel
theorem dX3_place_22 : decode cX3_place 22 = .ok (.invokevirtual 82, 3) := by decide +kernel
theorem dX3_place_25 : decode cX3_place 25 = .ok (.ireturn, 1) := by decide +kernel
set_option maxRecDepth 20000 in
theorem ggX3_label_X2_has : GoodIn wsX3_label wsX2_has := goodIn_r _ [7, 8, 23, 24, 25] (by decide +kernel) (by decide +kernel)
set_option maxRecDepth 20000 in
theorem gX3_label_X2_has : GoodIn wsX3_label (wsV RX3 62 RX2 yX2_has wsX2_has) := goodIn_app (goodIn_of _ (by decide +kernel)) ggX3_label_X2_has
set_option maxRecDepth 20000 in
theorem ggX3_label_X0_numberOfTarget : GoodIn wsX3_label wsX0_numberOfTarget := goodIn_r _ [13, 14, 15, 16, 17, 26, 27, 28, 29] (by decide +kernel) (by decide +kernel)
set_option maxRecDepth 20000 in
theorem gX3_label_X0_numberOfTarget : GoodIn wsX3_label (wsV RX3 86 RX0 yX0_numberOfTarget wsX0_numberOfTarget) := goodIn_app (goodIn_of _ (by decide +kernel)) ggX3_label_X0_numberOfTarget
theorem dX3_label_0 : decode cX3_label 0 = .ok (.aload_n 0, 1) := by decide +kernel
theorem dX3_label_1 : decode cX3_label 1 = .ok (.getfield 14, 3) := by decide +kernel
theorem dX3_label_4 : decode cX3_label 4 = .ok (.iload_n 1, 1) := by decide +kernel
theorem dX3_label_5 : decode cX3_label 5 = .ok (.invokevirtual 62, 3) := by decide +kernel
theorem dX3_label_8 : decode cX3_label 8 = .ok (.ifCond .eq 14, 3) := by decide +kernel
theorem dX3_label_11 : decode cX3_label 11 = .ok (.aload_n 0, 1) := by decide +kernel
theorem dX3_label_12 : decode cX3_label 12 = .ok (.getfield 24, 3) := by decide +kernel
theorem dX3_label_15 : decode cX3_label 15 = .ok (.iload_n 1, 1) := by decide +kernel
theorem dX3_label_16 : decode cX3_label 16 = .ok (.invokevirtual 86, 3) := by decide +kernel
theorem dX3_label_19 : decode cX3_label 19 = .ok (.goto 4, 3) := by decide +kernel
theorem dX3_label_22 : decode cX3_label 22 = .ok (.iconst (-1), 1) := by decide +kernel
theorem dX3_label_23 : decode cX3_label 23 = .ok (.ireturn, 1) := by decide +kernel
set_option maxRecDepth 20000 in
theorem ggX3_start_X3_isGuarded : GoodIn wsX3_start wsX3_isGuarded := goodIn_r _ [8, 2, 9, 10, 11, 12, 13, 14, 30, 31, 32, 33, 34, 35, 36, 37] (by decide +kernel) (by decide +kernel)
set_option maxRecDepth 20000 in
theorem gX3_start_X3_isGuarded : GoodIn wsX3_start (wsV RX3 79 RX3 yX3_isGuarded wsX3_isGuarded) := goodIn_app (goodIn_of _ (by decide +kernel)) ggX3_start_X3_isGuarded
set_option maxRecDepth 20000 in
theorem ggX3_start_X1_begin : GoodIn wsX3_start wsX1_begin := goodIn_r _ [19, 20, 21, 22, 23, 24, 25, 26, 27, 28, 29, 38, 39, 40, 41, 42, 43, 44] (by decide +kernel) (by decide +kernel)
set_option maxRecDepth 20000 in
theorem gX3_start_X1_begin : GoodIn wsX3_start (wsV RX3 89 RX1 yX1_begin wsX1_begin) := goodIn_app (goodIn_of _ (by decide +kernel)) ggX3_start_X1_begin
theorem dX3_start_0 : decode cX3_start 0 = .ok (.aload_n 0, 1) := by decide +kernel
theorem dX3_start_1 : decode cX3_start 1 = .ok (.invokevirtual 79, 3) := by decide +kernel
theorem dX3_start_4 : decode cX3_start 4 = .ok (.ifCond .ne 5, 3) := by decide +kernel
theorem dX3_start_7 : decode cX3_start 7 = .ok (.iconst 0, 1) := by decide +kernel
theorem dX3_start_8 : decode cX3_start 8 = .ok (.ireturn, 1) := by decide +kernel
theorem dX3_start_9 : decode cX3_start 9 = .ok (.aload_n 0, 1) := by decide +kernel
theorem dX3_start_10 : decode cX3_start 10 = .ok (.getfield 35, 3) := by decide +kernel
theorem dX3_start_13 : decode cX3_start 13 = .ok (.iload_n 1, 1) := by decide +kernel
theorem dX3_start_14 : decode cX3_start 14 = .ok (.ifCond .eq 10, 3) := by decide +kernel
theorem dX3_start_17 : decode cX3_start 17 = .ok (.aload_n 0, 1) := by decide +kernel
theorem dX3_start_18 : decode cX3_start 18 = .ok (.getfield 18, 3) := by decide +kernel
theorem dX3_start_21 : decode cX3_start 21 = .ok (.goto 7, 3) := by decide +kernel
theorem dX3_start_24 : decode cX3_start 24 = .ok (.aload_n 0, 1) := by decide +kernel
theorem dX3_start_25 : decode cX3_start 25 = .ok (.getfield 14, 3) := by decide +kernel
theorem dX3_start_28 : decode cX3_start 28 = .ok (.invokevirtual 89, 3) := by decide +kernel
theorem dX3_start_31 : decode cX3_start 31 = .ok (.iconst 1, 1) := by decide +kernel
theorem dX3_start_32 : decode cX3_start 32 = .ok (.ireturn, 1) := by decide +kernel
set_option maxRecDepth 20000 in
theorem ggX3_run_X1_makeSteps : GoodIn wsX3_run wsX1_makeSteps := goodIn_r _ [6, 7, 8, 9, 10, 5, 11, 12, 13, 14, 15, 16, 17, 18, 19, 20, 21, 22, 23, 24, 25, 26, 27, 28, 29, 30, 31, 32, 33, 34, 35, 36, 37, 38, 39, 40, 41, 42, 43, 44, 45, 46, 47, 48, 49, 50, 51, 52, 53, 54, 55, 56, 57, 58, 59, 60, 61, 62, 63, 64, 65, 66, 72, 73, 74, 75, 76, 77, 78, 79, 80, 81] (by decide +kernel) (by decide +kernel)
set_option maxRecDepth 20000 in
theorem gX3_run_X1_makeSteps : GoodIn wsX3_run (wsV RX3 93 RX1 yX1_makeSteps wsX1_makeSteps) := goodIn_app (goodIn_of _ (by decide +kernel)) ggX3_run_X1_makeSteps
theorem dX3_run_0 : decode cX3_run 0 = .ok (.iload_n 1, 1) := by decide +kernel
theorem dX3_run_1 : decode cX3_run 1 = .ok (.ifCond .lt 21, 3) := by decide +kernel
theorem dX3_run_4 : decode cX3_run 4 = .ok (.iload_n 1, 1) := by decide +kernel
theorem dX3_run_5 : decode cX3_run 5 = .ok (.sipush 1000, 3) := by decide +kernel
theorem dX3_run_8 : decode cX3_run 8 = .ok (.if_icmp .gt 14, 3) := by decide +kernel
theorem dX3_run_11 : decode cX3_run 11 = .ok (.aload_n 0, 1) := by decide +kernel
theorem dX3_run_12 : decode cX3_run 12 = .ok (.getfield 35, 3) := by decide +kernel
theorem dX3_run_15 : decode cX3_run 15 = .ok (.iload_n 1, 1) := by decide +kernel
theorem dX3_run_16 : decode cX3_run 16 = .ok (.invokevirtual 93, 3) := by decide +kernel
theorem dX3_run_19 : decode cX3_run 19 = .ok (.goto 4, 3) := by decide +kernel
theorem dX3_run_22 : decode cX3_run 22 = .ok (.iconst 0, 1) := by decide +kernel
theorem dX3_run_23 : decode cX3_run 23 = .ok (.ireturn, 1) := by decide +kernel
theorem dX3_state_0 : decode cX3_state 0 = .ok (.aload_n 0, 1) := by decide +kernel
theorem dX3_state_1 : decode cX3_state 1 = .ok (.getfield 35, 3) := by decide +kernel
theorem dX3_state_4 : decode cX3_state 4 = .ok (.getfield 96, 3) := by decide +kernel
theorem dX3_state_7 : decode cX3_state 7 = .ok (.ireturn, 1) := by decide +kernel
set_option maxRecDepth 20000 in
theorem ggX3_overwrite_X1_isIdle : GoodIn wsX3_overwrite wsX1_isIdle := goodIn_r _ [6, 7, 22, 23, 24, 25, 26, 27, 28] (by decide +kernel) (by decide +kernel)
set_option maxRecDepth 20000 in
theorem gX3_overwrite_X1_isIdle : GoodIn wsX3_overwrite (wsV RX3 100 RX1 yX1_isIdle wsX1_isIdle) := goodIn_app (goodIn_of _ (by decide +kernel)) ggX3_overwrite_X1_isIdle
set_option maxRecDepth 20000 in
theorem ggX3_overwrite_X3_isCell : GoodIn wsX3_overwrite wsX3_isCell := goodIn_r _ [11] (by decide +kernel) (by decide +kernel)
set_option maxRecDepth 20000 in
theorem gX3_overwrite_X3_isCell : GoodIn wsX3_overwrite (va_wsS RX3 103 yX3_isCell wsX3_isCell) := goodIn_app (goodIn_of _ (by decide +kernel)) ggX3_overwrite_X3_isCell
set_option maxRecDepth 20000 in
theorem ggX3_overwrite_X1_setCell : GoodIn wsX3_overwrite wsX1_setCell := goodIn_r _ [15, 16, 9, 10, 11, 22, 23, 24, 25, 26, 27, 28] (by decide +kernel) (by decide +kernel)
set_option maxRecDepth 20000 in
theorem gX3_overwrite_X1_setCell : GoodIn wsX3_overwrite (wsV RX3 106 RX1 yX1_setCell wsX1_setCell) := goodIn_app (goodIn_of _ (by decide +kernel)) ggX3_overwrite_X1_setCell
theorem dX3_overwrite_0 : decode cX3_overwrite 0 = .ok (.aload_n 0, 1) := by decide +kernel
theorem dX3_overwrite_1 : decode cX3_overwrite 1 = .ok (.getfield 35, 3) := by decide +kernel
theorem dX3_overwrite_4 : decode cX3_overwrite 4 = .ok (.invokevirtual 100, 3) := by decide +kernel
theorem dX3_overwrite_7 : decode cX3_overwrite 7 = .ok (.ifCond .ne 10, 3) := by decide +kernel
theorem dX3_overwrite_10 : decode cX3_overwrite 10 = .ok (.iload_n 1, 1) := by decide +kernel
theorem dX3_overwrite_11 : decode cX3_overwrite 11 = .ok (.invokestatic 103, 3) := by decide +kernel
theorem dX3_overwrite_14 : decode cX3_overwrite 14 = .ok (.ifCond .ne 5, 3) := by decide +kernel
theorem dX3_overwrite_17 : decode cX3_overwrite 17 = .ok (.iconst 0, 1) := by decide +kernel
theorem dX3_overwrite_18 : decode cX3_overwrite 18 = .ok (.ireturn, 1) := by decide +kernel
theorem dX3_overwrite_19 : decode cX3_overwrite 19 = .ok (.aload_n 0, 1) := by decide +kernel
theorem dX3_overwrite_20 : decode cX3_overwrite 20 = .ok (.getfield 35, 3) := by decide +kernel
theorem dX3_overwrite_23 : decode cX3_overwrite 23 = .ok (.iload_n 1, 1) := by decide +kernel
theorem dX3_overwrite_24 : decode cX3_overwrite 24 = .ok (.iload_n 2, 1) := by decide +kernel
theorem dX3_overwrite_25 : decode cX3_overwrite 25 = .ok (.invokevirtual 106, 3) := by decide +kernel
theorem dX3_overwrite_28 : decode cX3_overwrite 28 = .ok (.iconst 1, 1) := by decide +kernel
theorem dX3_overwrite_29 : decode cX3_overwrite 29 = .ok (.ireturn, 1) := by decide +kernel
set_option maxRecDepth 20000 in
theorem ggX3_memory_X1_isIdle : GoodIn wsX3_memory wsX1_isIdle := goodIn_r _ [6, 7, 21, 22, 23, 24, 25, 26, 27] (by decide +kernel) (by decide +kernel)
set_option maxRecDepth 20000 in
theorem gX3_memory_X1_isIdle : GoodIn wsX3_memory (wsV RX3 100 RX1 yX1_isIdle wsX1_isIdle) := goodIn_app (goodIn_of _ (by decide +kernel)) ggX3_memory_X1_isIdle
set_option maxRecDepth 20000 in
theorem ggX3_memory_X1_cellValue : GoodIn wsX3_memory wsX1_cellValue := goodIn_r _ [11, 12, 13, 14, 15, 21, 22, 23, 24, 25, 26, 27] (by decide +kernel) (by decide +kernel)
set_option maxRecDepth 20000 in
theorem gX3_memory_X1_cellValue : GoodIn wsX3_memory (wsV RX3 110 RX1 yX1_cellValue wsX1_cellValue) := goodIn_app (goodIn_of _ (by decide +kernel)) ggX3_memory_X1_cellValue
theorem dX3_memory_0 : decode cX3_memory 0 = .ok (.aload_n 0, 1) := by decide +kernel
theorem dX3_memory_1 : decode cX3_memory 1 = .ok (.getfield 35, 3) := by decide +kernel
theorem dX3_memory_4 : decode cX3_memory 4 = .ok (.invokevirtual 100, 3) := by decide +kernel
theorem dX3_memory_7 : decode cX3_memory 7 = .ok (.ifCond .eq 7, 3) := by decide +kernel
theorem dX3_memory_10 : decode cX3_memory 10 = .ok (.iconst 0, 1) := by decide +kernel
theorem dX3_memory_11 : decode cX3_memory 11 = .ok (.goto 11, 3) := by decide +kernel
theorem dX3_memory_14 : decode cX3_memory 14 = .ok (.aload_n 0, 1) := by decide +kernel
theorem dX3_memory_15 : decode cX3_memory 15 = .ok (.getfield 35, 3) := by decide +kernel
theorem dX3_memory_18 : decode cX3_memory 18 = .ok (.iload_n 1, 1) := by decide +kernel
theorem dX3_memory_19 : decode cX3_memory 19 = .ok (.invokevirtual 110, 3) := by decide +kernel
theorem dX3_memory_22 : decode cX3_memory 22 = .ok (.ireturn, 1) := by decide +kernel
set_option maxRecDepth 20000 in
theorem ggX3_register_X1_isIdle : GoodIn wsX3_register wsX1_isIdle := goodIn_r _ [6, 7, 21, 22, 23, 24, 25, 26, 27] (by decide +kernel) (by decide +kernel)
set_option maxRecDepth 20000 in
theorem gX3_register_X1_isIdle : GoodIn wsX3_register (wsV RX3 100 RX1 yX1_isIdle wsX1_isIdle) := goodIn_app (goodIn_of _ (by decide +kernel)) ggX3_register_X1_isIdle
set_option maxRecDepth 20000 in
theorem ggX3_register_X1_registerValue : GoodIn wsX3_register wsX1_registerValue := goodIn_r _ [11, 12, 13, 14, 15, 21, 22, 23, 24, 25, 26, 27] (by decide +kernel) (by decide +kernel)
set_option maxRecDepth 20000 in
theorem gX3_register_X1_registerValue : GoodIn wsX3_register (wsV RX3 113 RX1 yX1_registerValue wsX1_registerValue) := goodIn_app (goodIn_of _ (by decide +kernel)) ggX3_register_X1_registerValue
theorem dX3_register_0 : decode cX3_register 0 = .ok (.aload_n 0, 1) := by decide +kernel
theorem dX3_register_1 : decode cX3_register 1 = .ok (.getfield 35, 3) := by decide +kernel
theorem dX3_register_4 : decode cX3_register 4 = .ok (.invokevirtual 100, 3) := by decide +kernel
theorem dX3_register_7 : decode cX3_register 7 = .ok (.ifCond .eq 7, 3) := by decide +kernel
theorem dX3_register_10 : decode cX3_register 10 = .ok (.iconst 0, 1) := by decide +kernel
theorem dX3_register_11 : decode cX3_register 11 = .ok (.goto 11, 3) := by decide +kernel
theorem dX3_register_14 : decode cX3_register 14 = .ok (.aload_n 0, 1) := by decide +kernel
theorem dX3_register_15 : decode cX3_register 15 = .ok (.getfield 35, 3) := by decide +kernel
theorem dX3_register_18 : decode cX3_register 18 = .ok (.iload_n 1, 1) := by decide +kernel
theorem dX3_register_19 : decode cX3_register 19 = .ok (.invokevirtual 113, 3) := by decide +kernel
theorem dX3_register_22 : decode cX3_register 22 = .ok (.ireturn, 1) := by decide +kernel
set_option maxRecDepth 20000 in
theorem ggX3_pc_X1_isIdle : GoodIn wsX3_pc wsX1_isIdle := goodIn_r _ [6, 7, 13, 14, 15, 16, 17, 18, 19] (by decide +kernel) (by decide +kernel)
set_option maxRecDepth 20000 in
theorem gX3_pc_X1_isIdle : GoodIn wsX3_pc (wsV RX3 100 RX1 yX1_isIdle wsX1_isIdle) := goodIn_app (goodIn_of _ (by decide +kernel)) ggX3_pc_X1_isIdle
theorem dX3_pc_0 : decode cX3_pc 0 = .ok (.aload_n 0, 1) := by decide +kernel
theorem dX3_pc_1 : decode cX3_pc 1 = .ok (.getfield 35, 3) := by decide +kernel
theorem dX3_pc_4 : decode cX3_pc 4 = .ok (.invokevirtual 100, 3) := by decide +kernel
theorem dX3_pc_7 : decode cX3_pc 7 = .ok (.ifCond .eq 7, 3) := by decide +kernel
theorem dX3_pc_10 : decode cX3_pc 10 = .ok (.iconst (-1), 1) := by decide +kernel
theorem dX3_pc_11 : decode cX3_pc 11 = .ok (.goto 10, 3) := by decide +kernel
theorem dX3_pc_14 : decode cX3_pc 14 = .ok (.aload_n 0, 1) := by decide +kernel
theorem dX3_pc_15 : decode cX3_pc 15 = .ok (.getfield 35, 3) := by decide +kernel
theorem dX3_pc_18 : decode cX3_pc 18 = .ok (.getfield 116, 3) := by decide +kernel
theorem dX3_pc_21 : decode cX3_pc 21 = .ok (.ireturn, 1) := by decide +kernel
set_option maxRecDepth 20000 in
theorem ggX3_shows_X1_isIdle : GoodIn wsX3_shows wsX1_isIdle := goodIn_r _ [6, 7, 13, 14, 15, 16, 17, 18, 19] (by decide +kernel) (by decide +kernel)
set_option maxRecDepth 20000 in
theorem gX3_shows_X1_isIdle : GoodIn wsX3_shows (wsV RX3 100 RX1 yX1_isIdle wsX1_isIdle) := goodIn_app (goodIn_of _ (by decide +kernel)) ggX3_shows_X1_isIdle
theorem dX3_shows_0 : decode cX3_shows 0 = .ok (.aload_n 0, 1) := by decide +kernel
theorem dX3_shows_1 : decode cX3_shows 1 = .ok (.getfield 35, 3) := by decide +kernel
theorem dX3_shows_4 : decode cX3_shows 4 = .ok (.invokevirtual 100, 3) := by decide +kernel
theorem dX3_shows_7 : decode cX3_shows 7 = .ok (.ifCond .eq 7, 3) := by decide +kernel
theorem dX3_shows_10 : decode cX3_shows 10 = .ok (.iconst 0, 1) := by decide +kernel
theorem dX3_shows_11 : decode cX3_shows 11 = .ok (.goto 10, 3) := by decide +kernel
theorem dX3_shows_14 : decode cX3_shows 14 = .ok (.aload_n 0, 1) := by decide +kernel
theorem dX3_shows_15 : decode cX3_shows 15 = .ok (.getfield 35, 3) := by decide +kernel
theorem dX3_shows_18 : decode cX3_shows 18 = .ok (.getfield 119, 3) := by decide +kernel
theorem dX3_shows_21 : decode cX3_shows 21 = .ok (.ireturn, 1) := by decide +kernel
set_option maxRecDepth 20000 in
theorem ggX3_shown_X1_isIdle : GoodIn wsX3_shown wsX1_isIdle := goodIn_r _ [6, 7, 19, 20, 21, 22, 23, 24, 25] (by decide +kernel) (by decide +kernel)
set_option maxRecDepth 20000 in
theorem gX3_shown_X1_isIdle : GoodIn wsX3_shown (wsV RX3 100 RX1 yX1_isIdle wsX1_isIdle) := goodIn_app (goodIn_of _ (by decide +kernel)) ggX3_shown_X1_isIdle
set_option maxRecDepth 20000 in
theorem ggX3_shown_X1_shownBefore : GoodIn wsX3_shown wsX1_shownBefore := goodIn_r _ [11, 12, 13, 19, 20, 21, 22, 23, 24, 25] (by decide +kernel) (by decide +kernel)
set_option maxRecDepth 20000 in
theorem gX3_shown_X1_shownBefore : GoodIn wsX3_shown (wsV RX3 122 RX1 yX1_shownBefore wsX1_shownBefore) := goodIn_app (goodIn_of _ (by decide +kernel)) ggX3_shown_X1_shownBefore
theorem dX3_shown_0 : decode cX3_shown 0 = .ok (.aload_n 0, 1) := by decide +kernel
theorem dX3_shown_1 : decode cX3_shown 1 = .ok (.getfield 35, 3) := by decide +kernel
theorem dX3_shown_4 : decode cX3_shown 4 = .ok (.invokevirtual 100, 3) := by decide +kernel
theorem dX3_shown_7 : decode cX3_shown 7 = .ok (.ifCond .eq 7, 3) := by decide +kernel
theorem dX3_shown_10 : decode cX3_shown 10 = .ok (.iconst 0, 1) := by decide +kernel
theorem dX3_shown_11 : decode cX3_shown 11 = .ok (.goto 11, 3) := by decide +kernel
theorem dX3_shown_14 : decode cX3_shown 14 = .ok (.aload_n 0, 1) := by decide +kernel
theorem dX3_shown_15 : decode cX3_shown 15 = .ok (.getfield 35, 3) := by decide +kernel
theorem dX3_shown_18 : decode cX3_shown 18 = .ok (.iload_n 1, 1) := by decide +kernel
theorem dX3_shown_19 : decode cX3_shown 19 = .ok (.invokevirtual 122, 3) := by decide +kernel
theorem dX3_shown_22 : decode cX3_shown 22 = .ok (.ireturn, 1) := by decide +kernel
set_option maxRecDepth 20000 in
theorem ggX3_isSourceInstruction_X3_isRegister : GoodIn wsX3_isSourceInstruction wsX3_isRegister := goodIn_r _ [4] (by decide +kernel) (by decide +kernel)
set_option maxRecDepth 20000 in
theorem gX3_isSourceInstruction_X3_isRegister : GoodIn wsX3_isSourceInstruction (va_wsS RX3 125 yX3_isRegister wsX3_isRegister) := goodIn_app (goodIn_of _ (by decide +kernel)) ggX3_isSourceInstruction_X3_isRegister
set_option maxRecDepth 20000 in
theorem ggX3_isSourceInstruction_X3_isCell : GoodIn wsX3_isSourceInstruction wsX3_isCell := goodIn_r _ [7] (by decide +kernel) (by decide +kernel)
set_option maxRecDepth 20000 in
theorem gX3_isSourceInstruction_X3_isCell : GoodIn wsX3_isSourceInstruction (va_wsS RX3 103 yX3_isCell wsX3_isCell) := goodIn_app (goodIn_of _ (by decide +kernel)) ggX3_isSourceInstruction_X3_isCell
set_option maxRecDepth 20000 in
theorem ggX3_isSourceInstruction_X3_isAddress : GoodIn wsX3_isSourceInstruction wsX3_isAddress := goodIn_r _ [10] (by decide +kernel) (by decide +kernel)
set_option maxRecDepth 20000 in
theorem gX3_isSourceInstruction_X3_isAddress : GoodIn wsX3_isSourceInstruction (va_wsS RX3 128 yX3_isAddress wsX3_isAddress) := goodIn_app (goodIn_of _ (by decide +kernel)) ggX3_isSourceInstruction_X3_isAddress
theorem dX3_isSourceInstruction_0 : decode cX3_isSourceInstruction 0 = .ok (.iload_n 0, 1) := by decide +kernel
theorem dX3_isSourceInstruction_1 : decode cX3_isSourceInstruction 1 = .ok (.tableswitch 127 0 9 #[55, 57, 62, 62, 82, 57, 102, 107, 57, 107], 55) := by decide +kernel
theorem dX3_isSourceInstruction_56 : decode cX3_isSourceInstruction 56 = .ok (.iconst 1, 1) := by decide +kernel
theorem dX3_isSourceInstruction_57 : decode cX3_isSourceInstruction 57 = .ok (.ireturn, 1) := by decide +kernel
theorem dX3_isSourceInstruction_58 : decode cX3_isSourceInstruction 58 = .ok (.iload_n 1, 1) := by decide +kernel
theorem dX3_isSourceInstruction_59 : decode cX3_isSourceInstruction 59 = .ok (.invokestatic 125, 3) := by decide +kernel
theorem dX3_isSourceInstruction_62 : decode cX3_isSourceInstruction 62 = .ok (.ireturn, 1) := by decide +kernel
theorem dX3_isSourceInstruction_63 : decode cX3_isSourceInstruction 63 = .ok (.iload_n 1, 1) := by decide +kernel
theorem dX3_isSourceInstruction_64 : decode cX3_isSourceInstruction 64 = .ok (.invokestatic 125, 3) := by decide +kernel
theorem dX3_isSourceInstruction_67 : decode cX3_isSourceInstruction 67 = .ok (.ifCond .eq 14, 3) := by decide +kernel
theorem dX3_isSourceInstruction_70 : decode cX3_isSourceInstruction 70 = .ok (.iload_n 2, 1) := by decide +kernel
theorem dX3_isSourceInstruction_71 : decode cX3_isSourceInstruction 71 = .ok (.invokestatic 103, 3) := by decide +kernel
theorem dX3_isSourceInstruction_74 : decode cX3_isSourceInstruction 74 = .ok (.ifCond .eq 7, 3) := by decide +kernel
theorem dX3_isSourceInstruction_77 : decode cX3_isSourceInstruction 77 = .ok (.iconst 1, 1) := by decide +kernel
theorem dX3_isSourceInstruction_78 : decode cX3_isSourceInstruction 78 = .ok (.goto 4, 3) := by decide +kernel
theorem dX3_isSourceInstruction_81 : decode cX3_isSourceInstruction 81 = .ok (.iconst 0, 1) := by decide +kernel
theorem dX3_isSourceInstruction_82 : decode cX3_isSourceInstruction 82 = .ok (.ireturn, 1) := by decide +kernel
theorem dX3_isSourceInstruction_83 : decode cX3_isSourceInstruction 83 = .ok (.iload_n 1, 1) := by decide +kernel
theorem dX3_isSourceInstruction_84 : decode cX3_isSourceInstruction 84 = .ok (.invokestatic 125, 3) := by decide +kernel
theorem dX3_isSourceInstruction_87 : decode cX3_isSourceInstruction 87 = .ok (.ifCond .eq 14, 3) := by decide +kernel
theorem dX3_isSourceInstruction_90 : decode cX3_isSourceInstruction 90 = .ok (.iload_n 2, 1) := by decide +kernel
theorem dX3_isSourceInstruction_91 : decode cX3_isSourceInstruction 91 = .ok (.invokestatic 125, 3) := by decide +kernel
theorem dX3_isSourceInstruction_94 : decode cX3_isSourceInstruction 94 = .ok (.ifCond .eq 7, 3) := by decide +kernel
theorem dX3_isSourceInstruction_97 : decode cX3_isSourceInstruction 97 = .ok (.iconst 1, 1) := by decide +kernel
theorem dX3_isSourceInstruction_98 : decode cX3_isSourceInstruction 98 = .ok (.goto 4, 3) := by decide +kernel
theorem dX3_isSourceInstruction_101 : decode cX3_isSourceInstruction 101 = .ok (.iconst 0, 1) := by decide +kernel
theorem dX3_isSourceInstruction_102 : decode cX3_isSourceInstruction 102 = .ok (.ireturn, 1) := by decide +kernel
theorem dX3_isSourceInstruction_103 : decode cX3_isSourceInstruction 103 = .ok (.iload_n 1, 1) := by decide +kernel
theorem dX3_isSourceInstruction_104 : decode cX3_isSourceInstruction 104 = .ok (.invokestatic 128, 3) := by decide +kernel
theorem dX3_isSourceInstruction_107 : decode cX3_isSourceInstruction 107 = .ok (.ireturn, 1) := by decide +kernel
theorem dX3_isSourceInstruction_108 : decode cX3_isSourceInstruction 108 = .ok (.iload_n 1, 1) := by decide +kernel
theorem dX3_isSourceInstruction_109 : decode cX3_isSourceInstruction 109 = .ok (.invokestatic 125, 3) := by decide +kernel
theorem dX3_isSourceInstruction_112 : decode cX3_isSourceInstruction 112 = .ok (.ifCond .eq 14, 3) := by decide +kernel
theorem dX3_isSourceInstruction_115 : decode cX3_isSourceInstruction 115 = .ok (.iload_n 2, 1) := by decide +kernel
theorem dX3_isSourceInstruction_116 : decode cX3_isSourceInstruction 116 = .ok (.invokestatic 128, 3) := by decide +kernel
theorem dX3_isSourceInstruction_119 : decode cX3_isSourceInstruction 119 = .ok (.ifCond .eq 7, 3) := by decide +kernel
theorem dX3_isSourceInstruction_122 : decode cX3_isSourceInstruction 122 = .ok (.iconst 1, 1) := by decide +kernel
theorem dX3_isSourceInstruction_123 : decode cX3_isSourceInstruction 123 = .ok (.goto 4, 3) := by decide +kernel
theorem dX3_isSourceInstruction_126 : decode cX3_isSourceInstruction 126 = .ok (.iconst 0, 1) := by decide +kernel
theorem dX3_isSourceInstruction_127 : decode cX3_isSourceInstruction 127 = .ok (.ireturn, 1) := by decide +kernel
theorem dX3_isSourceInstruction_128 : decode cX3_isSourceInstruction 128 = .ok (.iconst 0, 1) := by decide +kernel
theorem dX3_isSourceInstruction_129 : decode cX3_isSourceInstruction 129 = .ok (.ireturn, 1) := by decide +kernel
theorem dX3_isRegister_0 : decode cX3_isRegister 0 = .ok (.iload_n 0, 1) := by decide +kernel
theorem dX3_isRegister_1 : decode cX3_isRegister 1 = .ok (.ifCond .lt 12, 3) := by decide +kernel
theorem dX3_isRegister_4 : decode cX3_isRegister 4 = .ok (.iload_n 0, 1) := by decide +kernel
theorem dX3_isRegister_5 : decode cX3_isRegister 5 = .ok (.iconst 4, 1) := by decide +kernel
theorem dX3_isRegister_6 : decode cX3_isRegister 6 = .ok (.if_icmp .ge 7, 3) := by decide +kernel
theorem dX3_isRegister_9 : decode cX3_isRegister 9 = .ok (.iconst 1, 1) := by decide +kernel
theorem dX3_isRegister_10 : decode cX3_isRegister 10 = .ok (.goto 4, 3) := by decide +kernel
theorem dX3_isRegister_13 : decode cX3_isRegister 13 = .ok (.iconst 0, 1) := by decide +kernel
theorem dX3_isRegister_14 : decode cX3_isRegister 14 = .ok (.ireturn, 1) := by decide +kernel
theorem dX3_isCell_0 : decode cX3_isCell 0 = .ok (.iload_n 0, 1) := by decide +kernel
theorem dX3_isCell_1 : decode cX3_isCell 1 = .ok (.ifCond .lt 13, 3) := by decide +kernel
theorem dX3_isCell_4 : decode cX3_isCell 4 = .ok (.iload_n 0, 1) := by decide +kernel
theorem dX3_isCell_5 : decode cX3_isCell 5 = .ok (.bipush 16, 2) := by decide +kernel
theorem dX3_isCell_7 : decode cX3_isCell 7 = .ok (.if_icmp .ge 7, 3) := by decide +kernel
theorem dX3_isCell_10 : decode cX3_isCell 10 = .ok (.iconst 1, 1) := by decide +kernel
theorem dX3_isCell_11 : decode cX3_isCell 11 = .ok (.goto 4, 3) := by decide +kernel
theorem dX3_isCell_14 : decode cX3_isCell 14 = .ok (.iconst 0, 1) := by decide +kernel
theorem dX3_isCell_15 : decode cX3_isCell 15 = .ok (.ireturn, 1) := by decide +kernel
theorem dX3_isAddress_0 : decode cX3_isAddress 0 = .ok (.iload_n 0, 1) := by decide +kernel
theorem dX3_isAddress_1 : decode cX3_isAddress 1 = .ok (.ifCond .lt 13, 3) := by decide +kernel
theorem dX3_isAddress_4 : decode cX3_isAddress 4 = .ok (.iload_n 0, 1) := by decide +kernel
theorem dX3_isAddress_5 : decode cX3_isAddress 5 = .ok (.bipush 24, 2) := by decide +kernel
theorem dX3_isAddress_7 : decode cX3_isAddress 7 = .ok (.if_icmp .ge 7, 3) := by decide +kernel
theorem dX3_isAddress_10 : decode cX3_isAddress 10 = .ok (.iconst 1, 1) := by decide +kernel
theorem dX3_isAddress_11 : decode cX3_isAddress 11 = .ok (.goto 4, 3) := by decide +kernel
theorem dX3_isAddress_14 : decode cX3_isAddress 14 = .ok (.iconst 0, 1) := by decide +kernel
theorem dX3_isAddress_15 : decode cX3_isAddress 15 = .ok (.ireturn, 1) := by decide +kernel
theorem dX3_holdsAddressInB_0 : decode cX3_holdsAddressInB 0 = .ok (.iload_n 0, 1) := by decide +kernel
theorem dX3_holdsAddressInB_1 : decode cX3_holdsAddressInB 1 = .ok (.bipush 7, 2) := by decide +kernel
theorem dX3_holdsAddressInB_3 : decode cX3_holdsAddressInB 3 = .ok (.if_icmp .eq 9, 3) := by decide +kernel
theorem dX3_holdsAddressInB_6 : decode cX3_holdsAddressInB 6 = .ok (.iload_n 0, 1) := by decide +kernel
theorem dX3_holdsAddressInB_7 : decode cX3_holdsAddressInB 7 = .ok (.bipush 9, 2) := by decide +kernel
theorem dX3_holdsAddressInB_9 : decode cX3_holdsAddressInB 9 = .ok (.if_icmp .ne 7, 3) := by decide +kernel
theorem dX3_holdsAddressInB_12 : decode cX3_holdsAddressInB 12 = .ok (.iconst 1, 1) := by decide +kernel
theorem dX3_holdsAddressInB_13 : decode cX3_holdsAddressInB 13 = .ok (.goto 4, 3) := by decide +kernel
theorem dX3_holdsAddressInB_16 : decode cX3_holdsAddressInB 16 = .ok (.iconst 0, 1) := by decide +kernel
theorem dX3_holdsAddressInB_17 : decode cX3_holdsAddressInB 17 = .ok (.ireturn, 1) := by decide +kernel
set_option maxRecDepth 20000 in
theorem ggX3_isGuarded_X2_length : GoodIn wsX3_isGuarded wsX2_length := goodIn_r _ [6, 7, 13, 14, 15] (by decide +kernel) (by decide +kernel)
set_option maxRecDepth 20000 in
theorem gX3_isGuarded_X2_length : GoodIn wsX3_isGuarded (wsV RX3 47 RX2 yX2_length wsX2_length) := goodIn_app (goodIn_of _ (by decide +kernel)) ggX3_isGuarded_X2_length
theorem dX3_isGuarded_0 : decode cX3_isGuarded 0 = .ok (.aload_n 0, 1) := by decide +kernel
theorem dX3_isGuarded_1 : decode cX3_isGuarded 1 = .ok (.getfield 18, 3) := by decide +kernel
theorem dX3_isGuarded_4 : decode cX3_isGuarded 4 = .ok (.invokevirtual 47, 3) := by decide +kernel
theorem dX3_isGuarded_7 : decode cX3_isGuarded 7 = .ok (.ifCond .le 7, 3) := by decide +kernel
theorem dX3_isGuarded_10 : decode cX3_isGuarded 10 = .ok (.iconst 1, 1) := by decide +kernel
theorem dX3_isGuarded_11 : decode cX3_isGuarded 11 = .ok (.goto 4, 3) := by decide +kernel
theorem dX3_isGuarded_14 : decode cX3_isGuarded 14 = .ok (.iconst 0, 1) := by decide +kernel
theorem dX3_isGuarded_15 : decode cX3_isGuarded 15 = .ok (.ireturn, 1) := by decide +kernel
set_option maxRecDepth 20000 in
theorem ggX3_dropGuarded_X2_clear : GoodIn wsX3_dropGuarded wsX2_clear := goodIn_r _ [7, 8, 20, 21, 22] (by decide +kernel) (by decide +kernel)
set_option maxRecDepth 20000 in
theorem gX3_dropGuarded_X2_clear : GoodIn wsX3_dropGuarded (wsV RX3 131 RX2 yX2_clear wsX2_clear) := goodIn_app (goodIn_of _ (by decide +kernel)) ggX3_dropGuarded_X2_clear
set_option maxRecDepth 20000 in
theorem ggX3_dropGuarded_X1_stop : GoodIn wsX3_dropGuarded wsX1_stop := goodIn_r _ [13, 14, 23, 24, 25, 26, 27, 28, 29] (by decide +kernel) (by decide +kernel)
set_option maxRecDepth 20000 in
theorem gX3_dropGuarded_X1_stop : GoodIn wsX3_dropGuarded (wsV RX3 134 RX1 yX1_stop wsX1_stop) := goodIn_app (goodIn_of _ (by decide +kernel)) ggX3_dropGuarded_X1_stop
theorem dX3_dropGuarded_0 : decode cX3_dropGuarded 0 = .ok (.aload_n 0, 1) := by decide +kernel
theorem dX3_dropGuarded_1 : decode cX3_dropGuarded 1 = .ok (.getfield 18, 3) := by decide +kernel
theorem dX3_dropGuarded_4 : decode cX3_dropGuarded 4 = .ok (.invokevirtual 131, 3) := by decide +kernel
theorem dX3_dropGuarded_7 : decode cX3_dropGuarded 7 = .ok (.aload_n 0, 1) := by decide +kernel
theorem dX3_dropGuarded_8 : decode cX3_dropGuarded 8 = .ok (.getfield 35, 3) := by decide +kernel
theorem dX3_dropGuarded_11 : decode cX3_dropGuarded 11 = .ok (.invokevirtual 134, 3) := by decide +kernel
theorem dX3_dropGuarded_14 : decode cX3_dropGuarded 14 = .ok (.return_, 1) := by decide +kernel
set_option maxRecDepth 20000 in
theorem ggX3_isClosed_X2_length : GoodIn wsX3_isClosed wsX2_length := goodIn_r _ [6, 7, 31, 32, 33] (by decide +kernel) (by decide +kernel)
set_option maxRecDepth 20000 in
theorem gX3_isClosed_X2_length : GoodIn wsX3_isClosed (wsV RX3 47 RX2 yX2_length wsX2_length) := goodIn_app (goodIn_of _ (by decide +kernel)) ggX3_isClosed_X2_length
set_option maxRecDepth 20000 in
theorem ggX3_isClosed_X2_get : GoodIn wsX3_isClosed wsX2_get := goodIn_r _ [11, 12, 13, 14, 15, 5, 16, 7, 31, 32, 33] (by decide +kernel) (by decide +kernel)
set_option maxRecDepth 20000 in
theorem gX3_isClosed_X2_get : GoodIn wsX3_isClosed (wsV RX3 58 RX2 yX2_get wsX2_get) := goodIn_app (goodIn_of _ (by decide +kernel)) ggX3_isClosed_X2_get
set_option maxRecDepth 20000 in
theorem ggX3_isClosed_X3_hasItsAddress : GoodIn wsX3_isClosed wsX3_hasItsAddress := goodIn_r _ [21, 1, 8, 9, 10, 5, 11, 12, 13, 14, 15, 16, 7, 22, 23, 24, 20, 25, 26, 27, 28, 29, 30, 31, 32, 33] (by decide +kernel) (by decide +kernel)
set_option maxRecDepth 20000 in
theorem gX3_isClosed_X3_hasItsAddress : GoodIn wsX3_isClosed (wsV RX3 137 RX3 yX3_hasItsAddress wsX3_hasItsAddress) := goodIn_app (goodIn_of _ (by decide +kernel)) ggX3_isClosed_X3_hasItsAddress
theorem dX3_isClosed_0 : decode cX3_isClosed 0 = .ok (.aload_n 0, 1) := by decide +kernel
theorem dX3_isClosed_1 : decode cX3_isClosed 1 = .ok (.getfield 14, 3) := by decide +kernel
theorem dX3_isClosed_4 : decode cX3_isClosed 4 = .ok (.aload_n 0, 1) := by decide +kernel
theorem dX3_isClosed_5 : decode cX3_isClosed 5 = .ok (.getfield 14, 3) := by decide +kernel
theorem dX3_isClosed_8 : decode cX3_isClosed 8 = .ok (.invokevirtual 47, 3) := by decide +kernel
theorem dX3_isClosed_11 : decode cX3_isClosed 11 = .ok (.iconst 1, 1) := by decide +kernel
theorem dX3_isClosed_12 : decode cX3_isClosed 12 = .ok (.isub, 1) := by decide +kernel
theorem dX3_isClosed_13 : decode cX3_isClosed 13 = .ok (.iconst 0, 1) := by decide +kernel
theorem dX3_isClosed_14 : decode cX3_isClosed 14 = .ok (.invokevirtual 58, 3) := by decide +kernel
theorem dX3_isClosed_17 : decode cX3_isClosed 17 = .ok (.istore_n 1, 1) := by decide +kernel
theorem dX3_isClosed_18 : decode cX3_isClosed 18 = .ok (.iload_n 1, 1) := by decide +kernel
theorem dX3_isClosed_19 : decode cX3_isClosed 19 = .ok (.ifCond .eq 17, 3) := by decide +kernel
theorem dX3_isClosed_22 : decode cX3_isClosed 22 = .ok (.iload_n 1, 1) := by decide +kernel
theorem dX3_isClosed_23 : decode cX3_isClosed 23 = .ok (.bipush 6, 2) := by decide +kernel
theorem dX3_isClosed_25 : decode cX3_isClosed 25 = .ok (.if_icmp .eq 11, 3) := by decide +kernel
theorem dX3_isClosed_28 : decode cX3_isClosed 28 = .ok (.iload_n 1, 1) := by decide +kernel
theorem dX3_isClosed_29 : decode cX3_isClosed 29 = .ok (.bipush 8, 2) := by decide +kernel
theorem dX3_isClosed_31 : decode cX3_isClosed 31 = .ok (.if_icmp .eq 5, 3) := by decide +kernel
theorem dX3_isClosed_34 : decode cX3_isClosed 34 = .ok (.iconst 0, 1) := by decide +kernel
theorem dX3_isClosed_35 : decode cX3_isClosed 35 = .ok (.ireturn, 1) := by decide +kernel
theorem dX3_isClosed_36 : decode cX3_isClosed 36 = .ok (.iconst 0, 1) := by decide +kernel
theorem dX3_isClosed_37 : decode cX3_isClosed 37 = .ok (.istore_n 2, 1) := by decide +kernel
theorem dX3_isClosed_38 : decode cX3_isClosed 38 = .ok (.iload_n 2, 1) := by decide +kernel
theorem dX3_isClosed_39 : decode cX3_isClosed 39 = .ok (.aload_n 0, 1) := by decide +kernel
theorem dX3_isClosed_40 : decode cX3_isClosed 40 = .ok (.getfield 14, 3) := by decide +kernel
theorem dX3_isClosed_43 : decode cX3_isClosed 43 = .ok (.invokevirtual 47, 3) := by decide +kernel
theorem dX3_isClosed_46 : decode cX3_isClosed 46 = .ok (.if_icmp .ge 19, 3) := by decide +kernel
theorem dX3_isClosed_49 : decode cX3_isClosed 49 = .ok (.aload_n 0, 1) := by decide +kernel
theorem dX3_isClosed_50 : decode cX3_isClosed 50 = .ok (.iload_n 2, 1) := by decide +kernel
theorem dX3_isClosed_51 : decode cX3_isClosed 51 = .ok (.invokevirtual 137, 3) := by decide +kernel
theorem dX3_isClosed_54 : decode cX3_isClosed 54 = .ok (.ifCond .ne 5, 3) := by decide +kernel
theorem dX3_isClosed_57 : decode cX3_isClosed 57 = .ok (.iconst 0, 1) := by decide +kernel
theorem dX3_isClosed_58 : decode cX3_isClosed 58 = .ok (.ireturn, 1) := by decide +kernel
theorem dX3_isClosed_59 : decode cX3_isClosed 59 = .ok (.iinc 2 1, 3) := by decide +kernel
theorem dX3_isClosed_62 : decode cX3_isClosed 62 = .ok (.goto (-24), 3) := by decide +kernel
theorem dX3_isClosed_65 : decode cX3_isClosed 65 = .ok (.iconst 1, 1) := by decide +kernel
theorem dX3_isClosed_66 : decode cX3_isClosed 66 = .ok (.ireturn, 1) := by decide +kernel
set_option maxRecDepth 20000 in
theorem ggX3_hasItsAddress_X2_get : GoodIn wsX3_hasItsAddress wsX2_get := goodIn_r _ [6, 7, 8, 9, 10, 5, 11, 12, 23, 24, 25] (by decide +kernel) (by decide +kernel)
set_option maxRecDepth 20000 in
theorem gX3_hasItsAddress_X2_get : GoodIn wsX3_hasItsAddress (wsV RX3 58 RX2 yX2_get wsX2_get) := goodIn_app (goodIn_of _ (by decide +kernel)) ggX3_hasItsAddress_X2_get
set_option maxRecDepth 20000 in
theorem ggX3_hasItsAddress_X2_has : GoodIn wsX3_hasItsAddress wsX2_has := goodIn_r _ [11, 12, 23, 24, 25] (by decide +kernel) (by decide +kernel)
set_option maxRecDepth 20000 in
theorem gX3_hasItsAddress_X2_has : GoodIn wsX3_hasItsAddress (wsV RX3 62 RX2 yX2_has wsX2_has) := goodIn_app (goodIn_of _ (by decide +kernel)) ggX3_hasItsAddress_X2_has
set_option maxRecDepth 20000 in
theorem ggX3_hasItsAddress_X3_holdsAddressInB : GoodIn wsX3_hasItsAddress wsX3_holdsAddressInB := goodIn_r _ [17] (by decide +kernel) (by decide +kernel)
set_option maxRecDepth 20000 in
theorem gX3_hasItsAddress_X3_holdsAddressInB : GoodIn wsX3_hasItsAddress (va_wsS RX3 140 yX3_holdsAddressInB wsX3_holdsAddressInB) := goodIn_app (goodIn_of _ (by decide +kernel)) ggX3_hasItsAddress_X3_holdsAddressInB
theorem dX3_hasItsAddress_0 : decode cX3_hasItsAddress 0 = .ok (.aload_n 0, 1) := by decide +kernel
theorem dX3_hasItsAddress_1 : decode cX3_hasItsAddress 1 = .ok (.getfield 14, 3) := by decide +kernel
theorem dX3_hasItsAddress_4 : decode cX3_hasItsAddress 4 = .ok (.iload_n 1, 1) := by decide +kernel
theorem dX3_hasItsAddress_5 : decode cX3_hasItsAddress 5 = .ok (.iconst 0, 1) := by decide +kernel
theorem dX3_hasItsAddress_6 : decode cX3_hasItsAddress 6 = .ok (.invokevirtual 58, 3) := by decide +kernel
theorem dX3_hasItsAddress_9 : decode cX3_hasItsAddress 9 = .ok (.istore_n 2, 1) := by decide +kernel
theorem dX3_hasItsAddress_10 : decode cX3_hasItsAddress 10 = .ok (.iload_n 2, 1) := by decide +kernel
theorem dX3_hasItsAddress_11 : decode cX3_hasItsAddress 11 = .ok (.bipush 6, 2) := by decide +kernel
theorem dX3_hasItsAddress_13 : decode cX3_hasItsAddress 13 = .ok (.if_icmp .ne 20, 3) := by decide +kernel
theorem dX3_hasItsAddress_16 : decode cX3_hasItsAddress 16 = .ok (.aload_n 0, 1) := by decide +kernel
theorem dX3_hasItsAddress_17 : decode cX3_hasItsAddress 17 = .ok (.getfield 14, 3) := by decide +kernel
theorem dX3_hasItsAddress_20 : decode cX3_hasItsAddress 20 = .ok (.aload_n 0, 1) := by decide +kernel
theorem dX3_hasItsAddress_21 : decode cX3_hasItsAddress 21 = .ok (.getfield 14, 3) := by decide +kernel
theorem dX3_hasItsAddress_24 : decode cX3_hasItsAddress 24 = .ok (.iload_n 1, 1) := by decide +kernel
theorem dX3_hasItsAddress_25 : decode cX3_hasItsAddress 25 = .ok (.iconst 1, 1) := by decide +kernel
theorem dX3_hasItsAddress_26 : decode cX3_hasItsAddress 26 = .ok (.invokevirtual 58, 3) := by decide +kernel
theorem dX3_hasItsAddress_29 : decode cX3_hasItsAddress 29 = .ok (.invokevirtual 62, 3) := by decide +kernel
theorem dX3_hasItsAddress_32 : decode cX3_hasItsAddress 32 = .ok (.ireturn, 1) := by decide +kernel
theorem dX3_hasItsAddress_33 : decode cX3_hasItsAddress 33 = .ok (.iload_n 2, 1) := by decide +kernel
theorem dX3_hasItsAddress_34 : decode cX3_hasItsAddress 34 = .ok (.invokestatic 140, 3) := by decide +kernel
theorem dX3_hasItsAddress_37 : decode cX3_hasItsAddress 37 = .ok (.ifCond .eq 22, 3) := by decide +kernel
theorem dX3_hasItsAddress_40 : decode cX3_hasItsAddress 40 = .ok (.aload_n 0, 1) := by decide +kernel
theorem dX3_hasItsAddress_41 : decode cX3_hasItsAddress 41 = .ok (.getfield 14, 3) := by decide +kernel
theorem dX3_hasItsAddress_44 : decode cX3_hasItsAddress 44 = .ok (.aload_n 0, 1) := by decide +kernel
theorem dX3_hasItsAddress_45 : decode cX3_hasItsAddress 45 = .ok (.getfield 14, 3) := by decide +kernel
theorem dX3_hasItsAddress_48 : decode cX3_hasItsAddress 48 = .ok (.iload_n 1, 1) := by decide +kernel
theorem dX3_hasItsAddress_49 : decode cX3_hasItsAddress 49 = .ok (.iconst 2, 1) := by decide +kernel
theorem dX3_hasItsAddress_50 : decode cX3_hasItsAddress 50 = .ok (.invokevirtual 58, 3) := by decide +kernel
theorem dX3_hasItsAddress_53 : decode cX3_hasItsAddress 53 = .ok (.invokevirtual 62, 3) := by decide +kernel
theorem dX3_hasItsAddress_56 : decode cX3_hasItsAddress 56 = .ok (.ifCond .eq 7, 3) := by decide +kernel
theorem dX3_hasItsAddress_59 : decode cX3_hasItsAddress 59 = .ok (.iconst 1, 1) := by decide +kernel
theorem dX3_hasItsAddress_60 : decode cX3_hasItsAddress 60 = .ok (.goto 4, 3) := by decide +kernel
theorem dX3_hasItsAddress_63 : decode cX3_hasItsAddress 63 = .ok (.iconst 0, 1) := by decide +kernel
theorem dX3_hasItsAddress_64 : decode cX3_hasItsAddress 64 = .ok (.ireturn, 1) := by decide +kernel
set_option maxRecDepth 20000 in
theorem ggX3_setPlaces_X2_length : GoodIn wsX3_setPlaces wsX2_length := goodIn_r _ [8, 9, 33, 34, 35] (by decide +kernel) (by decide +kernel)
set_option maxRecDepth 20000 in
theorem gX3_setPlaces_X2_length : GoodIn wsX3_setPlaces (wsV RX3 47 RX2 yX2_length wsX2_length) := goodIn_app (goodIn_of _ (by decide +kernel)) ggX3_setPlaces_X2_length
set_option maxRecDepth 20000 in
theorem ggX3_setPlaces_X0_numberOfTarget : GoodIn wsX3_setPlaces wsX0_numberOfTarget := goodIn_r _ [14, 15, 16, 17, 18, 36, 37, 38, 39] (by decide +kernel) (by decide +kernel)
set_option maxRecDepth 20000 in
theorem gX3_setPlaces_X0_numberOfTarget : GoodIn wsX3_setPlaces (wsV RX3 86 RX0 yX0_numberOfTarget wsX0_numberOfTarget) := goodIn_app (goodIn_of _ (by decide +kernel)) ggX3_setPlaces_X0_numberOfTarget
set_option maxRecDepth 20000 in
theorem ggX3_setPlaces_X2_get : GoodIn wsX3_setPlaces wsX2_get := goodIn_r _ [22, 23, 24, 25, 26, 7, 27, 9, 33, 34, 35] (by decide +kernel) (by decide +kernel)
set_option maxRecDepth 20000 in
theorem gX3_setPlaces_X2_get : GoodIn wsX3_setPlaces (wsV RX3 58 RX2 yX2_get wsX2_get) := goodIn_app (goodIn_of _ (by decide +kernel)) ggX3_setPlaces_X2_get
theorem dX3_setPlaces_0 : decode cX3_setPlaces 0 = .ok (.iconst 0, 1) := by decide +kernel
theorem dX3_setPlaces_1 : decode cX3_setPlaces 1 = .ok (.istore_n 1, 1) := by decide +kernel
theorem dX3_setPlaces_2 : decode cX3_setPlaces 2 = .ok (.iconst 0, 1) := by decide +kernel
theorem dX3_setPlaces_3 : decode cX3_setPlaces 3 = .ok (.istore_n 2, 1) := by decide +kernel
theorem dX3_setPlaces_4 : decode cX3_setPlaces 4 = .ok (.iload_n 2, 1) := by decide +kernel
theorem dX3_setPlaces_5 : decode cX3_setPlaces 5 = .ok (.aload_n 0, 1) := by decide +kernel
theorem dX3_setPlaces_6 : decode cX3_setPlaces 6 = .ok (.getfield 14, 3) := by decide +kernel
theorem dX3_setPlaces_9 : decode cX3_setPlaces 9 = .ok (.invokevirtual 47, 3) := by decide +kernel
theorem dX3_setPlaces_12 : decode cX3_setPlaces 12 = .ok (.if_icmp .ge 59, 3) := by decide +kernel
theorem dX3_setPlaces_15 : decode cX3_setPlaces 15 = .ok (.iload_n 2, 1) := by decide +kernel
theorem dX3_setPlaces_16 : decode cX3_setPlaces 16 = .ok (.aload_n 0, 1) := by decide +kernel
theorem dX3_setPlaces_17 : decode cX3_setPlaces 17 = .ok (.getfield 28, 3) := by decide +kernel
theorem dX3_setPlaces_20 : decode cX3_setPlaces 20 = .ok (.arraylength, 1) := by decide +kernel
theorem dX3_setPlaces_21 : decode cX3_setPlaces 21 = .ok (.if_icmp .ge 50, 3) := by decide +kernel
theorem dX3_setPlaces_24 : decode cX3_setPlaces 24 = .ok (.aload_n 0, 1) := by decide +kernel
theorem dX3_setPlaces_25 : decode cX3_setPlaces 25 = .ok (.getfield 28, 3) := by decide +kernel
theorem dX3_setPlaces_28 : decode cX3_setPlaces 28 = .ok (.iload_n 2, 1) := by decide +kernel
theorem dX3_setPlaces_29 : decode cX3_setPlaces 29 = .ok (.iload_n 1, 1) := by decide +kernel
theorem dX3_setPlaces_30 : decode cX3_setPlaces 30 = .ok (.iastore, 1) := by decide +kernel
theorem dX3_setPlaces_31 : decode cX3_setPlaces 31 = .ok (.iinc 1 1, 3) := by decide +kernel
theorem dX3_setPlaces_34 : decode cX3_setPlaces 34 = .ok (.aload_n 0, 1) := by decide +kernel
theorem dX3_setPlaces_35 : decode cX3_setPlaces 35 = .ok (.getfield 24, 3) := by decide +kernel
theorem dX3_setPlaces_38 : decode cX3_setPlaces 38 = .ok (.iload_n 2, 1) := by decide +kernel
theorem dX3_setPlaces_39 : decode cX3_setPlaces 39 = .ok (.invokevirtual 86, 3) := by decide +kernel
theorem dX3_setPlaces_42 : decode cX3_setPlaces 42 = .ok (.ifCond .eq 6, 3) := by decide +kernel
theorem dX3_setPlaces_45 : decode cX3_setPlaces 45 = .ok (.iinc 1 1, 3) := by decide +kernel
theorem dX3_setPlaces_48 : decode cX3_setPlaces 48 = .ok (.aload_n 0, 1) := by decide +kernel
theorem dX3_setPlaces_49 : decode cX3_setPlaces 49 = .ok (.getfield 14, 3) := by decide +kernel
theorem dX3_setPlaces_52 : decode cX3_setPlaces 52 = .ok (.iload_n 2, 1) := by decide +kernel
theorem dX3_setPlaces_53 : decode cX3_setPlaces 53 = .ok (.iconst 0, 1) := by decide +kernel
theorem dX3_setPlaces_54 : decode cX3_setPlaces 54 = .ok (.invokevirtual 58, 3) := by decide +kernel
theorem dX3_setPlaces_57 : decode cX3_setPlaces 57 = .ok (.bipush 8, 2) := by decide +kernel
theorem dX3_setPlaces_59 : decode cX3_setPlaces 59 = .ok (.if_icmp .ne 6, 3) := by decide +kernel
theorem dX3_setPlaces_62 : decode cX3_setPlaces 62 = .ok (.iinc 1 1, 3) := by decide +kernel
theorem dX3_setPlaces_65 : decode cX3_setPlaces 65 = .ok (.iinc 2 1, 3) := by decide +kernel
theorem dX3_setPlaces_68 : decode cX3_setPlaces 68 = .ok (.goto (-64), 3) := by decide +kernel
theorem dX3_setPlaces_71 : decode cX3_setPlaces 71 = .ok (.return_, 1) := by decide +kernel
set_option maxRecDepth 20000 in
theorem ggX3_placeOf_X3_isAddress : GoodIn wsX3_placeOf wsX3_isAddress := goodIn_r _ [5] (by decide +kernel) (by decide +kernel)
set_option maxRecDepth 20000 in
theorem gX3_placeOf_X3_isAddress : GoodIn wsX3_placeOf (va_wsS RX3 128 yX3_isAddress wsX3_isAddress) := goodIn_app (goodIn_of _ (by decide +kernel)) ggX3_placeOf_X3_isAddress
theorem dX3_placeOf_0 : decode cX3_placeOf 0 = .ok (.iload_n 1, 1) := by decide +kernel
theorem dX3_placeOf_1 : decode cX3_placeOf 1 = .ok (.invokestatic 128, 3) := by decide +kernel
theorem dX3_placeOf_4 : decode cX3_placeOf 4 = .ok (.ifCond .eq 12, 3) := by decide +kernel
theorem dX3_placeOf_7 : decode cX3_placeOf 7 = .ok (.aload_n 0, 1) := by decide +kernel
theorem dX3_placeOf_8 : decode cX3_placeOf 8 = .ok (.getfield 28, 3) := by decide +kernel
theorem dX3_placeOf_11 : decode cX3_placeOf 11 = .ok (.iload_n 1, 1) := by decide +kernel
theorem dX3_placeOf_12 : decode cX3_placeOf 12 = .ok (.iaload, 1) := by decide +kernel
theorem dX3_placeOf_13 : decode cX3_placeOf 13 = .ok (.goto 4, 3) := by decide +kernel
theorem dX3_placeOf_16 : decode cX3_placeOf 16 = .ok (.iconst (-1), 1) := by decide +kernel
theorem dX3_placeOf_17 : decode cX3_placeOf 17 = .ok (.ireturn, 1) := by decide +kernel
set_option maxRecDepth 20000 in
theorem ggX3_appendGuarded_X2_get : GoodIn wsX3_appendGuarded wsX2_get := goodIn_r _ [8, 9, 10, 11, 12, 7, 13, 14, 52, 53, 54] (by decide +kernel) (by decide +kernel)
set_option maxRecDepth 20000 in
theorem gX3_appendGuarded_X2_get : GoodIn wsX3_appendGuarded (wsV RX3 58 RX2 yX2_get wsX2_get) := goodIn_app (goodIn_of _ (by decide +kernel)) ggX3_appendGuarded_X2_get
set_option maxRecDepth 20000 in
theorem ggX3_appendGuarded_X0_numberOfTarget : GoodIn wsX3_appendGuarded wsX0_numberOfTarget := goodIn_r _ [19, 20, 21, 22, 23, 55, 56, 57, 58] (by decide +kernel) (by decide +kernel)
set_option maxRecDepth 20000 in
theorem gX3_appendGuarded_X0_numberOfTarget : GoodIn wsX3_appendGuarded (wsV RX3 86 RX0 yX0_numberOfTarget wsX0_numberOfTarget) := goodIn_app (goodIn_of _ (by decide +kernel)) ggX3_appendGuarded_X0_numberOfTarget
set_option maxRecDepth 20000 in
theorem ggX3_appendGuarded_X2_append : GoodIn wsX3_appendGuarded wsX2_append := goodIn_r _ [27, 9, 14, 28, 29, 30, 7, 31, 32, 52, 53, 54] (by decide +kernel) (by decide +kernel)
set_option maxRecDepth 20000 in
theorem gX3_appendGuarded_X2_append : GoodIn wsX3_appendGuarded (wsV RX3 51 RX2 yX2_append wsX2_append) := goodIn_app (goodIn_of _ (by decide +kernel)) ggX3_appendGuarded_X2_append
set_option maxRecDepth 20000 in
theorem ggX3_appendGuarded_X0_numberOfJump : GoodIn wsX3_appendGuarded wsX0_numberOfJump := goodIn_r _ [36, 37, 21, 22, 23, 55, 56, 57, 58] (by decide +kernel) (by decide +kernel)
set_option maxRecDepth 20000 in
theorem gX3_appendGuarded_X0_numberOfJump : GoodIn wsX3_appendGuarded (wsV RX3 143 RX0 yX0_numberOfJump wsX0_numberOfJump) := goodIn_app (goodIn_of _ (by decide +kernel)) ggX3_appendGuarded_X0_numberOfJump
set_option maxRecDepth 20000 in
theorem ggX3_appendGuarded_X3_placeOf : GoodIn wsX3_appendGuarded wsX3_placeOf := goodIn_r _ [41, 42, 43, 21, 22, 23, 47, 48, 49, 50, 51] (by decide +kernel) (by decide +kernel)
set_option maxRecDepth 20000 in
theorem gX3_appendGuarded_X3_placeOf : GoodIn wsX3_appendGuarded (wsV RX3 82 RX3 yX3_placeOf wsX3_placeOf) := goodIn_app (goodIn_of _ (by decide +kernel)) ggX3_appendGuarded_X3_placeOf
set_option maxRecDepth 20000 in
theorem ggX3_appendGuarded_X3_holdsAddressInB : GoodIn wsX3_appendGuarded wsX3_holdsAddressInB := goodIn_r _ [46] (by decide +kernel) (by decide +kernel)
set_option maxRecDepth 20000 in
theorem gX3_appendGuarded_X3_holdsAddressInB : GoodIn wsX3_appendGuarded (va_wsS RX3 140 yX3_holdsAddressInB wsX3_holdsAddressInB) := goodIn_app (goodIn_of _ (by decide +kernel)) ggX3_appendGuarded_X3_holdsAddressInB
theorem dX3_appendGuarded_0 : decode cX3_appendGuarded 0 = .ok (.aload_n 0, 1) := by decide +kernel
theorem dX3_appendGuarded_1 : decode cX3_appendGuarded 1 = .ok (.getfield 14, 3) := by decide +kernel
theorem dX3_appendGuarded_4 : decode cX3_appendGuarded 4 = .ok (.iload_n 1, 1) := by decide +kernel
theorem dX3_appendGuarded_5 : decode cX3_appendGuarded 5 = .ok (.iconst 0, 1) := by decide +kernel
theorem dX3_appendGuarded_6 : decode cX3_appendGuarded 6 = .ok (.invokevirtual 58, 3) := by decide +kernel
theorem dX3_appendGuarded_9 : decode cX3_appendGuarded 9 = .ok (.istore_n 2, 1) := by decide +kernel
theorem dX3_appendGuarded_10 : decode cX3_appendGuarded 10 = .ok (.aload_n 0, 1) := by decide +kernel
theorem dX3_appendGuarded_11 : decode cX3_appendGuarded 11 = .ok (.getfield 14, 3) := by decide +kernel
theorem dX3_appendGuarded_14 : decode cX3_appendGuarded 14 = .ok (.iload_n 1, 1) := by decide +kernel
theorem dX3_appendGuarded_15 : decode cX3_appendGuarded 15 = .ok (.iconst 1, 1) := by decide +kernel
theorem dX3_appendGuarded_16 : decode cX3_appendGuarded 16 = .ok (.invokevirtual 58, 3) := by decide +kernel
theorem dX3_appendGuarded_19 : decode cX3_appendGuarded 19 = .ok (.istore_n 3, 1) := by decide +kernel
theorem dX3_appendGuarded_20 : decode cX3_appendGuarded 20 = .ok (.aload_n 0, 1) := by decide +kernel
theorem dX3_appendGuarded_21 : decode cX3_appendGuarded 21 = .ok (.getfield 14, 3) := by decide +kernel
theorem dX3_appendGuarded_24 : decode cX3_appendGuarded 24 = .ok (.iload_n 1, 1) := by decide +kernel
theorem dX3_appendGuarded_25 : decode cX3_appendGuarded 25 = .ok (.iconst 2, 1) := by decide +kernel
theorem dX3_appendGuarded_26 : decode cX3_appendGuarded 26 = .ok (.invokevirtual 58, 3) := by decide +kernel
theorem dX3_appendGuarded_29 : decode cX3_appendGuarded 29 = .ok (.istore 4, 2) := by decide +kernel
theorem dX3_appendGuarded_31 : decode cX3_appendGuarded 31 = .ok (.aload_n 0, 1) := by decide +kernel
theorem dX3_appendGuarded_32 : decode cX3_appendGuarded 32 = .ok (.getfield 24, 3) := by decide +kernel
theorem dX3_appendGuarded_35 : decode cX3_appendGuarded 35 = .ok (.iload_n 1, 1) := by decide +kernel
theorem dX3_appendGuarded_36 : decode cX3_appendGuarded 36 = .ok (.invokevirtual 86, 3) := by decide +kernel
theorem dX3_appendGuarded_39 : decode cX3_appendGuarded 39 = .ok (.istore 5, 2) := by decide +kernel
theorem dX3_appendGuarded_41 : decode cX3_appendGuarded 41 = .ok (.iload 5, 2) := by decide +kernel
theorem dX3_appendGuarded_43 : decode cX3_appendGuarded 43 = .ok (.ifCond .eq 15, 3) := by decide +kernel
theorem dX3_appendGuarded_46 : decode cX3_appendGuarded 46 = .ok (.aload_n 0, 1) := by decide +kernel
theorem dX3_appendGuarded_47 : decode cX3_appendGuarded 47 = .ok (.getfield 18, 3) := by decide +kernel
theorem dX3_appendGuarded_50 : decode cX3_appendGuarded 50 = .ok (.bipush 10, 2) := by decide +kernel
theorem dX3_appendGuarded_52 : decode cX3_appendGuarded 52 = .ok (.iload 5, 2) := by decide +kernel
theorem dX3_appendGuarded_54 : decode cX3_appendGuarded 54 = .ok (.iconst 0, 1) := by decide +kernel
theorem dX3_appendGuarded_55 : decode cX3_appendGuarded 55 = .ok (.invokevirtual 51, 3) := by decide +kernel
theorem dX3_appendGuarded_58 : decode cX3_appendGuarded 58 = .ok (.iload_n 2, 1) := by decide +kernel
theorem dX3_appendGuarded_59 : decode cX3_appendGuarded 59 = .ok (.bipush 8, 2) := by decide +kernel
theorem dX3_appendGuarded_61 : decode cX3_appendGuarded 61 = .ok (.if_icmp .ne 21, 3) := by decide +kernel
theorem dX3_appendGuarded_64 : decode cX3_appendGuarded 64 = .ok (.aload_n 0, 1) := by decide +kernel
theorem dX3_appendGuarded_65 : decode cX3_appendGuarded 65 = .ok (.getfield 18, 3) := by decide +kernel
theorem dX3_appendGuarded_68 : decode cX3_appendGuarded 68 = .ok (.bipush 11, 2) := by decide +kernel
theorem dX3_appendGuarded_70 : decode cX3_appendGuarded 70 = .ok (.iload_n 3, 1) := by decide +kernel
theorem dX3_appendGuarded_71 : decode cX3_appendGuarded 71 = .ok (.aload_n 0, 1) := by decide +kernel
theorem dX3_appendGuarded_72 : decode cX3_appendGuarded 72 = .ok (.getfield 24, 3) := by decide +kernel
theorem dX3_appendGuarded_75 : decode cX3_appendGuarded 75 = .ok (.iload_n 1, 1) := by decide +kernel
theorem dX3_appendGuarded_76 : decode cX3_appendGuarded 76 = .ok (.invokevirtual 143, 3) := by decide +kernel
theorem dX3_appendGuarded_79 : decode cX3_appendGuarded 79 = .ok (.invokevirtual 51, 3) := by decide +kernel
theorem dX3_appendGuarded_82 : decode cX3_appendGuarded 82 = .ok (.aload_n 0, 1) := by decide +kernel
theorem dX3_appendGuarded_83 : decode cX3_appendGuarded 83 = .ok (.getfield 18, 3) := by decide +kernel
theorem dX3_appendGuarded_86 : decode cX3_appendGuarded 86 = .ok (.iload_n 2, 1) := by decide +kernel
theorem dX3_appendGuarded_87 : decode cX3_appendGuarded 87 = .ok (.iload_n 2, 1) := by decide +kernel
theorem dX3_appendGuarded_88 : decode cX3_appendGuarded 88 = .ok (.bipush 6, 2) := by decide +kernel
theorem dX3_appendGuarded_90 : decode cX3_appendGuarded 90 = .ok (.if_icmp .ne 11, 3) := by decide +kernel
theorem dX3_appendGuarded_93 : decode cX3_appendGuarded 93 = .ok (.aload_n 0, 1) := by decide +kernel
theorem dX3_appendGuarded_94 : decode cX3_appendGuarded 94 = .ok (.iload_n 3, 1) := by decide +kernel
theorem dX3_appendGuarded_95 : decode cX3_appendGuarded 95 = .ok (.invokevirtual 82, 3) := by decide +kernel
theorem dX3_appendGuarded_98 : decode cX3_appendGuarded 98 = .ok (.goto 4, 3) := by decide +kernel
theorem dX3_appendGuarded_101 : decode cX3_appendGuarded 101 = .ok (.iload_n 3, 1) := by decide +kernel
theorem dX3_appendGuarded_102 : decode cX3_appendGuarded 102 = .ok (.iload_n 2, 1) := by decide +kernel
theorem dX3_appendGuarded_103 : decode cX3_appendGuarded 103 = .ok (.invokestatic 140, 3) := by decide +kernel
theorem dX3_appendGuarded_106 : decode cX3_appendGuarded 106 = .ok (.ifCond .eq 12, 3) := by decide +kernel
theorem dX3_appendGuarded_109 : decode cX3_appendGuarded 109 = .ok (.aload_n 0, 1) := by decide +kernel
theorem dX3_appendGuarded_110 : decode cX3_appendGuarded 110 = .ok (.iload 4, 2) := by decide +kernel
theorem dX3_appendGuarded_112 : decode cX3_appendGuarded 112 = .ok (.invokevirtual 82, 3) := by decide +kernel
theorem dX3_appendGuarded_115 : decode cX3_appendGuarded 115 = .ok (.goto 5, 3) := by decide +kernel
theorem dX3_appendGuarded_118 : decode cX3_appendGuarded 118 = .ok (.iload 4, 2) := by decide +kernel
theorem dX3_appendGuarded_120 : decode cX3_appendGuarded 120 = .ok (.invokevirtual 51, 3) := by decide +kernel
theorem dX3_appendGuarded_123 : decode cX3_appendGuarded 123 = .ok (.return_, 1) := by decide +kernel
end
section
theorem dX4_init_0 : decode cX4_init 0 = .ok (.aload_n 0, 1) := by decide +kernel
theorem dX4_init_1 : decode cX4_init 1 = .ok (.invokespecial 1, 3) := by decide +kernel
theorem dX4_init_4 : decode cX4_init 4 = .ok (.aload_n 0, 1) := by decide +kernel
theorem dX4_init_5 : decode cX4_init 5 = .ok (.sipush 288, 3) := by decide +kernel
theorem dX4_init_8 : decode cX4_init 8 = .ok (.newarray .int, 2) := by decide +kernel
theorem dX4_init_10 : decode cX4_init 10 = .ok (.putfield 7, 3) := by decide +kernel
theorem dX4_init_13 : decode cX4_init 13 = .ok (.aload_n 0, 1) := by decide +kernel
theorem dX4_init_14 : decode cX4_init 14 = .ok (.bipush 48, 2) := by decide +kernel
theorem dX4_init_16 : decode cX4_init 16 = .ok (.newarray .int, 2) := by decide +kernel
theorem dX4_init_18 : decode cX4_init 18 = .ok (.putfield 13, 3) := by decide +kernel
theorem dX4_init_21 : decode cX4_init 21 = .ok (.aload_n 0, 1) := by decide +kernel
theorem dX4_init_22 : decode cX4_init 22 = .ok (.bipush 48, 2) := by decide +kernel
theorem dX4_init_24 : decode cX4_init 24 = .ok (.newarray .int, 2) := by decide +kernel
theorem dX4_init_26 : decode cX4_init 26 = .ok (.putfield 16, 3) := by decide +kernel
theorem dX4_init_29 : decode cX4_init 29 = .ok (.aload_n 0, 1) := by decide +kernel
theorem dX4_init_30 : decode cX4_init 30 = .ok (.bipush 24, 2) := by decide +kernel
theorem dX4_init_32 : decode cX4_init 32 = .ok (.newarray .int, 2) := by decide +kernel
theorem dX4_init_34 : decode cX4_init 34 = .ok (.putfield 19, 3) := by decide +kernel
theorem dX4_init_37 : decode cX4_init 37 = .ok (.aload_n 0, 1) := by decide +kernel
theorem dX4_init_38 : decode cX4_init 38 = .ok (.bipush 24, 2) := by decide +kernel
theorem dX4_init_40 : decode cX4_init 40 = .ok (.newarray .int, 2) := by decide +kernel
theorem dX4_init_42 : decode cX4_init 42 = .ok (.putfield 22, 3) := by decide +kernel
theorem dX4_init_45 : decode cX4_init 45 = .ok (.aload_n 0, 1) := by decide +kernel
theorem dX4_init_46 : decode cX4_init 46 = .ok (.bipush 24, 2) := by decide +kernel
theorem dX4_init_48 : decode cX4_init 48 = .ok (.newarray .int, 2) := by decide +kernel
theorem dX4_init_50 : decode cX4_init 50 = .ok (.putfield 25, 3) := by decide +kernel
theorem dX4_init_53 : decode cX4_init 53 = .ok (.aload_n 0, 1) := by decide +kernel
theorem dX4_init_54 : decode cX4_init 54 = .ok (.iconst 4, 1) := by decide +kernel
theorem dX4_init_55 : decode cX4_init 55 = .ok (.newarray .int, 2) := by decide +kernel
theorem dX4_init_57 : decode cX4_init 57 = .ok (.putfield 28, 3) := by decide +kernel
theorem dX4_init_60 : decode cX4_init 60 = .ok (.aload_n 0, 1) := by decide +kernel
theorem dX4_init_61 : decode cX4_init 61 = .ok (.bipush 16, 2) := by decide +kernel
theorem dX4_init_63 : decode cX4_init 63 = .ok (.newarray .int, 2) := by decide +kernel
theorem dX4_init_65 : decode cX4_init 65 = .ok (.putfield 31, 3) := by decide +kernel
theorem dX4_init_68 : decode cX4_init 68 = .ok (.aload_n 0, 1) := by decide +kernel
theorem dX4_init_69 : decode cX4_init 69 = .ok (.bipush 8, 2) := by decide +kernel
theorem dX4_init_71 : decode cX4_init 71 = .ok (.newarray .int, 2) := by decide +kernel
theorem dX4_init_73 : decode cX4_init 73 = .ok (.putfield 34, 3) := by decide +kernel
theorem dX4_init_76 : decode cX4_init 76 = .ok (.aload_n 0, 1) := by decide +kernel
theorem dX4_init_77 : decode cX4_init 77 = .ok (.iconst (-1), 1) := by decide +kernel
theorem dX4_init_78 : decode cX4_init 78 = .ok (.putfield 37, 3) := by decide +kernel
theorem dX4_init_81 : decode cX4_init 81 = .ok (.return_, 1) := by decide +kernel
theorem dX4_within_0 : decode cX4_within 0 = .ok (.iload_n 0, 1) := by decide +kernel
theorem dX4_within_1 : decode cX4_within 1 = .ok (.ifCond .lt 12, 3) := by decide +kernel
theorem dX4_within_4 : decode cX4_within 4 = .ok (.iload_n 0, 1) := by decide +kernel
theorem dX4_within_5 : decode cX4_within 5 = .ok (.iload_n 1, 1) := by decide +kernel
theorem dX4_within_6 : decode cX4_within 6 = .ok (.if_icmp .gt 7, 3) := by decide +kernel
theorem dX4_within_9 : decode cX4_within 9 = .ok (.iconst 1, 1) := by decide +kernel
theorem dX4_within_10 : decode cX4_within 10 = .ok (.goto 4, 3) := by decide +kernel
theorem dX4_within_13 : decode cX4_within 13 = .ok (.iconst 0, 1) := by decide +kernel
theorem dX4_within_14 : decode cX4_within 14 = .ok (.ireturn, 1) := by decide +kernel
set_option maxRecDepth 20000 in
theorem ggX4_fits_X4_within : GoodIn wsX4_fits wsX4_within := goodIn_r _ [4] (by decide +kernel) (by decide +kernel)
set_option maxRecDepth 20000 in
theorem gX4_fits_X4_within : GoodIn wsX4_fits (va_wsS RX4 41 yX4_within wsX4_within) := goodIn_app (goodIn_of _ (by decide +kernel)) ggX4_fits_X4_within
theorem dX4_fits_0 : decode cX4_fits 0 = .ok (.iload_n 0, 1) := by decide +kernel
theorem dX4_fits_1 : decode cX4_fits 1 = .ok (.bipush 9, 2) := by decide +kernel
theorem dX4_fits_3 : decode cX4_fits 3 = .ok (.invokestatic 41, 3) := by decide +kernel
theorem dX4_fits_6 : decode cX4_fits 6 = .ok (.ifCond .ne 5, 3) := by decide +kernel
theorem dX4_fits_9 : decode cX4_fits 9 = .ok (.iconst 0, 1) := by decide +kernel
theorem dX4_fits_10 : decode cX4_fits 10 = .ok (.ireturn, 1) := by decide +kernel
theorem dX4_fits_11 : decode cX4_fits 11 = .ok (.iload_n 0, 1) := by decide +kernel
theorem dX4_fits_12 : decode cX4_fits 12 = .ok (.ifCond .eq 19, 3) := by decide +kernel
theorem dX4_fits_15 : decode cX4_fits 15 = .ok (.iload_n 0, 1) := by decide +kernel
theorem dX4_fits_16 : decode cX4_fits 16 = .ok (.bipush 6, 2) := by decide +kernel
theorem dX4_fits_18 : decode cX4_fits 18 = .ok (.if_icmp .eq 13, 3) := by decide +kernel
theorem dX4_fits_21 : decode cX4_fits 21 = .ok (.iload_n 1, 1) := by decide +kernel
theorem dX4_fits_22 : decode cX4_fits 22 = .ok (.iconst 3, 1) := by decide +kernel
theorem dX4_fits_23 : decode cX4_fits 23 = .ok (.invokestatic 41, 3) := by decide +kernel
theorem dX4_fits_26 : decode cX4_fits 26 = .ok (.ifCond .ne 5, 3) := by decide +kernel
theorem dX4_fits_29 : decode cX4_fits 29 = .ok (.iconst 0, 1) := by decide +kernel
theorem dX4_fits_30 : decode cX4_fits 30 = .ok (.ireturn, 1) := by decide +kernel
theorem dX4_fits_31 : decode cX4_fits 31 = .ok (.iload_n 0, 1) := by decide +kernel
theorem dX4_fits_32 : decode cX4_fits 32 = .ok (.iconst 4, 1) := by decide +kernel
theorem dX4_fits_33 : decode cX4_fits 33 = .ok (.if_icmp .ne 11, 3) := by decide +kernel
theorem dX4_fits_36 : decode cX4_fits 36 = .ok (.iload_n 2, 1) := by decide +kernel
theorem dX4_fits_37 : decode cX4_fits 37 = .ok (.iconst 3, 1) := by decide +kernel
theorem dX4_fits_38 : decode cX4_fits 38 = .ok (.invokestatic 41, 3) := by decide +kernel
theorem dX4_fits_41 : decode cX4_fits 41 = .ok (.ifCond .eq 22, 3) := by decide +kernel
theorem dX4_fits_44 : decode cX4_fits 44 = .ok (.iload_n 0, 1) := by decide +kernel
theorem dX4_fits_45 : decode cX4_fits 45 = .ok (.iconst 2, 1) := by decide +kernel
theorem dX4_fits_46 : decode cX4_fits 46 = .ok (.if_icmp .eq 8, 3) := by decide +kernel
theorem dX4_fits_49 : decode cX4_fits 49 = .ok (.iload_n 0, 1) := by decide +kernel
theorem dX4_fits_50 : decode cX4_fits 50 = .ok (.iconst 3, 1) := by decide +kernel
theorem dX4_fits_51 : decode cX4_fits 51 = .ok (.if_icmp .ne 14, 3) := by decide +kernel
theorem dX4_fits_54 : decode cX4_fits 54 = .ok (.iload_n 2, 1) := by decide +kernel
theorem dX4_fits_55 : decode cX4_fits 55 = .ok (.bipush 15, 2) := by decide +kernel
theorem dX4_fits_57 : decode cX4_fits 57 = .ok (.invokestatic 41, 3) := by decide +kernel
theorem dX4_fits_60 : decode cX4_fits 60 = .ok (.ifCond .ne 5, 3) := by decide +kernel
theorem dX4_fits_63 : decode cX4_fits 63 = .ok (.iconst 0, 1) := by decide +kernel
theorem dX4_fits_64 : decode cX4_fits 64 = .ok (.ireturn, 1) := by decide +kernel
theorem dX4_fits_65 : decode cX4_fits 65 = .ok (.iload_n 0, 1) := by decide +kernel
theorem dX4_fits_66 : decode cX4_fits 66 = .ok (.bipush 6, 2) := by decide +kernel
theorem dX4_fits_68 : decode cX4_fits 68 = .ok (.if_icmp .ne 14, 3) := by decide +kernel
theorem dX4_fits_71 : decode cX4_fits 71 = .ok (.iload_n 1, 1) := by decide +kernel
theorem dX4_fits_72 : decode cX4_fits 72 = .ok (.bipush 23, 2) := by decide +kernel
theorem dX4_fits_74 : decode cX4_fits 74 = .ok (.invokestatic 41, 3) := by decide +kernel
theorem dX4_fits_77 : decode cX4_fits 77 = .ok (.ifCond .ne 5, 3) := by decide +kernel
theorem dX4_fits_80 : decode cX4_fits 80 = .ok (.iconst 0, 1) := by decide +kernel
theorem dX4_fits_81 : decode cX4_fits 81 = .ok (.ireturn, 1) := by decide +kernel
theorem dX4_fits_82 : decode cX4_fits 82 = .ok (.iload_n 0, 1) := by decide +kernel
theorem dX4_fits_83 : decode cX4_fits 83 = .ok (.bipush 7, 2) := by decide +kernel
theorem dX4_fits_85 : decode cX4_fits 85 = .ok (.if_icmp .eq 9, 3) := by decide +kernel
theorem dX4_fits_88 : decode cX4_fits 88 = .ok (.iload_n 0, 1) := by decide +kernel
theorem dX4_fits_89 : decode cX4_fits 89 = .ok (.bipush 9, 2) := by decide +kernel
theorem dX4_fits_91 : decode cX4_fits 91 = .ok (.if_icmp .ne 12, 3) := by decide +kernel
theorem dX4_fits_94 : decode cX4_fits 94 = .ok (.iload_n 2, 1) := by decide +kernel
theorem dX4_fits_95 : decode cX4_fits 95 = .ok (.bipush 23, 2) := by decide +kernel
theorem dX4_fits_97 : decode cX4_fits 97 = .ok (.invokestatic 41, 3) := by decide +kernel
theorem dX4_fits_100 : decode cX4_fits 100 = .ok (.ifCond .eq 7, 3) := by decide +kernel
theorem dX4_fits_103 : decode cX4_fits 103 = .ok (.iconst 1, 1) := by decide +kernel
theorem dX4_fits_104 : decode cX4_fits 104 = .ok (.goto 4, 3) := by decide +kernel
theorem dX4_fits_107 : decode cX4_fits 107 = .ok (.iconst 0, 1) := by decide +kernel
theorem dX4_fits_108 : decode cX4_fits 108 = .ok (.ireturn, 1) := by decide +kernel
theorem dX4_undo_0 : decode cX4_undo 0 = .ok (.aload_n 0, 1) := by decide +kernel
theorem dX4_undo_1 : decode cX4_undo 1 = .ok (.iconst 0, 1) := by decide +kernel
theorem dX4_undo_2 : decode cX4_undo 2 = .ok (.putfield 45, 3) := by decide +kernel
theorem dX4_undo_5 : decode cX4_undo 5 = .ok (.aload_n 0, 1) := by decide +kernel
theorem dX4_undo_6 : decode cX4_undo 6 = .ok (.iconst (-1), 1) := by decide +kernel
theorem dX4_undo_7 : decode cX4_undo 7 = .ok (.putfield 37, 3) := by decide +kernel
theorem dX4_undo_10 : decode cX4_undo 10 = .ok (.return_, 1) := by decide +kernel
set_option maxRecDepth 20000 in
theorem ggX4_add_X4_fits : GoodIn wsX4_add wsX4_fits := goodIn_r _ [6, 7, 8, 5, 9] (by decide +kernel) (by decide +kernel)
set_option maxRecDepth 20000 in
theorem gX4_add_X4_fits : GoodIn wsX4_add (va_wsS RX4 48 yX4_fits wsX4_fits) := goodIn_app (goodIn_of _ (by decide +kernel)) ggX4_add_X4_fits
set_option maxRecDepth 20000 in
theorem ggX4_add_X4_undo : GoodIn wsX4_add wsX4_undo := goodIn_r _ [13, 14, 15, 16, 17, 18, 19, 20, 21, 22, 23, 24, 25, 26, 27, 28, 29, 30, 31, 32] (by decide +kernel) (by decide +kernel)
set_option maxRecDepth 20000 in
theorem gX4_add_X4_undo : GoodIn wsX4_add (wsV RX4 55 RX4 yX4_undo wsX4_undo) := goodIn_app (goodIn_of _ (by decide +kernel)) ggX4_add_X4_undo
theorem dX4_add_0 : decode cX4_add 0 = .ok (.iload_n 1, 1) := by decide +kernel
theorem dX4_add_1 : decode cX4_add 1 = .ok (.iload_n 2, 1) := by decide +kernel
theorem dX4_add_2 : decode cX4_add 2 = .ok (.iload_n 3, 1) := by decide +kernel
theorem dX4_add_3 : decode cX4_add 3 = .ok (.invokestatic 48, 3) := by decide +kernel
theorem dX4_add_6 : decode cX4_add 6 = .ok (.ifCond .ne 5, 3) := by decide +kernel
theorem dX4_add_9 : decode cX4_add 9 = .ok (.iconst (-1), 1) := by decide +kernel
theorem dX4_add_10 : decode cX4_add 10 = .ok (.ireturn, 1) := by decide +kernel
theorem dX4_add_11 : decode cX4_add 11 = .ok (.aload_n 0, 1) := by decide +kernel
theorem dX4_add_12 : decode cX4_add 12 = .ok (.getfield 52, 3) := by decide +kernel
theorem dX4_add_15 : decode cX4_add 15 = .ok (.bipush 24, 2) := by decide +kernel
theorem dX4_add_17 : decode cX4_add 17 = .ok (.if_icmp .ne 6, 3) := by decide +kernel
theorem dX4_add_20 : decode cX4_add 20 = .ok (.bipush (-2), 2) := by decide +kernel
theorem dX4_add_22 : decode cX4_add 22 = .ok (.ireturn, 1) := by decide +kernel
theorem dX4_add_23 : decode cX4_add 23 = .ok (.aload_n 0, 1) := by decide +kernel
theorem dX4_add_24 : decode cX4_add 24 = .ok (.getfield 7, 3) := by decide +kernel
theorem dX4_add_27 : decode cX4_add 27 = .ok (.iconst 3, 1) := by decide +kernel
theorem dX4_add_28 : decode cX4_add 28 = .ok (.aload_n 0, 1) := by decide +kernel
theorem dX4_add_29 : decode cX4_add 29 = .ok (.getfield 52, 3) := by decide +kernel
theorem dX4_add_32 : decode cX4_add 32 = .ok (.imul, 1) := by decide +kernel
theorem dX4_add_33 : decode cX4_add 33 = .ok (.iload_n 1, 1) := by decide +kernel
theorem dX4_add_34 : decode cX4_add 34 = .ok (.iastore, 1) := by decide +kernel
theorem dX4_add_35 : decode cX4_add 35 = .ok (.aload_n 0, 1) := by decide +kernel
theorem dX4_add_36 : decode cX4_add 36 = .ok (.getfield 7, 3) := by decide +kernel
theorem dX4_add_39 : decode cX4_add 39 = .ok (.iconst 3, 1) := by decide +kernel
theorem dX4_add_40 : decode cX4_add 40 = .ok (.aload_n 0, 1) := by decide +kernel
theorem dX4_add_41 : decode cX4_add 41 = .ok (.getfield 52, 3) := by decide +kernel
theorem dX4_add_44 : decode cX4_add 44 = .ok (.imul, 1) := by decide +kernel
theorem dX4_add_45 : decode cX4_add 45 = .ok (.iconst 1, 1) := by decide +kernel
theorem dX4_add_46 : decode cX4_add 46 = .ok (.iadd, 1) := by decide +kernel
theorem dX4_add_47 : decode cX4_add 47 = .ok (.iload_n 2, 1) := by decide +kernel
theorem dX4_add_48 : decode cX4_add 48 = .ok (.iastore, 1) := by decide +kernel
theorem dX4_add_49 : decode cX4_add 49 = .ok (.aload_n 0, 1) := by decide +kernel
theorem dX4_add_50 : decode cX4_add 50 = .ok (.getfield 7, 3) := by decide +kernel
theorem dX4_add_53 : decode cX4_add 53 = .ok (.iconst 3, 1) := by decide +kernel
theorem dX4_add_54 : decode cX4_add 54 = .ok (.aload_n 0, 1) := by decide +kernel
theorem dX4_add_55 : decode cX4_add 55 = .ok (.getfield 52, 3) := by decide +kernel
theorem dX4_add_58 : decode cX4_add 58 = .ok (.imul, 1) := by decide +kernel
theorem dX4_add_59 : decode cX4_add 59 = .ok (.iconst 2, 1) := by decide +kernel
theorem dX4_add_60 : decode cX4_add 60 = .ok (.iadd, 1) := by decide +kernel
theorem dX4_add_61 : decode cX4_add 61 = .ok (.iload_n 3, 1) := by decide +kernel
theorem dX4_add_62 : decode cX4_add 62 = .ok (.iastore, 1) := by decide +kernel
theorem dX4_add_63 : decode cX4_add 63 = .ok (.aload_n 0, 1) := by decide +kernel
theorem dX4_add_64 : decode cX4_add 64 = .ok (.aload_n 0, 1) := by decide +kernel
theorem dX4_add_65 : decode cX4_add 65 = .ok (.getfield 52, 3) := by decide +kernel
theorem dX4_add_68 : decode cX4_add 68 = .ok (.iconst 1, 1) := by decide +kernel
theorem dX4_add_69 : decode cX4_add 69 = .ok (.iadd, 1) := by decide +kernel
theorem dX4_add_70 : decode cX4_add 70 = .ok (.putfield 52, 3) := by decide +kernel
theorem dX4_add_73 : decode cX4_add 73 = .ok (.aload_n 0, 1) := by decide +kernel
theorem dX4_add_74 : decode cX4_add 74 = .ok (.invokevirtual 55, 3) := by decide +kernel
theorem dX4_add_77 : decode cX4_add 77 = .ok (.aload_n 0, 1) := by decide +kernel
theorem dX4_add_78 : decode cX4_add 78 = .ok (.getfield 52, 3) := by decide +kernel
theorem dX4_add_81 : decode cX4_add 81 = .ok (.iconst 1, 1) := by decide +kernel
theorem dX4_add_82 : decode cX4_add 82 = .ok (.isub, 1) := by decide +kernel
theorem dX4_add_83 : decode cX4_add 83 = .ok (.ireturn, 1) := by decide +kernel
set_option maxRecDepth 20000 in
theorem ggX4_allow_X4_within : GoodIn wsX4_allow wsX4_within := goodIn_r _ [9] (by decide +kernel) (by decide +kernel)
set_option maxRecDepth 20000 in
theorem gX4_allow_X4_within : GoodIn wsX4_allow (va_wsS RX4 41 yX4_within wsX4_within) := goodIn_app (goodIn_of _ (by decide +kernel)) ggX4_allow_X4_within
set_option maxRecDepth 20000 in
theorem ggX4_allow_X4_undo : GoodIn wsX4_allow wsX4_undo := goodIn_r _ [13, 14, 15, 16, 17, 18, 19, 20, 21, 22, 23, 24, 25, 26, 27, 28, 29, 30, 31, 32] (by decide +kernel) (by decide +kernel)
set_option maxRecDepth 20000 in
theorem gX4_allow_X4_undo : GoodIn wsX4_allow (wsV RX4 55 RX4 yX4_undo wsX4_undo) := goodIn_app (goodIn_of _ (by decide +kernel)) ggX4_allow_X4_undo
theorem dX4_allow_0 : decode cX4_allow 0 = .ok (.iload_n 1, 1) := by decide +kernel
theorem dX4_allow_1 : decode cX4_allow 1 = .ok (.aload_n 0, 1) := by decide +kernel
theorem dX4_allow_2 : decode cX4_allow 2 = .ok (.getfield 52, 3) := by decide +kernel
theorem dX4_allow_5 : decode cX4_allow 5 = .ok (.iconst 1, 1) := by decide +kernel
theorem dX4_allow_6 : decode cX4_allow 6 = .ok (.isub, 1) := by decide +kernel
theorem dX4_allow_7 : decode cX4_allow 7 = .ok (.invokestatic 41, 3) := by decide +kernel
theorem dX4_allow_10 : decode cX4_allow 10 = .ok (.ifCond .eq 38, 3) := by decide +kernel
theorem dX4_allow_13 : decode cX4_allow 13 = .ok (.iload_n 2, 1) := by decide +kernel
theorem dX4_allow_14 : decode cX4_allow 14 = .ok (.aload_n 0, 1) := by decide +kernel
theorem dX4_allow_15 : decode cX4_allow 15 = .ok (.getfield 52, 3) := by decide +kernel
theorem dX4_allow_18 : decode cX4_allow 18 = .ok (.iconst 1, 1) := by decide +kernel
theorem dX4_allow_19 : decode cX4_allow 19 = .ok (.isub, 1) := by decide +kernel
theorem dX4_allow_20 : decode cX4_allow 20 = .ok (.invokestatic 41, 3) := by decide +kernel
theorem dX4_allow_23 : decode cX4_allow 23 = .ok (.ifCond .eq 25, 3) := by decide +kernel
theorem dX4_allow_26 : decode cX4_allow 26 = .ok (.aload_n 0, 1) := by decide +kernel
theorem dX4_allow_27 : decode cX4_allow 27 = .ok (.getfield 7, 3) := by decide +kernel
theorem dX4_allow_30 : decode cX4_allow 30 = .ok (.iconst 3, 1) := by decide +kernel
theorem dX4_allow_31 : decode cX4_allow 31 = .ok (.iload_n 1, 1) := by decide +kernel
theorem dX4_allow_32 : decode cX4_allow 32 = .ok (.imul, 1) := by decide +kernel
theorem dX4_allow_33 : decode cX4_allow 33 = .ok (.iaload, 1) := by decide +kernel
theorem dX4_allow_34 : decode cX4_allow 34 = .ok (.bipush 8, 2) := by decide +kernel
theorem dX4_allow_36 : decode cX4_allow 36 = .ok (.if_icmp .ne 12, 3) := by decide +kernel
theorem dX4_allow_39 : decode cX4_allow 39 = .ok (.aload_n 0, 1) := by decide +kernel
theorem dX4_allow_40 : decode cX4_allow 40 = .ok (.getfield 58, 3) := by decide +kernel
theorem dX4_allow_43 : decode cX4_allow 43 = .ok (.bipush 48, 2) := by decide +kernel
theorem dX4_allow_45 : decode cX4_allow 45 = .ok (.if_icmp .ne 5, 3) := by decide +kernel
theorem dX4_allow_48 : decode cX4_allow 48 = .ok (.iconst 0, 1) := by decide +kernel
theorem dX4_allow_49 : decode cX4_allow 49 = .ok (.ireturn, 1) := by decide +kernel
theorem dX4_allow_50 : decode cX4_allow 50 = .ok (.iconst 0, 1) := by decide +kernel
theorem dX4_allow_51 : decode cX4_allow 51 = .ok (.istore_n 3, 1) := by decide +kernel
theorem dX4_allow_52 : decode cX4_allow 52 = .ok (.iload_n 3, 1) := by decide +kernel
theorem dX4_allow_53 : decode cX4_allow 53 = .ok (.aload_n 0, 1) := by decide +kernel
theorem dX4_allow_54 : decode cX4_allow 54 = .ok (.getfield 58, 3) := by decide +kernel
theorem dX4_allow_57 : decode cX4_allow 57 = .ok (.if_icmp .ge 31, 3) := by decide +kernel
theorem dX4_allow_60 : decode cX4_allow 60 = .ok (.aload_n 0, 1) := by decide +kernel
theorem dX4_allow_61 : decode cX4_allow 61 = .ok (.getfield 13, 3) := by decide +kernel
theorem dX4_allow_64 : decode cX4_allow 64 = .ok (.iload_n 3, 1) := by decide +kernel
theorem dX4_allow_65 : decode cX4_allow 65 = .ok (.iaload, 1) := by decide +kernel
theorem dX4_allow_66 : decode cX4_allow 66 = .ok (.iload_n 1, 1) := by decide +kernel
theorem dX4_allow_67 : decode cX4_allow 67 = .ok (.if_icmp .ne 15, 3) := by decide +kernel
theorem dX4_allow_70 : decode cX4_allow 70 = .ok (.aload_n 0, 1) := by decide +kernel
theorem dX4_allow_71 : decode cX4_allow 71 = .ok (.getfield 16, 3) := by decide +kernel
theorem dX4_allow_74 : decode cX4_allow 74 = .ok (.iload_n 3, 1) := by decide +kernel
theorem dX4_allow_75 : decode cX4_allow 75 = .ok (.iaload, 1) := by decide +kernel
theorem dX4_allow_76 : decode cX4_allow 76 = .ok (.iload_n 2, 1) := by decide +kernel
theorem dX4_allow_77 : decode cX4_allow 77 = .ok (.if_icmp .ne 5, 3) := by decide +kernel
theorem dX4_allow_80 : decode cX4_allow 80 = .ok (.iconst 0, 1) := by decide +kernel
theorem dX4_allow_81 : decode cX4_allow 81 = .ok (.ireturn, 1) := by decide +kernel
theorem dX4_allow_82 : decode cX4_allow 82 = .ok (.iinc 3 1, 3) := by decide +kernel
theorem dX4_allow_85 : decode cX4_allow 85 = .ok (.goto (-33), 3) := by decide +kernel
theorem dX4_allow_88 : decode cX4_allow 88 = .ok (.aload_n 0, 1) := by decide +kernel
theorem dX4_allow_89 : decode cX4_allow 89 = .ok (.getfield 13, 3) := by decide +kernel
theorem dX4_allow_92 : decode cX4_allow 92 = .ok (.aload_n 0, 1) := by decide +kernel
theorem dX4_allow_93 : decode cX4_allow 93 = .ok (.getfield 58, 3) := by decide +kernel
theorem dX4_allow_96 : decode cX4_allow 96 = .ok (.iload_n 1, 1) := by decide +kernel
theorem dX4_allow_97 : decode cX4_allow 97 = .ok (.iastore, 1) := by decide +kernel
theorem dX4_allow_98 : decode cX4_allow 98 = .ok (.aload_n 0, 1) := by decide +kernel
theorem dX4_allow_99 : decode cX4_allow 99 = .ok (.getfield 16, 3) := by decide +kernel
theorem dX4_allow_102 : decode cX4_allow 102 = .ok (.aload_n 0, 1) := by decide +kernel
theorem dX4_allow_103 : decode cX4_allow 103 = .ok (.getfield 58, 3) := by decide +kernel
theorem dX4_allow_106 : decode cX4_allow 106 = .ok (.iload_n 2, 1) := by decide +kernel
theorem dX4_allow_107 : decode cX4_allow 107 = .ok (.iastore, 1) := by decide +kernel
theorem dX4_allow_108 : decode cX4_allow 108 = .ok (.aload_n 0, 1) := by decide +kernel
theorem dX4_allow_109 : decode cX4_allow 109 = .ok (.aload_n 0, 1) := by decide +kernel
theorem dX4_allow_110 : decode cX4_allow 110 = .ok (.getfield 58, 3) := by decide +kernel
theorem dX4_allow_113 : decode cX4_allow 113 = .ok (.iconst 1, 1) := by decide +kernel
theorem dX4_allow_114 : decode cX4_allow 114 = .ok (.iadd, 1) := by decide +kernel
theorem dX4_allow_115 : decode cX4_allow 115 = .ok (.putfield 58, 3) := by decide +kernel
theorem dX4_allow_118 : decode cX4_allow 118 = .ok (.aload_n 0, 1) := by decide +kernel
theorem dX4_allow_119 : decode cX4_allow 119 = .ok (.invokevirtual 55, 3) := by decide +kernel
theorem dX4_allow_122 : decode cX4_allow 122 = .ok (.iconst 1, 1) := by decide +kernel
theorem dX4_allow_123 : decode cX4_allow 123 = .ok (.ireturn, 1) := by decide +kernel
theorem dX4_classes_0 : decode cX4_classes 0 = .ok (.iconst 0, 1) := by decide +kernel
theorem dX4_classes_1 : decode cX4_classes 1 = .ok (.istore_n 1, 1) := by decide +kernel
theorem dX4_classes_2 : decode cX4_classes 2 = .ok (.iload_n 1, 1) := by decide +kernel
theorem dX4_classes_3 : decode cX4_classes 3 = .ok (.bipush 24, 2) := by decide +kernel
theorem dX4_classes_5 : decode cX4_classes 5 = .ok (.if_icmp .ge 23, 3) := by decide +kernel
theorem dX4_classes_8 : decode cX4_classes 8 = .ok (.aload_n 0, 1) := by decide +kernel
theorem dX4_classes_9 : decode cX4_classes 9 = .ok (.getfield 19, 3) := by decide +kernel
theorem dX4_classes_12 : decode cX4_classes 12 = .ok (.iload_n 1, 1) := by decide +kernel
theorem dX4_classes_13 : decode cX4_classes 13 = .ok (.iconst 0, 1) := by decide +kernel
theorem dX4_classes_14 : decode cX4_classes 14 = .ok (.iastore, 1) := by decide +kernel
theorem dX4_classes_15 : decode cX4_classes 15 = .ok (.aload_n 0, 1) := by decide +kernel
theorem dX4_classes_16 : decode cX4_classes 16 = .ok (.getfield 22, 3) := by decide +kernel
theorem dX4_classes_19 : decode cX4_classes 19 = .ok (.iload_n 1, 1) := by decide +kernel
theorem dX4_classes_20 : decode cX4_classes 20 = .ok (.iconst 0, 1) := by decide +kernel
theorem dX4_classes_21 : decode cX4_classes 21 = .ok (.iastore, 1) := by decide +kernel
theorem dX4_classes_22 : decode cX4_classes 22 = .ok (.iinc 1 1, 3) := by decide +kernel
theorem dX4_classes_25 : decode cX4_classes 25 = .ok (.goto (-23), 3) := by decide +kernel
theorem dX4_classes_28 : decode cX4_classes 28 = .ok (.iconst 0, 1) := by decide +kernel
theorem dX4_classes_29 : decode cX4_classes 29 = .ok (.istore_n 1, 1) := by decide +kernel
theorem dX4_classes_30 : decode cX4_classes 30 = .ok (.iload_n 1, 1) := by decide +kernel
theorem dX4_classes_31 : decode cX4_classes 31 = .ok (.aload_n 0, 1) := by decide +kernel
theorem dX4_classes_32 : decode cX4_classes 32 = .ok (.getfield 58, 3) := by decide +kernel
theorem dX4_classes_35 : decode cX4_classes 35 = .ok (.if_icmp .ge 41, 3) := by decide +kernel
theorem dX4_classes_38 : decode cX4_classes 38 = .ok (.aload_n 0, 1) := by decide +kernel
theorem dX4_classes_39 : decode cX4_classes 39 = .ok (.getfield 19, 3) := by decide +kernel
theorem dX4_classes_42 : decode cX4_classes 42 = .ok (.aload_n 0, 1) := by decide +kernel
theorem dX4_classes_43 : decode cX4_classes 43 = .ok (.getfield 16, 3) := by decide +kernel
theorem dX4_classes_46 : decode cX4_classes 46 = .ok (.iload_n 1, 1) := by decide +kernel
theorem dX4_classes_47 : decode cX4_classes 47 = .ok (.iaload, 1) := by decide +kernel
theorem dX4_classes_48 : decode cX4_classes 48 = .ok (.aload_n 0, 1) := by decide +kernel
theorem dX4_classes_49 : decode cX4_classes 49 = .ok (.getfield 16, 3) := by decide +kernel
theorem dX4_classes_52 : decode cX4_classes 52 = .ok (.iload_n 1, 1) := by decide +kernel
theorem dX4_classes_53 : decode cX4_classes 53 = .ok (.iaload, 1) := by decide +kernel
theorem dX4_classes_54 : decode cX4_classes 54 = .ok (.iconst 1, 1) := by decide +kernel
theorem dX4_classes_55 : decode cX4_classes 55 = .ok (.iadd, 1) := by decide +kernel
theorem dX4_classes_56 : decode cX4_classes 56 = .ok (.iastore, 1) := by decide +kernel
theorem dX4_classes_57 : decode cX4_classes 57 = .ok (.aload_n 0, 1) := by decide +kernel
theorem dX4_classes_58 : decode cX4_classes 58 = .ok (.getfield 22, 3) := by decide +kernel
theorem dX4_classes_61 : decode cX4_classes 61 = .ok (.aload_n 0, 1) := by decide +kernel
theorem dX4_classes_62 : decode cX4_classes 62 = .ok (.getfield 13, 3) := by decide +kernel
theorem dX4_classes_65 : decode cX4_classes 65 = .ok (.iload_n 1, 1) := by decide +kernel
theorem dX4_classes_66 : decode cX4_classes 66 = .ok (.iaload, 1) := by decide +kernel
theorem dX4_classes_67 : decode cX4_classes 67 = .ok (.bipush 99, 2) := by decide +kernel
theorem dX4_classes_69 : decode cX4_classes 69 = .ok (.iastore, 1) := by decide +kernel
theorem dX4_classes_70 : decode cX4_classes 70 = .ok (.iinc 1 1, 3) := by decide +kernel
theorem dX4_classes_73 : decode cX4_classes 73 = .ok (.goto (-43), 3) := by decide +kernel
theorem dX4_classes_76 : decode cX4_classes 76 = .ok (.iconst 0, 1) := by decide +kernel
theorem dX4_classes_77 : decode cX4_classes 77 = .ok (.istore_n 1, 1) := by decide +kernel
theorem dX4_classes_78 : decode cX4_classes 78 = .ok (.iload_n 1, 1) := by decide +kernel
theorem dX4_classes_79 : decode cX4_classes 79 = .ok (.bipush 100, 2) := by decide +kernel
theorem dX4_classes_81 : decode cX4_classes 81 = .ok (.if_icmp .ge 96, 3) := by decide +kernel
theorem dX4_classes_84 : decode cX4_classes 84 = .ok (.iconst 0, 1) := by decide +kernel
theorem dX4_classes_85 : decode cX4_classes 85 = .ok (.istore_n 2, 1) := by decide +kernel
theorem dX4_classes_86 : decode cX4_classes 86 = .ok (.iload_n 2, 1) := by decide +kernel
theorem dX4_classes_87 : decode cX4_classes 87 = .ok (.aload_n 0, 1) := by decide +kernel
theorem dX4_classes_88 : decode cX4_classes 88 = .ok (.getfield 58, 3) := by decide +kernel
theorem dX4_classes_91 : decode cX4_classes 91 = .ok (.if_icmp .ge 80, 3) := by decide +kernel
theorem dX4_classes_94 : decode cX4_classes 94 = .ok (.aload_n 0, 1) := by decide +kernel
theorem dX4_classes_95 : decode cX4_classes 95 = .ok (.getfield 22, 3) := by decide +kernel
theorem dX4_classes_98 : decode cX4_classes 98 = .ok (.aload_n 0, 1) := by decide +kernel
theorem dX4_classes_99 : decode cX4_classes 99 = .ok (.getfield 13, 3) := by decide +kernel
theorem dX4_classes_102 : decode cX4_classes 102 = .ok (.iload_n 2, 1) := by decide +kernel
theorem dX4_classes_103 : decode cX4_classes 103 = .ok (.iaload, 1) := by decide +kernel
theorem dX4_classes_104 : decode cX4_classes 104 = .ok (.iaload, 1) := by decide +kernel
theorem dX4_classes_105 : decode cX4_classes 105 = .ok (.istore_n 3, 1) := by decide +kernel
theorem dX4_classes_106 : decode cX4_classes 106 = .ok (.aload_n 0, 1) := by decide +kernel
theorem dX4_classes_107 : decode cX4_classes 107 = .ok (.getfield 19, 3) := by decide +kernel
theorem dX4_classes_110 : decode cX4_classes 110 = .ok (.aload_n 0, 1) := by decide +kernel
theorem dX4_classes_111 : decode cX4_classes 111 = .ok (.getfield 16, 3) := by decide +kernel
theorem dX4_classes_114 : decode cX4_classes 114 = .ok (.iload_n 2, 1) := by decide +kernel
theorem dX4_classes_115 : decode cX4_classes 115 = .ok (.iaload, 1) := by decide +kernel
theorem dX4_classes_116 : decode cX4_classes 116 = .ok (.iaload, 1) := by decide +kernel
theorem dX4_classes_117 : decode cX4_classes 117 = .ok (.istore 4, 2) := by decide +kernel
theorem dX4_classes_119 : decode cX4_classes 119 = .ok (.aload_n 0, 1) := by decide +kernel
theorem dX4_classes_120 : decode cX4_classes 120 = .ok (.getfield 22, 3) := by decide +kernel
theorem dX4_classes_123 : decode cX4_classes 123 = .ok (.aload_n 0, 1) := by decide +kernel
theorem dX4_classes_124 : decode cX4_classes 124 = .ok (.getfield 13, 3) := by decide +kernel
theorem dX4_classes_127 : decode cX4_classes 127 = .ok (.iload_n 2, 1) := by decide +kernel
theorem dX4_classes_128 : decode cX4_classes 128 = .ok (.iaload, 1) := by decide +kernel
theorem dX4_classes_129 : decode cX4_classes 129 = .ok (.iload_n 3, 1) := by decide +kernel
theorem dX4_classes_130 : decode cX4_classes 130 = .ok (.iload 4, 2) := by decide +kernel
theorem dX4_classes_132 : decode cX4_classes 132 = .ok (.if_icmp .ge 7, 3) := by decide +kernel
theorem dX4_classes_135 : decode cX4_classes 135 = .ok (.iload_n 3, 1) := by decide +kernel
theorem dX4_classes_136 : decode cX4_classes 136 = .ok (.goto 5, 3) := by decide +kernel
theorem dX4_classes_139 : decode cX4_classes 139 = .ok (.iload 4, 2) := by decide +kernel
theorem dX4_classes_141 : decode cX4_classes 141 = .ok (.iastore, 1) := by decide +kernel
theorem dX4_classes_142 : decode cX4_classes 142 = .ok (.aload_n 0, 1) := by decide +kernel
theorem dX4_classes_143 : decode cX4_classes 143 = .ok (.getfield 19, 3) := by decide +kernel
theorem dX4_classes_146 : decode cX4_classes 146 = .ok (.aload_n 0, 1) := by decide +kernel
theorem dX4_classes_147 : decode cX4_classes 147 = .ok (.getfield 16, 3) := by decide +kernel
theorem dX4_classes_150 : decode cX4_classes 150 = .ok (.iload_n 2, 1) := by decide +kernel
theorem dX4_classes_151 : decode cX4_classes 151 = .ok (.iaload, 1) := by decide +kernel
theorem dX4_classes_152 : decode cX4_classes 152 = .ok (.iload_n 3, 1) := by decide +kernel
theorem dX4_classes_153 : decode cX4_classes 153 = .ok (.iload 4, 2) := by decide +kernel
theorem dX4_classes_155 : decode cX4_classes 155 = .ok (.if_icmp .ge 7, 3) := by decide +kernel
theorem dX4_classes_158 : decode cX4_classes 158 = .ok (.iload_n 3, 1) := by decide +kernel
theorem dX4_classes_159 : decode cX4_classes 159 = .ok (.goto 5, 3) := by decide +kernel
theorem dX4_classes_162 : decode cX4_classes 162 = .ok (.iload 4, 2) := by decide +kernel
theorem dX4_classes_164 : decode cX4_classes 164 = .ok (.iastore, 1) := by decide +kernel
theorem dX4_classes_165 : decode cX4_classes 165 = .ok (.iinc 2 1, 3) := by decide +kernel
theorem dX4_classes_168 : decode cX4_classes 168 = .ok (.goto (-82), 3) := by decide +kernel
theorem dX4_classes_171 : decode cX4_classes 171 = .ok (.iinc 1 1, 3) := by decide +kernel
theorem dX4_classes_174 : decode cX4_classes 174 = .ok (.goto (-96), 3) := by decide +kernel
theorem dX4_classes_177 : decode cX4_classes 177 = .ok (.return_, 1) := by decide +kernel
theorem dX4_whole_0 : decode cX4_whole 0 = .ok (.aload_n 0, 1) := by decide +kernel
theorem dX4_whole_1 : decode cX4_whole 1 = .ok (.getfield 52, 3) := by decide +kernel
theorem dX4_whole_4 : decode cX4_whole 4 = .ok (.ifCond .ne 5, 3) := by decide +kernel
theorem dX4_whole_7 : decode cX4_whole 7 = .ok (.iconst 0, 1) := by decide +kernel
theorem dX4_whole_8 : decode cX4_whole 8 = .ok (.ireturn, 1) := by decide +kernel
theorem dX4_whole_9 : decode cX4_whole 9 = .ok (.aload_n 0, 1) := by decide +kernel
theorem dX4_whole_10 : decode cX4_whole 10 = .ok (.getfield 7, 3) := by decide +kernel
theorem dX4_whole_13 : decode cX4_whole 13 = .ok (.iconst 3, 1) := by decide +kernel
theorem dX4_whole_14 : decode cX4_whole 14 = .ok (.aload_n 0, 1) := by decide +kernel
theorem dX4_whole_15 : decode cX4_whole 15 = .ok (.getfield 52, 3) := by decide +kernel
theorem dX4_whole_18 : decode cX4_whole 18 = .ok (.imul, 1) := by decide +kernel
theorem dX4_whole_19 : decode cX4_whole 19 = .ok (.iconst 3, 1) := by decide +kernel
theorem dX4_whole_20 : decode cX4_whole 20 = .ok (.isub, 1) := by decide +kernel
theorem dX4_whole_21 : decode cX4_whole 21 = .ok (.iaload, 1) := by decide +kernel
theorem dX4_whole_22 : decode cX4_whole 22 = .ok (.istore_n 1, 1) := by decide +kernel
theorem dX4_whole_23 : decode cX4_whole 23 = .ok (.iload_n 1, 1) := by decide +kernel
theorem dX4_whole_24 : decode cX4_whole 24 = .ok (.ifCond .eq 17, 3) := by decide +kernel
theorem dX4_whole_27 : decode cX4_whole 27 = .ok (.iload_n 1, 1) := by decide +kernel
theorem dX4_whole_28 : decode cX4_whole 28 = .ok (.bipush 6, 2) := by decide +kernel
theorem dX4_whole_30 : decode cX4_whole 30 = .ok (.if_icmp .eq 11, 3) := by decide +kernel
theorem dX4_whole_33 : decode cX4_whole 33 = .ok (.iload_n 1, 1) := by decide +kernel
theorem dX4_whole_34 : decode cX4_whole 34 = .ok (.bipush 8, 2) := by decide +kernel
theorem dX4_whole_36 : decode cX4_whole 36 = .ok (.if_icmp .eq 5, 3) := by decide +kernel
theorem dX4_whole_39 : decode cX4_whole 39 = .ok (.iconst 0, 1) := by decide +kernel
theorem dX4_whole_40 : decode cX4_whole 40 = .ok (.ireturn, 1) := by decide +kernel
theorem dX4_whole_41 : decode cX4_whole 41 = .ok (.iconst 0, 1) := by decide +kernel
theorem dX4_whole_42 : decode cX4_whole 42 = .ok (.istore_n 2, 1) := by decide +kernel
theorem dX4_whole_43 : decode cX4_whole 43 = .ok (.iload_n 2, 1) := by decide +kernel
theorem dX4_whole_44 : decode cX4_whole 44 = .ok (.aload_n 0, 1) := by decide +kernel
theorem dX4_whole_45 : decode cX4_whole 45 = .ok (.getfield 52, 3) := by decide +kernel
theorem dX4_whole_48 : decode cX4_whole 48 = .ok (.if_icmp .ge 72, 3) := by decide +kernel
theorem dX4_whole_51 : decode cX4_whole 51 = .ok (.aload_n 0, 1) := by decide +kernel
theorem dX4_whole_52 : decode cX4_whole 52 = .ok (.getfield 7, 3) := by decide +kernel
theorem dX4_whole_55 : decode cX4_whole 55 = .ok (.iconst 3, 1) := by decide +kernel
theorem dX4_whole_56 : decode cX4_whole 56 = .ok (.iload_n 2, 1) := by decide +kernel
theorem dX4_whole_57 : decode cX4_whole 57 = .ok (.imul, 1) := by decide +kernel
theorem dX4_whole_58 : decode cX4_whole 58 = .ok (.iaload, 1) := by decide +kernel
theorem dX4_whole_59 : decode cX4_whole 59 = .ok (.istore_n 3, 1) := by decide +kernel
theorem dX4_whole_60 : decode cX4_whole 60 = .ok (.iload_n 3, 1) := by decide +kernel
theorem dX4_whole_61 : decode cX4_whole 61 = .ok (.bipush 6, 2) := by decide +kernel
theorem dX4_whole_63 : decode cX4_whole 63 = .ok (.if_icmp .ne 20, 3) := by decide +kernel
theorem dX4_whole_66 : decode cX4_whole 66 = .ok (.aload_n 0, 1) := by decide +kernel
theorem dX4_whole_67 : decode cX4_whole 67 = .ok (.getfield 7, 3) := by decide +kernel
theorem dX4_whole_70 : decode cX4_whole 70 = .ok (.iconst 3, 1) := by decide +kernel
theorem dX4_whole_71 : decode cX4_whole 71 = .ok (.iload_n 2, 1) := by decide +kernel
theorem dX4_whole_72 : decode cX4_whole 72 = .ok (.imul, 1) := by decide +kernel
theorem dX4_whole_73 : decode cX4_whole 73 = .ok (.iconst 1, 1) := by decide +kernel
theorem dX4_whole_74 : decode cX4_whole 74 = .ok (.iadd, 1) := by decide +kernel
theorem dX4_whole_75 : decode cX4_whole 75 = .ok (.iaload, 1) := by decide +kernel
theorem dX4_whole_76 : decode cX4_whole 76 = .ok (.aload_n 0, 1) := by decide +kernel
theorem dX4_whole_77 : decode cX4_whole 77 = .ok (.getfield 52, 3) := by decide +kernel
theorem dX4_whole_80 : decode cX4_whole 80 = .ok (.if_icmp .ge 32, 3) := by decide +kernel
theorem dX4_whole_83 : decode cX4_whole 83 = .ok (.iload_n 3, 1) := by decide +kernel
theorem dX4_whole_84 : decode cX4_whole 84 = .ok (.bipush 7, 2) := by decide +kernel
theorem dX4_whole_86 : decode cX4_whole 86 = .ok (.if_icmp .eq 9, 3) := by decide +kernel
theorem dX4_whole_89 : decode cX4_whole 89 = .ok (.iload_n 3, 1) := by decide +kernel
theorem dX4_whole_90 : decode cX4_whole 90 = .ok (.bipush 9, 2) := by decide +kernel
theorem dX4_whole_92 : decode cX4_whole 92 = .ok (.if_icmp .ne 22, 3) := by decide +kernel
theorem dX4_whole_95 : decode cX4_whole 95 = .ok (.aload_n 0, 1) := by decide +kernel
theorem dX4_whole_96 : decode cX4_whole 96 = .ok (.getfield 7, 3) := by decide +kernel
theorem dX4_whole_99 : decode cX4_whole 99 = .ok (.iconst 3, 1) := by decide +kernel
theorem dX4_whole_100 : decode cX4_whole 100 = .ok (.iload_n 2, 1) := by decide +kernel
theorem dX4_whole_101 : decode cX4_whole 101 = .ok (.imul, 1) := by decide +kernel
theorem dX4_whole_102 : decode cX4_whole 102 = .ok (.iconst 2, 1) := by decide +kernel
theorem dX4_whole_103 : decode cX4_whole 103 = .ok (.iadd, 1) := by decide +kernel
theorem dX4_whole_104 : decode cX4_whole 104 = .ok (.iaload, 1) := by decide +kernel
theorem dX4_whole_105 : decode cX4_whole 105 = .ok (.aload_n 0, 1) := by decide +kernel
theorem dX4_whole_106 : decode cX4_whole 106 = .ok (.getfield 52, 3) := by decide +kernel
theorem dX4_whole_109 : decode cX4_whole 109 = .ok (.if_icmp .lt 5, 3) := by decide +kernel
theorem dX4_whole_112 : decode cX4_whole 112 = .ok (.iconst 0, 1) := by decide +kernel
theorem dX4_whole_113 : decode cX4_whole 113 = .ok (.ireturn, 1) := by decide +kernel
theorem dX4_whole_114 : decode cX4_whole 114 = .ok (.iinc 2 1, 3) := by decide +kernel
theorem dX4_whole_117 : decode cX4_whole 117 = .ok (.goto (-74), 3) := by decide +kernel
theorem dX4_whole_120 : decode cX4_whole 120 = .ok (.iconst 1, 1) := by decide +kernel
theorem dX4_whole_121 : decode cX4_whole 121 = .ok (.ireturn, 1) := by decide +kernel
theorem dX4_put_0 : decode cX4_put 0 = .ok (.aload_n 0, 1) := by decide +kernel
theorem dX4_put_1 : decode cX4_put 1 = .ok (.getfield 7, 3) := by decide +kernel
theorem dX4_put_4 : decode cX4_put 4 = .ok (.bipush 72, 2) := by decide +kernel
theorem dX4_put_6 : decode cX4_put 6 = .ok (.iconst 3, 1) := by decide +kernel
theorem dX4_put_7 : decode cX4_put 7 = .ok (.aload_n 0, 1) := by decide +kernel
theorem dX4_put_8 : decode cX4_put 8 = .ok (.getfield 45, 3) := by decide +kernel
theorem dX4_put_11 : decode cX4_put 11 = .ok (.imul, 1) := by decide +kernel
theorem dX4_put_12 : decode cX4_put 12 = .ok (.iadd, 1) := by decide +kernel
theorem dX4_put_13 : decode cX4_put 13 = .ok (.iload_n 1, 1) := by decide +kernel
theorem dX4_put_14 : decode cX4_put 14 = .ok (.iastore, 1) := by decide +kernel
theorem dX4_put_15 : decode cX4_put 15 = .ok (.aload_n 0, 1) := by decide +kernel
theorem dX4_put_16 : decode cX4_put 16 = .ok (.getfield 7, 3) := by decide +kernel
theorem dX4_put_19 : decode cX4_put 19 = .ok (.bipush 73, 2) := by decide +kernel
theorem dX4_put_21 : decode cX4_put 21 = .ok (.iconst 3, 1) := by decide +kernel
theorem dX4_put_22 : decode cX4_put 22 = .ok (.aload_n 0, 1) := by decide +kernel
theorem dX4_put_23 : decode cX4_put 23 = .ok (.getfield 45, 3) := by decide +kernel
theorem dX4_put_26 : decode cX4_put 26 = .ok (.imul, 1) := by decide +kernel
theorem dX4_put_27 : decode cX4_put 27 = .ok (.iadd, 1) := by decide +kernel
theorem dX4_put_28 : decode cX4_put 28 = .ok (.iload_n 2, 1) := by decide +kernel
theorem dX4_put_29 : decode cX4_put 29 = .ok (.iastore, 1) := by decide +kernel
theorem dX4_put_30 : decode cX4_put 30 = .ok (.aload_n 0, 1) := by decide +kernel
theorem dX4_put_31 : decode cX4_put 31 = .ok (.getfield 7, 3) := by decide +kernel
theorem dX4_put_34 : decode cX4_put 34 = .ok (.bipush 74, 2) := by decide +kernel
theorem dX4_put_36 : decode cX4_put 36 = .ok (.iconst 3, 1) := by decide +kernel
theorem dX4_put_37 : decode cX4_put 37 = .ok (.aload_n 0, 1) := by decide +kernel
theorem dX4_put_38 : decode cX4_put 38 = .ok (.getfield 45, 3) := by decide +kernel
theorem dX4_put_41 : decode cX4_put 41 = .ok (.imul, 1) := by decide +kernel
theorem dX4_put_42 : decode cX4_put 42 = .ok (.iadd, 1) := by decide +kernel
theorem dX4_put_43 : decode cX4_put 43 = .ok (.iload_n 3, 1) := by decide +kernel
theorem dX4_put_44 : decode cX4_put 44 = .ok (.iastore, 1) := by decide +kernel
theorem dX4_put_45 : decode cX4_put 45 = .ok (.aload_n 0, 1) := by decide +kernel
theorem dX4_put_46 : decode cX4_put 46 = .ok (.aload_n 0, 1) := by decide +kernel
theorem dX4_put_47 : decode cX4_put 47 = .ok (.getfield 45, 3) := by decide +kernel
theorem dX4_put_50 : decode cX4_put 50 = .ok (.iconst 1, 1) := by decide +kernel
theorem dX4_put_51 : decode cX4_put 51 = .ok (.iadd, 1) := by decide +kernel
theorem dX4_put_52 : decode cX4_put 52 = .ok (.putfield 45, 3) := by decide +kernel
theorem dX4_put_55 : decode cX4_put 55 = .ok (.return_, 1) := by decide +kernel
end
section
set_option maxRecDepth 20000 in
theorem ggX4_protect_X4_undo : GoodIn wsX4_protect wsX4_undo := goodIn_r _ [11, 6, 12, 28, 29, 30, 31, 32, 33, 34, 35, 36, 37, 38, 39, 40, 41, 42, 43, 44] (by decide +kernel) (by decide +kernel)
set_option maxRecDepth 20000 in
theorem gX4_protect_X4_undo : GoodIn wsX4_protect (wsV RX4 55 RX4 yX4_undo wsX4_undo) := goodIn_app (goodIn_of _ (by decide +kernel)) ggX4_protect_X4_undo
set_option maxRecDepth 20000 in
theorem ggX4_protect_X4_whole : GoodIn wsX4_protect wsX4_whole := goodIn_r _ [16, 1, 4, 28, 29, 30, 31, 32, 33, 34, 35, 36, 37, 38, 39, 40, 41, 42, 43, 44] (by decide +kernel) (by decide +kernel)
set_option maxRecDepth 20000 in
theorem gX4_protect_X4_whole : GoodIn wsX4_protect (wsV RX4 61 RX4 yX4_whole wsX4_whole) := goodIn_app (goodIn_of _ (by decide +kernel)) ggX4_protect_X4_whole
set_option maxRecDepth 20000 in
theorem ggX4_protect_X4_classes : GoodIn wsX4_protect wsX4_classes := goodIn_r _ [20, 3, 5, 21, 22, 23, 28, 29, 30, 31, 32, 33, 34, 35, 36, 37, 38, 39, 40, 41, 42, 43, 44] (by decide +kernel) (by decide +kernel)
set_option maxRecDepth 20000 in
theorem gX4_protect_X4_classes : GoodIn wsX4_protect (wsV RX4 65 RX4 yX4_classes wsX4_classes) := goodIn_app (goodIn_of _ (by decide +kernel)) ggX4_protect_X4_classes
set_option maxRecDepth 20000 in
theorem ggX4_protect_X4_put : GoodIn wsX4_protect wsX4_put := goodIn_r _ [27, 4, 6, 28, 29, 30, 31, 32, 33, 34, 35, 36, 37, 38, 39, 40, 41, 42, 43, 44] (by decide +kernel) (by decide +kernel)
set_option maxRecDepth 20000 in
theorem gX4_protect_X4_put : GoodIn wsX4_protect (wsV RX4 68 RX4 yX4_put wsX4_put) := goodIn_app (goodIn_of _ (by decide +kernel)) ggX4_protect_X4_put
theorem dX4_protect_0 : decode cX4_protect 0 = .ok (.aload_n 0, 1) := by decide +kernel
theorem dX4_protect_1 : decode cX4_protect 1 = .ok (.invokevirtual 55, 3) := by decide +kernel
theorem dX4_protect_4 : decode cX4_protect 4 = .ok (.aload_n 0, 1) := by decide +kernel
theorem dX4_protect_5 : decode cX4_protect 5 = .ok (.invokevirtual 61, 3) := by decide +kernel
theorem dX4_protect_8 : decode cX4_protect 8 = .ok (.ifCond .ne 5, 3) := by decide +kernel
theorem dX4_protect_11 : decode cX4_protect 11 = .ok (.iconst (-1), 1) := by decide +kernel
theorem dX4_protect_12 : decode cX4_protect 12 = .ok (.ireturn, 1) := by decide +kernel
theorem dX4_protect_13 : decode cX4_protect 13 = .ok (.aload_n 0, 1) := by decide +kernel
theorem dX4_protect_14 : decode cX4_protect 14 = .ok (.invokevirtual 65, 3) := by decide +kernel
theorem dX4_protect_17 : decode cX4_protect 17 = .ok (.iconst 0, 1) := by decide +kernel
theorem dX4_protect_18 : decode cX4_protect 18 = .ok (.istore_n 1, 1) := by decide +kernel
theorem dX4_protect_19 : decode cX4_protect 19 = .ok (.iconst 0, 1) := by decide +kernel
theorem dX4_protect_20 : decode cX4_protect 20 = .ok (.istore_n 2, 1) := by decide +kernel
theorem dX4_protect_21 : decode cX4_protect 21 = .ok (.iload_n 2, 1) := by decide +kernel
theorem dX4_protect_22 : decode cX4_protect 22 = .ok (.aload_n 0, 1) := by decide +kernel
theorem dX4_protect_23 : decode cX4_protect 23 = .ok (.getfield 52, 3) := by decide +kernel
theorem dX4_protect_26 : decode cX4_protect 26 = .ok (.if_icmp .ge 54, 3) := by decide +kernel
theorem dX4_protect_29 : decode cX4_protect 29 = .ok (.aload_n 0, 1) := by decide +kernel
theorem dX4_protect_30 : decode cX4_protect 30 = .ok (.getfield 25, 3) := by decide +kernel
theorem dX4_protect_33 : decode cX4_protect 33 = .ok (.iload_n 2, 1) := by decide +kernel
theorem dX4_protect_34 : decode cX4_protect 34 = .ok (.iload_n 1, 1) := by decide +kernel
theorem dX4_protect_35 : decode cX4_protect 35 = .ok (.iastore, 1) := by decide +kernel
theorem dX4_protect_36 : decode cX4_protect 36 = .ok (.iload_n 1, 1) := by decide +kernel
theorem dX4_protect_37 : decode cX4_protect 37 = .ok (.iconst 1, 1) := by decide +kernel
theorem dX4_protect_38 : decode cX4_protect 38 = .ok (.iadd, 1) := by decide +kernel
theorem dX4_protect_39 : decode cX4_protect 39 = .ok (.aload_n 0, 1) := by decide +kernel
theorem dX4_protect_40 : decode cX4_protect 40 = .ok (.getfield 19, 3) := by decide +kernel
theorem dX4_protect_43 : decode cX4_protect 43 = .ok (.iload_n 2, 1) := by decide +kernel
theorem dX4_protect_44 : decode cX4_protect 44 = .ok (.iaload, 1) := by decide +kernel
theorem dX4_protect_45 : decode cX4_protect 45 = .ok (.ifCond .le 7, 3) := by decide +kernel
theorem dX4_protect_48 : decode cX4_protect 48 = .ok (.iconst 1, 1) := by decide +kernel
theorem dX4_protect_49 : decode cX4_protect 49 = .ok (.goto 4, 3) := by decide +kernel
theorem dX4_protect_52 : decode cX4_protect 52 = .ok (.iconst 0, 1) := by decide +kernel
theorem dX4_protect_53 : decode cX4_protect 53 = .ok (.iadd, 1) := by decide +kernel
theorem dX4_protect_54 : decode cX4_protect 54 = .ok (.aload_n 0, 1) := by decide +kernel
theorem dX4_protect_55 : decode cX4_protect 55 = .ok (.getfield 7, 3) := by decide +kernel
theorem dX4_protect_58 : decode cX4_protect 58 = .ok (.iconst 3, 1) := by decide +kernel
theorem dX4_protect_59 : decode cX4_protect 59 = .ok (.iload_n 2, 1) := by decide +kernel
theorem dX4_protect_60 : decode cX4_protect 60 = .ok (.imul, 1) := by decide +kernel
theorem dX4_protect_61 : decode cX4_protect 61 = .ok (.iaload, 1) := by decide +kernel
theorem dX4_protect_62 : decode cX4_protect 62 = .ok (.bipush 8, 2) := by decide +kernel
theorem dX4_protect_64 : decode cX4_protect 64 = .ok (.if_icmp .ne 7, 3) := by decide +kernel
theorem dX4_protect_67 : decode cX4_protect 67 = .ok (.iconst 1, 1) := by decide +kernel
theorem dX4_protect_68 : decode cX4_protect 68 = .ok (.goto 4, 3) := by decide +kernel
theorem dX4_protect_71 : decode cX4_protect 71 = .ok (.iconst 0, 1) := by decide +kernel
theorem dX4_protect_72 : decode cX4_protect 72 = .ok (.iadd, 1) := by decide +kernel
theorem dX4_protect_73 : decode cX4_protect 73 = .ok (.istore_n 1, 1) := by decide +kernel
theorem dX4_protect_74 : decode cX4_protect 74 = .ok (.iinc 2 1, 3) := by decide +kernel
theorem dX4_protect_77 : decode cX4_protect 77 = .ok (.goto (-56), 3) := by decide +kernel
theorem dX4_protect_80 : decode cX4_protect 80 = .ok (.iconst 0, 1) := by decide +kernel
theorem dX4_protect_81 : decode cX4_protect 81 = .ok (.istore_n 2, 1) := by decide +kernel
theorem dX4_protect_82 : decode cX4_protect 82 = .ok (.iload_n 2, 1) := by decide +kernel
theorem dX4_protect_83 : decode cX4_protect 83 = .ok (.aload_n 0, 1) := by decide +kernel
theorem dX4_protect_84 : decode cX4_protect 84 = .ok (.getfield 52, 3) := by decide +kernel
theorem dX4_protect_87 : decode cX4_protect 87 = .ok (.if_icmp .ge 145, 3) := by decide +kernel
theorem dX4_protect_90 : decode cX4_protect 90 = .ok (.aload_n 0, 1) := by decide +kernel
theorem dX4_protect_91 : decode cX4_protect 91 = .ok (.getfield 7, 3) := by decide +kernel
theorem dX4_protect_94 : decode cX4_protect 94 = .ok (.iconst 3, 1) := by decide +kernel
theorem dX4_protect_95 : decode cX4_protect 95 = .ok (.iload_n 2, 1) := by decide +kernel
theorem dX4_protect_96 : decode cX4_protect 96 = .ok (.imul, 1) := by decide +kernel
theorem dX4_protect_97 : decode cX4_protect 97 = .ok (.iaload, 1) := by decide +kernel
theorem dX4_protect_98 : decode cX4_protect 98 = .ok (.istore_n 3, 1) := by decide +kernel
theorem dX4_protect_99 : decode cX4_protect 99 = .ok (.aload_n 0, 1) := by decide +kernel
theorem dX4_protect_100 : decode cX4_protect 100 = .ok (.getfield 7, 3) := by decide +kernel
theorem dX4_protect_103 : decode cX4_protect 103 = .ok (.iconst 3, 1) := by decide +kernel
theorem dX4_protect_104 : decode cX4_protect 104 = .ok (.iload_n 2, 1) := by decide +kernel
theorem dX4_protect_105 : decode cX4_protect 105 = .ok (.imul, 1) := by decide +kernel
theorem dX4_protect_106 : decode cX4_protect 106 = .ok (.iconst 1, 1) := by decide +kernel
theorem dX4_protect_107 : decode cX4_protect 107 = .ok (.iadd, 1) := by decide +kernel
theorem dX4_protect_108 : decode cX4_protect 108 = .ok (.iaload, 1) := by decide +kernel
theorem dX4_protect_109 : decode cX4_protect 109 = .ok (.istore 4, 2) := by decide +kernel
theorem dX4_protect_111 : decode cX4_protect 111 = .ok (.aload_n 0, 1) := by decide +kernel
theorem dX4_protect_112 : decode cX4_protect 112 = .ok (.getfield 7, 3) := by decide +kernel
theorem dX4_protect_115 : decode cX4_protect 115 = .ok (.iconst 3, 1) := by decide +kernel
theorem dX4_protect_116 : decode cX4_protect 116 = .ok (.iload_n 2, 1) := by decide +kernel
theorem dX4_protect_117 : decode cX4_protect 117 = .ok (.imul, 1) := by decide +kernel
theorem dX4_protect_118 : decode cX4_protect 118 = .ok (.iconst 2, 1) := by decide +kernel
theorem dX4_protect_119 : decode cX4_protect 119 = .ok (.iadd, 1) := by decide +kernel
theorem dX4_protect_120 : decode cX4_protect 120 = .ok (.iaload, 1) := by decide +kernel
theorem dX4_protect_121 : decode cX4_protect 121 = .ok (.istore 5, 2) := by decide +kernel
theorem dX4_protect_123 : decode cX4_protect 123 = .ok (.aload_n 0, 1) := by decide +kernel
theorem dX4_protect_124 : decode cX4_protect 124 = .ok (.getfield 19, 3) := by decide +kernel
theorem dX4_protect_127 : decode cX4_protect 127 = .ok (.iload_n 2, 1) := by decide +kernel
theorem dX4_protect_128 : decode cX4_protect 128 = .ok (.iaload, 1) := by decide +kernel
theorem dX4_protect_129 : decode cX4_protect 129 = .ok (.ifCond .le 16, 3) := by decide +kernel
theorem dX4_protect_132 : decode cX4_protect 132 = .ok (.aload_n 0, 1) := by decide +kernel
theorem dX4_protect_133 : decode cX4_protect 133 = .ok (.bipush 10, 2) := by decide +kernel
theorem dX4_protect_135 : decode cX4_protect 135 = .ok (.aload_n 0, 1) := by decide +kernel
theorem dX4_protect_136 : decode cX4_protect 136 = .ok (.getfield 19, 3) := by decide +kernel
theorem dX4_protect_139 : decode cX4_protect 139 = .ok (.iload_n 2, 1) := by decide +kernel
theorem dX4_protect_140 : decode cX4_protect 140 = .ok (.iaload, 1) := by decide +kernel
theorem dX4_protect_141 : decode cX4_protect 141 = .ok (.iconst 0, 1) := by decide +kernel
theorem dX4_protect_142 : decode cX4_protect 142 = .ok (.invokevirtual 68, 3) := by decide +kernel
theorem dX4_protect_145 : decode cX4_protect 145 = .ok (.iload_n 3, 1) := by decide +kernel
theorem dX4_protect_146 : decode cX4_protect 146 = .ok (.bipush 8, 2) := by decide +kernel
theorem dX4_protect_148 : decode cX4_protect 148 = .ok (.if_icmp .ne 17, 3) := by decide +kernel
theorem dX4_protect_151 : decode cX4_protect 151 = .ok (.aload_n 0, 1) := by decide +kernel
theorem dX4_protect_152 : decode cX4_protect 152 = .ok (.bipush 11, 2) := by decide +kernel
theorem dX4_protect_154 : decode cX4_protect 154 = .ok (.iload 4, 2) := by decide +kernel
theorem dX4_protect_156 : decode cX4_protect 156 = .ok (.aload_n 0, 1) := by decide +kernel
theorem dX4_protect_157 : decode cX4_protect 157 = .ok (.getfield 22, 3) := by decide +kernel
theorem dX4_protect_160 : decode cX4_protect 160 = .ok (.iload_n 2, 1) := by decide +kernel
theorem dX4_protect_161 : decode cX4_protect 161 = .ok (.iaload, 1) := by decide +kernel
theorem dX4_protect_162 : decode cX4_protect 162 = .ok (.invokevirtual 68, 3) := by decide +kernel
theorem dX4_protect_165 : decode cX4_protect 165 = .ok (.iload_n 3, 1) := by decide +kernel
theorem dX4_protect_166 : decode cX4_protect 166 = .ok (.bipush 6, 2) := by decide +kernel
theorem dX4_protect_168 : decode cX4_protect 168 = .ok (.if_icmp .ne 20, 3) := by decide +kernel
theorem dX4_protect_171 : decode cX4_protect 171 = .ok (.aload_n 0, 1) := by decide +kernel
theorem dX4_protect_172 : decode cX4_protect 172 = .ok (.iload_n 3, 1) := by decide +kernel
theorem dX4_protect_173 : decode cX4_protect 173 = .ok (.aload_n 0, 1) := by decide +kernel
theorem dX4_protect_174 : decode cX4_protect 174 = .ok (.getfield 25, 3) := by decide +kernel
theorem dX4_protect_177 : decode cX4_protect 177 = .ok (.iload 4, 2) := by decide +kernel
theorem dX4_protect_179 : decode cX4_protect 179 = .ok (.iaload, 1) := by decide +kernel
theorem dX4_protect_180 : decode cX4_protect 180 = .ok (.iload 5, 2) := by decide +kernel
theorem dX4_protect_182 : decode cX4_protect 182 = .ok (.invokevirtual 68, 3) := by decide +kernel
theorem dX4_protect_185 : decode cX4_protect 185 = .ok (.goto 41, 3) := by decide +kernel
theorem dX4_protect_188 : decode cX4_protect 188 = .ok (.iload_n 3, 1) := by decide +kernel
theorem dX4_protect_189 : decode cX4_protect 189 = .ok (.bipush 7, 2) := by decide +kernel
theorem dX4_protect_191 : decode cX4_protect 191 = .ok (.if_icmp .eq 9, 3) := by decide +kernel
theorem dX4_protect_194 : decode cX4_protect 194 = .ok (.iload_n 3, 1) := by decide +kernel
theorem dX4_protect_195 : decode cX4_protect 195 = .ok (.bipush 9, 2) := by decide +kernel
theorem dX4_protect_197 : decode cX4_protect 197 = .ok (.if_icmp .ne 20, 3) := by decide +kernel
theorem dX4_protect_200 : decode cX4_protect 200 = .ok (.aload_n 0, 1) := by decide +kernel
theorem dX4_protect_201 : decode cX4_protect 201 = .ok (.iload_n 3, 1) := by decide +kernel
theorem dX4_protect_202 : decode cX4_protect 202 = .ok (.iload 4, 2) := by decide +kernel
theorem dX4_protect_204 : decode cX4_protect 204 = .ok (.aload_n 0, 1) := by decide +kernel
theorem dX4_protect_205 : decode cX4_protect 205 = .ok (.getfield 25, 3) := by decide +kernel
theorem dX4_protect_208 : decode cX4_protect 208 = .ok (.iload 5, 2) := by decide +kernel
theorem dX4_protect_210 : decode cX4_protect 210 = .ok (.iaload, 1) := by decide +kernel
theorem dX4_protect_211 : decode cX4_protect 211 = .ok (.invokevirtual 68, 3) := by decide +kernel
theorem dX4_protect_214 : decode cX4_protect 214 = .ok (.goto 12, 3) := by decide +kernel
theorem dX4_protect_217 : decode cX4_protect 217 = .ok (.aload_n 0, 1) := by decide +kernel
theorem dX4_protect_218 : decode cX4_protect 218 = .ok (.iload_n 3, 1) := by decide +kernel
theorem dX4_protect_219 : decode cX4_protect 219 = .ok (.iload 4, 2) := by decide +kernel
theorem dX4_protect_221 : decode cX4_protect 221 = .ok (.iload 5, 2) := by decide +kernel
theorem dX4_protect_223 : decode cX4_protect 223 = .ok (.invokevirtual 68, 3) := by decide +kernel
theorem dX4_protect_226 : decode cX4_protect 226 = .ok (.iinc 2 1, 3) := by decide +kernel
theorem dX4_protect_229 : decode cX4_protect 229 = .ok (.goto (-147), 3) := by decide +kernel
theorem dX4_protect_232 : decode cX4_protect 232 = .ok (.aload_n 0, 1) := by decide +kernel
theorem dX4_protect_233 : decode cX4_protect 233 = .ok (.getfield 45, 3) := by decide +kernel
theorem dX4_protect_236 : decode cX4_protect 236 = .ok (.ireturn, 1) := by decide +kernel
set_option maxRecDepth 20000 in
theorem ggX4_source_X4_within : GoodIn wsX4_source wsX4_within := goodIn_r _ [6] (by decide +kernel) (by decide +kernel)
set_option maxRecDepth 20000 in
theorem gX4_source_X4_within : GoodIn wsX4_source (va_wsS RX4 41 yX4_within wsX4_within) := goodIn_app (goodIn_of _ (by decide +kernel)) ggX4_source_X4_within
theorem dX4_source_0 : decode cX4_source 0 = .ok (.iload_n 1, 1) := by decide +kernel
theorem dX4_source_1 : decode cX4_source 1 = .ok (.aload_n 0, 1) := by decide +kernel
theorem dX4_source_2 : decode cX4_source 2 = .ok (.getfield 52, 3) := by decide +kernel
theorem dX4_source_5 : decode cX4_source 5 = .ok (.iconst 1, 1) := by decide +kernel
theorem dX4_source_6 : decode cX4_source 6 = .ok (.isub, 1) := by decide +kernel
theorem dX4_source_7 : decode cX4_source 7 = .ok (.invokestatic 41, 3) := by decide +kernel
theorem dX4_source_10 : decode cX4_source 10 = .ok (.ifCond .eq 24, 3) := by decide +kernel
theorem dX4_source_13 : decode cX4_source 13 = .ok (.iload_n 2, 1) := by decide +kernel
theorem dX4_source_14 : decode cX4_source 14 = .ok (.iconst 2, 1) := by decide +kernel
theorem dX4_source_15 : decode cX4_source 15 = .ok (.invokestatic 41, 3) := by decide +kernel
theorem dX4_source_18 : decode cX4_source 18 = .ok (.ifCond .eq 16, 3) := by decide +kernel
theorem dX4_source_21 : decode cX4_source 21 = .ok (.aload_n 0, 1) := by decide +kernel
theorem dX4_source_22 : decode cX4_source 22 = .ok (.getfield 7, 3) := by decide +kernel
theorem dX4_source_25 : decode cX4_source 25 = .ok (.iconst 3, 1) := by decide +kernel
theorem dX4_source_26 : decode cX4_source 26 = .ok (.iload_n 1, 1) := by decide +kernel
theorem dX4_source_27 : decode cX4_source 27 = .ok (.imul, 1) := by decide +kernel
theorem dX4_source_28 : decode cX4_source 28 = .ok (.iload_n 2, 1) := by decide +kernel
theorem dX4_source_29 : decode cX4_source 29 = .ok (.iadd, 1) := by decide +kernel
theorem dX4_source_30 : decode cX4_source 30 = .ok (.iaload, 1) := by decide +kernel
theorem dX4_source_31 : decode cX4_source 31 = .ok (.goto 5, 3) := by decide +kernel
theorem dX4_source_34 : decode cX4_source 34 = .ok (.bipush (-9), 2) := by decide +kernel
theorem dX4_source_36 : decode cX4_source 36 = .ok (.ireturn, 1) := by decide +kernel
set_option maxRecDepth 20000 in
theorem ggX4_guarded_X4_within : GoodIn wsX4_guarded wsX4_within := goodIn_r _ [6] (by decide +kernel) (by decide +kernel)
set_option maxRecDepth 20000 in
theorem gX4_guarded_X4_within : GoodIn wsX4_guarded (va_wsS RX4 41 yX4_within wsX4_within) := goodIn_app (goodIn_of _ (by decide +kernel)) ggX4_guarded_X4_within
theorem dX4_guarded_0 : decode cX4_guarded 0 = .ok (.iload_n 1, 1) := by decide +kernel
theorem dX4_guarded_1 : decode cX4_guarded 1 = .ok (.aload_n 0, 1) := by decide +kernel
theorem dX4_guarded_2 : decode cX4_guarded 2 = .ok (.getfield 45, 3) := by decide +kernel
theorem dX4_guarded_5 : decode cX4_guarded 5 = .ok (.iconst 1, 1) := by decide +kernel
theorem dX4_guarded_6 : decode cX4_guarded 6 = .ok (.isub, 1) := by decide +kernel
theorem dX4_guarded_7 : decode cX4_guarded 7 = .ok (.invokestatic 41, 3) := by decide +kernel
theorem dX4_guarded_10 : decode cX4_guarded 10 = .ok (.ifCond .eq 27, 3) := by decide +kernel
theorem dX4_guarded_13 : decode cX4_guarded 13 = .ok (.iload_n 2, 1) := by decide +kernel
theorem dX4_guarded_14 : decode cX4_guarded 14 = .ok (.iconst 2, 1) := by decide +kernel
theorem dX4_guarded_15 : decode cX4_guarded 15 = .ok (.invokestatic 41, 3) := by decide +kernel
theorem dX4_guarded_18 : decode cX4_guarded 18 = .ok (.ifCond .eq 19, 3) := by decide +kernel
theorem dX4_guarded_21 : decode cX4_guarded 21 = .ok (.aload_n 0, 1) := by decide +kernel
theorem dX4_guarded_22 : decode cX4_guarded 22 = .ok (.getfield 7, 3) := by decide +kernel
theorem dX4_guarded_25 : decode cX4_guarded 25 = .ok (.bipush 72, 2) := by decide +kernel
theorem dX4_guarded_27 : decode cX4_guarded 27 = .ok (.iconst 3, 1) := by decide +kernel
theorem dX4_guarded_28 : decode cX4_guarded 28 = .ok (.iload_n 1, 1) := by decide +kernel
theorem dX4_guarded_29 : decode cX4_guarded 29 = .ok (.imul, 1) := by decide +kernel
theorem dX4_guarded_30 : decode cX4_guarded 30 = .ok (.iadd, 1) := by decide +kernel
theorem dX4_guarded_31 : decode cX4_guarded 31 = .ok (.iload_n 2, 1) := by decide +kernel
theorem dX4_guarded_32 : decode cX4_guarded 32 = .ok (.iadd, 1) := by decide +kernel
theorem dX4_guarded_33 : decode cX4_guarded 33 = .ok (.iaload, 1) := by decide +kernel
theorem dX4_guarded_34 : decode cX4_guarded 34 = .ok (.goto 5, 3) := by decide +kernel
theorem dX4_guarded_37 : decode cX4_guarded 37 = .ok (.bipush (-9), 2) := by decide +kernel
theorem dX4_guarded_39 : decode cX4_guarded 39 = .ok (.ireturn, 1) := by decide +kernel
set_option maxRecDepth 20000 in
theorem ggX4_place_X4_within : GoodIn wsX4_place wsX4_within := goodIn_r _ [7] (by decide +kernel) (by decide +kernel)
set_option maxRecDepth 20000 in
theorem gX4_place_X4_within : GoodIn wsX4_place (va_wsS RX4 41 yX4_within wsX4_within) := goodIn_app (goodIn_of _ (by decide +kernel)) ggX4_place_X4_within
theorem dX4_place_0 : decode cX4_place 0 = .ok (.iload_n 1, 1) := by decide +kernel
theorem dX4_place_1 : decode cX4_place 1 = .ok (.aload_n 0, 1) := by decide +kernel
theorem dX4_place_2 : decode cX4_place 2 = .ok (.getfield 52, 3) := by decide +kernel
theorem dX4_place_5 : decode cX4_place 5 = .ok (.iconst 1, 1) := by decide +kernel
theorem dX4_place_6 : decode cX4_place 6 = .ok (.isub, 1) := by decide +kernel
theorem dX4_place_7 : decode cX4_place 7 = .ok (.invokestatic 41, 3) := by decide +kernel
theorem dX4_place_10 : decode cX4_place 10 = .ok (.ifCond .eq 19, 3) := by decide +kernel
theorem dX4_place_13 : decode cX4_place 13 = .ok (.aload_n 0, 1) := by decide +kernel
theorem dX4_place_14 : decode cX4_place 14 = .ok (.getfield 45, 3) := by decide +kernel
theorem dX4_place_17 : decode cX4_place 17 = .ok (.ifCond .le 12, 3) := by decide +kernel
theorem dX4_place_20 : decode cX4_place 20 = .ok (.aload_n 0, 1) := by decide +kernel
theorem dX4_place_21 : decode cX4_place 21 = .ok (.getfield 25, 3) := by decide +kernel
theorem dX4_place_24 : decode cX4_place 24 = .ok (.iload_n 1, 1) := by decide +kernel
theorem dX4_place_25 : decode cX4_place 25 = .ok (.iaload, 1) := by decide +kernel
theorem dX4_place_26 : decode cX4_place 26 = .ok (.goto 4, 3) := by decide +kernel
theorem dX4_place_29 : decode cX4_place 29 = .ok (.iconst (-1), 1) := by decide +kernel
theorem dX4_place_30 : decode cX4_place 30 = .ok (.ireturn, 1) := by decide +kernel
set_option maxRecDepth 20000 in
theorem ggX4_label_X4_within : GoodIn wsX4_label wsX4_within := goodIn_r _ [6] (by decide +kernel) (by decide +kernel)
set_option maxRecDepth 20000 in
theorem gX4_label_X4_within : GoodIn wsX4_label (va_wsS RX4 41 yX4_within wsX4_within) := goodIn_app (goodIn_of _ (by decide +kernel)) ggX4_label_X4_within
set_option maxRecDepth 20000 in
theorem ggX4_label_X4_classes : GoodIn wsX4_label wsX4_classes := goodIn_r _ [10, 2, 11, 12, 13, 14, 15, 16, 17, 18, 19, 20, 21, 22, 23, 24, 25, 26, 27, 28, 29, 30, 31] (by decide +kernel) (by decide +kernel)
set_option maxRecDepth 20000 in
theorem gX4_label_X4_classes : GoodIn wsX4_label (wsV RX4 65 RX4 yX4_classes wsX4_classes) := goodIn_app (goodIn_of _ (by decide +kernel)) ggX4_label_X4_classes
theorem dX4_label_0 : decode cX4_label 0 = .ok (.iload_n 1, 1) := by decide +kernel
theorem dX4_label_1 : decode cX4_label 1 = .ok (.aload_n 0, 1) := by decide +kernel
theorem dX4_label_2 : decode cX4_label 2 = .ok (.getfield 52, 3) := by decide +kernel
theorem dX4_label_5 : decode cX4_label 5 = .ok (.iconst 1, 1) := by decide +kernel
theorem dX4_label_6 : decode cX4_label 6 = .ok (.isub, 1) := by decide +kernel
theorem dX4_label_7 : decode cX4_label 7 = .ok (.invokestatic 41, 3) := by decide +kernel
theorem dX4_label_10 : decode cX4_label 10 = .ok (.ifCond .ne 5, 3) := by decide +kernel
theorem dX4_label_13 : decode cX4_label 13 = .ok (.iconst (-1), 1) := by decide +kernel
theorem dX4_label_14 : decode cX4_label 14 = .ok (.ireturn, 1) := by decide +kernel
theorem dX4_label_15 : decode cX4_label 15 = .ok (.aload_n 0, 1) := by decide +kernel
theorem dX4_label_16 : decode cX4_label 16 = .ok (.invokevirtual 65, 3) := by decide +kernel
theorem dX4_label_19 : decode cX4_label 19 = .ok (.aload_n 0, 1) := by decide +kernel
theorem dX4_label_20 : decode cX4_label 20 = .ok (.getfield 19, 3) := by decide +kernel
theorem dX4_label_23 : decode cX4_label 23 = .ok (.iload_n 1, 1) := by decide +kernel
theorem dX4_label_24 : decode cX4_label 24 = .ok (.iaload, 1) := by decide +kernel
theorem dX4_label_25 : decode cX4_label 25 = .ok (.ireturn, 1) := by decide +kernel
theorem dX4_start_0 : decode cX4_start 0 = .ok (.aload_n 0, 1) := by decide +kernel
theorem dX4_start_1 : decode cX4_start 1 = .ok (.getfield 45, 3) := by decide +kernel
theorem dX4_start_4 : decode cX4_start 4 = .ok (.ifCond .ne 5, 3) := by decide +kernel
theorem dX4_start_7 : decode cX4_start 7 = .ok (.iconst 0, 1) := by decide +kernel
theorem dX4_start_8 : decode cX4_start 8 = .ok (.ireturn, 1) := by decide +kernel
theorem dX4_start_9 : decode cX4_start 9 = .ok (.aload_n 0, 1) := by decide +kernel
theorem dX4_start_10 : decode cX4_start 10 = .ok (.iload_n 1, 1) := by decide +kernel
theorem dX4_start_11 : decode cX4_start 11 = .ok (.ifCond .eq 8, 3) := by decide +kernel
theorem dX4_start_14 : decode cX4_start 14 = .ok (.bipush 72, 2) := by decide +kernel
theorem dX4_start_16 : decode cX4_start 16 = .ok (.goto 4, 3) := by decide +kernel
theorem dX4_start_19 : decode cX4_start 19 = .ok (.iconst 0, 1) := by decide +kernel
theorem dX4_start_20 : decode cX4_start 20 = .ok (.putfield 72, 3) := by decide +kernel
theorem dX4_start_23 : decode cX4_start 23 = .ok (.aload_n 0, 1) := by decide +kernel
theorem dX4_start_24 : decode cX4_start 24 = .ok (.iload_n 1, 1) := by decide +kernel
theorem dX4_start_25 : decode cX4_start 25 = .ok (.ifCond .eq 10, 3) := by decide +kernel
theorem dX4_start_28 : decode cX4_start 28 = .ok (.aload_n 0, 1) := by decide +kernel
theorem dX4_start_29 : decode cX4_start 29 = .ok (.getfield 45, 3) := by decide +kernel
theorem dX4_start_32 : decode cX4_start 32 = .ok (.goto 7, 3) := by decide +kernel
theorem dX4_start_35 : decode cX4_start 35 = .ok (.aload_n 0, 1) := by decide +kernel
theorem dX4_start_36 : decode cX4_start 36 = .ok (.getfield 52, 3) := by decide +kernel
theorem dX4_start_39 : decode cX4_start 39 = .ok (.putfield 75, 3) := by decide +kernel
theorem dX4_start_42 : decode cX4_start 42 = .ok (.iconst 0, 1) := by decide +kernel
theorem dX4_start_43 : decode cX4_start 43 = .ok (.istore_n 2, 1) := by decide +kernel
theorem dX4_start_44 : decode cX4_start 44 = .ok (.iload_n 2, 1) := by decide +kernel
theorem dX4_start_45 : decode cX4_start 45 = .ok (.iconst 4, 1) := by decide +kernel
theorem dX4_start_46 : decode cX4_start 46 = .ok (.if_icmp .ge 16, 3) := by decide +kernel
theorem dX4_start_49 : decode cX4_start 49 = .ok (.aload_n 0, 1) := by decide +kernel
theorem dX4_start_50 : decode cX4_start 50 = .ok (.getfield 28, 3) := by decide +kernel
theorem dX4_start_53 : decode cX4_start 53 = .ok (.iload_n 2, 1) := by decide +kernel
theorem dX4_start_54 : decode cX4_start 54 = .ok (.iconst 0, 1) := by decide +kernel
theorem dX4_start_55 : decode cX4_start 55 = .ok (.iastore, 1) := by decide +kernel
theorem dX4_start_56 : decode cX4_start 56 = .ok (.iinc 2 1, 3) := by decide +kernel
theorem dX4_start_59 : decode cX4_start 59 = .ok (.goto (-15), 3) := by decide +kernel
theorem dX4_start_62 : decode cX4_start 62 = .ok (.iconst 0, 1) := by decide +kernel
theorem dX4_start_63 : decode cX4_start 63 = .ok (.istore_n 2, 1) := by decide +kernel
theorem dX4_start_64 : decode cX4_start 64 = .ok (.iload_n 2, 1) := by decide +kernel
theorem dX4_start_65 : decode cX4_start 65 = .ok (.bipush 16, 2) := by decide +kernel
theorem dX4_start_67 : decode cX4_start 67 = .ok (.if_icmp .ge 16, 3) := by decide +kernel
theorem dX4_start_70 : decode cX4_start 70 = .ok (.aload_n 0, 1) := by decide +kernel
theorem dX4_start_71 : decode cX4_start 71 = .ok (.getfield 31, 3) := by decide +kernel
theorem dX4_start_74 : decode cX4_start 74 = .ok (.iload_n 2, 1) := by decide +kernel
theorem dX4_start_75 : decode cX4_start 75 = .ok (.iconst 0, 1) := by decide +kernel
theorem dX4_start_76 : decode cX4_start 76 = .ok (.iastore, 1) := by decide +kernel
theorem dX4_start_77 : decode cX4_start 77 = .ok (.iinc 2 1, 3) := by decide +kernel
theorem dX4_start_80 : decode cX4_start 80 = .ok (.goto (-16), 3) := by decide +kernel
theorem dX4_start_83 : decode cX4_start 83 = .ok (.aload_n 0, 1) := by decide +kernel
theorem dX4_start_84 : decode cX4_start 84 = .ok (.iconst 0, 1) := by decide +kernel
theorem dX4_start_85 : decode cX4_start 85 = .ok (.putfield 78, 3) := by decide +kernel
theorem dX4_start_88 : decode cX4_start 88 = .ok (.aload_n 0, 1) := by decide +kernel
theorem dX4_start_89 : decode cX4_start 89 = .ok (.iconst 0, 1) := by decide +kernel
theorem dX4_start_90 : decode cX4_start 90 = .ok (.putfield 37, 3) := by decide +kernel
theorem dX4_start_93 : decode cX4_start 93 = .ok (.aload_n 0, 1) := by decide +kernel
theorem dX4_start_94 : decode cX4_start 94 = .ok (.iconst 0, 1) := by decide +kernel
theorem dX4_start_95 : decode cX4_start 95 = .ok (.putfield 81, 3) := by decide +kernel
theorem dX4_start_98 : decode cX4_start 98 = .ok (.iconst 1, 1) := by decide +kernel
theorem dX4_start_99 : decode cX4_start 99 = .ok (.ireturn, 1) := by decide +kernel
set_option maxRecDepth 20000 in
theorem ggX4_step_X4_within : GoodIn wsX4_step wsX4_within := goodIn_r _ [13] (by decide +kernel) (by decide +kernel)
set_option maxRecDepth 20000 in
theorem gX4_step_X4_within : GoodIn wsX4_step (va_wsS RX4 41 yX4_within wsX4_within) := goodIn_app (goodIn_of _ (by decide +kernel)) ggX4_step_X4_within
theorem dX4_step_0 : decode cX4_step 0 = .ok (.aload_n 0, 1) := by decide +kernel
theorem dX4_step_1 : decode cX4_step 1 = .ok (.getfield 7, 3) := by decide +kernel
theorem dX4_step_4 : decode cX4_step 4 = .ok (.aload_n 0, 1) := by decide +kernel
theorem dX4_step_5 : decode cX4_step 5 = .ok (.getfield 72, 3) := by decide +kernel
theorem dX4_step_8 : decode cX4_step 8 = .ok (.iconst 3, 1) := by decide +kernel
theorem dX4_step_9 : decode cX4_step 9 = .ok (.aload_n 0, 1) := by decide +kernel
theorem dX4_step_10 : decode cX4_step 10 = .ok (.getfield 78, 3) := by decide +kernel
theorem dX4_step_13 : decode cX4_step 13 = .ok (.imul, 1) := by decide +kernel
theorem dX4_step_14 : decode cX4_step 14 = .ok (.iadd, 1) := by decide +kernel
theorem dX4_step_15 : decode cX4_step 15 = .ok (.iaload, 1) := by decide +kernel
theorem dX4_step_16 : decode cX4_step 16 = .ok (.istore_n 1, 1) := by decide +kernel
theorem dX4_step_17 : decode cX4_step 17 = .ok (.aload_n 0, 1) := by decide +kernel
theorem dX4_step_18 : decode cX4_step 18 = .ok (.getfield 7, 3) := by decide +kernel
theorem dX4_step_21 : decode cX4_step 21 = .ok (.aload_n 0, 1) := by decide +kernel
theorem dX4_step_22 : decode cX4_step 22 = .ok (.getfield 72, 3) := by decide +kernel
theorem dX4_step_25 : decode cX4_step 25 = .ok (.iconst 3, 1) := by decide +kernel
theorem dX4_step_26 : decode cX4_step 26 = .ok (.aload_n 0, 1) := by decide +kernel
theorem dX4_step_27 : decode cX4_step 27 = .ok (.getfield 78, 3) := by decide +kernel
theorem dX4_step_30 : decode cX4_step 30 = .ok (.imul, 1) := by decide +kernel
theorem dX4_step_31 : decode cX4_step 31 = .ok (.iadd, 1) := by decide +kernel
theorem dX4_step_32 : decode cX4_step 32 = .ok (.iconst 1, 1) := by decide +kernel
theorem dX4_step_33 : decode cX4_step 33 = .ok (.iadd, 1) := by decide +kernel
theorem dX4_step_34 : decode cX4_step 34 = .ok (.iaload, 1) := by decide +kernel
theorem dX4_step_35 : decode cX4_step 35 = .ok (.istore_n 2, 1) := by decide +kernel
theorem dX4_step_36 : decode cX4_step 36 = .ok (.aload_n 0, 1) := by decide +kernel
theorem dX4_step_37 : decode cX4_step 37 = .ok (.getfield 7, 3) := by decide +kernel
theorem dX4_step_40 : decode cX4_step 40 = .ok (.aload_n 0, 1) := by decide +kernel
theorem dX4_step_41 : decode cX4_step 41 = .ok (.getfield 72, 3) := by decide +kernel
theorem dX4_step_44 : decode cX4_step 44 = .ok (.iconst 3, 1) := by decide +kernel
theorem dX4_step_45 : decode cX4_step 45 = .ok (.aload_n 0, 1) := by decide +kernel
theorem dX4_step_46 : decode cX4_step 46 = .ok (.getfield 78, 3) := by decide +kernel
theorem dX4_step_49 : decode cX4_step 49 = .ok (.imul, 1) := by decide +kernel
theorem dX4_step_50 : decode cX4_step 50 = .ok (.iadd, 1) := by decide +kernel
theorem dX4_step_51 : decode cX4_step 51 = .ok (.iconst 2, 1) := by decide +kernel
theorem dX4_step_52 : decode cX4_step 52 = .ok (.iadd, 1) := by decide +kernel
theorem dX4_step_53 : decode cX4_step 53 = .ok (.iaload, 1) := by decide +kernel
theorem dX4_step_54 : decode cX4_step 54 = .ok (.istore_n 3, 1) := by decide +kernel
theorem dX4_step_55 : decode cX4_step 55 = .ok (.aload_n 0, 1) := by decide +kernel
theorem dX4_step_56 : decode cX4_step 56 = .ok (.getfield 78, 3) := by decide +kernel
theorem dX4_step_59 : decode cX4_step 59 = .ok (.iconst 1, 1) := by decide +kernel
theorem dX4_step_60 : decode cX4_step 60 = .ok (.iadd, 1) := by decide +kernel
theorem dX4_step_61 : decode cX4_step 61 = .ok (.istore 4, 2) := by decide +kernel
theorem dX4_step_63 : decode cX4_step 63 = .ok (.iload_n 1, 1) := by decide +kernel
theorem dX4_step_64 : decode cX4_step 64 = .ok (.tableswitch 240 0 10 #[60, 68, 78, 93, 108, 130, 186, 192, 207, 68, 237], 60) := by decide +kernel
theorem dX4_step_124 : decode cX4_step 124 = .ok (.aload_n 0, 1) := by decide +kernel
theorem dX4_step_125 : decode cX4_step 125 = .ok (.iconst 1, 1) := by decide +kernel
theorem dX4_step_126 : decode cX4_step 126 = .ok (.putfield 37, 3) := by decide +kernel
theorem dX4_step_129 : decode cX4_step 129 = .ok (.goto 253, 3) := by decide +kernel
theorem dX4_step_132 : decode cX4_step 132 = .ok (.aload_n 0, 1) := by decide +kernel
theorem dX4_step_133 : decode cX4_step 133 = .ok (.getfield 28, 3) := by decide +kernel
theorem dX4_step_136 : decode cX4_step 136 = .ok (.iload_n 2, 1) := by decide +kernel
theorem dX4_step_137 : decode cX4_step 137 = .ok (.iload_n 3, 1) := by decide +kernel
theorem dX4_step_138 : decode cX4_step 138 = .ok (.iastore, 1) := by decide +kernel
theorem dX4_step_139 : decode cX4_step 139 = .ok (.goto 243, 3) := by decide +kernel
theorem dX4_step_142 : decode cX4_step 142 = .ok (.aload_n 0, 1) := by decide +kernel
theorem dX4_step_143 : decode cX4_step 143 = .ok (.getfield 28, 3) := by decide +kernel
theorem dX4_step_146 : decode cX4_step 146 = .ok (.iload_n 2, 1) := by decide +kernel
theorem dX4_step_147 : decode cX4_step 147 = .ok (.aload_n 0, 1) := by decide +kernel
theorem dX4_step_148 : decode cX4_step 148 = .ok (.getfield 31, 3) := by decide +kernel
theorem dX4_step_151 : decode cX4_step 151 = .ok (.iload_n 3, 1) := by decide +kernel
theorem dX4_step_152 : decode cX4_step 152 = .ok (.iaload, 1) := by decide +kernel
theorem dX4_step_153 : decode cX4_step 153 = .ok (.iastore, 1) := by decide +kernel
theorem dX4_step_154 : decode cX4_step 154 = .ok (.goto 228, 3) := by decide +kernel
theorem dX4_step_157 : decode cX4_step 157 = .ok (.aload_n 0, 1) := by decide +kernel
theorem dX4_step_158 : decode cX4_step 158 = .ok (.getfield 31, 3) := by decide +kernel
theorem dX4_step_161 : decode cX4_step 161 = .ok (.iload_n 3, 1) := by decide +kernel
theorem dX4_step_162 : decode cX4_step 162 = .ok (.aload_n 0, 1) := by decide +kernel
theorem dX4_step_163 : decode cX4_step 163 = .ok (.getfield 28, 3) := by decide +kernel
theorem dX4_step_166 : decode cX4_step 166 = .ok (.iload_n 2, 1) := by decide +kernel
theorem dX4_step_167 : decode cX4_step 167 = .ok (.iaload, 1) := by decide +kernel
theorem dX4_step_168 : decode cX4_step 168 = .ok (.iastore, 1) := by decide +kernel
theorem dX4_step_169 : decode cX4_step 169 = .ok (.goto 213, 3) := by decide +kernel
theorem dX4_step_172 : decode cX4_step 172 = .ok (.aload_n 0, 1) := by decide +kernel
theorem dX4_step_173 : decode cX4_step 173 = .ok (.getfield 28, 3) := by decide +kernel
theorem dX4_step_176 : decode cX4_step 176 = .ok (.iload_n 2, 1) := by decide +kernel
theorem dX4_step_177 : decode cX4_step 177 = .ok (.aload_n 0, 1) := by decide +kernel
theorem dX4_step_178 : decode cX4_step 178 = .ok (.getfield 28, 3) := by decide +kernel
theorem dX4_step_181 : decode cX4_step 181 = .ok (.iload_n 2, 1) := by decide +kernel
theorem dX4_step_182 : decode cX4_step 182 = .ok (.iaload, 1) := by decide +kernel
theorem dX4_step_183 : decode cX4_step 183 = .ok (.aload_n 0, 1) := by decide +kernel
theorem dX4_step_184 : decode cX4_step 184 = .ok (.getfield 28, 3) := by decide +kernel
theorem dX4_step_187 : decode cX4_step 187 = .ok (.iload_n 3, 1) := by decide +kernel
theorem dX4_step_188 : decode cX4_step 188 = .ok (.iaload, 1) := by decide +kernel
theorem dX4_step_189 : decode cX4_step 189 = .ok (.iadd, 1) := by decide +kernel
theorem dX4_step_190 : decode cX4_step 190 = .ok (.iastore, 1) := by decide +kernel
theorem dX4_step_191 : decode cX4_step 191 = .ok (.goto 191, 3) := by decide +kernel
theorem dX4_step_194 : decode cX4_step 194 = .ok (.bipush 7, 2) := by decide +kernel
theorem dX4_step_196 : decode cX4_step 196 = .ok (.istore 5, 2) := by decide +kernel
theorem dX4_step_198 : decode cX4_step 198 = .ok (.iload 5, 2) := by decide +kernel
theorem dX4_step_200 : decode cX4_step 200 = .ok (.ifCond .le 25, 3) := by decide +kernel
theorem dX4_step_203 : decode cX4_step 203 = .ok (.aload_n 0, 1) := by decide +kernel
theorem dX4_step_204 : decode cX4_step 204 = .ok (.getfield 34, 3) := by decide +kernel
theorem dX4_step_207 : decode cX4_step 207 = .ok (.iload 5, 2) := by decide +kernel
theorem dX4_step_209 : decode cX4_step 209 = .ok (.aload_n 0, 1) := by decide +kernel
theorem dX4_step_210 : decode cX4_step 210 = .ok (.getfield 34, 3) := by decide +kernel
theorem dX4_step_213 : decode cX4_step 213 = .ok (.iload 5, 2) := by decide +kernel
theorem dX4_step_215 : decode cX4_step 215 = .ok (.iconst 1, 1) := by decide +kernel
theorem dX4_step_216 : decode cX4_step 216 = .ok (.isub, 1) := by decide +kernel
theorem dX4_step_217 : decode cX4_step 217 = .ok (.iaload, 1) := by decide +kernel
theorem dX4_step_218 : decode cX4_step 218 = .ok (.iastore, 1) := by decide +kernel
theorem dX4_step_219 : decode cX4_step 219 = .ok (.iinc 5 (-1), 3) := by decide +kernel
theorem dX4_step_222 : decode cX4_step 222 = .ok (.goto (-24), 3) := by decide +kernel
theorem dX4_step_225 : decode cX4_step 225 = .ok (.aload_n 0, 1) := by decide +kernel
theorem dX4_step_226 : decode cX4_step 226 = .ok (.getfield 34, 3) := by decide +kernel
theorem dX4_step_229 : decode cX4_step 229 = .ok (.iconst 0, 1) := by decide +kernel
theorem dX4_step_230 : decode cX4_step 230 = .ok (.aload_n 0, 1) := by decide +kernel
theorem dX4_step_231 : decode cX4_step 231 = .ok (.getfield 28, 3) := by decide +kernel
theorem dX4_step_234 : decode cX4_step 234 = .ok (.iload_n 2, 1) := by decide +kernel
theorem dX4_step_235 : decode cX4_step 235 = .ok (.iaload, 1) := by decide +kernel
theorem dX4_step_236 : decode cX4_step 236 = .ok (.iastore, 1) := by decide +kernel
theorem dX4_step_237 : decode cX4_step 237 = .ok (.aload_n 0, 1) := by decide +kernel
theorem dX4_step_238 : decode cX4_step 238 = .ok (.aload_n 0, 1) := by decide +kernel
theorem dX4_step_239 : decode cX4_step 239 = .ok (.getfield 81, 3) := by decide +kernel
theorem dX4_step_242 : decode cX4_step 242 = .ok (.iconst 1, 1) := by decide +kernel
theorem dX4_step_243 : decode cX4_step 243 = .ok (.iadd, 1) := by decide +kernel
theorem dX4_step_244 : decode cX4_step 244 = .ok (.putfield 81, 3) := by decide +kernel
theorem dX4_step_247 : decode cX4_step 247 = .ok (.goto 135, 3) := by decide +kernel
theorem dX4_step_250 : decode cX4_step 250 = .ok (.iload_n 2, 1) := by decide +kernel
theorem dX4_step_251 : decode cX4_step 251 = .ok (.istore 4, 2) := by decide +kernel
theorem dX4_step_253 : decode cX4_step 253 = .ok (.goto 129, 3) := by decide +kernel
theorem dX4_step_256 : decode cX4_step 256 = .ok (.aload_n 0, 1) := by decide +kernel
theorem dX4_step_257 : decode cX4_step 257 = .ok (.getfield 28, 3) := by decide +kernel
theorem dX4_step_260 : decode cX4_step 260 = .ok (.iload_n 2, 1) := by decide +kernel
theorem dX4_step_261 : decode cX4_step 261 = .ok (.iaload, 1) := by decide +kernel
theorem dX4_step_262 : decode cX4_step 262 = .ok (.ifCond .ne 120, 3) := by decide +kernel
theorem dX4_step_265 : decode cX4_step 265 = .ok (.iload_n 3, 1) := by decide +kernel
theorem dX4_step_266 : decode cX4_step 266 = .ok (.istore 4, 2) := by decide +kernel
theorem dX4_step_268 : decode cX4_step 268 = .ok (.goto 114, 3) := by decide +kernel
theorem dX4_step_271 : decode cX4_step 271 = .ok (.aload_n 0, 1) := by decide +kernel
theorem dX4_step_272 : decode cX4_step 272 = .ok (.getfield 28, 3) := by decide +kernel
theorem dX4_step_275 : decode cX4_step 275 = .ok (.iload_n 2, 1) := by decide +kernel
theorem dX4_step_276 : decode cX4_step 276 = .ok (.iaload, 1) := by decide +kernel
theorem dX4_step_277 : decode cX4_step 277 = .ok (.istore 4, 2) := by decide +kernel
theorem dX4_step_279 : decode cX4_step 279 = .ok (.iload 4, 2) := by decide +kernel
theorem dX4_step_281 : decode cX4_step 281 = .ok (.aload_n 0, 1) := by decide +kernel
theorem dX4_step_282 : decode cX4_step 282 = .ok (.getfield 75, 3) := by decide +kernel
theorem dX4_step_285 : decode cX4_step 285 = .ok (.iconst 1, 1) := by decide +kernel
theorem dX4_step_286 : decode cX4_step 286 = .ok (.isub, 1) := by decide +kernel
theorem dX4_step_287 : decode cX4_step 287 = .ok (.invokestatic 41, 3) := by decide +kernel
theorem dX4_step_290 : decode cX4_step 290 = .ok (.ifCond .ne 92, 3) := by decide +kernel
theorem dX4_step_293 : decode cX4_step 293 = .ok (.aload_n 0, 1) := by decide +kernel
theorem dX4_step_294 : decode cX4_step 294 = .ok (.iconst 3, 1) := by decide +kernel
theorem dX4_step_295 : decode cX4_step 295 = .ok (.putfield 37, 3) := by decide +kernel
theorem dX4_step_298 : decode cX4_step 298 = .ok (.goto 84, 3) := by decide +kernel
theorem dX4_step_301 : decode cX4_step 301 = .ok (.goto 81, 3) := by decide +kernel
theorem dX4_step_304 : decode cX4_step 304 = .ok (.aload_n 0, 1) := by decide +kernel
theorem dX4_step_305 : decode cX4_step 305 = .ok (.getfield 28, 3) := by decide +kernel
theorem dX4_step_308 : decode cX4_step 308 = .ok (.iload_n 2, 1) := by decide +kernel
theorem dX4_step_309 : decode cX4_step 309 = .ok (.iaload, 1) := by decide +kernel
theorem dX4_step_310 : decode cX4_step 310 = .ok (.istore 5, 2) := by decide +kernel
theorem dX4_step_312 : decode cX4_step 312 = .ok (.iload 5, 2) := by decide +kernel
theorem dX4_step_314 : decode cX4_step 314 = .ok (.aload_n 0, 1) := by decide +kernel
theorem dX4_step_315 : decode cX4_step 315 = .ok (.getfield 75, 3) := by decide +kernel
theorem dX4_step_318 : decode cX4_step 318 = .ok (.iconst 1, 1) := by decide +kernel
theorem dX4_step_319 : decode cX4_step 319 = .ok (.isub, 1) := by decide +kernel
theorem dX4_step_320 : decode cX4_step 320 = .ok (.invokestatic 41, 3) := by decide +kernel
theorem dX4_step_323 : decode cX4_step 323 = .ok (.ifCond .eq 46, 3) := by decide +kernel
theorem dX4_step_326 : decode cX4_step 326 = .ok (.aload_n 0, 1) := by decide +kernel
theorem dX4_step_327 : decode cX4_step 327 = .ok (.getfield 7, 3) := by decide +kernel
theorem dX4_step_330 : decode cX4_step 330 = .ok (.aload_n 0, 1) := by decide +kernel
theorem dX4_step_331 : decode cX4_step 331 = .ok (.getfield 72, 3) := by decide +kernel
theorem dX4_step_334 : decode cX4_step 334 = .ok (.iconst 3, 1) := by decide +kernel
theorem dX4_step_335 : decode cX4_step 335 = .ok (.iload 5, 2) := by decide +kernel
theorem dX4_step_337 : decode cX4_step 337 = .ok (.imul, 1) := by decide +kernel
theorem dX4_step_338 : decode cX4_step 338 = .ok (.iadd, 1) := by decide +kernel
theorem dX4_step_339 : decode cX4_step 339 = .ok (.iaload, 1) := by decide +kernel
theorem dX4_step_340 : decode cX4_step 340 = .ok (.bipush 10, 2) := by decide +kernel
theorem dX4_step_342 : decode cX4_step 342 = .ok (.if_icmp .ne 27, 3) := by decide +kernel
theorem dX4_step_345 : decode cX4_step 345 = .ok (.aload_n 0, 1) := by decide +kernel
theorem dX4_step_346 : decode cX4_step 346 = .ok (.getfield 7, 3) := by decide +kernel
theorem dX4_step_349 : decode cX4_step 349 = .ok (.aload_n 0, 1) := by decide +kernel
theorem dX4_step_350 : decode cX4_step 350 = .ok (.getfield 72, 3) := by decide +kernel
theorem dX4_step_353 : decode cX4_step 353 = .ok (.iconst 3, 1) := by decide +kernel
theorem dX4_step_354 : decode cX4_step 354 = .ok (.iload 5, 2) := by decide +kernel
theorem dX4_step_356 : decode cX4_step 356 = .ok (.imul, 1) := by decide +kernel
theorem dX4_step_357 : decode cX4_step 357 = .ok (.iadd, 1) := by decide +kernel
theorem dX4_step_358 : decode cX4_step 358 = .ok (.iconst 1, 1) := by decide +kernel
theorem dX4_step_359 : decode cX4_step 359 = .ok (.iadd, 1) := by decide +kernel
theorem dX4_step_360 : decode cX4_step 360 = .ok (.iaload, 1) := by decide +kernel
theorem dX4_step_361 : decode cX4_step 361 = .ok (.iload_n 3, 1) := by decide +kernel
theorem dX4_step_362 : decode cX4_step 362 = .ok (.if_icmp .ne 7, 3) := by decide +kernel
theorem dX4_step_365 : decode cX4_step 365 = .ok (.iconst 1, 1) := by decide +kernel
theorem dX4_step_366 : decode cX4_step 366 = .ok (.goto 4, 3) := by decide +kernel
theorem dX4_step_369 : decode cX4_step 369 = .ok (.iconst 0, 1) := by decide +kernel
theorem dX4_step_370 : decode cX4_step 370 = .ok (.istore 6, 2) := by decide +kernel
theorem dX4_step_372 : decode cX4_step 372 = .ok (.iload 6, 2) := by decide +kernel
theorem dX4_step_374 : decode cX4_step 374 = .ok (.ifCond .ne 8, 3) := by decide +kernel
theorem dX4_step_377 : decode cX4_step 377 = .ok (.aload_n 0, 1) := by decide +kernel
theorem dX4_step_378 : decode cX4_step 378 = .ok (.iconst 2, 1) := by decide +kernel
theorem dX4_step_379 : decode cX4_step 379 = .ok (.putfield 37, 3) := by decide +kernel
theorem dX4_step_382 : decode cX4_step 382 = .ok (.aload_n 0, 1) := by decide +kernel
theorem dX4_step_383 : decode cX4_step 383 = .ok (.getfield 37, 3) := by decide +kernel
theorem dX4_step_386 : decode cX4_step 386 = .ok (.ifCond .ne 9, 3) := by decide +kernel
theorem dX4_step_389 : decode cX4_step 389 = .ok (.aload_n 0, 1) := by decide +kernel
theorem dX4_step_390 : decode cX4_step 390 = .ok (.iload 4, 2) := by decide +kernel
theorem dX4_step_392 : decode cX4_step 392 = .ok (.putfield 78, 3) := by decide +kernel
theorem dX4_step_395 : decode cX4_step 395 = .ok (.return_, 1) := by decide +kernel
set_option maxRecDepth 20000 in
theorem ggX4_run_X4_step : GoodIn wsX4_run wsX4_step := goodIn_r _ [6, 7, 8, 9, 1, 10, 11, 12, 13, 14, 15, 16, 5, 17, 18, 19, 20, 21, 22, 23, 24, 25, 26, 27, 28, 29, 30, 31, 32, 33, 34] (by decide +kernel) (by decide +kernel)
set_option maxRecDepth 20000 in
theorem gX4_run_X4_step : GoodIn wsX4_run (wsV RX4 84 RX4 yX4_step wsX4_step) := goodIn_app (goodIn_of _ (by decide +kernel)) ggX4_run_X4_step
theorem dX4_run_0 : decode cX4_run 0 = .ok (.iconst 0, 1) := by decide +kernel
theorem dX4_run_1 : decode cX4_run 1 = .ok (.istore_n 2, 1) := by decide +kernel
theorem dX4_run_2 : decode cX4_run 2 = .ok (.iconst 0, 1) := by decide +kernel
theorem dX4_run_3 : decode cX4_run 3 = .ok (.istore_n 3, 1) := by decide +kernel
theorem dX4_run_4 : decode cX4_run 4 = .ok (.iload_n 3, 1) := by decide +kernel
theorem dX4_run_5 : decode cX4_run 5 = .ok (.sipush 1000, 3) := by decide +kernel
theorem dX4_run_8 : decode cX4_run 8 = .ok (.if_icmp .ge 36, 3) := by decide +kernel
theorem dX4_run_11 : decode cX4_run 11 = .ok (.iload_n 1, 1) := by decide +kernel
theorem dX4_run_12 : decode cX4_run 12 = .ok (.sipush 1000, 3) := by decide +kernel
theorem dX4_run_15 : decode cX4_run 15 = .ok (.if_icmp .gt 23, 3) := by decide +kernel
theorem dX4_run_18 : decode cX4_run 18 = .ok (.iload_n 3, 1) := by decide +kernel
theorem dX4_run_19 : decode cX4_run 19 = .ok (.iload_n 1, 1) := by decide +kernel
theorem dX4_run_20 : decode cX4_run 20 = .ok (.if_icmp .ge 18, 3) := by decide +kernel
theorem dX4_run_23 : decode cX4_run 23 = .ok (.aload_n 0, 1) := by decide +kernel
theorem dX4_run_24 : decode cX4_run 24 = .ok (.getfield 37, 3) := by decide +kernel
theorem dX4_run_27 : decode cX4_run 27 = .ok (.ifCond .ne 11, 3) := by decide +kernel
theorem dX4_run_30 : decode cX4_run 30 = .ok (.aload_n 0, 1) := by decide +kernel
theorem dX4_run_31 : decode cX4_run 31 = .ok (.invokevirtual 84, 3) := by decide +kernel
theorem dX4_run_34 : decode cX4_run 34 = .ok (.iload_n 2, 1) := by decide +kernel
theorem dX4_run_35 : decode cX4_run 35 = .ok (.iconst 1, 1) := by decide +kernel
theorem dX4_run_36 : decode cX4_run 36 = .ok (.iadd, 1) := by decide +kernel
theorem dX4_run_37 : decode cX4_run 37 = .ok (.istore_n 2, 1) := by decide +kernel
theorem dX4_run_38 : decode cX4_run 38 = .ok (.iinc 3 1, 3) := by decide +kernel
theorem dX4_run_41 : decode cX4_run 41 = .ok (.goto (-37), 3) := by decide +kernel
theorem dX4_run_44 : decode cX4_run 44 = .ok (.iload_n 2, 1) := by decide +kernel
theorem dX4_run_45 : decode cX4_run 45 = .ok (.ireturn, 1) := by decide +kernel
theorem dX4_state_0 : decode cX4_state 0 = .ok (.aload_n 0, 1) := by decide +kernel
theorem dX4_state_1 : decode cX4_state 1 = .ok (.getfield 37, 3) := by decide +kernel
theorem dX4_state_4 : decode cX4_state 4 = .ok (.ireturn, 1) := by decide +kernel
set_option maxRecDepth 20000 in
theorem ggX4_overwrite_X4_within : GoodIn wsX4_overwrite wsX4_within := goodIn_r _ [6] (by decide +kernel) (by decide +kernel)
set_option maxRecDepth 20000 in
theorem gX4_overwrite_X4_within : GoodIn wsX4_overwrite (va_wsS RX4 41 yX4_within wsX4_within) := goodIn_app (goodIn_of _ (by decide +kernel)) ggX4_overwrite_X4_within
theorem dX4_overwrite_0 : decode cX4_overwrite 0 = .ok (.aload_n 0, 1) := by decide +kernel
theorem dX4_overwrite_1 : decode cX4_overwrite 1 = .ok (.getfield 37, 3) := by decide +kernel
theorem dX4_overwrite_4 : decode cX4_overwrite 4 = .ok (.ifCond .lt 12, 3) := by decide +kernel
theorem dX4_overwrite_7 : decode cX4_overwrite 7 = .ok (.iload_n 1, 1) := by decide +kernel
theorem dX4_overwrite_8 : decode cX4_overwrite 8 = .ok (.bipush 15, 2) := by decide +kernel
theorem dX4_overwrite_10 : decode cX4_overwrite 10 = .ok (.invokestatic 41, 3) := by decide +kernel
theorem dX4_overwrite_13 : decode cX4_overwrite 13 = .ok (.ifCond .ne 5, 3) := by decide +kernel
theorem dX4_overwrite_16 : decode cX4_overwrite 16 = .ok (.iconst 0, 1) := by decide +kernel
theorem dX4_overwrite_17 : decode cX4_overwrite 17 = .ok (.ireturn, 1) := by decide +kernel
theorem dX4_overwrite_18 : decode cX4_overwrite 18 = .ok (.aload_n 0, 1) := by decide +kernel
theorem dX4_overwrite_19 : decode cX4_overwrite 19 = .ok (.getfield 31, 3) := by decide +kernel
theorem dX4_overwrite_22 : decode cX4_overwrite 22 = .ok (.iload_n 1, 1) := by decide +kernel
theorem dX4_overwrite_23 : decode cX4_overwrite 23 = .ok (.iload_n 2, 1) := by decide +kernel
theorem dX4_overwrite_24 : decode cX4_overwrite 24 = .ok (.iastore, 1) := by decide +kernel
theorem dX4_overwrite_25 : decode cX4_overwrite 25 = .ok (.iconst 1, 1) := by decide +kernel
theorem dX4_overwrite_26 : decode cX4_overwrite 26 = .ok (.ireturn, 1) := by decide +kernel
set_option maxRecDepth 20000 in
theorem ggX4_memory_X4_within : GoodIn wsX4_memory wsX4_within := goodIn_r _ [6] (by decide +kernel) (by decide +kernel)
set_option maxRecDepth 20000 in
theorem gX4_memory_X4_within : GoodIn wsX4_memory (va_wsS RX4 41 yX4_within wsX4_within) := goodIn_app (goodIn_of _ (by decide +kernel)) ggX4_memory_X4_within
theorem dX4_memory_0 : decode cX4_memory 0 = .ok (.aload_n 0, 1) := by decide +kernel
theorem dX4_memory_1 : decode cX4_memory 1 = .ok (.getfield 37, 3) := by decide +kernel
theorem dX4_memory_4 : decode cX4_memory 4 = .ok (.ifCond .lt 12, 3) := by decide +kernel
theorem dX4_memory_7 : decode cX4_memory 7 = .ok (.iload_n 1, 1) := by decide +kernel
theorem dX4_memory_8 : decode cX4_memory 8 = .ok (.bipush 15, 2) := by decide +kernel
theorem dX4_memory_10 : decode cX4_memory 10 = .ok (.invokestatic 41, 3) := by decide +kernel
theorem dX4_memory_13 : decode cX4_memory 13 = .ok (.ifCond .ne 7, 3) := by decide +kernel
theorem dX4_memory_16 : decode cX4_memory 16 = .ok (.iconst 0, 1) := by decide +kernel
theorem dX4_memory_17 : decode cX4_memory 17 = .ok (.goto 9, 3) := by decide +kernel
theorem dX4_memory_20 : decode cX4_memory 20 = .ok (.aload_n 0, 1) := by decide +kernel
theorem dX4_memory_21 : decode cX4_memory 21 = .ok (.getfield 31, 3) := by decide +kernel
theorem dX4_memory_24 : decode cX4_memory 24 = .ok (.iload_n 1, 1) := by decide +kernel
theorem dX4_memory_25 : decode cX4_memory 25 = .ok (.iaload, 1) := by decide +kernel
theorem dX4_memory_26 : decode cX4_memory 26 = .ok (.ireturn, 1) := by decide +kernel
set_option maxRecDepth 20000 in
theorem ggX4_register_X4_within : GoodIn wsX4_register wsX4_within := goodIn_r _ [6] (by decide +kernel) (by decide +kernel)
set_option maxRecDepth 20000 in
theorem gX4_register_X4_within : GoodIn wsX4_register (va_wsS RX4 41 yX4_within wsX4_within) := goodIn_app (goodIn_of _ (by decide +kernel)) ggX4_register_X4_within
theorem dX4_register_0 : decode cX4_register 0 = .ok (.aload_n 0, 1) := by decide +kernel
theorem dX4_register_1 : decode cX4_register 1 = .ok (.getfield 37, 3) := by decide +kernel
theorem dX4_register_4 : decode cX4_register 4 = .ok (.ifCond .lt 11, 3) := by decide +kernel
theorem dX4_register_7 : decode cX4_register 7 = .ok (.iload_n 1, 1) := by decide +kernel
theorem dX4_register_8 : decode cX4_register 8 = .ok (.iconst 3, 1) := by decide +kernel
theorem dX4_register_9 : decode cX4_register 9 = .ok (.invokestatic 41, 3) := by decide +kernel
theorem dX4_register_12 : decode cX4_register 12 = .ok (.ifCond .ne 7, 3) := by decide +kernel
theorem dX4_register_15 : decode cX4_register 15 = .ok (.iconst 0, 1) := by decide +kernel
theorem dX4_register_16 : decode cX4_register 16 = .ok (.goto 9, 3) := by decide +kernel
theorem dX4_register_19 : decode cX4_register 19 = .ok (.aload_n 0, 1) := by decide +kernel
theorem dX4_register_20 : decode cX4_register 20 = .ok (.getfield 28, 3) := by decide +kernel
theorem dX4_register_23 : decode cX4_register 23 = .ok (.iload_n 1, 1) := by decide +kernel
theorem dX4_register_24 : decode cX4_register 24 = .ok (.iaload, 1) := by decide +kernel
theorem dX4_register_25 : decode cX4_register 25 = .ok (.ireturn, 1) := by decide +kernel
theorem dX4_pc_0 : decode cX4_pc 0 = .ok (.aload_n 0, 1) := by decide +kernel
theorem dX4_pc_1 : decode cX4_pc 1 = .ok (.getfield 37, 3) := by decide +kernel
theorem dX4_pc_4 : decode cX4_pc 4 = .ok (.ifCond .ge 7, 3) := by decide +kernel
theorem dX4_pc_7 : decode cX4_pc 7 = .ok (.iconst (-1), 1) := by decide +kernel
theorem dX4_pc_8 : decode cX4_pc 8 = .ok (.goto 7, 3) := by decide +kernel
theorem dX4_pc_11 : decode cX4_pc 11 = .ok (.aload_n 0, 1) := by decide +kernel
theorem dX4_pc_12 : decode cX4_pc 12 = .ok (.getfield 78, 3) := by decide +kernel
theorem dX4_pc_15 : decode cX4_pc 15 = .ok (.ireturn, 1) := by decide +kernel
theorem dX4_shows_0 : decode cX4_shows 0 = .ok (.aload_n 0, 1) := by decide +kernel
theorem dX4_shows_1 : decode cX4_shows 1 = .ok (.getfield 37, 3) := by decide +kernel
theorem dX4_shows_4 : decode cX4_shows 4 = .ok (.ifCond .ge 7, 3) := by decide +kernel
theorem dX4_shows_7 : decode cX4_shows 7 = .ok (.iconst 0, 1) := by decide +kernel
theorem dX4_shows_8 : decode cX4_shows 8 = .ok (.goto 7, 3) := by decide +kernel
theorem dX4_shows_11 : decode cX4_shows 11 = .ok (.aload_n 0, 1) := by decide +kernel
theorem dX4_shows_12 : decode cX4_shows 12 = .ok (.getfield 81, 3) := by decide +kernel
theorem dX4_shows_15 : decode cX4_shows 15 = .ok (.ireturn, 1) := by decide +kernel
set_option maxRecDepth 20000 in
theorem ggX4_shown_X4_within : GoodIn wsX4_shown wsX4_within := goodIn_r _ [7] (by decide +kernel) (by decide +kernel)
set_option maxRecDepth 20000 in
theorem gX4_shown_X4_within : GoodIn wsX4_shown (va_wsS RX4 41 yX4_within wsX4_within) := goodIn_app (goodIn_of _ (by decide +kernel)) ggX4_shown_X4_within
theorem dX4_shown_0 : decode cX4_shown 0 = .ok (.aload_n 0, 1) := by decide +kernel
theorem dX4_shown_1 : decode cX4_shown 1 = .ok (.getfield 37, 3) := by decide +kernel
theorem dX4_shown_4 : decode cX4_shown 4 = .ok (.ifCond .lt 20, 3) := by decide +kernel
theorem dX4_shown_7 : decode cX4_shown 7 = .ok (.iload_n 1, 1) := by decide +kernel
theorem dX4_shown_8 : decode cX4_shown 8 = .ok (.bipush 7, 2) := by decide +kernel
theorem dX4_shown_10 : decode cX4_shown 10 = .ok (.invokestatic 41, 3) := by decide +kernel
theorem dX4_shown_13 : decode cX4_shown 13 = .ok (.ifCond .eq 11, 3) := by decide +kernel
theorem dX4_shown_16 : decode cX4_shown 16 = .ok (.iload_n 1, 1) := by decide +kernel
theorem dX4_shown_17 : decode cX4_shown 17 = .ok (.aload_n 0, 1) := by decide +kernel
theorem dX4_shown_18 : decode cX4_shown 18 = .ok (.getfield 81, 3) := by decide +kernel
theorem dX4_shown_21 : decode cX4_shown 21 = .ok (.if_icmp .lt 7, 3) := by decide +kernel
theorem dX4_shown_24 : decode cX4_shown 24 = .ok (.iconst 0, 1) := by decide +kernel
theorem dX4_shown_25 : decode cX4_shown 25 = .ok (.goto 9, 3) := by decide +kernel
theorem dX4_shown_28 : decode cX4_shown 28 = .ok (.aload_n 0, 1) := by decide +kernel
theorem dX4_shown_29 : decode cX4_shown 29 = .ok (.getfield 34, 3) := by decide +kernel
theorem dX4_shown_32 : decode cX4_shown 32 = .ok (.iload_n 1, 1) := by decide +kernel
theorem dX4_shown_33 : decode cX4_shown 33 = .ok (.iaload, 1) := by decide +kernel
theorem dX4_shown_34 : decode cX4_shown 34 = .ok (.ireturn, 1) := by decide +kernel
theorem dJ9_max_7cf53_0 : decode cJ9_max_7cf53 0 = .ok (.iload_n 0, 1) := by decide +kernel
theorem dJ9_max_7cf53_1 : decode cJ9_max_7cf53 1 = .ok (.iload_n 1, 1) := by decide +kernel
theorem dJ9_max_7cf53_2 : decode cJ9_max_7cf53 2 = .ok (.if_icmp .lt 7, 3) := by decide +kernel
theorem dJ9_max_7cf53_5 : decode cJ9_max_7cf53 5 = .ok (.iload_n 0, 1) := by decide +kernel
theorem dJ9_max_7cf53_6 : decode cJ9_max_7cf53 6 = .ok (.goto 4, 3) := by decide +kernel
theorem dJ9_max_7cf53_9 : decode cJ9_max_7cf53 9 = .ok (.iload_n 1, 1) := by decide +kernel
theorem dJ9_max_7cf53_10 : decode cJ9_max_7cf53 10 = .ok (.ireturn, 1) := by decide +kernel
theorem dJ9_min_7cf53_0 : decode cJ9_min_7cf53 0 = .ok (.iload_n 0, 1) := by decide +kernel
theorem dJ9_min_7cf53_1 : decode cJ9_min_7cf53 1 = .ok (.iload_n 1, 1) := by decide +kernel
theorem dJ9_min_7cf53_2 : decode cJ9_min_7cf53 2 = .ok (.if_icmp .gt 7, 3) := by decide +kernel
theorem dJ9_min_7cf53_5 : decode cJ9_min_7cf53 5 = .ok (.iload_n 0, 1) := by decide +kernel
theorem dJ9_min_7cf53_6 : decode cJ9_min_7cf53 6 = .ok (.goto 4, 3) := by decide +kernel
theorem dJ9_min_7cf53_9 : decode cJ9_min_7cf53 9 = .ok (.iload_n 1, 1) := by decide +kernel
theorem dJ9_min_7cf53_10 : decode cJ9_min_7cf53 10 = .ok (.ireturn, 1) := by decide +kernel
theorem dJ7_fill_53178_0 : decode cJ7_fill_53178 0 = .ok (.iconst 0, 1) := by decide +kernel
theorem dJ7_fill_53178_1 : decode cJ7_fill_53178 1 = .ok (.istore_n 2, 1) := by decide +kernel
theorem dJ7_fill_53178_2 : decode cJ7_fill_53178 2 = .ok (.aload_n 0, 1) := by decide +kernel
theorem dJ7_fill_53178_3 : decode cJ7_fill_53178 3 = .ok (.arraylength, 1) := by decide +kernel
theorem dJ7_fill_53178_4 : decode cJ7_fill_53178 4 = .ok (.istore_n 3, 1) := by decide +kernel
theorem dJ7_fill_53178_5 : decode cJ7_fill_53178 5 = .ok (.iload_n 2, 1) := by decide +kernel
theorem dJ7_fill_53178_6 : decode cJ7_fill_53178 6 = .ok (.iload_n 3, 1) := by decide +kernel
theorem dJ7_fill_53178_7 : decode cJ7_fill_53178 7 = .ok (.if_icmp .ge 13, 3) := by decide +kernel
theorem dJ7_fill_53178_10 : decode cJ7_fill_53178 10 = .ok (.aload_n 0, 1) := by decide +kernel
theorem dJ7_fill_53178_11 : decode cJ7_fill_53178 11 = .ok (.iload_n 2, 1) := by decide +kernel
theorem dJ7_fill_53178_12 : decode cJ7_fill_53178 12 = .ok (.iload_n 1, 1) := by decide +kernel
theorem dJ7_fill_53178_13 : decode cJ7_fill_53178 13 = .ok (.iastore, 1) := by decide +kernel
theorem dJ7_fill_53178_14 : decode cJ7_fill_53178 14 = .ok (.iinc 2 1, 3) := by decide +kernel
theorem dJ7_fill_53178_17 : decode cJ7_fill_53178 17 = .ok (.goto (-12), 3) := by decide +kernel
theorem dJ7_fill_53178_20 : decode cJ7_fill_53178 20 = .ok (.return_, 1) := by decide +kernel
theorem dL_law_0 : decode cL_law 0 = .ok (.new 7, 3) := by decide +kernel
theorem dL_law_3 : decode cL_law 3 = .ok (.dup, 1) := by decide +kernel
theorem dL_law_4 : decode cL_law 4 = .ok (.invokespecial 9, 3) := by decide +kernel
theorem dL_law_7 : decode cL_law 7 = .ok (.astore_n 1, 1) := by decide +kernel
theorem dL_law_8 : decode cL_law 8 = .ok (.new 10, 3) := by decide +kernel
theorem dL_law_11 : decode cL_law 11 = .ok (.dup, 1) := by decide +kernel
theorem dL_law_12 : decode cL_law 12 = .ok (.invokespecial 12, 3) := by decide +kernel
theorem dL_law_15 : decode cL_law 15 = .ok (.astore_n 2, 1) := by decide +kernel
theorem dL_law_16 : decode cL_law 16 = .ok (.iconst 0, 1) := by decide +kernel
theorem dL_law_17 : decode cL_law 17 = .ok (.istore_n 3, 1) := by decide +kernel
theorem dL_law_18 : decode cL_law 18 = .ok (.iload_n 3, 1) := by decide +kernel
theorem dL_law_19 : decode cL_law 19 = .ok (.aload_n 0, 1) := by decide +kernel
theorem dL_law_20 : decode cL_law 20 = .ok (.arraylength, 1) := by decide +kernel
theorem dL_law_21 : decode cL_law 21 = .ok (.iconst 4, 1) := by decide +kernel
theorem dL_law_22 : decode cL_law 22 = .ok (.isub, 1) := by decide +kernel
theorem dL_law_23 : decode cL_law 23 = .ok (.if_icmp .gt 499, 3) := by decide +kernel
theorem dL_law_26 : decode cL_law 26 = .ok (.aload_n 0, 1) := by decide +kernel
theorem dL_law_27 : decode cL_law 27 = .ok (.iload_n 3, 1) := by decide +kernel
theorem dL_law_28 : decode cL_law 28 = .ok (.iaload, 1) := by decide +kernel
theorem dL_law_29 : decode cL_law 29 = .ok (.bipush 15, 2) := by decide +kernel
theorem dL_law_31 : decode cL_law 31 = .ok (.iand, 1) := by decide +kernel
theorem dL_law_32 : decode cL_law 32 = .ok (.tableswitch 484 0 15 #[80, 123, 156, 169, 202, 235, 258, 281, 320, 343, 356, 389, 412, 435, 448, 461], 80) := by decide +kernel
theorem dL_law_112 : decode cL_law 112 = .ok (.aload_n 1, 1) := by decide +kernel
theorem dL_law_113 : decode cL_law 113 = .ok (.aload_n 0, 1) := by decide +kernel
theorem dL_law_114 : decode cL_law 114 = .ok (.iload_n 3, 1) := by decide +kernel
theorem dL_law_115 : decode cL_law 115 = .ok (.iconst 1, 1) := by decide +kernel
theorem dL_law_116 : decode cL_law 116 = .ok (.iadd, 1) := by decide +kernel
theorem dL_law_117 : decode cL_law 117 = .ok (.iaload, 1) := by decide +kernel
theorem dL_law_118 : decode cL_law 118 = .ok (.aload_n 0, 1) := by decide +kernel
theorem dL_law_119 : decode cL_law 119 = .ok (.iload_n 3, 1) := by decide +kernel
theorem dL_law_120 : decode cL_law 120 = .ok (.iconst 2, 1) := by decide +kernel
theorem dL_law_121 : decode cL_law 121 = .ok (.iadd, 1) := by decide +kernel
theorem dL_law_122 : decode cL_law 122 = .ok (.iaload, 1) := by decide +kernel
theorem dL_law_123 : decode cL_law 123 = .ok (.aload_n 0, 1) := by decide +kernel
theorem dL_law_124 : decode cL_law 124 = .ok (.iload_n 3, 1) := by decide +kernel
theorem dL_law_125 : decode cL_law 125 = .ok (.iconst 3, 1) := by decide +kernel
theorem dL_law_126 : decode cL_law 126 = .ok (.iadd, 1) := by decide +kernel
theorem dL_law_127 : decode cL_law 127 = .ok (.iaload, 1) := by decide +kernel
theorem dL_law_128 : decode cL_law 128 = .ok (.invokevirtual 13, 3) := by decide +kernel
theorem dL_law_131 : decode cL_law 131 = .ok (.aload_n 2, 1) := by decide +kernel
theorem dL_law_132 : decode cL_law 132 = .ok (.aload_n 0, 1) := by decide +kernel
theorem dL_law_133 : decode cL_law 133 = .ok (.iload_n 3, 1) := by decide +kernel
theorem dL_law_134 : decode cL_law 134 = .ok (.iconst 1, 1) := by decide +kernel
theorem dL_law_135 : decode cL_law 135 = .ok (.iadd, 1) := by decide +kernel
theorem dL_law_136 : decode cL_law 136 = .ok (.iaload, 1) := by decide +kernel
theorem dL_law_137 : decode cL_law 137 = .ok (.aload_n 0, 1) := by decide +kernel
theorem dL_law_138 : decode cL_law 138 = .ok (.iload_n 3, 1) := by decide +kernel
theorem dL_law_139 : decode cL_law 139 = .ok (.iconst 2, 1) := by decide +kernel
theorem dL_law_140 : decode cL_law 140 = .ok (.iadd, 1) := by decide +kernel
theorem dL_law_141 : decode cL_law 141 = .ok (.iaload, 1) := by decide +kernel
theorem dL_law_142 : decode cL_law 142 = .ok (.aload_n 0, 1) := by decide +kernel
theorem dL_law_143 : decode cL_law 143 = .ok (.iload_n 3, 1) := by decide +kernel
theorem dL_law_144 : decode cL_law 144 = .ok (.iconst 3, 1) := by decide +kernel
theorem dL_law_145 : decode cL_law 145 = .ok (.iadd, 1) := by decide +kernel
theorem dL_law_146 : decode cL_law 146 = .ok (.iaload, 1) := by decide +kernel
theorem dL_law_147 : decode cL_law 147 = .ok (.invokevirtual 17, 3) := by decide +kernel
theorem dL_law_150 : decode cL_law 150 = .ok (.if_icmp .eq 366, 3) := by decide +kernel
theorem dL_law_153 : decode cL_law 153 = .ok (.iconst 0, 1) := by decide +kernel
theorem dL_law_154 : decode cL_law 154 = .ok (.ireturn, 1) := by decide +kernel
theorem dL_law_155 : decode cL_law 155 = .ok (.aload_n 1, 1) := by decide +kernel
theorem dL_law_156 : decode cL_law 156 = .ok (.aload_n 0, 1) := by decide +kernel
theorem dL_law_157 : decode cL_law 157 = .ok (.iload_n 3, 1) := by decide +kernel
theorem dL_law_158 : decode cL_law 158 = .ok (.iconst 1, 1) := by decide +kernel
theorem dL_law_159 : decode cL_law 159 = .ok (.iadd, 1) := by decide +kernel
theorem dL_law_160 : decode cL_law 160 = .ok (.iaload, 1) := by decide +kernel
theorem dL_law_161 : decode cL_law 161 = .ok (.aload_n 0, 1) := by decide +kernel
theorem dL_law_162 : decode cL_law 162 = .ok (.iload_n 3, 1) := by decide +kernel
theorem dL_law_163 : decode cL_law 163 = .ok (.iconst 2, 1) := by decide +kernel
theorem dL_law_164 : decode cL_law 164 = .ok (.iadd, 1) := by decide +kernel
theorem dL_law_165 : decode cL_law 165 = .ok (.iaload, 1) := by decide +kernel
theorem dL_law_166 : decode cL_law 166 = .ok (.invokevirtual 18, 3) := by decide +kernel
theorem dL_law_169 : decode cL_law 169 = .ok (.aload_n 2, 1) := by decide +kernel
theorem dL_law_170 : decode cL_law 170 = .ok (.aload_n 0, 1) := by decide +kernel
theorem dL_law_171 : decode cL_law 171 = .ok (.iload_n 3, 1) := by decide +kernel
theorem dL_law_172 : decode cL_law 172 = .ok (.iconst 1, 1) := by decide +kernel
theorem dL_law_173 : decode cL_law 173 = .ok (.iadd, 1) := by decide +kernel
theorem dL_law_174 : decode cL_law 174 = .ok (.iaload, 1) := by decide +kernel
theorem dL_law_175 : decode cL_law 175 = .ok (.aload_n 0, 1) := by decide +kernel
theorem dL_law_176 : decode cL_law 176 = .ok (.iload_n 3, 1) := by decide +kernel
theorem dL_law_177 : decode cL_law 177 = .ok (.iconst 2, 1) := by decide +kernel
theorem dL_law_178 : decode cL_law 178 = .ok (.iadd, 1) := by decide +kernel
theorem dL_law_179 : decode cL_law 179 = .ok (.iaload, 1) := by decide +kernel
theorem dL_law_180 : decode cL_law 180 = .ok (.invokevirtual 22, 3) := by decide +kernel
theorem dL_law_183 : decode cL_law 183 = .ok (.if_icmp .eq 333, 3) := by decide +kernel
theorem dL_law_186 : decode cL_law 186 = .ok (.iconst 0, 1) := by decide +kernel
theorem dL_law_187 : decode cL_law 187 = .ok (.ireturn, 1) := by decide +kernel
theorem dL_law_188 : decode cL_law 188 = .ok (.aload_n 1, 1) := by decide +kernel
theorem dL_law_189 : decode cL_law 189 = .ok (.invokevirtual 23, 3) := by decide +kernel
theorem dL_law_192 : decode cL_law 192 = .ok (.aload_n 2, 1) := by decide +kernel
theorem dL_law_193 : decode cL_law 193 = .ok (.invokevirtual 27, 3) := by decide +kernel
theorem dL_law_196 : decode cL_law 196 = .ok (.if_icmp .eq 320, 3) := by decide +kernel
theorem dL_law_199 : decode cL_law 199 = .ok (.iconst 0, 1) := by decide +kernel
theorem dL_law_200 : decode cL_law 200 = .ok (.ireturn, 1) := by decide +kernel
theorem dL_law_201 : decode cL_law 201 = .ok (.aload_n 1, 1) := by decide +kernel
theorem dL_law_202 : decode cL_law 202 = .ok (.aload_n 0, 1) := by decide +kernel
theorem dL_law_203 : decode cL_law 203 = .ok (.iload_n 3, 1) := by decide +kernel
theorem dL_law_204 : decode cL_law 204 = .ok (.iconst 1, 1) := by decide +kernel
theorem dL_law_205 : decode cL_law 205 = .ok (.iadd, 1) := by decide +kernel
theorem dL_law_206 : decode cL_law 206 = .ok (.iaload, 1) := by decide +kernel
theorem dL_law_207 : decode cL_law 207 = .ok (.aload_n 0, 1) := by decide +kernel
theorem dL_law_208 : decode cL_law 208 = .ok (.iload_n 3, 1) := by decide +kernel
theorem dL_law_209 : decode cL_law 209 = .ok (.iconst 2, 1) := by decide +kernel
theorem dL_law_210 : decode cL_law 210 = .ok (.iadd, 1) := by decide +kernel
theorem dL_law_211 : decode cL_law 211 = .ok (.iaload, 1) := by decide +kernel
theorem dL_law_212 : decode cL_law 212 = .ok (.invokevirtual 28, 3) := by decide +kernel
theorem dL_law_215 : decode cL_law 215 = .ok (.aload_n 2, 1) := by decide +kernel
theorem dL_law_216 : decode cL_law 216 = .ok (.aload_n 0, 1) := by decide +kernel
theorem dL_law_217 : decode cL_law 217 = .ok (.iload_n 3, 1) := by decide +kernel
theorem dL_law_218 : decode cL_law 218 = .ok (.iconst 1, 1) := by decide +kernel
theorem dL_law_219 : decode cL_law 219 = .ok (.iadd, 1) := by decide +kernel
theorem dL_law_220 : decode cL_law 220 = .ok (.iaload, 1) := by decide +kernel
theorem dL_law_221 : decode cL_law 221 = .ok (.aload_n 0, 1) := by decide +kernel
theorem dL_law_222 : decode cL_law 222 = .ok (.iload_n 3, 1) := by decide +kernel
theorem dL_law_223 : decode cL_law 223 = .ok (.iconst 2, 1) := by decide +kernel
theorem dL_law_224 : decode cL_law 224 = .ok (.iadd, 1) := by decide +kernel
theorem dL_law_225 : decode cL_law 225 = .ok (.iaload, 1) := by decide +kernel
theorem dL_law_226 : decode cL_law 226 = .ok (.invokevirtual 32, 3) := by decide +kernel
theorem dL_law_229 : decode cL_law 229 = .ok (.if_icmp .eq 287, 3) := by decide +kernel
theorem dL_law_232 : decode cL_law 232 = .ok (.iconst 0, 1) := by decide +kernel
theorem dL_law_233 : decode cL_law 233 = .ok (.ireturn, 1) := by decide +kernel
theorem dL_law_234 : decode cL_law 234 = .ok (.aload_n 1, 1) := by decide +kernel
theorem dL_law_235 : decode cL_law 235 = .ok (.aload_n 0, 1) := by decide +kernel
theorem dL_law_236 : decode cL_law 236 = .ok (.iload_n 3, 1) := by decide +kernel
theorem dL_law_237 : decode cL_law 237 = .ok (.iconst 1, 1) := by decide +kernel
theorem dL_law_238 : decode cL_law 238 = .ok (.iadd, 1) := by decide +kernel
theorem dL_law_239 : decode cL_law 239 = .ok (.iaload, 1) := by decide +kernel
theorem dL_law_240 : decode cL_law 240 = .ok (.aload_n 0, 1) := by decide +kernel
theorem dL_law_241 : decode cL_law 241 = .ok (.iload_n 3, 1) := by decide +kernel
theorem dL_law_242 : decode cL_law 242 = .ok (.iconst 2, 1) := by decide +kernel
theorem dL_law_243 : decode cL_law 243 = .ok (.iadd, 1) := by decide +kernel
theorem dL_law_244 : decode cL_law 244 = .ok (.iaload, 1) := by decide +kernel
theorem dL_law_245 : decode cL_law 245 = .ok (.invokevirtual 33, 3) := by decide +kernel
theorem dL_law_248 : decode cL_law 248 = .ok (.aload_n 2, 1) := by decide +kernel
theorem dL_law_249 : decode cL_law 249 = .ok (.aload_n 0, 1) := by decide +kernel
theorem dL_law_250 : decode cL_law 250 = .ok (.iload_n 3, 1) := by decide +kernel
theorem dL_law_251 : decode cL_law 251 = .ok (.iconst 1, 1) := by decide +kernel
theorem dL_law_252 : decode cL_law 252 = .ok (.iadd, 1) := by decide +kernel
theorem dL_law_253 : decode cL_law 253 = .ok (.iaload, 1) := by decide +kernel
theorem dL_law_254 : decode cL_law 254 = .ok (.aload_n 0, 1) := by decide +kernel
theorem dL_law_255 : decode cL_law 255 = .ok (.iload_n 3, 1) := by decide +kernel
theorem dL_law_256 : decode cL_law 256 = .ok (.iconst 2, 1) := by decide +kernel
theorem dL_law_257 : decode cL_law 257 = .ok (.iadd, 1) := by decide +kernel
theorem dL_law_258 : decode cL_law 258 = .ok (.iaload, 1) := by decide +kernel
theorem dL_law_259 : decode cL_law 259 = .ok (.invokevirtual 36, 3) := by decide +kernel
theorem dL_law_262 : decode cL_law 262 = .ok (.if_icmp .eq 254, 3) := by decide +kernel
theorem dL_law_265 : decode cL_law 265 = .ok (.iconst 0, 1) := by decide +kernel
theorem dL_law_266 : decode cL_law 266 = .ok (.ireturn, 1) := by decide +kernel
theorem dL_law_267 : decode cL_law 267 = .ok (.aload_n 1, 1) := by decide +kernel
theorem dL_law_268 : decode cL_law 268 = .ok (.aload_n 0, 1) := by decide +kernel
theorem dL_law_269 : decode cL_law 269 = .ok (.iload_n 3, 1) := by decide +kernel
theorem dL_law_270 : decode cL_law 270 = .ok (.iconst 1, 1) := by decide +kernel
theorem dL_law_271 : decode cL_law 271 = .ok (.iadd, 1) := by decide +kernel
theorem dL_law_272 : decode cL_law 272 = .ok (.iaload, 1) := by decide +kernel
theorem dL_law_273 : decode cL_law 273 = .ok (.invokevirtual 37, 3) := by decide +kernel
theorem dL_law_276 : decode cL_law 276 = .ok (.aload_n 2, 1) := by decide +kernel
theorem dL_law_277 : decode cL_law 277 = .ok (.aload_n 0, 1) := by decide +kernel
theorem dL_law_278 : decode cL_law 278 = .ok (.iload_n 3, 1) := by decide +kernel
theorem dL_law_279 : decode cL_law 279 = .ok (.iconst 1, 1) := by decide +kernel
theorem dL_law_280 : decode cL_law 280 = .ok (.iadd, 1) := by decide +kernel
theorem dL_law_281 : decode cL_law 281 = .ok (.iaload, 1) := by decide +kernel
theorem dL_law_282 : decode cL_law 282 = .ok (.invokevirtual 41, 3) := by decide +kernel
theorem dL_law_285 : decode cL_law 285 = .ok (.if_icmp .eq 231, 3) := by decide +kernel
theorem dL_law_288 : decode cL_law 288 = .ok (.iconst 0, 1) := by decide +kernel
theorem dL_law_289 : decode cL_law 289 = .ok (.ireturn, 1) := by decide +kernel
theorem dL_law_290 : decode cL_law 290 = .ok (.aload_n 1, 1) := by decide +kernel
theorem dL_law_291 : decode cL_law 291 = .ok (.aload_n 0, 1) := by decide +kernel
theorem dL_law_292 : decode cL_law 292 = .ok (.iload_n 3, 1) := by decide +kernel
theorem dL_law_293 : decode cL_law 293 = .ok (.iconst 1, 1) := by decide +kernel
theorem dL_law_294 : decode cL_law 294 = .ok (.iadd, 1) := by decide +kernel
theorem dL_law_295 : decode cL_law 295 = .ok (.iaload, 1) := by decide +kernel
theorem dL_law_296 : decode cL_law 296 = .ok (.invokevirtual 42, 3) := by decide +kernel
theorem dL_law_299 : decode cL_law 299 = .ok (.aload_n 2, 1) := by decide +kernel
theorem dL_law_300 : decode cL_law 300 = .ok (.aload_n 0, 1) := by decide +kernel
theorem dL_law_301 : decode cL_law 301 = .ok (.iload_n 3, 1) := by decide +kernel
theorem dL_law_302 : decode cL_law 302 = .ok (.iconst 1, 1) := by decide +kernel
theorem dL_law_303 : decode cL_law 303 = .ok (.iadd, 1) := by decide +kernel
theorem dL_law_304 : decode cL_law 304 = .ok (.iaload, 1) := by decide +kernel
theorem dL_law_305 : decode cL_law 305 = .ok (.invokevirtual 45, 3) := by decide +kernel
theorem dL_law_308 : decode cL_law 308 = .ok (.if_icmp .eq 208, 3) := by decide +kernel
theorem dL_law_311 : decode cL_law 311 = .ok (.iconst 0, 1) := by decide +kernel
theorem dL_law_312 : decode cL_law 312 = .ok (.ireturn, 1) := by decide +kernel
theorem dL_law_313 : decode cL_law 313 = .ok (.aload_n 1, 1) := by decide +kernel
theorem dL_law_314 : decode cL_law 314 = .ok (.aload_n 0, 1) := by decide +kernel
theorem dL_law_315 : decode cL_law 315 = .ok (.iload_n 3, 1) := by decide +kernel
theorem dL_law_316 : decode cL_law 316 = .ok (.iconst 1, 1) := by decide +kernel
theorem dL_law_317 : decode cL_law 317 = .ok (.iadd, 1) := by decide +kernel
theorem dL_law_318 : decode cL_law 318 = .ok (.iaload, 1) := by decide +kernel
theorem dL_law_319 : decode cL_law 319 = .ok (.ifCond .eq 7, 3) := by decide +kernel
theorem dL_law_322 : decode cL_law 322 = .ok (.iconst 1, 1) := by decide +kernel
theorem dL_law_323 : decode cL_law 323 = .ok (.goto 4, 3) := by decide +kernel
theorem dL_law_326 : decode cL_law 326 = .ok (.iconst 0, 1) := by decide +kernel
theorem dL_law_327 : decode cL_law 327 = .ok (.invokevirtual 46, 3) := by decide +kernel
theorem dL_law_330 : decode cL_law 330 = .ok (.aload_n 2, 1) := by decide +kernel
theorem dL_law_331 : decode cL_law 331 = .ok (.aload_n 0, 1) := by decide +kernel
theorem dL_law_332 : decode cL_law 332 = .ok (.iload_n 3, 1) := by decide +kernel
theorem dL_law_333 : decode cL_law 333 = .ok (.iconst 1, 1) := by decide +kernel
theorem dL_law_334 : decode cL_law 334 = .ok (.iadd, 1) := by decide +kernel
theorem dL_law_335 : decode cL_law 335 = .ok (.iaload, 1) := by decide +kernel
theorem dL_law_336 : decode cL_law 336 = .ok (.ifCond .eq 7, 3) := by decide +kernel
theorem dL_law_339 : decode cL_law 339 = .ok (.iconst 1, 1) := by decide +kernel
theorem dL_law_340 : decode cL_law 340 = .ok (.goto 4, 3) := by decide +kernel
theorem dL_law_343 : decode cL_law 343 = .ok (.iconst 0, 1) := by decide +kernel
theorem dL_law_344 : decode cL_law 344 = .ok (.invokevirtual 50, 3) := by decide +kernel
theorem dL_law_347 : decode cL_law 347 = .ok (.if_icmp .eq 169, 3) := by decide +kernel
theorem dL_law_350 : decode cL_law 350 = .ok (.iconst 0, 1) := by decide +kernel
theorem dL_law_351 : decode cL_law 351 = .ok (.ireturn, 1) := by decide +kernel
theorem dL_law_352 : decode cL_law 352 = .ok (.aload_n 1, 1) := by decide +kernel
theorem dL_law_353 : decode cL_law 353 = .ok (.aload_n 0, 1) := by decide +kernel
theorem dL_law_354 : decode cL_law 354 = .ok (.iload_n 3, 1) := by decide +kernel
theorem dL_law_355 : decode cL_law 355 = .ok (.iconst 1, 1) := by decide +kernel
theorem dL_law_356 : decode cL_law 356 = .ok (.iadd, 1) := by decide +kernel
theorem dL_law_357 : decode cL_law 357 = .ok (.iaload, 1) := by decide +kernel
theorem dL_law_358 : decode cL_law 358 = .ok (.invokevirtual 51, 3) := by decide +kernel
theorem dL_law_361 : decode cL_law 361 = .ok (.aload_n 2, 1) := by decide +kernel
theorem dL_law_362 : decode cL_law 362 = .ok (.aload_n 0, 1) := by decide +kernel
theorem dL_law_363 : decode cL_law 363 = .ok (.iload_n 3, 1) := by decide +kernel
theorem dL_law_364 : decode cL_law 364 = .ok (.iconst 1, 1) := by decide +kernel
theorem dL_law_365 : decode cL_law 365 = .ok (.iadd, 1) := by decide +kernel
theorem dL_law_366 : decode cL_law 366 = .ok (.iaload, 1) := by decide +kernel
theorem dL_law_367 : decode cL_law 367 = .ok (.invokevirtual 54, 3) := by decide +kernel
theorem dL_law_370 : decode cL_law 370 = .ok (.if_icmp .eq 146, 3) := by decide +kernel
theorem dL_law_373 : decode cL_law 373 = .ok (.iconst 0, 1) := by decide +kernel
theorem dL_law_374 : decode cL_law 374 = .ok (.ireturn, 1) := by decide +kernel
theorem dL_law_375 : decode cL_law 375 = .ok (.aload_n 1, 1) := by decide +kernel
theorem dL_law_376 : decode cL_law 376 = .ok (.invokevirtual 55, 3) := by decide +kernel
theorem dL_law_379 : decode cL_law 379 = .ok (.aload_n 2, 1) := by decide +kernel
theorem dL_law_380 : decode cL_law 380 = .ok (.invokevirtual 58, 3) := by decide +kernel
theorem dL_law_383 : decode cL_law 383 = .ok (.if_icmp .eq 133, 3) := by decide +kernel
theorem dL_law_386 : decode cL_law 386 = .ok (.iconst 0, 1) := by decide +kernel
theorem dL_law_387 : decode cL_law 387 = .ok (.ireturn, 1) := by decide +kernel
theorem dL_law_388 : decode cL_law 388 = .ok (.aload_n 1, 1) := by decide +kernel
theorem dL_law_389 : decode cL_law 389 = .ok (.aload_n 0, 1) := by decide +kernel
theorem dL_law_390 : decode cL_law 390 = .ok (.iload_n 3, 1) := by decide +kernel
theorem dL_law_391 : decode cL_law 391 = .ok (.iconst 1, 1) := by decide +kernel
theorem dL_law_392 : decode cL_law 392 = .ok (.iadd, 1) := by decide +kernel
theorem dL_law_393 : decode cL_law 393 = .ok (.iaload, 1) := by decide +kernel
theorem dL_law_394 : decode cL_law 394 = .ok (.aload_n 0, 1) := by decide +kernel
theorem dL_law_395 : decode cL_law 395 = .ok (.iload_n 3, 1) := by decide +kernel
theorem dL_law_396 : decode cL_law 396 = .ok (.iconst 2, 1) := by decide +kernel
theorem dL_law_397 : decode cL_law 397 = .ok (.iadd, 1) := by decide +kernel
theorem dL_law_398 : decode cL_law 398 = .ok (.iaload, 1) := by decide +kernel
theorem dL_law_399 : decode cL_law 399 = .ok (.invokevirtual 59, 3) := by decide +kernel
theorem dL_law_402 : decode cL_law 402 = .ok (.aload_n 2, 1) := by decide +kernel
theorem dL_law_403 : decode cL_law 403 = .ok (.aload_n 0, 1) := by decide +kernel
theorem dL_law_404 : decode cL_law 404 = .ok (.iload_n 3, 1) := by decide +kernel
theorem dL_law_405 : decode cL_law 405 = .ok (.iconst 1, 1) := by decide +kernel
theorem dL_law_406 : decode cL_law 406 = .ok (.iadd, 1) := by decide +kernel
theorem dL_law_407 : decode cL_law 407 = .ok (.iaload, 1) := by decide +kernel
theorem dL_law_408 : decode cL_law 408 = .ok (.aload_n 0, 1) := by decide +kernel
theorem dL_law_409 : decode cL_law 409 = .ok (.iload_n 3, 1) := by decide +kernel
theorem dL_law_410 : decode cL_law 410 = .ok (.iconst 2, 1) := by decide +kernel
theorem dL_law_411 : decode cL_law 411 = .ok (.iadd, 1) := by decide +kernel
theorem dL_law_412 : decode cL_law 412 = .ok (.iaload, 1) := by decide +kernel
theorem dL_law_413 : decode cL_law 413 = .ok (.invokevirtual 62, 3) := by decide +kernel
theorem dL_law_416 : decode cL_law 416 = .ok (.if_icmp .eq 100, 3) := by decide +kernel
theorem dL_law_419 : decode cL_law 419 = .ok (.iconst 0, 1) := by decide +kernel
theorem dL_law_420 : decode cL_law 420 = .ok (.ireturn, 1) := by decide +kernel
theorem dL_law_421 : decode cL_law 421 = .ok (.aload_n 1, 1) := by decide +kernel
theorem dL_law_422 : decode cL_law 422 = .ok (.aload_n 0, 1) := by decide +kernel
theorem dL_law_423 : decode cL_law 423 = .ok (.iload_n 3, 1) := by decide +kernel
theorem dL_law_424 : decode cL_law 424 = .ok (.iconst 1, 1) := by decide +kernel
theorem dL_law_425 : decode cL_law 425 = .ok (.iadd, 1) := by decide +kernel
theorem dL_law_426 : decode cL_law 426 = .ok (.iaload, 1) := by decide +kernel
theorem dL_law_427 : decode cL_law 427 = .ok (.invokevirtual 63, 3) := by decide +kernel
theorem dL_law_430 : decode cL_law 430 = .ok (.aload_n 2, 1) := by decide +kernel
theorem dL_law_431 : decode cL_law 431 = .ok (.aload_n 0, 1) := by decide +kernel
theorem dL_law_432 : decode cL_law 432 = .ok (.iload_n 3, 1) := by decide +kernel
theorem dL_law_433 : decode cL_law 433 = .ok (.iconst 1, 1) := by decide +kernel
theorem dL_law_434 : decode cL_law 434 = .ok (.iadd, 1) := by decide +kernel
theorem dL_law_435 : decode cL_law 435 = .ok (.iaload, 1) := by decide +kernel
theorem dL_law_436 : decode cL_law 436 = .ok (.invokevirtual 66, 3) := by decide +kernel
theorem dL_law_439 : decode cL_law 439 = .ok (.if_icmp .eq 77, 3) := by decide +kernel
theorem dL_law_442 : decode cL_law 442 = .ok (.iconst 0, 1) := by decide +kernel
theorem dL_law_443 : decode cL_law 443 = .ok (.ireturn, 1) := by decide +kernel
theorem dL_law_444 : decode cL_law 444 = .ok (.aload_n 1, 1) := by decide +kernel
theorem dL_law_445 : decode cL_law 445 = .ok (.aload_n 0, 1) := by decide +kernel
theorem dL_law_446 : decode cL_law 446 = .ok (.iload_n 3, 1) := by decide +kernel
theorem dL_law_447 : decode cL_law 447 = .ok (.iconst 1, 1) := by decide +kernel
theorem dL_law_448 : decode cL_law 448 = .ok (.iadd, 1) := by decide +kernel
theorem dL_law_449 : decode cL_law 449 = .ok (.iaload, 1) := by decide +kernel
theorem dL_law_450 : decode cL_law 450 = .ok (.invokevirtual 67, 3) := by decide +kernel
theorem dL_law_453 : decode cL_law 453 = .ok (.aload_n 2, 1) := by decide +kernel
theorem dL_law_454 : decode cL_law 454 = .ok (.aload_n 0, 1) := by decide +kernel
theorem dL_law_455 : decode cL_law 455 = .ok (.iload_n 3, 1) := by decide +kernel
theorem dL_law_456 : decode cL_law 456 = .ok (.iconst 1, 1) := by decide +kernel
theorem dL_law_457 : decode cL_law 457 = .ok (.iadd, 1) := by decide +kernel
theorem dL_law_458 : decode cL_law 458 = .ok (.iaload, 1) := by decide +kernel
theorem dL_law_459 : decode cL_law 459 = .ok (.invokevirtual 70, 3) := by decide +kernel
theorem dL_law_462 : decode cL_law 462 = .ok (.if_icmp .eq 54, 3) := by decide +kernel
theorem dL_law_465 : decode cL_law 465 = .ok (.iconst 0, 1) := by decide +kernel
theorem dL_law_466 : decode cL_law 466 = .ok (.ireturn, 1) := by decide +kernel
theorem dL_law_467 : decode cL_law 467 = .ok (.aload_n 1, 1) := by decide +kernel
theorem dL_law_468 : decode cL_law 468 = .ok (.invokevirtual 71, 3) := by decide +kernel
theorem dL_law_471 : decode cL_law 471 = .ok (.aload_n 2, 1) := by decide +kernel
theorem dL_law_472 : decode cL_law 472 = .ok (.invokevirtual 74, 3) := by decide +kernel
theorem dL_law_475 : decode cL_law 475 = .ok (.if_icmp .eq 41, 3) := by decide +kernel
theorem dL_law_478 : decode cL_law 478 = .ok (.iconst 0, 1) := by decide +kernel
theorem dL_law_479 : decode cL_law 479 = .ok (.ireturn, 1) := by decide +kernel
theorem dL_law_480 : decode cL_law 480 = .ok (.aload_n 1, 1) := by decide +kernel
theorem dL_law_481 : decode cL_law 481 = .ok (.invokevirtual 75, 3) := by decide +kernel
theorem dL_law_484 : decode cL_law 484 = .ok (.aload_n 2, 1) := by decide +kernel
theorem dL_law_485 : decode cL_law 485 = .ok (.invokevirtual 78, 3) := by decide +kernel
theorem dL_law_488 : decode cL_law 488 = .ok (.if_icmp .eq 28, 3) := by decide +kernel
theorem dL_law_491 : decode cL_law 491 = .ok (.iconst 0, 1) := by decide +kernel
theorem dL_law_492 : decode cL_law 492 = .ok (.ireturn, 1) := by decide +kernel
theorem dL_law_493 : decode cL_law 493 = .ok (.aload_n 1, 1) := by decide +kernel
theorem dL_law_494 : decode cL_law 494 = .ok (.aload_n 0, 1) := by decide +kernel
theorem dL_law_495 : decode cL_law 495 = .ok (.iload_n 3, 1) := by decide +kernel
theorem dL_law_496 : decode cL_law 496 = .ok (.iconst 1, 1) := by decide +kernel
theorem dL_law_497 : decode cL_law 497 = .ok (.iadd, 1) := by decide +kernel
theorem dL_law_498 : decode cL_law 498 = .ok (.iaload, 1) := by decide +kernel
theorem dL_law_499 : decode cL_law 499 = .ok (.invokevirtual 79, 3) := by decide +kernel
theorem dL_law_502 : decode cL_law 502 = .ok (.aload_n 2, 1) := by decide +kernel
theorem dL_law_503 : decode cL_law 503 = .ok (.aload_n 0, 1) := by decide +kernel
theorem dL_law_504 : decode cL_law 504 = .ok (.iload_n 3, 1) := by decide +kernel
theorem dL_law_505 : decode cL_law 505 = .ok (.iconst 1, 1) := by decide +kernel
theorem dL_law_506 : decode cL_law 506 = .ok (.iadd, 1) := by decide +kernel
theorem dL_law_507 : decode cL_law 507 = .ok (.iaload, 1) := by decide +kernel
theorem dL_law_508 : decode cL_law 508 = .ok (.invokevirtual 82, 3) := by decide +kernel
theorem dL_law_511 : decode cL_law 511 = .ok (.if_icmp .eq 5, 3) := by decide +kernel
theorem dL_law_514 : decode cL_law 514 = .ok (.iconst 0, 1) := by decide +kernel
theorem dL_law_515 : decode cL_law 515 = .ok (.ireturn, 1) := by decide +kernel
theorem dL_law_516 : decode cL_law 516 = .ok (.iinc 3 4, 3) := by decide +kernel
theorem dL_law_519 : decode cL_law 519 = .ok (.goto (-501), 3) := by decide +kernel
theorem dL_law_522 : decode cL_law 522 = .ok (.iconst 1, 1) := by decide +kernel
theorem dL_law_523 : decode cL_law 523 = .ok (.ireturn, 1) := by decide +kernel
end
section
/-! ===== the verifier's own kit: truth as an int, contracts of methods that read and of methods that write, calls ===== -/
def jB (p : Prop) [Decidable p] : Int32 := if p then 1 else 0
theorem jB_t {p : Prop} [Decidable p] (h : p) : jB p = 1 := if_pos h
theorem jB_f {p : Prop} [Decidable p] (h : ¬ p) : jB p = 0 := if_neg h
theorem jB_z {p : Prop} [Decidable p] : jB p = 0 ↔ ¬ p := by
  by_cases h : p
  · rw [jB_t h]; exact ⟨fun e => absurd e (by decide), fun e => absurd h e⟩
  · rw [jB_f h]; exact ⟨fun _ => h, fun _ => rfl⟩
theorem jB_nz {p : Prop} [Decidable p] : ¬ jB p = 0 ↔ p := by rw [jB_z]; exact Decidable.not_not
theorem jB_nar {p : Prop} [Decidable p] : narrow .boolean (.int (jB p)) = .int (jB p) := by
  by_cases h : p
  · rw [jB_t h]; rfl
  · rw [jB_f h]; rfl
theorem jB_i {p q : Prop} [Decidable p] [Decidable q] (h : p ↔ q) : jB p = jB q := by
  by_cases hp : p
  · rw [jB_t hp, jB_t (h.mp hp)]
  · rw [jB_f hp, jB_f (fun hq => hp (h.mpr hq))]
abbrev jIn (x n : Int32) : Prop := ¬ x < 0 ∧ ¬ n ≤ x
theorem jk_ret {a b : Int32} (h : a = b) : Outcome.returned (some (.int a)) = Outcome.returned (some (.int b)) := by rw [h]
theorem jN_of {x : Int32} {n : Nat} (hn : n < 2 ^ 31) (h : jIn x (nI n)) : ∃ j : Nat, j < n ∧ x = nI j := by
  rcases pk_ix x hn with q | q | q
  · exact absurd q h.1
  · exact absurd q h.2
  · exact q
theorem jIn_n {j n : Nat} (hn : n < 2 ^ 31) : jIn (nI j) (nI n) ∧ j < 2 ^ 31 ↔ j < n := by
  constructor
  · intro h
    obtain ⟨⟨h1, h2⟩, h3⟩ := h
    rcases Nat.lt_or_ge j n with q | q
    · exact q
    · exact absurd (nI_le q h3) h2
  · intro h
    exact ⟨⟨nI_pos (by omega), nI_ge h hn⟩, by omega⟩
theorem jIn_vp {x : Int32} {n : Nat} (hn : n < 2 ^ 31) (h : jIn x (nI n)) : vp_in x n := by
  obtain ⟨j, h1, rfl⟩ := jN_of hn h
  exact vp_in_nI h1 hn
/-- the links between nest mates -/
def jN (U : State) : Prop := va_Nw (.methodLinkNest RX3 23 yX0_init RX3) U ∧ va_Nw (.methodLinkNest RX3 34 yX1_init RX3) U ∧ va_Nw (.fieldLinkNest RX3 116 RX1 "counter" "I" RX3) U ∧ va_Nw (.fieldLinkNest RX3 96 RX1 "condition" "I" RX3) U ∧ va_Nw (.fieldLinkNest RX3 119 RX1 "showCount" "I" RX3) U ∧ va_Nw (.methodLinkNest RX0 21 yX3_isAddress RX3) U ∧ va_Nw (.methodLinkNest RX1 49 yX3_isRegister RX3) U ∧ va_Nw (.methodLinkNest RX1 53 yX3_isCell RX3) U
theorem jN.warm {s U : State} (hW : s.WarmedH U.vm) (h : jN s) : jN U := by
  obtain ⟨h1, h2, h3, h4, h5, h6, h7, h8⟩ := h
  exact ⟨va_Nw.warmM hW h1, va_Nw.warmM hW h2, va_Nw.warmF hW h3, va_Nw.warmF hW h4, va_Nw.warmF hW h5, va_Nw.warmM hW h6, va_Nw.warmM hW h7, va_Nw.warmM hW h8⟩
theorem jN.same {u U : State} (e : u.vm = U.vm) (h : jN u) : jN U := by
  obtain ⟨h1, h2, h3, h4, h5, h6, h7, h8⟩ := h
  exact ⟨h1.same rfl e, h2.same rfl e, h3.same rfl e, h4.same rfl e, h5.same rfl e, h6.same rfl e, h7.same rfl e, h8.same rfl e⟩
/-- what a method that only reads starts from -/
def roP (D : va_G) (cA : ClassId) (av : List Value) (ws : va_W) : Array Value → State → Prop := va_Pc av (fun U => va_P D vwCl ws U.heap ∧ va_K D vwCl [(cA, .int)] U ∧ jN U)
theorem roP.blind {D : va_G} {cA : ClassId} {av : List Value} {ws : va_W} : FrameBlind (roP D cA av ws) := by
  intro a U g mk q
  obtain ⟨q0, qP, qK, qN⟩ := q
  exact ⟨q0, qP, va_K.moved (u := U) (U := U.calling g mk a) (Vm.Alike.refl U.vm) qK, qN.same rfl⟩
theorem roP.S {D : va_G} {cA : ClassId} {av : List Value} {ws : va_W} {s : State} {H : Heap} (hP : va_P D vwCl ws H) (hK : va_K D vwCl [(cA, .int)] s) (hN : jN s) : PreS s H (roP D cA av ws) av :=
  ⟨roP.blind, fun U hU hW => ⟨rfl, by rw [hU]; exact hP, va_K.moved hW.alike hK, hN.warm hW⟩⟩
theorem roP.V {D : va_G} {cA : ClassId} {As : List Value} {ws : va_W} {s : State} {H : Heap} {C : String} {b : Nat} (hR : ∃ cell : Cell, H[b]? = some cell ∧ cell.vm.isStatics = false ∧ s.vm.findClass C = some cell.cls) (hP : va_P D vwCl ws H) (hK : va_K D vwCl [(cA, .int)] s) (hN : jN s) : PreV s H C b (roP D cA (.ref b :: As) ws) As :=
  ⟨roP.blind, hR, fun U hU hW => ⟨rfl, by rw [hU]; exact hP, va_K.moved hW.alike hK, hN.warm hW⟩⟩
/-- what a method that writes starts from -/
def rwP (D : va_G) (cA : ClassId) (av : List Value) (sz : Nat) (ws : va_W) : Array Value → State → Prop := va_Pc av (fun U => U.heap.size = sz ∧ va_P D vwCl ws U.heap ∧ va_K D vwCl [(cA, .int)] U ∧ jN U ∧ va_D (fun _ => True) ws)
theorem rwP.blind {D : va_G} {cA : ClassId} {av : List Value} {sz : Nat} {ws : va_W} : FrameBlind (rwP D cA av sz ws) := by
  intro a U g mk q
  obtain ⟨q0, qz, qP, qK, qN, qD⟩ := q
  exact ⟨q0, qz, qP, va_K.moved (u := U) (U := U.calling g mk a) (Vm.Alike.refl U.vm) qK, qN.same rfl, qD⟩
theorem jP_sub {D : va_G} {cl : List vw_C} {ws w2 : va_W} {H : Heap} (h : va_P D cl ws H) (is : List Nat) (hs : is.map (fun i => ws[i]?) = w2.map some) : va_P D cl w2 H := by
  intro k q hq
  have h1 : (is.map (fun i => ws[i]?))[k]? = some (some q) := by rw [hs, List.getElem?_map, hq]; rfl
  rw [List.getElem?_map] at h1
  cases hi : is[k]? with
  | none => rw [hi] at h1; cases h1
  | some i => rw [hi] at h1; exact h i q (Option.some.inj h1)
theorem rwP.S {A : Nat → Prop} {D : va_G} {cA : ClassId} {av : List Value} {ws wc : va_W} {s : State} {H : Heap} (hP : va_P D vwCl ws H) (hD : va_D A ws) (hK : va_K D vwCl [(cA, .int)] s) (hN : jN s) (is : List Nat) (hn : va_nd is = true) (hs : is.map (fun i => ws[i]?) = wc.map some) : PreS s H (rwP D cA av H.size wc) av :=
  ⟨rwP.blind, fun U hU hW => ⟨rfl, by rw [hU], by rw [hU]; exact jP_sub hP is hs, va_K.moved hW.alike hK, hN.warm hW, (hD.sub is hn hs).weaken (fun _ _ _ _ => trivial)⟩⟩
theorem rwP.V {A : Nat → Prop} {D : va_G} {cA : ClassId} {As : List Value} {ws wc : va_W} {s : State} {H : Heap} {C : String} {b : Nat} (hR : ∃ cell : Cell, H[b]? = some cell ∧ cell.vm.isStatics = false ∧ s.vm.findClass C = some cell.cls) (hP : va_P D vwCl ws H) (hD : va_D A ws) (hK : va_K D vwCl [(cA, .int)] s) (hN : jN s) (is : List Nat) (hn : va_nd is = true) (hs : is.map (fun i => ws[i]?) = wc.map some) : PreV s H C b (rwP D cA (.ref b :: As) H.size wc) As :=
  ⟨rwP.blind, hR, (rwP.S (av := .ref b :: As) hP hD hK hN is hn hs).2⟩
/-- what a method that writes comes to: its answer, its world -/
def rwI (D : va_G) (A : Nat → Prop) (r : Int32) (w1 : va_W) : Array Value → State → Outcome → State → Prop := va_Qi (fun r' (_ : Unit) => r' = r) (fun _ t => va_P D vwCl w1 t.heap ∧ va_D A w1) A
def rwV (D : va_G) (A : Nat → Prop) (w1 : va_W) : Array Value → State → Outcome → State → Prop := va_Qv (fun (_ : Unit) => True) (fun _ t => va_P D vwCl w1 t.heap ∧ va_D A w1) A
/-- the same where cells are made: u has their addresses -/
def rwE (D : va_G) (A : Nat → Prop) (w1 : (Nat → Nat) → va_W) : Array Value → State → Outcome → State → Prop := va_Qv (fun (_ : Nat → Nat) => True) (fun u t => va_P D vwCl (w1 u) t.heap ∧ va_D A (w1 u)) A
section JW
variable {p : Program} {l : Launch} {e : Env} {R : Room} {s : State} {m : MethodId} {args : Array Value} {below : List Frame} {meth : Method} {c : Code} {H : Heap} {locs : List Loc} {cells slots : Nat} {Q : State → Prop}
variable {pc : Nat} {ls : Array Slot} {rest st0 : List Value} {a : Array Value} {A0 : Nat → Prop} {H0 : Heap} {mc ms : Nat} {free : Addr → Prop} {D : va_G} {ws wc wr w1 w2 : va_W} {r : Int32}
/-- behind a call of a method that only reads -/
theorem jr_i (hr : va_Run p l e R s m args below meth c H locs cells slots 0 0 (F0 m pc ls st0) rest (QcRead r a) (fun _ => False)) (kk : W p l e R s m args below meth c H locs cells slots Q (F0 m (pc + 3) ls (.int r :: rest))) : W p l e R s m args below meth c H locs cells slots Q (F0 m pc ls st0) := by
  intro T hT X
  obtain ⟨v, st₀, t, T', L, h0, X', hL, e1, e2, ⟨hv, hh⟩, st⟩ := hr T hT X
  cases hv
  obtain ⟨t2, a1, b1⟩ := kk T' (by rw [e1, hh, h0]) (Stand.forget X' (fun q h => (hL q h).elim))
  exact ⟨t2, st t2 a1, b1⟩
theorem jw_i (hr : va_Run p l e R s m args below meth c H locs cells slots mc ms (F0 m pc ls st0) rest (rwI D (va_A wc H.size) r w1 a) (va_A wc H.size)) (hP : va_P D vwCl ws H) (hD : va_D A0 ws) (hS : va_S A0 H0 H locs) (hA : ∀ q, H0.size ≤ q → A0 q) (isC isR is : List Nat) (hC : isC.map (fun i => ws[i]?) = wc.map some) (hR : isR.map (fun i => ws[i]?) = wr.map some) (hn : va_nd isR = true) (hdis : ∀ i ∈ isR, i ∉ isC) (h2 : va_nd is = true) (h3 : is.map (fun i => (wr ++ w1)[i]?) = w2.map some)
    (kk : ∀ (H1 : Heap) (locs1 : List Loc), va_P D vwCl w2 H1 → va_D A0 w2 → va_S A0 H0 H1 locs1 → W p l e R s m args below meth c H1 locs1 (cells + mc) (slots + ms) Q (F0 m (pc + 3) ls (.int r :: rest))) : W p l e R s m args below meth c H locs cells slots Q (F0 m pc ls st0) := by
  have hF := va_free (wc := wc) hD hS hA isC hC
  refine va_calli hr hS (fun q _ h => hF q h) hF (fun r' u t H1 locs1 ht hvm hw hB hz1 hk1 hS1 => ?_)
  subst hw
  obtain ⟨hP1, hD1⟩ := hB
  rw [ht] at hP1
  obtain ⟨hPj, hDj⟩ := va_join (wr := wr) (w1 := w1) hP hD isC isR hC hR hn hdis hk1 hF hP1 hD1
  exact kk H1 locs1 (jP_sub hPj is h3) (hDj.sub is h2 h3) hS1
theorem jw_v (hr : va_Run p l e R s m args below meth c H locs cells slots mc ms (F0 m pc ls st0) rest (rwV D (va_A wc H.size) w1 a) (va_A wc H.size)) (hP : va_P D vwCl ws H) (hD : va_D A0 ws) (hS : va_S A0 H0 H locs) (hA : ∀ q, H0.size ≤ q → A0 q) (isC isR is : List Nat) (hC : isC.map (fun i => ws[i]?) = wc.map some) (hR : isR.map (fun i => ws[i]?) = wr.map some) (hn : va_nd isR = true) (hdis : ∀ i ∈ isR, i ∉ isC) (h2 : va_nd is = true) (h3 : is.map (fun i => (wr ++ w1)[i]?) = w2.map some)
    (kk : ∀ (H1 : Heap) (locs1 : List Loc), va_P D vwCl w2 H1 → va_D A0 w2 → va_S A0 H0 H1 locs1 → W p l e R s m args below meth c H1 locs1 (cells + mc) (slots + ms) Q (F0 m (pc + 3) ls rest)) : W p l e R s m args below meth c H locs cells slots Q (F0 m pc ls st0) := by
  have hF := va_free (wc := wc) hD hS hA isC hC
  refine va_callv hr hS (fun q _ h => hF q h) hF (fun u t H1 locs1 ht hvm hw hB hz1 hk1 hS1 => ?_)
  obtain ⟨hP1, hD1⟩ := hB
  rw [ht] at hP1
  obtain ⟨hPj, hDj⟩ := va_join (wr := wr) (w1 := w1) hP hD isC isR hC hR hn hdis hk1 hF hP1 hD1
  exact kk H1 locs1 (jP_sub hPj is h3) (hDj.sub is h2 h3) hS1
theorem jw_e {w3 : (Nat → Nat) → va_W} {w4 : (Nat → Nat) → va_W} (hr : va_Run p l e R s m args below meth c H locs cells slots mc ms (F0 m pc ls st0) rest (rwE D (va_A wc H.size) w3 a) (va_A wc H.size)) (hP : va_P D vwCl ws H) (hD : va_D A0 ws) (hS : va_S A0 H0 H locs) (hA : ∀ q, H0.size ≤ q → A0 q) (isC isR is : List Nat) (hC : isC.map (fun i => ws[i]?) = wc.map some) (hR : isR.map (fun i => ws[i]?) = wr.map some) (hn : va_nd isR = true) (hdis : ∀ i ∈ isR, i ∉ isC) (h2 : va_nd is = true) (h3 : ∀ u, is.map (fun i => (wr ++ w3 u)[i]?) = (w4 u).map some)
    (kk : ∀ (u : Nat → Nat) (H1 : Heap) (locs1 : List Loc), va_P D vwCl (w4 u) H1 → va_D A0 (w4 u) → va_S A0 H0 H1 locs1 → W p l e R s m args below meth c H1 locs1 (cells + mc) (slots + ms) Q (F0 m (pc + 3) ls rest)) : W p l e R s m args below meth c H locs cells slots Q (F0 m pc ls st0) := by
  have hF := va_free (wc := wc) hD hS hA isC hC
  refine va_callv hr hS (fun q _ h => hF q h) hF (fun u t H1 locs1 ht hvm hw hB hz1 hk1 hS1 => ?_)
  obtain ⟨hP1, hD1⟩ := hB
  rw [ht] at hP1
  obtain ⟨hPj, hDj⟩ := va_join (wr := wr) (w1 := w3 u) hP hD isC isR hC hR hn hdis hk1 hF hP1 hD1
  exact kk u H1 locs1 (jP_sub hPj is (h3 u)) (hDj.sub is h2 (h3 u)) hS1
end JW
/-- the class of the arrays of ints is one -/
theorem jK_one {D : va_G} {U : State} {c1 c2 : ClassId} (h : va_K D vwCl ([(c1, .int)] ++ [(c2, .int)]) U) : c2 = c1 := by
  have h1 := (h.2 0 (c1, .int) rfl).2
  have h2 := (h.2 1 (c2, .int) rfl).2
  exact Option.some.inj (h2.symm.trans h1)
/-- a world's end -/
theorem jk_end {D : va_G} {A : Nat → Prop} {ws w2 : va_W} {H : Heap} (hP : va_P D vwCl ws H) (hD : va_D A ws) (is : List Nat) (h2 : va_nd is = true) (h3 : is.map (fun i => ws[i]?) = w2.map some) : va_P D vwCl w2 H ∧ va_D A w2 := ⟨jP_sub hP is h3, hD.sub is h2 h3⟩
end
section
section JK
variable {p : Program} {l : Launch} {e : Env} {R : Room} {s : State} {m : MethodId} {args : Array Value} {below : List Frame} {meth : Method} {c : Code} {H : Heap} {locs : List Loc} {cells slots : Nat} {Q : State → Prop}
variable {cc : ByteArray} {pc : Nat} {ls : Array Slot} {rest : List Value} {D : va_G} {cl : List vw_C} {A : Nat → Prop} {a : Nat} {tys : List (ClassId × FieldType)} {ws : va_W} {H0 : Heap}
theorem jk_top {x y : Int32} (h : x = y) (k : W p l e R s m args below meth c H locs cells slots Q (F0 m pc ls (.int y :: rest))) : W p l e R s m args below meth c H locs cells slots Q (F0 m pc ls (.int x :: rest)) := by rw [h]; exact k
theorem jk_ald (hexec : p.tables.exec = Jvm.exec) (hb : c.code = cc) (hK : va_K D cl tys s) (hP : va_P D cl ws H) (q0 t0 : Nat) {cA : ClassId} {n : Nat} {f : Nat → Int32} (ha : ws[q0]? = some (a, .inl (cA, n, .inl f))) (ht : tys[t0]? = some (cA, .int)) {i : Int32} {k : Nat} (hi : i = nI k) (hk : k < n) (hn : n < 2 ^ 31) (hdg : decode cc pc = .ok (.iaload, 1))
    (kk : W p l e R s m args below meth c H locs cells slots Q (F0 m (pc + 1) ls (.int (f k) :: rest))) : W p l e R s m args below meth c H locs cells slots Q (F0 m pc ls (.int i :: .ref a :: rest)) := by
  subst hi
  refine va_iald hexec hb hK hP q0 t0 ha ht (vp_in_nI hk hn) hdg ?_
  rw [nI_clamp (Nat.lt_trans hk hn)]
  exact kk
theorem jk_ast (hexec : p.tables.exec = Jvm.exec) (hb : c.code = cc) (hK : va_K D cl tys s) (hP : va_P D cl ws H) (hD : va_D A ws) (hS : va_S A H0 H locs) (q0 t0 : Nat) {cA : ClassId} {n : Nat} {f : Nat → Int32} (ha : ws[q0]? = some (a, .inl (cA, n, .inl f))) (ht : tys[t0]? = some (cA, .int)) {i x : Int32} {k : Nat} (hi : i = nI k) (hk : k < n) (hn : n < 2 ^ 31) (hdg : decode cc pc = .ok (.iastore, 1))
    (kk : ∀ (H1 : Heap) (locs1 : List Loc), va_P D cl (ws.set q0 (a, .inl (cA, n, .inl (upd f k x)))) H1 → va_D A (ws.set q0 (a, .inl (cA, n, .inl (upd f k x)))) → va_S A H0 H1 locs1 → W p l e R s m args below meth c H1 locs1 cells slots Q (F0 m (pc + 1) ls rest)) : W p l e R s m args below meth c H locs cells slots Q (F0 m pc ls (.int x :: .int i :: .ref a :: rest)) := by
  subst hi
  refine va_iast hexec hb hK hP hD hS q0 t0 ha ht (vp_in_nI hk hn) hdg ?_
  rw [nI_clamp (Nat.lt_trans hk hn)]
  exact kk
end JK
/-- a switch from 0 on -/
theorem jk_sw (x : Int32) (n : Nat) (hn : n < 2 ^ 31) : (∃ j : Nat, j < n ∧ x = nI j) ∨ (x.toInt < 0 ∨ ((n : Int) - 1) < x.toInt) := by
  rcases pk_ix x hn with q | q | q
  · right; left
    have h := Int32.lt_iff_toInt_lt.mp q
    exact h
  · right; right
    have h := Int32.le_iff_toInt_le.mp q
    rw [nI_toInt hn] at h
    omega
  · left; exact q
theorem jn_m3 (a : Nat) : nI a * 3 = nI (a * 3) := pk_mul a 3
theorem jn_3m (a : Nat) : 3 * nI a = nI (3 * a) := pk_mul 3 a
theorem jn_a0 (a : Nat) : nI a + 0 = nI a := nI_add a 0
theorem jn_a1 (a : Nat) : nI a + 1 = nI (a + 1) := nI_add a 1
theorem jn_a2 (a : Nat) : nI a + 2 = nI (a + 2) := nI_add a 2
end
section
/-! ===== the classes' little tests, and Program ===== -/
def pGet (f : Nat → Int32) (k : Nat) (x y : Int32) : Int32 := if jIn x (nI k) ∧ jIn y 3 then f (x.toNatClampNeg * 3 + y.toNatClampNeg) else -9
theorem pGet_no {f : Nat → Int32} {k : Nat} {x y : Int32} (h : ¬ (jIn x (nI k) ∧ jIn y 3)) : pGet f k x y = -9 := if_neg h
theorem pGet_at {f : Nat → Int32} {k j q : Nat} (hj : j < k) (hq : q < 3) (hk : k < 2 ^ 31) : pGet f k (nI j) (nI q) = f (j * 3 + q) := by
  have h1 : jIn (nI j) (nI k) := ((jIn_n hk).mpr hj).1
  have h2 : jIn (nI q) (nI 3) := ((jIn_n (by decide)).mpr hq).1
  unfold pGet
  rw [if_pos ⟨h1, h2⟩, nI_clamp (by omega), nI_clamp (by omega)]
def pApp (f : Nat → Int32) (k : Nat) (x y z : Int32) : Nat → Int32 := upd (upd (upd f (k * 3) x) (k * 3 + 1) y) (k * 3 + 2) z
theorem iw_X2_append_X2 : ∀ w ∈ wsX20, w ∈ wsX2_append := by decide +kernel
theorem iw_X2_clear_X2 : ∀ w ∈ wsX20, w ∈ wsX2_clear := by decide +kernel
theorem iw_X2_get_X2 : ∀ w ∈ wsX20, w ∈ wsX2_get := by decide +kernel
theorem iw_X2_has_X2 : ∀ w ∈ wsX20, w ∈ wsX2_has := by decide +kernel
theorem iw_X2_isFull_X2 : ∀ w ∈ wsX20, w ∈ wsX2_isFull := by decide +kernel
theorem iw_X2_length_X2 : ∀ w ∈ wsX20, w ∈ wsX2_length := by decide +kernel
theorem hv_X2_has : yX2_has.cls = RX2 ∧ yX2_has.cls ≠ "java/lang/invoke/MethodHandle" ∧ yX2_has.cls ≠ "java/lang/invoke/VarHandle" ∧ (parseMethodDescriptor yX2_has.desc).map (fun d => d.parameters.length) = some 1 := by decide +kernel
theorem hv_X2_isFull : yX2_isFull.cls = RX2 ∧ yX2_isFull.cls ≠ "java/lang/invoke/MethodHandle" ∧ yX2_isFull.cls ≠ "java/lang/invoke/VarHandle" ∧ (parseMethodDescriptor yX2_isFull.desc).map (fun d => d.parameters.length) = some 0 := by decide +kernel
set_option maxHeartbeats 4000000 in
set_option maxRecDepth 100000 in
theorem c_X3_isRegister (l : Launch) (D : va_G) (cA : ClassId) (x : Int32) : Met l yX3_isRegister wsX3_isRegister ({ frames := 0, cells := 0, slots := 0, locals := 0 }) (roP D cA [.int x] []) (QcRead (jB (jIn x 4))) 0 0 (fun _ => False) := by
  refine Met.ofW (cc := cX3_isRegister) (maxL := 1) (ret := (some .boolean)) (by decide) rfl ?_
  intro p e s m args below meth c s₁ B hml hv
  obtain ⟨rfl, hP, hK, hN⟩ := hv
  have hx := B.exec
  have hb := B.bytes
  have hr := B.returns
  have hts := atoms_spec (ws := wsX3_isRegister) B.pre
  have hown : s.vm.findClass RX3 = some m.cls := findClass_of_methodNamed B.named
  have hlocks := B.notSynchronized
  have hl := lv_entry ([.int x]) (n := 1) (Nat.le_of_ble_eq_true rfl)
  rw [lg_entry_eq]
  generalize (lg_sl ([.int x]) ++ List.replicate (1 - (lg_sl ([.int x])).length) Slot.unset).toArray = ls at hl ⊢
  have hl : lv_has ls 1 [(0, .int x)] := hl
  refine lv_iload_n hx hb dX3_isRegister_0 rfl (lv_at hl 0 rfl) ?_
  refine lv_if_lt (tgt := 13) hx hb dX3_isRegister_1 (by decide) (fun c_1 => ?_) (fun c_1 => ?_)
  · refine lv_iconst (v := 0) hx hb dX3_isRegister_13 (by decide) ?_
    exact W.zret (ty := .boolean) (v := 0) hx hb hr rfl (fun t9 ht9 hW9 => ⟨jk_ret (show 0 = (jB (jIn x 4)) from (by first | exact (jB_t ⟨by assumption, by assumption⟩).symm | exact (jB_f (fun h => h.1 (by assumption))).symm | exact (jB_f (fun h => h.2 (by assumption))).symm)), ht9⟩) (fun q h => absurd h List.not_mem_nil) dX3_isRegister_14
  · refine lv_iload_n hx hb dX3_isRegister_4 rfl (lv_at hl 0 rfl) ?_
    refine lv_iconst (v := 4) hx hb dX3_isRegister_5 (by decide) ?_
    refine lv_icmp_ge (tgt := 13) hx hb dX3_isRegister_6 (by decide) (fun c_6 => ?_) (fun c_6 => ?_)
    · refine lv_iconst (v := 0) hx hb dX3_isRegister_13 (by decide) ?_
      exact W.zret (ty := .boolean) (v := 0) hx hb hr rfl (fun t9 ht9 hW9 => ⟨jk_ret (show 0 = (jB (jIn x 4)) from (by first | exact (jB_t ⟨by assumption, by assumption⟩).symm | exact (jB_f (fun h => h.1 (by assumption))).symm | exact (jB_f (fun h => h.2 (by assumption))).symm)), ht9⟩) (fun q h => absurd h List.not_mem_nil) dX3_isRegister_14
    · refine lv_iconst (v := 1) hx hb dX3_isRegister_9 (by decide) ?_
      refine lv_goto (tgt := 14) hx hb dX3_isRegister_10 (by decide) ?_
      exact W.zret (ty := .boolean) (v := 1) hx hb hr rfl (fun t9 ht9 hW9 => ⟨jk_ret (show 1 = (jB (jIn x 4)) from (by first | exact (jB_t ⟨by assumption, by assumption⟩).symm | exact (jB_f (fun h => h.1 (by assumption))).symm | exact (jB_f (fun h => h.2 (by assumption))).symm)), ht9⟩) (fun q h => absurd h List.not_mem_nil) dX3_isRegister_14
set_option maxHeartbeats 4000000 in
set_option maxRecDepth 100000 in
theorem c_X3_isCell (l : Launch) (D : va_G) (cA : ClassId) (x : Int32) : Met l yX3_isCell wsX3_isCell ({ frames := 0, cells := 0, slots := 0, locals := 0 }) (roP D cA [.int x] []) (QcRead (jB (jIn x 16))) 0 0 (fun _ => False) := by
  refine Met.ofW (cc := cX3_isCell) (maxL := 1) (ret := (some .boolean)) (by decide) rfl ?_
  intro p e s m args below meth c s₁ B hml hv
  obtain ⟨rfl, hP, hK, hN⟩ := hv
  have hx := B.exec
  have hb := B.bytes
  have hr := B.returns
  have hts := atoms_spec (ws := wsX3_isCell) B.pre
  have hown : s.vm.findClass RX3 = some m.cls := findClass_of_methodNamed B.named
  have hlocks := B.notSynchronized
  have hl := lv_entry ([.int x]) (n := 1) (Nat.le_of_ble_eq_true rfl)
  rw [lg_entry_eq]
  generalize (lg_sl ([.int x]) ++ List.replicate (1 - (lg_sl ([.int x])).length) Slot.unset).toArray = ls at hl ⊢
  have hl : lv_has ls 1 [(0, .int x)] := hl
  refine lv_iload_n hx hb dX3_isCell_0 rfl (lv_at hl 0 rfl) ?_
  refine lv_if_lt (tgt := 14) hx hb dX3_isCell_1 (by decide) (fun c_1 => ?_) (fun c_1 => ?_)
  · refine lv_iconst (v := 0) hx hb dX3_isCell_14 (by decide) ?_
    exact W.zret (ty := .boolean) (v := 0) hx hb hr rfl (fun t9 ht9 hW9 => ⟨jk_ret (show 0 = (jB (jIn x 16)) from (by first | exact (jB_t ⟨by assumption, by assumption⟩).symm | exact (jB_f (fun h => h.1 (by assumption))).symm | exact (jB_f (fun h => h.2 (by assumption))).symm)), ht9⟩) (fun q h => absurd h List.not_mem_nil) dX3_isCell_15
  · refine lv_iload_n hx hb dX3_isCell_4 rfl (lv_at hl 0 rfl) ?_
    refine lv_bipush (v := 16) hx hb dX3_isCell_5 (by decide) ?_
    refine lv_icmp_ge (tgt := 14) hx hb dX3_isCell_7 (by decide) (fun c_7 => ?_) (fun c_7 => ?_)
    · refine lv_iconst (v := 0) hx hb dX3_isCell_14 (by decide) ?_
      exact W.zret (ty := .boolean) (v := 0) hx hb hr rfl (fun t9 ht9 hW9 => ⟨jk_ret (show 0 = (jB (jIn x 16)) from (by first | exact (jB_t ⟨by assumption, by assumption⟩).symm | exact (jB_f (fun h => h.1 (by assumption))).symm | exact (jB_f (fun h => h.2 (by assumption))).symm)), ht9⟩) (fun q h => absurd h List.not_mem_nil) dX3_isCell_15
    · refine lv_iconst (v := 1) hx hb dX3_isCell_10 (by decide) ?_
      refine lv_goto (tgt := 15) hx hb dX3_isCell_11 (by decide) ?_
      exact W.zret (ty := .boolean) (v := 1) hx hb hr rfl (fun t9 ht9 hW9 => ⟨jk_ret (show 1 = (jB (jIn x 16)) from (by first | exact (jB_t ⟨by assumption, by assumption⟩).symm | exact (jB_f (fun h => h.1 (by assumption))).symm | exact (jB_f (fun h => h.2 (by assumption))).symm)), ht9⟩) (fun q h => absurd h List.not_mem_nil) dX3_isCell_15
set_option maxHeartbeats 4000000 in
set_option maxRecDepth 100000 in
theorem c_X3_isAddress (l : Launch) (D : va_G) (cA : ClassId) (x : Int32) : Met l yX3_isAddress wsX3_isAddress ({ frames := 0, cells := 0, slots := 0, locals := 0 }) (roP D cA [.int x] []) (QcRead (jB (jIn x 24))) 0 0 (fun _ => False) := by
  refine Met.ofW (cc := cX3_isAddress) (maxL := 1) (ret := (some .boolean)) (by decide) rfl ?_
  intro p e s m args below meth c s₁ B hml hv
  obtain ⟨rfl, hP, hK, hN⟩ := hv
  have hx := B.exec
  have hb := B.bytes
  have hr := B.returns
  have hts := atoms_spec (ws := wsX3_isAddress) B.pre
  have hown : s.vm.findClass RX3 = some m.cls := findClass_of_methodNamed B.named
  have hlocks := B.notSynchronized
  have hl := lv_entry ([.int x]) (n := 1) (Nat.le_of_ble_eq_true rfl)
  rw [lg_entry_eq]
  generalize (lg_sl ([.int x]) ++ List.replicate (1 - (lg_sl ([.int x])).length) Slot.unset).toArray = ls at hl ⊢
  have hl : lv_has ls 1 [(0, .int x)] := hl
  refine lv_iload_n hx hb dX3_isAddress_0 rfl (lv_at hl 0 rfl) ?_
  refine lv_if_lt (tgt := 14) hx hb dX3_isAddress_1 (by decide) (fun c_1 => ?_) (fun c_1 => ?_)
  · refine lv_iconst (v := 0) hx hb dX3_isAddress_14 (by decide) ?_
    exact W.zret (ty := .boolean) (v := 0) hx hb hr rfl (fun t9 ht9 hW9 => ⟨jk_ret (show 0 = (jB (jIn x 24)) from (by first | exact (jB_t ⟨by assumption, by assumption⟩).symm | exact (jB_f (fun h => h.1 (by assumption))).symm | exact (jB_f (fun h => h.2 (by assumption))).symm)), ht9⟩) (fun q h => absurd h List.not_mem_nil) dX3_isAddress_15
  · refine lv_iload_n hx hb dX3_isAddress_4 rfl (lv_at hl 0 rfl) ?_
    refine lv_bipush (v := 24) hx hb dX3_isAddress_5 (by decide) ?_
    refine lv_icmp_ge (tgt := 14) hx hb dX3_isAddress_7 (by decide) (fun c_7 => ?_) (fun c_7 => ?_)
    · refine lv_iconst (v := 0) hx hb dX3_isAddress_14 (by decide) ?_
      exact W.zret (ty := .boolean) (v := 0) hx hb hr rfl (fun t9 ht9 hW9 => ⟨jk_ret (show 0 = (jB (jIn x 24)) from (by first | exact (jB_t ⟨by assumption, by assumption⟩).symm | exact (jB_f (fun h => h.1 (by assumption))).symm | exact (jB_f (fun h => h.2 (by assumption))).symm)), ht9⟩) (fun q h => absurd h List.not_mem_nil) dX3_isAddress_15
    · refine lv_iconst (v := 1) hx hb dX3_isAddress_10 (by decide) ?_
      refine lv_goto (tgt := 15) hx hb dX3_isAddress_11 (by decide) ?_
      exact W.zret (ty := .boolean) (v := 1) hx hb hr rfl (fun t9 ht9 hW9 => ⟨jk_ret (show 1 = (jB (jIn x 24)) from (by first | exact (jB_t ⟨by assumption, by assumption⟩).symm | exact (jB_f (fun h => h.1 (by assumption))).symm | exact (jB_f (fun h => h.2 (by assumption))).symm)), ht9⟩) (fun q h => absurd h List.not_mem_nil) dX3_isAddress_15
set_option maxHeartbeats 4000000 in
set_option maxRecDepth 100000 in
theorem c_X3_holdsAddressInB (l : Launch) (D : va_G) (cA : ClassId) (x : Int32) : Met l yX3_holdsAddressInB wsX3_holdsAddressInB ({ frames := 0, cells := 0, slots := 0, locals := 0 }) (roP D cA [.int x] []) (QcRead (jB (x = 7 ∨ x = 9))) 0 0 (fun _ => False) := by
  refine Met.ofW (cc := cX3_holdsAddressInB) (maxL := 1) (ret := (some .boolean)) (by decide) rfl ?_
  intro p e s m args below meth c s₁ B hml hv
  obtain ⟨rfl, hP, hK, hN⟩ := hv
  have hx := B.exec
  have hb := B.bytes
  have hr := B.returns
  have hts := atoms_spec (ws := wsX3_holdsAddressInB) B.pre
  have hown : s.vm.findClass RX3 = some m.cls := findClass_of_methodNamed B.named
  have hlocks := B.notSynchronized
  have hl := lv_entry ([.int x]) (n := 1) (Nat.le_of_ble_eq_true rfl)
  rw [lg_entry_eq]
  generalize (lg_sl ([.int x]) ++ List.replicate (1 - (lg_sl ([.int x])).length) Slot.unset).toArray = ls at hl ⊢
  have hl : lv_has ls 1 [(0, .int x)] := hl
  refine lv_iload_n hx hb dX3_holdsAddressInB_0 rfl (lv_at hl 0 rfl) ?_
  refine lv_bipush (v := 7) hx hb dX3_holdsAddressInB_1 (by decide) ?_
  refine lv_icmp_eq (tgt := 12) hx hb dX3_holdsAddressInB_3 (by decide) (fun c_3 => ?_) (fun c_3 => ?_)
  · refine lv_iconst (v := 1) hx hb dX3_holdsAddressInB_12 (by decide) ?_
    refine lv_goto (tgt := 17) hx hb dX3_holdsAddressInB_13 (by decide) ?_
    exact W.zret (ty := .boolean) (v := 1) hx hb hr rfl (fun t9 ht9 hW9 => ⟨jk_ret (show 1 = (jB (x = 7 ∨ x = 9)) from (by first | exact (jB_t (Or.inl (by assumption))).symm | exact (jB_t (Or.inr (by assumption))).symm | exact (jB_f (fun h => h.elim (by assumption) (by assumption))).symm)), ht9⟩) (fun q h => absurd h List.not_mem_nil) dX3_holdsAddressInB_17
  · refine lv_iload_n hx hb dX3_holdsAddressInB_6 rfl (lv_at hl 0 rfl) ?_
    refine lv_bipush (v := 9) hx hb dX3_holdsAddressInB_7 (by decide) ?_
    refine lv_icmp_ne (tgt := 16) hx hb dX3_holdsAddressInB_9 (by decide) (fun c_9 => ?_) (fun c_9 => ?_)
    · refine lv_iconst (v := 0) hx hb dX3_holdsAddressInB_16 (by decide) ?_
      exact W.zret (ty := .boolean) (v := 0) hx hb hr rfl (fun t9 ht9 hW9 => ⟨jk_ret (show 0 = (jB (x = 7 ∨ x = 9)) from (by first | exact (jB_t (Or.inl (by assumption))).symm | exact (jB_t (Or.inr (by assumption))).symm | exact (jB_f (fun h => h.elim (by assumption) (by assumption))).symm)), ht9⟩) (fun q h => absurd h List.not_mem_nil) dX3_holdsAddressInB_17
    · refine lv_iconst (v := 1) hx hb dX3_holdsAddressInB_12 (by decide) ?_
      refine lv_goto (tgt := 17) hx hb dX3_holdsAddressInB_13 (by decide) ?_
      exact W.zret (ty := .boolean) (v := 1) hx hb hr rfl (fun t9 ht9 hW9 => ⟨jk_ret (show 1 = (jB (x = 7 ∨ x = 9)) from (by first | exact (jB_t (Or.inl (by assumption))).symm | exact (jB_t (Or.inr (by assumption))).symm | exact (jB_f (fun h => h.elim (by assumption) (by assumption))).symm)), ht9⟩) (fun q h => absurd h List.not_mem_nil) dX3_holdsAddressInB_17
set_option maxHeartbeats 4000000 in
set_option maxRecDepth 100000 in
theorem c_X2_length (l : Launch) (D : va_G) (cA : ClassId) (h0 : Nat) (a0 : Nat) (mo : Nat) (k : Nat) : Met l yX2_length wsX2_length ({ frames := 0, cells := 0, slots := 0, locals := 0 }) (roP D cA [.ref h0] [(h0, .inr (2, [.ref a0, .int (nI mo), .int (nI k)]))]) (QcRead (nI k)) 0 0 (fun _ => False) := by
  refine Met.ofW (cc := cX2_length) (maxL := 1) (ret := (some .int)) (by decide) rfl ?_
  intro p e s m args below meth c s₁ B hml hv
  obtain ⟨rfl, hP, hK, hN⟩ := hv
  have hx := B.exec
  have hb := B.bytes
  have hr := B.returns
  have hts := atoms_spec (ws := wsX2_length) B.pre
  have hown : s.vm.findClass RX2 = some m.cls := findClass_of_methodNamed B.named
  have hlocks := B.notSynchronized
  have hl := lv_entry ([.ref h0]) (n := 1) (Nat.le_of_ble_eq_true rfl)
  rw [lg_entry_eq]
  generalize (lg_sl ([.ref h0]) ++ List.replicate (1 - (lg_sl ([.ref h0])).length) Slot.unset).toArray = ls at hl ⊢
  have hl : lv_has ls 1 [(0, .ref h0)] := hl
  refine lv_aload_n hx hb dX2_length_0 rfl (lv_at hl 0 rfl) ?_
  refine va_get (D := D) (ci := 2) (v := .int (nI k)) (C := RX2) (T := TX2) (N := 3) hx hb hts iw_X2_length_X2 hown hK hP 0 rfl rfl 2 (by decide) (hts (.fieldLink RX2 28 "JumpGuard$Program" "count" "I") (List.mem_of_getElem? (l := wsX2_length) (i := 1) rfl)) (fun _ h9 => h9) rfl dX2_length_1 ?_
  exact W.iret (v := (nI k)) hx hb hr (fun t9 ht9 hW9 => ⟨jk_ret (show (nI k) = (nI k) from rfl), ht9⟩) (fun q h => absurd h List.not_mem_nil) dX2_length_4
set_option maxHeartbeats 4000000 in
set_option maxRecDepth 100000 in
theorem c_X2_isFull (l : Launch) (D : va_G) (cA : ClassId) (h0 : Nat) (a0 : Nat) (mo : Nat) (k : Nat) : Met l yX2_isFull wsX2_isFull ({ frames := 0, cells := 0, slots := 0, locals := 0 }) (roP D cA [.ref h0] [(h0, .inr (2, [.ref a0, .int (nI mo), .int (nI k)]))]) (QcRead (jB (nI mo ≤ nI k))) 0 0 (fun _ => False) := by
  refine Met.ofW (cc := cX2_isFull) (maxL := 1) (ret := (some .boolean)) (by decide) rfl ?_
  intro p e s m args below meth c s₁ B hml hv
  obtain ⟨rfl, hP, hK, hN⟩ := hv
  have hx := B.exec
  have hb := B.bytes
  have hr := B.returns
  have hts := atoms_spec (ws := wsX2_isFull) B.pre
  have hown : s.vm.findClass RX2 = some m.cls := findClass_of_methodNamed B.named
  have hlocks := B.notSynchronized
  have hl := lv_entry ([.ref h0]) (n := 1) (Nat.le_of_ble_eq_true rfl)
  rw [lg_entry_eq]
  generalize (lg_sl ([.ref h0]) ++ List.replicate (1 - (lg_sl ([.ref h0])).length) Slot.unset).toArray = ls at hl ⊢
  have hl : lv_has ls 1 [(0, .ref h0)] := hl
  refine lv_aload_n hx hb dX2_isFull_0 rfl (lv_at hl 0 rfl) ?_
  refine va_get (D := D) (ci := 2) (v := .int (nI k)) (C := RX2) (T := TX2) (N := 3) hx hb hts iw_X2_isFull_X2 hown hK hP 0 rfl rfl 2 (by decide) (hts (.fieldLink RX2 28 "JumpGuard$Program" "count" "I") (List.mem_of_getElem? (l := wsX2_isFull) (i := 1) rfl)) (fun _ h9 => h9) rfl dX2_isFull_1 ?_
  refine lv_aload_n hx hb dX2_isFull_4 rfl (lv_at hl 0 rfl) ?_
  refine va_get (D := D) (ci := 2) (v := .int (nI mo)) (C := RX2) (T := TX2) (N := 3) hx hb hts iw_X2_isFull_X2 hown hK hP 0 rfl rfl 1 (by decide) (hts (.fieldLink RX2 18 "JumpGuard$Program" "most" "I") (List.mem_of_getElem? (l := wsX2_isFull) (i := 2) rfl)) (fun _ h9 => h9) rfl dX2_isFull_5 ?_
  refine lv_icmp_lt (tgt := 15) hx hb dX2_isFull_8 (by decide) (fun c_8 => ?_) (fun c_8 => ?_)
  · refine lv_iconst (v := 0) hx hb dX2_isFull_15 (by decide) ?_
    exact W.zret (ty := .boolean) (v := 0) hx hb hr rfl (fun t9 ht9 hW9 => ⟨jk_ret (show 0 = (jB (nI mo ≤ nI k)) from (by first | exact (jB_t (Int32.not_lt.mp (by assumption))).symm | exact (jB_f (fun h => absurd h (Int32.not_le.mpr (by assumption)))).symm)), ht9⟩) (fun q h => absurd h List.not_mem_nil) dX2_isFull_16
  · refine lv_iconst (v := 1) hx hb dX2_isFull_11 (by decide) ?_
    refine lv_goto (tgt := 16) hx hb dX2_isFull_12 (by decide) ?_
    exact W.zret (ty := .boolean) (v := 1) hx hb hr rfl (fun t9 ht9 hW9 => ⟨jk_ret (show 1 = (jB (nI mo ≤ nI k)) from (by first | exact (jB_t (Int32.not_lt.mp (by assumption))).symm | exact (jB_f (fun h => absurd h (Int32.not_le.mpr (by assumption)))).symm)), ht9⟩) (fun q h => absurd h List.not_mem_nil) dX2_isFull_16
set_option maxHeartbeats 4000000 in
set_option maxRecDepth 100000 in
theorem c_X2_has (l : Launch) (D : va_G) (cA : ClassId) (h0 : Nat) (a0 : Nat) (mo : Nat) (k : Nat) (x : Int32) : Met l yX2_has wsX2_has ({ frames := 0, cells := 0, slots := 0, locals := 0 }) (roP D cA [.ref h0, .int x] [(h0, .inr (2, [.ref a0, .int (nI mo), .int (nI k)]))]) (QcRead (jB (jIn x (nI k)))) 0 0 (fun _ => False) := by
  refine Met.ofW (cc := cX2_has) (maxL := 2) (ret := (some .boolean)) (by decide) rfl ?_
  intro p e s m args below meth c s₁ B hml hv
  obtain ⟨rfl, hP, hK, hN⟩ := hv
  have hx := B.exec
  have hb := B.bytes
  have hr := B.returns
  have hts := atoms_spec (ws := wsX2_has) B.pre
  have hown : s.vm.findClass RX2 = some m.cls := findClass_of_methodNamed B.named
  have hlocks := B.notSynchronized
  have hl := lv_entry ([.ref h0, .int x]) (n := 2) (Nat.le_of_ble_eq_true rfl)
  rw [lg_entry_eq]
  generalize (lg_sl ([.ref h0, .int x]) ++ List.replicate (2 - (lg_sl ([.ref h0, .int x])).length) Slot.unset).toArray = ls at hl ⊢
  have hl : lv_has ls 2 [(0, .ref h0), (1, .int x)] := hl
  refine lv_iload_n hx hb dX2_has_0 rfl (lv_at hl 1 rfl) ?_
  refine lv_if_lt (tgt := 16) hx hb dX2_has_1 (by decide) (fun c_1 => ?_) (fun c_1 => ?_)
  · refine lv_iconst (v := 0) hx hb dX2_has_16 (by decide) ?_
    exact W.zret (ty := .boolean) (v := 0) hx hb hr rfl (fun t9 ht9 hW9 => ⟨jk_ret (show 0 = (jB (jIn x (nI k))) from (by first | exact (jB_t ⟨by assumption, by assumption⟩).symm | exact (jB_f (fun h => h.1 (by assumption))).symm | exact (jB_f (fun h => h.2 (by assumption))).symm)), ht9⟩) (fun q h => absurd h List.not_mem_nil) dX2_has_17
  · refine lv_iload_n hx hb dX2_has_4 rfl (lv_at hl 1 rfl) ?_
    refine lv_aload_n hx hb dX2_has_5 rfl (lv_at hl 0 rfl) ?_
    refine va_get (D := D) (ci := 2) (v := .int (nI k)) (C := RX2) (T := TX2) (N := 3) hx hb hts iw_X2_has_X2 hown hK hP 0 rfl rfl 2 (by decide) (hts (.fieldLink RX2 28 "JumpGuard$Program" "count" "I") (List.mem_of_getElem? (l := wsX2_has) (i := 1) rfl)) (fun _ h9 => h9) rfl dX2_has_6 ?_
    refine lv_icmp_ge (tgt := 16) hx hb dX2_has_9 (by decide) (fun c_9 => ?_) (fun c_9 => ?_)
    · refine lv_iconst (v := 0) hx hb dX2_has_16 (by decide) ?_
      exact W.zret (ty := .boolean) (v := 0) hx hb hr rfl (fun t9 ht9 hW9 => ⟨jk_ret (show 0 = (jB (jIn x (nI k))) from (by first | exact (jB_t ⟨by assumption, by assumption⟩).symm | exact (jB_f (fun h => h.1 (by assumption))).symm | exact (jB_f (fun h => h.2 (by assumption))).symm)), ht9⟩) (fun q h => absurd h List.not_mem_nil) dX2_has_17
    · refine lv_iconst (v := 1) hx hb dX2_has_12 (by decide) ?_
      refine lv_goto (tgt := 17) hx hb dX2_has_13 (by decide) ?_
      exact W.zret (ty := .boolean) (v := 1) hx hb hr rfl (fun t9 ht9 hW9 => ⟨jk_ret (show 1 = (jB (jIn x (nI k))) from (by first | exact (jB_t ⟨by assumption, by assumption⟩).symm | exact (jB_f (fun h => h.1 (by assumption))).symm | exact (jB_f (fun h => h.2 (by assumption))).symm)), ht9⟩) (fun q h => absurd h List.not_mem_nil) dX2_has_17
set_option maxHeartbeats 4000000 in
set_option maxRecDepth 100000 in
theorem c_X2_get (l : Launch) (D : va_G) (cA : ClassId) (h0 : Nat) (a0 : Nat) (mo : Nat) (k : Nat) (N : Nat) (f : Nat → Int32) (x : Int32) (y : Int32) (hk : k * 3 ≤ N) (hN3 : N ≤ 216) : Met l yX2_get wsX2_get ({ frames := 1, cells := 0, slots := 0, locals := 21 }) (roP D cA [.ref h0, .int x, .int y] [(h0, .inr (2, [.ref a0, .int (nI mo), .int (nI k)])), (a0, .inl (cA, N, .inl f))]) (QcRead (pGet f k x y)) 0 0 (fun _ => False) := by
  refine Met.ofW (cc := cX2_get) (maxL := 3) (ret := (some .int)) (by decide) rfl ?_
  intro p e s m args below meth c s₁ B hml hv
  obtain ⟨rfl, hP, hK, hN⟩ := hv
  have hx := B.exec
  have hb := B.bytes
  have hr := B.returns
  have hts := atoms_spec (ws := wsX2_get) B.pre
  have hown : s.vm.findClass RX2 = some m.cls := findClass_of_methodNamed B.named
  have hlocks := B.notSynchronized
  have hl := lv_entry ([.ref h0, .int x, .int y]) (n := 3) (Nat.le_of_ble_eq_true rfl)
  rw [lg_entry_eq]
  generalize (lg_sl ([.ref h0, .int x, .int y]) ++ List.replicate (3 - (lg_sl ([.ref h0, .int x, .int y])).length) Slot.unset).toArray = ls at hl ⊢
  have hl : lv_has ls 3 [(0, .ref h0), (1, .int x), (2, .int y)] := hl
  refine lv_aload_n hx hb dX2_get_0 rfl (lv_at hl 0 rfl) ?_
  refine lv_iload_n hx hb dX2_get_1 rfl (lv_at hl 1 rfl) ?_
  refine jr_i (va_runV (As := [.int x]) (rest := []) ⟨hx, hb, hml, hown, hts⟩ (c_X2_has l D cA h0 a0 mo k x) (cwV 1 hts gX2_get_X2_has rfl rfl rfl hv_X2_has ⟨Nat.le_of_ble_eq_true rfl, Nat.le_of_ble_eq_true rfl⟩) (roP.V (va_recv hK hP (ci := 2) (q0 := 0) rfl rfl) (jP_sub (w2 := [(h0, .inr (2, [.ref a0, .int (nI mo), .int (nI k)]))]) hP [0] rfl) hK hN) rfl rfl hl.1 rfl (lv_room (Nat.le_of_ble_eq_true rfl)) dX2_get_2 ⟨Nat.le_of_ble_eq_true rfl, Nat.le_of_ble_eq_true rfl⟩) ?_
  refine lv_if_eq (tgt := 17) hx hb dX2_get_5 (by decide) (fun c_5 => ?_) (fun c_5 => ?_)
  · replace c_5 := jB_z.mp c_5
    refine lv_bipush (v := (-9)) hx hb dX2_get_17 (by decide) ?_
    exact W.iret (v := (-9)) hx hb hr (fun t9 ht9 hW9 => ⟨jk_ret (show (-9) = (pGet f k x y) from (pGet_no (by first | exact fun h => c_5 h.1 | exact fun h => h.2.1 c_9 | exact fun h => h.2.2 (Int32.not_lt.mp c_14))).symm), ht9⟩) (fun q h => absurd h List.not_mem_nil) dX2_get_19
  · replace c_5 := jB_nz.mp c_5
    refine lv_iload_n hx hb dX2_get_8 rfl (lv_at hl 2 rfl) ?_
    refine lv_if_lt (tgt := 17) hx hb dX2_get_9 (by decide) (fun c_9 => ?_) (fun c_9 => ?_)
    · refine lv_bipush (v := (-9)) hx hb dX2_get_17 (by decide) ?_
      exact W.iret (v := (-9)) hx hb hr (fun t9 ht9 hW9 => ⟨jk_ret (show (-9) = (pGet f k x y) from (pGet_no (by first | exact fun h => c_5 h.1 | exact fun h => h.2.1 c_9 | exact fun h => h.2.2 (Int32.not_lt.mp c_14))).symm), ht9⟩) (fun q h => absurd h List.not_mem_nil) dX2_get_19
    · refine lv_iload_n hx hb dX2_get_12 rfl (lv_at hl 2 rfl) ?_
      refine lv_iconst (v := 3) hx hb dX2_get_13 (by decide) ?_
      refine lv_icmp_lt (tgt := 20) hx hb dX2_get_14 (by decide) (fun c_14 => ?_) (fun c_14 => ?_)
      · obtain ⟨j, hj, rfl⟩ := jN_of (n := k) (by omega) c_5
        obtain ⟨q, hq, rfl⟩ := jN_of (x := y) (n := 3) (by decide) ⟨c_9, fun h => absurd c_14 (Int32.not_lt.mpr h)⟩
        refine lv_aload_n hx hb dX2_get_20 rfl (lv_at hl 0 rfl) ?_
        refine va_get (D := D) (ci := 2) (v := .ref a0) (C := RX2) (T := TX2) (N := 3) hx hb hts iw_X2_get_X2 hown hK hP 0 rfl rfl 0 (by decide) (hts (.fieldLink RX2 24 "JumpGuard$Program" "numbers" "[I") (List.mem_of_getElem? (l := wsX2_get) (i := 1) rfl)) (fun _ h9 => h9) rfl dX2_get_21 ?_
        refine lv_iload_n hx hb dX2_get_24 rfl (lv_at hl 1 rfl) ?_
        refine lv_iconst (v := 3) hx hb dX2_get_25 (by decide) ?_
        refine lv_imul hx hb dX2_get_26 ?_
        refine lv_iload_n hx hb dX2_get_27 rfl (lv_at hl 2 rfl) ?_
        refine lv_iadd hx hb dX2_get_28 ?_
        refine jk_top (show (((nI j) * 3) + (nI q)) = (nI (j * 3 + q)) from by rw [jn_m3, nI_add]) ?_
        refine jk_ald hx hb hK hP 1 0 rfl rfl (k := (j * 3 + q)) rfl (by omega) (by omega) dX2_get_29 ?_
        exact W.iret (v := (f (j * 3 + q))) hx hb hr (fun t9 ht9 hW9 => ⟨jk_ret (show (f (j * 3 + q)) = (pGet f k (nI j) (nI q)) from (pGet_at hj hq (by omega)).symm), ht9⟩) (fun q h => absurd h List.not_mem_nil) dX2_get_30
      · refine lv_bipush (v := (-9)) hx hb dX2_get_17 (by decide) ?_
        exact W.iret (v := (-9)) hx hb hr (fun t9 ht9 hW9 => ⟨jk_ret (show (-9) = (pGet f k x y) from (pGet_no (by first | exact fun h => c_5 h.1 | exact fun h => h.2.1 c_9 | exact fun h => h.2.2 (Int32.not_lt.mp c_14))).symm), ht9⟩) (fun q h => absurd h List.not_mem_nil) dX2_get_19
set_option maxHeartbeats 4000000 in
set_option maxRecDepth 100000 in
theorem c_X2_append (l : Launch) (D : va_G) (cA : ClassId) (sz : Nat) (h0 : Nat) (a0 : Nat) (mo : Nat) (k : Nat) (N : Nat) (f : Nat → Int32) (x : Int32) (y : Int32) (z : Int32) (hk : k < mo) (hm : mo * 3 ≤ N) (hN3 : N ≤ 216) : Met l yX2_append wsX2_append ({ frames := 1, cells := 0, slots := 0, locals := 20 }) (rwP D cA [.ref h0, .int x, .int y, .int z] sz [(h0, .inr (2, [.ref a0, .int (nI mo), .int (nI k)])), (a0, .inl (cA, N, .inl f))]) (rwV D (va_A [(h0, .inr (2, [.ref a0, .int (nI mo), .int (nI k)])), (a0, .inl (cA, N, .inl f))] sz) [(h0, .inr (2, [.ref a0, .int (nI mo), .int (nI (k + 1))])), (a0, .inl (cA, N, .inl (pApp f k x y z)))]) 0 0 (va_A [(h0, .inr (2, [.ref a0, .int (nI mo), .int (nI k)])), (a0, .inl (cA, N, .inl f))] sz) := by
  refine Met.ofW (cc := cX2_append) (maxL := 4) (ret := none) (by decide) rfl ?_
  intro p e s m args below meth c s₁ B hml hv
  obtain ⟨rfl, hsz, hP, hK, hN, hD0⟩ := hv
  have hx := B.exec
  have hb := B.bytes
  have hr := B.returns
  have hts := atoms_spec (ws := wsX2_append) B.pre
  have hown : s.vm.findClass RX2 = some m.cls := findClass_of_methodNamed B.named
  have hlocks := B.notSynchronized
  subst hsz
  have hD := hD0.self (sz := s.heap.size)
  generalize hAe : va_A [(h0, .inr (2, [.ref a0, .int (nI mo), .int (nI k)])), (a0, .inl (cA, N, .inl f))] s.heap.size = A at hD ⊢
  have hA : ∀ q : Nat, s.heap.size ≤ q → A q := fun q h => by rw [← hAe]; exact Or.inr h
  have hS : va_S A s.heap s.heap [] := va_S.rf
  have hl := lv_entry ([.ref h0, .int x, .int y, .int z]) (n := 4) (Nat.le_of_ble_eq_true rfl)
  rw [lg_entry_eq]
  generalize (lg_sl ([.ref h0, .int x, .int y, .int z]) ++ List.replicate (4 - (lg_sl ([.ref h0, .int x, .int y, .int z])).length) Slot.unset).toArray = ls at hl ⊢
  have hl : lv_has ls 4 [(0, .ref h0), (1, .int x), (2, .int y), (3, .int z)] := hl
  refine lv_aload_n hx hb dX2_append_0 rfl (lv_at hl 0 rfl) ?_
  refine jr_i (va_runV (As := []) (rest := []) ⟨hx, hb, hml, hown, hts⟩ (c_X2_isFull l D cA h0 a0 mo k) (cwV 0 hts gX2_append_X2_isFull rfl rfl rfl hv_X2_isFull ⟨Nat.le_of_ble_eq_true rfl, Nat.le_of_ble_eq_true rfl⟩) (roP.V (va_recv hK hP (ci := 2) (q0 := 0) rfl rfl) (jP_sub (w2 := [(h0, .inr (2, [.ref a0, .int (nI mo), .int (nI k)]))]) hP [0] rfl) hK hN) rfl rfl hl.1 rfl (lv_room (Nat.le_of_ble_eq_true rfl)) dX2_append_1 ⟨Nat.le_of_ble_eq_true rfl, Nat.le_of_ble_eq_true rfl⟩) ?_
  refine lv_if_eq (tgt := 8) hx hb dX2_append_4 (by decide) (fun c_4 => ?_) (fun c_4 => ?_)
  · replace c_4 := jB_z.mp c_4
    refine lv_aload_n hx hb dX2_append_8 rfl (lv_at hl 0 rfl) ?_
    refine va_get (D := D) (ci := 2) (v := .ref a0) (C := RX2) (T := TX2) (N := 3) hx hb hts iw_X2_append_X2 hown hK hP 0 rfl rfl 0 (by decide) (hts (.fieldLink RX2 24 "JumpGuard$Program" "numbers" "[I") (List.mem_of_getElem? (l := wsX2_append) (i := 1) rfl)) (fun _ h9 => h9) rfl dX2_append_9 ?_
    refine lv_aload_n hx hb dX2_append_12 rfl (lv_at hl 0 rfl) ?_
    refine va_get (D := D) (ci := 2) (v := .int (nI k)) (C := RX2) (T := TX2) (N := 3) hx hb hts iw_X2_append_X2 hown hK hP 0 rfl rfl 2 (by decide) (hts (.fieldLink RX2 28 "JumpGuard$Program" "count" "I") (List.mem_of_getElem? (l := wsX2_append) (i := 2) rfl)) (fun _ h9 => h9) rfl dX2_append_13 ?_
    refine lv_iconst (v := 3) hx hb dX2_append_16 (by decide) ?_
    refine lv_imul hx hb dX2_append_17 ?_
    refine lv_iconst (v := 0) hx hb dX2_append_18 (by decide) ?_
    refine lv_iadd hx hb dX2_append_19 ?_
    refine jk_top (show (((nI k) * 3) + 0) = (nI (k * 3)) from by rw [jn_m3, jn_a0]) ?_
    refine lv_iload_n hx hb dX2_append_20 rfl (lv_at hl 1 rfl) ?_
    refine jk_ast hx hb hK hP hD hS 1 0 rfl rfl (k := (k * 3)) rfl (by omega) (by omega) dX2_append_21 (fun H locs hP hD hS => ?_)
    have hP : va_P D vwCl [(h0, .inr (2, [.ref a0, .int (nI mo), .int (nI k)])), (a0, .inl (cA, N, .inl (upd f (k * 3) x)))] H := hP
    have hD : va_D A [(h0, .inr (2, [.ref a0, .int (nI mo), .int (nI k)])), (a0, .inl (cA, N, .inl (upd f (k * 3) x)))] := hD
    refine lv_aload_n hx hb dX2_append_22 rfl (lv_at hl 0 rfl) ?_
    refine va_get (D := D) (ci := 2) (v := .ref a0) (C := RX2) (T := TX2) (N := 3) hx hb hts iw_X2_append_X2 hown hK hP 0 rfl rfl 0 (by decide) (hts (.fieldLink RX2 24 "JumpGuard$Program" "numbers" "[I") (List.mem_of_getElem? (l := wsX2_append) (i := 1) rfl)) (fun _ h9 => h9) rfl dX2_append_23 ?_
    refine lv_aload_n hx hb dX2_append_26 rfl (lv_at hl 0 rfl) ?_
    refine va_get (D := D) (ci := 2) (v := .int (nI k)) (C := RX2) (T := TX2) (N := 3) hx hb hts iw_X2_append_X2 hown hK hP 0 rfl rfl 2 (by decide) (hts (.fieldLink RX2 28 "JumpGuard$Program" "count" "I") (List.mem_of_getElem? (l := wsX2_append) (i := 2) rfl)) (fun _ h9 => h9) rfl dX2_append_27 ?_
    refine lv_iconst (v := 3) hx hb dX2_append_30 (by decide) ?_
    refine lv_imul hx hb dX2_append_31 ?_
    refine lv_iconst (v := 1) hx hb dX2_append_32 (by decide) ?_
    refine lv_iadd hx hb dX2_append_33 ?_
    refine jk_top (show (((nI k) * 3) + 1) = (nI (k * 3 + 1)) from by rw [jn_m3, jn_a1]) ?_
    refine lv_iload_n hx hb dX2_append_34 rfl (lv_at hl 2 rfl) ?_
    refine jk_ast hx hb hK hP hD hS 1 0 rfl rfl (k := (k * 3 + 1)) rfl (by omega) (by omega) dX2_append_35 (fun H locs hP hD hS => ?_)
    have hP : va_P D vwCl [(h0, .inr (2, [.ref a0, .int (nI mo), .int (nI k)])), (a0, .inl (cA, N, .inl (upd (upd f (k * 3) x) (k * 3 + 1) y)))] H := hP
    have hD : va_D A [(h0, .inr (2, [.ref a0, .int (nI mo), .int (nI k)])), (a0, .inl (cA, N, .inl (upd (upd f (k * 3) x) (k * 3 + 1) y)))] := hD
    refine lv_aload_n hx hb dX2_append_36 rfl (lv_at hl 0 rfl) ?_
    refine va_get (D := D) (ci := 2) (v := .ref a0) (C := RX2) (T := TX2) (N := 3) hx hb hts iw_X2_append_X2 hown hK hP 0 rfl rfl 0 (by decide) (hts (.fieldLink RX2 24 "JumpGuard$Program" "numbers" "[I") (List.mem_of_getElem? (l := wsX2_append) (i := 1) rfl)) (fun _ h9 => h9) rfl dX2_append_37 ?_
    refine lv_aload_n hx hb dX2_append_40 rfl (lv_at hl 0 rfl) ?_
    refine va_get (D := D) (ci := 2) (v := .int (nI k)) (C := RX2) (T := TX2) (N := 3) hx hb hts iw_X2_append_X2 hown hK hP 0 rfl rfl 2 (by decide) (hts (.fieldLink RX2 28 "JumpGuard$Program" "count" "I") (List.mem_of_getElem? (l := wsX2_append) (i := 2) rfl)) (fun _ h9 => h9) rfl dX2_append_41 ?_
    refine lv_iconst (v := 3) hx hb dX2_append_44 (by decide) ?_
    refine lv_imul hx hb dX2_append_45 ?_
    refine lv_iconst (v := 2) hx hb dX2_append_46 (by decide) ?_
    refine lv_iadd hx hb dX2_append_47 ?_
    refine jk_top (show (((nI k) * 3) + 2) = (nI (k * 3 + 2)) from by rw [jn_m3, jn_a2]) ?_
    refine lv_iload_n hx hb dX2_append_48 rfl (lv_at hl 3 rfl) ?_
    refine jk_ast hx hb hK hP hD hS 1 0 rfl rfl (k := (k * 3 + 2)) rfl (by omega) (by omega) dX2_append_49 (fun H locs hP hD hS => ?_)
    have hP : va_P D vwCl [(h0, .inr (2, [.ref a0, .int (nI mo), .int (nI k)])), (a0, .inl (cA, N, .inl (upd (upd (upd f (k * 3) x) (k * 3 + 1) y) (k * 3 + 2) z)))] H := hP
    have hD : va_D A [(h0, .inr (2, [.ref a0, .int (nI mo), .int (nI k)])), (a0, .inl (cA, N, .inl (upd (upd (upd f (k * 3) x) (k * 3 + 1) y) (k * 3 + 2) z)))] := hD
    refine lv_aload_n hx hb dX2_append_50 rfl (lv_at hl 0 rfl) ?_
    refine lv_dup hx hb dX2_append_51 rfl ?_
    refine va_get (D := D) (ci := 2) (v := .int (nI k)) (C := RX2) (T := TX2) (N := 3) hx hb hts iw_X2_append_X2 hown hK hP 0 rfl rfl 2 (by decide) (hts (.fieldLink RX2 28 "JumpGuard$Program" "count" "I") (List.mem_of_getElem? (l := wsX2_append) (i := 2) rfl)) (fun _ h9 => h9) rfl dX2_append_52 ?_
    refine lv_iconst (v := 1) hx hb dX2_append_55 (by decide) ?_
    refine lv_iadd hx hb dX2_append_56 ?_
    refine jk_top (show ((nI k) + 1) = (nI (k + 1)) from jn_a1 k) ?_
    refine va_put (D := D) (ci := 2) (v := .int (nI (k + 1))) (ty := .int) (C := RX2) (T := TX2) (N := 3) hx hb hts iw_X2_append_X2 tyX2 tyX2_ok nmX2 hown hK hP hD hS 0 rfl rfl 2 (by decide) (hts (.fieldLink RX2 28 "JumpGuard$Program" "count" "I") (List.mem_of_getElem? (l := wsX2_append) (i := 2) rfl)) (fun _ h9 => h9) rfl (by decide +kernel) rfl rfl (Nat.le_of_ble_eq_true rfl) dX2_append_57 (fun H locs hP hD hS => ?_)
    have hP : va_P D vwCl [(h0, .inr (2, [.ref a0, .int (nI mo), .int (nI (k + 1))])), (a0, .inl (cA, N, .inl (upd (upd (upd f (k * 3) x) (k * 3 + 1) y) (k * 3 + 2) z)))] H := hP
    have hD : va_D A [(h0, .inr (2, [.ref a0, .int (nI mo), .int (nI (k + 1))])), (a0, .inl (cA, N, .inl (upd (upd (upd f (k * 3) x) (k * 3 + 1) y) (k * 3 + 2) z)))] := hD
    obtain ⟨hP9, hD9⟩ := jk_end (w2 := [(h0, .inr (2, [.ref a0, .int (nI mo), .int (nI (k + 1))])), (a0, .inl (cA, N, .inl (upd (upd (upd f (k * 3) x) (k * 3 + 1) y) (k * 3 + 2) z)))]) hP hD [0, 1] (by decide) rfl
    have e9 : ([(h0, .inr (2, [.ref a0, .int (nI mo), .int (nI (k + 1))])), (a0, .inl (cA, N, .inl (upd (upd (upd f (k * 3) x) (k * 3 + 1) y) (k * 3 + 2) z)))] : va_W) = [(h0, .inr (2, [.ref a0, .int (nI mo), .int (nI (k + 1))])), (a0, .inl (cA, N, .inl (pApp f k x y z)))] := rfl
    rw [e9] at hP9 hD9
    exact W.vret hx hb hr (fun t9 ht9 hW9 => ⟨⟨(), rfl, trivial, by rw [ht9]; exact hP9, hD9⟩, hS.F ht9⟩) hS.2.2 dX2_append_60
  · replace c_4 := jB_nz.mp c_4
    exact absurd c_4 (nI_ge hk (by omega))
set_option maxHeartbeats 4000000 in
set_option maxRecDepth 100000 in
theorem c_X2_clear (l : Launch) (D : va_G) (cA : ClassId) (sz : Nat) (h0 : Nat) (a0 : Nat) (mo : Nat) (k : Nat) : Met l yX2_clear wsX2_clear ({ frames := 0, cells := 0, slots := 0, locals := 0 }) (rwP D cA [.ref h0] sz [(h0, .inr (2, [.ref a0, .int (nI mo), .int (nI k)]))]) (rwV D (va_A [(h0, .inr (2, [.ref a0, .int (nI mo), .int (nI k)]))] sz) [(h0, .inr (2, [.ref a0, .int (nI mo), .int (nI 0)]))]) 0 0 (va_A [(h0, .inr (2, [.ref a0, .int (nI mo), .int (nI k)]))] sz) := by
  refine Met.ofW (cc := cX2_clear) (maxL := 1) (ret := none) (by decide) rfl ?_
  intro p e s m args below meth c s₁ B hml hv
  obtain ⟨rfl, hsz, hP, hK, hN, hD0⟩ := hv
  have hx := B.exec
  have hb := B.bytes
  have hr := B.returns
  have hts := atoms_spec (ws := wsX2_clear) B.pre
  have hown : s.vm.findClass RX2 = some m.cls := findClass_of_methodNamed B.named
  have hlocks := B.notSynchronized
  subst hsz
  have hD := hD0.self (sz := s.heap.size)
  generalize hAe : va_A [(h0, .inr (2, [.ref a0, .int (nI mo), .int (nI k)]))] s.heap.size = A at hD ⊢
  have hA : ∀ q : Nat, s.heap.size ≤ q → A q := fun q h => by rw [← hAe]; exact Or.inr h
  have hS : va_S A s.heap s.heap [] := va_S.rf
  have hl := lv_entry ([.ref h0]) (n := 1) (Nat.le_of_ble_eq_true rfl)
  rw [lg_entry_eq]
  generalize (lg_sl ([.ref h0]) ++ List.replicate (1 - (lg_sl ([.ref h0])).length) Slot.unset).toArray = ls at hl ⊢
  have hl : lv_has ls 1 [(0, .ref h0)] := hl
  refine lv_aload_n hx hb dX2_clear_0 rfl (lv_at hl 0 rfl) ?_
  refine lv_iconst (v := 0) hx hb dX2_clear_1 (by decide) ?_
  refine va_put (D := D) (ci := 2) (v := .int 0) (ty := .int) (C := RX2) (T := TX2) (N := 3) hx hb hts iw_X2_clear_X2 tyX2 tyX2_ok nmX2 hown hK hP hD hS 0 rfl rfl 2 (by decide) (hts (.fieldLink RX2 28 "JumpGuard$Program" "count" "I") (List.mem_of_getElem? (l := wsX2_clear) (i := 1) rfl)) (fun _ h9 => h9) rfl (by decide +kernel) rfl rfl (Nat.le_of_ble_eq_true rfl) dX2_clear_2 (fun H locs hP hD hS => ?_)
  have hP : va_P D vwCl [(h0, .inr (2, [.ref a0, .int (nI mo), .int 0]))] H := hP
  have hD : va_D A [(h0, .inr (2, [.ref a0, .int (nI mo), .int 0]))] := hD
  obtain ⟨hP9, hD9⟩ := jk_end (w2 := [(h0, .inr (2, [.ref a0, .int (nI mo), .int 0]))]) hP hD [0] (by decide) rfl
  have e9 : ([(h0, .inr (2, [.ref a0, .int (nI mo), .int 0]))] : va_W) = [(h0, .inr (2, [.ref a0, .int (nI mo), .int (nI 0)]))] := rfl
  rw [e9] at hP9 hD9
  exact W.vret hx hb hr (fun t9 ht9 hW9 => ⟨⟨(), rfl, trivial, by rw [ht9]; exact hP9, hD9⟩, hS.F ht9⟩) hS.2.2 dX2_clear_5
end
section
/-! ===== Edges ===== -/
def jAt (f : Nat → Int32) (n x : Int32) : Int32 := if jIn x n then f x.toNatClampNeg else 0
def jPut (f : Nat → Int32) (n x v : Int32) : Nat → Int32 := if jIn x n then upd f x.toNatClampNeg v else f
theorem jAt_no {f : Nat → Int32} {n x : Int32} (h : ¬ jIn x n) : jAt f n x = 0 := if_neg h
theorem jPut_no {f : Nat → Int32} {n x v : Int32} (h : ¬ jIn x n) : jPut f n x v = f := if_neg h
theorem jAt_n {f : Nat → Int32} {j n : Nat} (hj : j < n) (hn : n < 2 ^ 31) : jAt f (nI n) (nI j) = f j := by
  unfold jAt
  rw [if_pos ((jIn_n hn).mpr hj).1, nI_clamp (by omega)]
theorem jPut_n {f : Nat → Int32} {j n : Nat} {v : Int32} (hj : j < n) (hn : n < 2 ^ 31) : jPut f (nI n) (nI j) v = upd f j v := by
  unfold jPut
  rw [if_pos ((jIn_n hn).mpr hj).1, nI_clamp (by omega)]
def jMax (x y : Int32) : Int32 := if x < y then y else x
def jMin (x y : Int32) : Int32 := if y < x then y else x
/-- renumbered up to n -/
def jRen (f : Nat → Int32) (g k : Int32) (n : Nat) : Nat → Int32 := fun i => if i < n ∧ f i = g then k else f i
theorem jRen_0 (f : Nat → Int32) (g k : Int32) : f = jRen f g k 0 := by
  funext i; unfold jRen; rw [if_neg (by omega)]
theorem jRen_at {f : Nat → Int32} {g k : Int32} {n : Nat} : jRen f g k n n = f n := by
  unfold jRen; rw [if_neg (by omega)]
theorem jRen_y {f : Nat → Int32} {g k : Int32} {n : Nat} (h : f n = g) : upd (jRen f g k n) n k = jRen f g k (n + 1) := by
  funext i
  unfold upd jRen
  by_cases h1 : i = n
  · subst h1; rw [if_pos rfl, if_pos ⟨by omega, h⟩]
  · rw [if_neg h1]
    by_cases h2 : i < n ∧ f i = g
    · rw [if_pos h2, if_pos ⟨by omega, h2.2⟩]
    · rw [if_neg h2, if_neg (fun q => h2 ⟨by omega, q.2⟩)]
theorem jRen_n {f : Nat → Int32} {g k : Int32} {n : Nat} (h : ¬ f n = g) : jRen f g k n = jRen f g k (n + 1) := by
  funext i
  unfold jRen
  by_cases h2 : i < n ∧ f i = g
  · rw [if_pos h2, if_pos ⟨by omega, h2.2⟩]
  · rw [if_neg h2, if_neg (fun q => h2 ⟨by
      rcases Nat.lt_or_ge i n with h3 | h3
      · exact h3
      · have : i = n := by omega
        subst this; exact absurd q.2 h, q.2⟩)]
abbrev eBit (t : Nat) : Int32 := (1 : Int32) <<< (nI t &&& 31)
abbrev eOk (tg : Nat → Int32) (ec j t : Nat) : Prop := ec < 48 ∧ (tg j &&& eBit t) = 0
def eT1 (tn : Nat → Int32) (t : Nat) : Nat → Int32 := if tn t = 0 then upd tn t (nI (t + 1)) else tn
def eTn (tn jn : Nat → Int32) (j t : Nat) : Nat → Int32 := if jn j = 0 then tn else jRen tn (jMax (jn j) (tn t)) (jMin (jn j) (tn t)) 24
def eJn (tn jn : Nat → Int32) (j t : Nat) : Nat → Int32 := if jn j = 0 then upd jn j (tn t) else jRen jn (jMax (jn j) (tn t)) (jMin (jn j) (tn t)) 24
theorem iw_X0_connect_X0 : ∀ w ∈ wsX00, w ∈ wsX0_connect := by decide +kernel
theorem iw_X0_joinClasses_X0 : ∀ w ∈ wsX00, w ∈ wsX0_joinClasses := by decide +kernel
theorem iw_X0_numberOfJump_X0 : ∀ w ∈ wsX00, w ∈ wsX0_numberOfJump := by decide +kernel
theorem iw_X0_numberOfTarget_X0 : ∀ w ∈ wsX00, w ∈ wsX0_numberOfTarget := by decide +kernel
theorem hv_X0_joinClasses : yX0_joinClasses.cls = RX0 ∧ yX0_joinClasses.cls ≠ "java/lang/invoke/MethodHandle" ∧ yX0_joinClasses.cls ≠ "java/lang/invoke/VarHandle" ∧ (parseMethodDescriptor yX0_joinClasses.desc).map (fun d => d.parameters.length) = some 2 := by decide +kernel
theorem hv_X0_numberOfJump : yX0_numberOfJump.cls = RX0 ∧ yX0_numberOfJump.cls ≠ "java/lang/invoke/MethodHandle" ∧ yX0_numberOfJump.cls ≠ "java/lang/invoke/VarHandle" ∧ (parseMethodDescriptor yX0_numberOfJump.desc).map (fun d => d.parameters.length) = some 1 := by decide +kernel
theorem hv_X0_numberOfTarget : yX0_numberOfTarget.cls = RX0 ∧ yX0_numberOfTarget.cls ≠ "java/lang/invoke/MethodHandle" ∧ yX0_numberOfTarget.cls ≠ "java/lang/invoke/VarHandle" ∧ (parseMethodDescriptor yX0_numberOfTarget.desc).map (fun d => d.parameters.length) = some 1 := by decide +kernel
theorem hv_X0_renumber : yX0_renumber.cls = RX0 ∧ yX0_renumber.cls ≠ "java/lang/invoke/MethodHandle" ∧ yX0_renumber.cls ≠ "java/lang/invoke/VarHandle" ∧ (parseMethodDescriptor yX0_renumber.desc).map (fun d => d.parameters.length) = some 3 := by decide +kernel
theorem hv_X3_isAddress : yX3_isAddress.cls = RX3 ∧ yX3_isAddress.cls ≠ "java/lang/invoke/MethodHandle" ∧ yX3_isAddress.cls ≠ "java/lang/invoke/VarHandle" ∧ (parseMethodDescriptor yX3_isAddress.desc).map (fun d => d.parameters.length) = some 1 := by decide +kernel
set_option maxHeartbeats 4000000 in
set_option maxRecDepth 100000 in
theorem c_X0_numberOfTarget (l : Launch) (D : va_G) (cA : ClassId) (e0 : Nat) (t0 : Nat) (n0 : Nat) (j0 : Nat) (ec : Nat) (tn : Nat → Int32) (x : Int32) : Met l yX0_numberOfTarget wsX0_numberOfTarget ({ frames := 1, cells := 0, slots := 0, locals := 20 }) (roP D cA [.ref e0, .int x] [(e0, .inr (0, [.ref t0, .ref n0, .ref j0, .int (nI ec)])), (n0, .inl (cA, 24, .inl tn))]) (QcRead (jAt tn 24 x)) 0 0 (fun _ => False) := by
  refine Met.ofW (cc := cX0_numberOfTarget) (maxL := 2) (ret := (some .int)) (by decide) rfl ?_
  intro p e s m args below meth c s₁ B hml hv
  obtain ⟨rfl, hP, hK, hN⟩ := hv
  have hx := B.exec
  have hb := B.bytes
  have hr := B.returns
  have hts := atoms_spec (ws := wsX0_numberOfTarget) B.pre
  have hown : s.vm.findClass RX0 = some m.cls := findClass_of_methodNamed B.named
  have hlocks := B.notSynchronized
  have hl := lv_entry ([.ref e0, .int x]) (n := 2) (Nat.le_of_ble_eq_true rfl)
  rw [lg_entry_eq]
  generalize (lg_sl ([.ref e0, .int x]) ++ List.replicate (2 - (lg_sl ([.ref e0, .int x])).length) Slot.unset).toArray = ls at hl ⊢
  have hl : lv_has ls 2 [(0, .ref e0), (1, .int x)] := hl
  refine lv_iload_n hx hb dX0_numberOfTarget_0 rfl (lv_at hl 1 rfl) ?_
  refine jr_i (va_runSN (As := [.int x]) (rest := []) ⟨hx, hb, hml, hown, hts⟩ (c_X3_isAddress l D cA x) ⟨(va_cnB 1 hts gX0_numberOfTarget_X3_isAddress_n21 rfl rfl rfl hN.2.2.2.2.2.1 (hts (.initialized RX3) (List.mem_of_getElem? (l := wsX0_numberOfTarget) (i := 3) rfl)) hv_X3_isAddress.2 ⟨Nat.le_of_ble_eq_true rfl, Nat.le_of_ble_eq_true rfl⟩), (hts (.static yX3_isAddress) (List.mem_of_getElem? (l := wsX0_numberOfTarget) (i := 2) rfl)), trivial⟩ (roP.S (av := [.int x]) (jP_sub (w2 := []) hP [] rfl) hK hN) rfl rfl hl.1 rfl (lv_room (Nat.le_of_ble_eq_true rfl)) dX0_numberOfTarget_1 ⟨Nat.le_of_ble_eq_true rfl, Nat.le_of_ble_eq_true rfl⟩) ?_
  refine lv_if_eq (tgt := 16) hx hb dX0_numberOfTarget_4 (by decide) (fun c_4 => ?_) (fun c_4 => ?_)
  · replace c_4 := jB_z.mp c_4
    refine lv_iconst (v := 0) hx hb dX0_numberOfTarget_16 (by decide) ?_
    exact W.iret (v := 0) hx hb hr (fun t9 ht9 hW9 => ⟨jk_ret (show 0 = (jAt tn 24 x) from (jAt_no c_4).symm), ht9⟩) (fun q h => absurd h List.not_mem_nil) dX0_numberOfTarget_17
  · replace c_4 := jB_nz.mp c_4
    obtain ⟨j, hj, rfl⟩ := jN_of (n := 24) (by decide) c_4
    refine lv_aload_n hx hb dX0_numberOfTarget_7 rfl (lv_at hl 0 rfl) ?_
    refine va_get (D := D) (ci := 0) (v := .ref n0) (C := RX0) (T := TX0) (N := 4) hx hb hts iw_X0_numberOfTarget_X0 hown hK hP 0 rfl rfl 1 (by decide) (hts (.fieldLink RX0 15 "JumpGuard$Edges" "targetNumbers" "[I") (List.mem_of_getElem? (l := wsX0_numberOfTarget) (i := 1) rfl)) (fun _ h9 => h9) rfl dX0_numberOfTarget_8 ?_
    refine lv_iload_n hx hb dX0_numberOfTarget_11 rfl (lv_at hl 1 rfl) ?_
    refine jk_ald hx hb hK hP 1 0 rfl rfl (k := j) rfl (by omega) (by omega) dX0_numberOfTarget_12 ?_
    refine lv_goto (tgt := 17) hx hb dX0_numberOfTarget_13 (by decide) ?_
    exact W.iret (v := (tn j)) hx hb hr (fun t9 ht9 hW9 => ⟨jk_ret (show (tn j) = (jAt tn 24 (nI j)) from (jAt_n (n := 24) hj (by decide)).symm), ht9⟩) (fun q h => absurd h List.not_mem_nil) dX0_numberOfTarget_17
set_option maxHeartbeats 4000000 in
set_option maxRecDepth 100000 in
theorem c_X0_numberOfJump (l : Launch) (D : va_G) (cA : ClassId) (e0 : Nat) (t0 : Nat) (n0 : Nat) (j0 : Nat) (ec : Nat) (jn : Nat → Int32) (x : Int32) : Met l yX0_numberOfJump wsX0_numberOfJump ({ frames := 1, cells := 0, slots := 0, locals := 20 }) (roP D cA [.ref e0, .int x] [(e0, .inr (0, [.ref t0, .ref n0, .ref j0, .int (nI ec)])), (j0, .inl (cA, 24, .inl jn))]) (QcRead (jAt jn 24 x)) 0 0 (fun _ => False) := by
  refine Met.ofW (cc := cX0_numberOfJump) (maxL := 2) (ret := (some .int)) (by decide) rfl ?_
  intro p e s m args below meth c s₁ B hml hv
  obtain ⟨rfl, hP, hK, hN⟩ := hv
  have hx := B.exec
  have hb := B.bytes
  have hr := B.returns
  have hts := atoms_spec (ws := wsX0_numberOfJump) B.pre
  have hown : s.vm.findClass RX0 = some m.cls := findClass_of_methodNamed B.named
  have hlocks := B.notSynchronized
  have hl := lv_entry ([.ref e0, .int x]) (n := 2) (Nat.le_of_ble_eq_true rfl)
  rw [lg_entry_eq]
  generalize (lg_sl ([.ref e0, .int x]) ++ List.replicate (2 - (lg_sl ([.ref e0, .int x])).length) Slot.unset).toArray = ls at hl ⊢
  have hl : lv_has ls 2 [(0, .ref e0), (1, .int x)] := hl
  refine lv_iload_n hx hb dX0_numberOfJump_0 rfl (lv_at hl 1 rfl) ?_
  refine jr_i (va_runSN (As := [.int x]) (rest := []) ⟨hx, hb, hml, hown, hts⟩ (c_X3_isAddress l D cA x) ⟨(va_cnB 1 hts gX0_numberOfJump_X3_isAddress_n21 rfl rfl rfl hN.2.2.2.2.2.1 (hts (.initialized RX3) (List.mem_of_getElem? (l := wsX0_numberOfJump) (i := 3) rfl)) hv_X3_isAddress.2 ⟨Nat.le_of_ble_eq_true rfl, Nat.le_of_ble_eq_true rfl⟩), (hts (.static yX3_isAddress) (List.mem_of_getElem? (l := wsX0_numberOfJump) (i := 2) rfl)), trivial⟩ (roP.S (av := [.int x]) (jP_sub (w2 := []) hP [] rfl) hK hN) rfl rfl hl.1 rfl (lv_room (Nat.le_of_ble_eq_true rfl)) dX0_numberOfJump_1 ⟨Nat.le_of_ble_eq_true rfl, Nat.le_of_ble_eq_true rfl⟩) ?_
  refine lv_if_eq (tgt := 16) hx hb dX0_numberOfJump_4 (by decide) (fun c_4 => ?_) (fun c_4 => ?_)
  · replace c_4 := jB_z.mp c_4
    refine lv_iconst (v := 0) hx hb dX0_numberOfJump_16 (by decide) ?_
    exact W.iret (v := 0) hx hb hr (fun t9 ht9 hW9 => ⟨jk_ret (show 0 = (jAt jn 24 x) from (jAt_no c_4).symm), ht9⟩) (fun q h => absurd h List.not_mem_nil) dX0_numberOfJump_17
  · replace c_4 := jB_nz.mp c_4
    obtain ⟨j, hj, rfl⟩ := jN_of (n := 24) (by decide) c_4
    refine lv_aload_n hx hb dX0_numberOfJump_7 rfl (lv_at hl 0 rfl) ?_
    refine va_get (D := D) (ci := 0) (v := .ref j0) (C := RX0) (T := TX0) (N := 4) hx hb hts iw_X0_numberOfJump_X0 hown hK hP 0 rfl rfl 2 (by decide) (hts (.fieldLink RX0 18 "JumpGuard$Edges" "jumpNumbers" "[I") (List.mem_of_getElem? (l := wsX0_numberOfJump) (i := 1) rfl)) (fun _ h9 => h9) rfl dX0_numberOfJump_8 ?_
    refine lv_iload_n hx hb dX0_numberOfJump_11 rfl (lv_at hl 1 rfl) ?_
    refine jk_ald hx hb hK hP 1 0 rfl rfl (k := j) rfl (by omega) (by omega) dX0_numberOfJump_12 ?_
    refine lv_goto (tgt := 17) hx hb dX0_numberOfJump_13 (by decide) ?_
    exact W.iret (v := (jn j)) hx hb hr (fun t9 ht9 hW9 => ⟨jk_ret (show (jn j) = (jAt jn 24 (nI j)) from (jAt_n (n := 24) hj (by decide)).symm), ht9⟩) (fun q h => absurd h List.not_mem_nil) dX0_numberOfJump_17
set_option maxHeartbeats 4000000 in
set_option maxRecDepth 100000 in
theorem c_X0_renumber (l : Launch) (D : va_G) (cA : ClassId) (sz : Nat) (a0 : Nat) (f : Nat → Int32) (g : Int32) (k : Int32) : Met l yX0_renumber wsX0_renumber ({ frames := 0, cells := 0, slots := 0, locals := 0 }) (rwP D cA [.ref a0, .int g, .int k] sz [(a0, .inl (cA, 24, .inl f))]) (rwV D (va_A [(a0, .inl (cA, 24, .inl f))] sz) [(a0, .inl (cA, 24, .inl (jRen f g k 24)))]) 0 0 (va_A [(a0, .inl (cA, 24, .inl f))] sz) := by
  refine Met.ofW (cc := cX0_renumber) (maxL := 4) (ret := none) (by decide) rfl ?_
  intro p e s m args below meth c s₁ B hml hv
  obtain ⟨rfl, hsz, hP, hK, hN, hD0⟩ := hv
  have hx := B.exec
  have hb := B.bytes
  have hr := B.returns
  have hts := atoms_spec (ws := wsX0_renumber) B.pre
  have hown : s.vm.findClass RX0 = some m.cls := findClass_of_methodNamed B.named
  have hlocks := B.notSynchronized
  subst hsz
  have hD := hD0.self (sz := s.heap.size)
  generalize hAe : va_A [(a0, .inl (cA, 24, .inl f))] s.heap.size = A at hD ⊢
  have hA : ∀ q : Nat, s.heap.size ≤ q → A q := fun q h => by rw [← hAe]; exact Or.inr h
  have hS : va_S A s.heap s.heap [] := va_S.rf
  have hl := lv_entry ([.ref a0, .int g, .int k]) (n := 4) (Nat.le_of_ble_eq_true rfl)
  rw [lg_entry_eq]
  generalize (lg_sl ([.ref a0, .int g, .int k]) ++ List.replicate (4 - (lg_sl ([.ref a0, .int g, .int k])).length) Slot.unset).toArray = ls at hl ⊢
  have hl : lv_has ls 4 [(0, .ref a0), (1, .int g), (2, .int k)] := hl
  refine lv_iconst (v := 0) hx hb dX0_renumber_0 (by decide) ?_
  refine lv_istore_n (lv' := [(3, .int 0), (0, .ref a0), (1, .int g), (2, .int k)]) hx hb dX0_renumber_1 rfl hl (by decide) rfl (fun ls hl => ?_)
  have loop2 : ∀ (n : Nat) (i : Nat) (F : Nat → Int32), (i ≤ 24) → (25 ≤ i + n) → (F = jRen f g k i) → ∀ (H : Heap) (locs : List Loc), va_P D vwCl [(a0, .inl (cA, 24, .inl F))] H → va_D A [(a0, .inl (cA, 24, .inl F))] → va_S A s.heap H locs → ∀ (ls : Array Slot), lv_has ls 4 [(0, .ref a0), (1, .int g), (2, .int k), (3, .int (nI i))] → W p l e (headSpec wsX0_renumber ({ frames := 0, cells := 0, slots := 0, locals := 0 })).room s m ([.ref a0, .int g, .int k] : List Value).toArray below meth c H locs 0 0 (MQ below (rwV D A [(a0, .inl (cA, 24, .inl (jRen f g k 24)))]) ([.ref a0, .int g, .int k] : List Value).toArray s 0 0 A) (F0 m 2 ls []) := by
    intro n
    induction n with
    | zero => intro i F hi hfu hF; exact absurd hfu (by omega)
    | succ n ih2 =>
      intro i F hi hfu hF H locs hP hD hS ls hl
      refine lv_iload_n hx hb dX0_renumber_2 rfl (lv_at hl 3 rfl) ?_
      refine lv_aload_n hx hb dX0_renumber_3 rfl (lv_at hl 0 rfl) ?_
      refine va_alen (v := nI 24) hx hb hK hP 0 0 rfl rfl rfl dX0_renumber_4 ?_
      refine lv_icmp_ge (tgt := 25) hx hb dX0_renumber_5 (by decide) (fun c_5 => ?_) (fun c_5 => ?_)
      · have hi2 : i = 24 := by
          rcases Nat.lt_or_ge i 24 with q | q
          · exact absurd c_5 (nI_ge q (by decide))
          · omega
        subst hi2
        obtain ⟨hP9, hD9⟩ := jk_end (w2 := [(a0, .inl (cA, 24, .inl F))]) hP hD [0] (by decide) rfl
        have e9 : ([(a0, .inl (cA, 24, .inl F))] : va_W) = [(a0, .inl (cA, 24, .inl (jRen f g k 24)))] := (by rw [hF])
        rw [e9] at hP9 hD9
        exact W.vret hx hb hr (fun t9 ht9 hW9 => ⟨⟨(), rfl, trivial, by rw [ht9]; exact hP9, hD9⟩, hS.F ht9⟩) hS.2.2 dX0_renumber_25
      · have hi2 : i < 24 := by
          rcases Nat.lt_or_ge i 24 with q | q
          · exact q
          · exact absurd (nI_le q (by omega)) c_5
        refine lv_aload_n hx hb dX0_renumber_8 rfl (lv_at hl 0 rfl) ?_
        refine lv_iload_n hx hb dX0_renumber_9 rfl (lv_at hl 3 rfl) ?_
        refine jk_ald hx hb hK hP 0 0 rfl rfl (k := i) rfl (by omega) (by omega) dX0_renumber_10 ?_
        refine lv_iload_n hx hb dX0_renumber_11 rfl (lv_at hl 1 rfl) ?_
        refine lv_icmp_ne (tgt := 19) hx hb dX0_renumber_12 (by decide) (fun c_12 => ?_) (fun c_12 => ?_)
        · refine lv_iinc (v := (nI (i + 1))) (lv' := [(3, .int (nI (i + 1))), (0, .ref a0), (1, .int g), (2, .int k)]) hx hb dX0_renumber_19 hl (k := 3) rfl (jn_a1 i) (by decide) rfl (fun ls hl => ?_)
          refine lv_goto (tgt := 2) hx hb dX0_renumber_22 (by decide) ?_
          exact ih2 (i + 1) F (by omega) (by omega) (by first | (subst hF; rw [jRen_at] at c_12; exact jRen_y c_12) | (subst hF; rw [jRen_at] at c_12; exact jRen_n c_12)) _ _ (jP_sub (w2 := [(a0, .inl (cA, 24, .inl F))]) hP [0] rfl) (hD.sub (ws' := [(a0, .inl (cA, 24, .inl F))]) [0] (by decide) rfl) hS ls (lv_sub hl [1, 2, 3, 0] rfl)
        · refine lv_aload_n hx hb dX0_renumber_15 rfl (lv_at hl 0 rfl) ?_
          refine lv_iload_n hx hb dX0_renumber_16 rfl (lv_at hl 3 rfl) ?_
          refine lv_iload_n hx hb dX0_renumber_17 rfl (lv_at hl 2 rfl) ?_
          refine jk_ast hx hb hK hP hD hS 0 0 rfl rfl (k := i) rfl (by omega) (by omega) dX0_renumber_18 (fun H locs hP hD hS => ?_)
          have hP : va_P D vwCl [(a0, .inl (cA, 24, .inl (upd F i k)))] H := hP
          have hD : va_D A [(a0, .inl (cA, 24, .inl (upd F i k)))] := hD
          refine lv_iinc (v := (nI (i + 1))) (lv' := [(3, .int (nI (i + 1))), (0, .ref a0), (1, .int g), (2, .int k)]) hx hb dX0_renumber_19 hl (k := 3) rfl (jn_a1 i) (by decide) rfl (fun ls hl => ?_)
          refine lv_goto (tgt := 2) hx hb dX0_renumber_22 (by decide) ?_
          exact ih2 (i + 1) (upd F i k) (by omega) (by omega) (by first | (subst hF; rw [jRen_at] at c_12; exact jRen_y c_12) | (subst hF; rw [jRen_at] at c_12; exact jRen_n c_12)) _ _ (jP_sub (w2 := [(a0, .inl (cA, 24, .inl (upd F i k)))]) hP [0] rfl) (hD.sub (ws' := [(a0, .inl (cA, 24, .inl (upd F i k)))]) [0] (by decide) rfl) hS ls (lv_sub hl [1, 2, 3, 0] rfl)
  exact loop2 25 0 f (by omega) (by omega) (jRen_0 f g k) _ _ (jP_sub (w2 := [(a0, .inl (cA, 24, .inl f))]) hP [0] rfl) (hD.sub (ws' := [(a0, .inl (cA, 24, .inl f))]) [0] (by decide) rfl) hS ls (lv_sub hl [1, 2, 3, 0] rfl)
set_option maxHeartbeats 4000000 in
set_option maxRecDepth 100000 in
theorem c_X0_joinClasses (l : Launch) (D : va_G) (cA : ClassId) (sz : Nat) (e0 : Nat) (t0 : Nat) (n0 : Nat) (j0 : Nat) (ec : Nat) (tn : Nat → Int32) (jn : Nat → Int32) (j : Nat) (t : Nat) (hj : j < 24) (ht : t < 24) : Met l yX0_joinClasses wsX0_joinClasses ({ frames := 2, cells := 0, slots := 0, locals := 41 }) (rwP D cA [.ref e0, .int (nI j), .int (nI t)] sz [(e0, .inr (0, [.ref t0, .ref n0, .ref j0, .int (nI ec)])), (n0, .inl (cA, 24, .inl tn)), (j0, .inl (cA, 24, .inl jn))]) (rwV D (va_A [(e0, .inr (0, [.ref t0, .ref n0, .ref j0, .int (nI ec)])), (n0, .inl (cA, 24, .inl tn)), (j0, .inl (cA, 24, .inl jn))] sz) [(e0, .inr (0, [.ref t0, .ref n0, .ref j0, .int (nI ec)])), (n0, .inl (cA, 24, .inl (eTn tn jn j t))), (j0, .inl (cA, 24, .inl (eJn tn jn j t)))]) 0 0 (va_A [(e0, .inr (0, [.ref t0, .ref n0, .ref j0, .int (nI ec)])), (n0, .inl (cA, 24, .inl tn)), (j0, .inl (cA, 24, .inl jn))] sz) := by
  refine Met.ofW (cc := cX0_joinClasses) (maxL := 7) (ret := none) (by decide) rfl ?_
  intro p e s m args below meth c s₁ B hml hv
  obtain ⟨rfl, hsz, hP, hK, hN, hD0⟩ := hv
  have hx := B.exec
  have hb := B.bytes
  have hr := B.returns
  have hts := atoms_spec (ws := wsX0_joinClasses) B.pre
  have hown : s.vm.findClass RX0 = some m.cls := findClass_of_methodNamed B.named
  have hlocks := B.notSynchronized
  subst hsz
  have hD := hD0.self (sz := s.heap.size)
  generalize hAe : va_A [(e0, .inr (0, [.ref t0, .ref n0, .ref j0, .int (nI ec)])), (n0, .inl (cA, 24, .inl tn)), (j0, .inl (cA, 24, .inl jn))] s.heap.size = A at hD ⊢
  have hA : ∀ q : Nat, s.heap.size ≤ q → A q := fun q h => by rw [← hAe]; exact Or.inr h
  have hS : va_S A s.heap s.heap [] := va_S.rf
  have hl := lv_entry ([.ref e0, .int (nI j), .int (nI t)]) (n := 7) (Nat.le_of_ble_eq_true rfl)
  rw [lg_entry_eq]
  generalize (lg_sl ([.ref e0, .int (nI j), .int (nI t)]) ++ List.replicate (7 - (lg_sl ([.ref e0, .int (nI j), .int (nI t)])).length) Slot.unset).toArray = ls at hl ⊢
  have hl : lv_has ls 7 [(0, .ref e0), (1, .int (nI j)), (2, .int (nI t))] := hl
  refine lv_aload_n hx hb dX0_joinClasses_0 rfl (lv_at hl 0 rfl) ?_
  refine lv_iload_n hx hb dX0_joinClasses_1 rfl (lv_at hl 1 rfl) ?_
  refine jr_i (va_runV (As := [.int (nI j)]) (rest := []) ⟨hx, hb, hml, hown, hts⟩ (c_X0_numberOfJump l D cA e0 t0 n0 j0 ec jn (nI j)) (cwV 1 hts gX0_joinClasses_X0_numberOfJump rfl rfl rfl hv_X0_numberOfJump ⟨Nat.le_of_ble_eq_true rfl, Nat.le_of_ble_eq_true rfl⟩) (roP.V (va_recv hK hP (ci := 0) (q0 := 0) rfl rfl) (jP_sub (w2 := [(e0, .inr (0, [.ref t0, .ref n0, .ref j0, .int (nI ec)])), (j0, .inl (cA, 24, .inl jn))]) hP [0, 2] rfl) hK hN) rfl rfl hl.1 rfl (lv_room (Nat.le_of_ble_eq_true rfl)) dX0_joinClasses_2 ⟨Nat.le_of_ble_eq_true rfl, Nat.le_of_ble_eq_true rfl⟩) ?_
  refine jk_top (show (jAt jn 24 (nI j)) = (jn j) from jAt_n (n := 24) hj (by decide)) ?_
  refine lv_istore_n (lv' := [(3, .int (jn j)), (0, .ref e0), (1, .int (nI j)), (2, .int (nI t))]) hx hb dX0_joinClasses_5 rfl hl (by decide) rfl (fun ls hl => ?_)
  refine lv_aload_n hx hb dX0_joinClasses_6 rfl (lv_at hl 1 rfl) ?_
  refine lv_iload_n hx hb dX0_joinClasses_7 rfl (lv_at hl 3 rfl) ?_
  refine jr_i (va_runV (As := [.int (nI t)]) (rest := []) ⟨hx, hb, hml, hown, hts⟩ (c_X0_numberOfTarget l D cA e0 t0 n0 j0 ec tn (nI t)) (cwV 1 hts gX0_joinClasses_X0_numberOfTarget rfl rfl rfl hv_X0_numberOfTarget ⟨Nat.le_of_ble_eq_true rfl, Nat.le_of_ble_eq_true rfl⟩) (roP.V (va_recv hK hP (ci := 0) (q0 := 0) rfl rfl) (jP_sub (w2 := [(e0, .inr (0, [.ref t0, .ref n0, .ref j0, .int (nI ec)])), (n0, .inl (cA, 24, .inl tn))]) hP [0, 1] rfl) hK hN) rfl rfl hl.1 rfl (lv_room (Nat.le_of_ble_eq_true rfl)) dX0_joinClasses_8 ⟨Nat.le_of_ble_eq_true rfl, Nat.le_of_ble_eq_true rfl⟩) ?_
  refine jk_top (show (jAt tn 24 (nI t)) = (tn t) from jAt_n (n := 24) ht (by decide)) ?_
  refine lv_istore (lv' := [(4, .int (tn t)), (3, .int (jn j)), (0, .ref e0), (1, .int (nI j)), (2, .int (nI t))]) hx hb dX0_joinClasses_11 hl (by decide) rfl (fun ls hl => ?_)
  refine lv_iload_n hx hb dX0_joinClasses_13 rfl (lv_at hl 1 rfl) ?_
  refine lv_if_ne (tgt := 26) hx hb dX0_joinClasses_14 (by decide) (fun c_14 => ?_) (fun c_14 => ?_)
  · refine lv_iload_n hx hb dX0_joinClasses_26 rfl (lv_at hl 1 rfl) ?_
    refine lv_iload hx hb dX0_joinClasses_27 (lv_at hl 0 rfl) ?_
    refine va_mmin hx hb (by rw [hml]; exact hl.1.symm) hown (hts (.methodLink RX0 40 Lib.Math.min.name) (List.mem_of_getElem? (l := wsX0_joinClasses) (i := 2) rfl)) (hts (.static Lib.Math.min.name) (List.mem_of_getElem? (l := wsX0_joinClasses) (i := 3) rfl)) (hts (.initialized "java/lang/Math") (List.mem_of_getElem? (l := wsX0_joinClasses) (i := 4) rfl)) (hts (.code Lib.Math.min.name Lib.Math.min.code 2 (some .int)) (List.mem_of_getElem? (l := wsX0_joinClasses) (i := 5) rfl)) (Nat.le_of_ble_eq_true rfl) (Nat.le_of_ble_eq_true rfl) (Nat.le_of_ble_eq_true rfl) (Nat.le_of_ble_eq_true rfl) dX0_joinClasses_29 ?_
    refine lv_istore (lv' := [(5, .int (jMin (jn j) (tn t))), (4, .int (tn t)), (3, .int (jn j)), (0, .ref e0), (1, .int (nI j)), (2, .int (nI t))]) hx hb dX0_joinClasses_32 hl (by decide) rfl (fun ls hl => ?_)
    refine lv_iload_n hx hb dX0_joinClasses_34 rfl (lv_at hl 2 rfl) ?_
    refine lv_iload hx hb dX0_joinClasses_35 (lv_at hl 1 rfl) ?_
    refine va_mmax hx hb (by rw [hml]; exact hl.1.symm) hown (hts (.methodLink RX0 46 Lib.Math.max.name) (List.mem_of_getElem? (l := wsX0_joinClasses) (i := 6) rfl)) (hts (.static Lib.Math.max.name) (List.mem_of_getElem? (l := wsX0_joinClasses) (i := 7) rfl)) (hts (.initialized "java/lang/Math") (List.mem_of_getElem? (l := wsX0_joinClasses) (i := 4) rfl)) (hts (.code Lib.Math.max.name Lib.Math.max.code 2 (some .int)) (List.mem_of_getElem? (l := wsX0_joinClasses) (i := 8) rfl)) (Nat.le_of_ble_eq_true rfl) (Nat.le_of_ble_eq_true rfl) (Nat.le_of_ble_eq_true rfl) (Nat.le_of_ble_eq_true rfl) dX0_joinClasses_37 ?_
    refine lv_istore (lv' := [(6, .int (jMax (jn j) (tn t))), (5, .int (jMin (jn j) (tn t))), (4, .int (tn t)), (3, .int (jn j)), (0, .ref e0), (1, .int (nI j)), (2, .int (nI t))]) hx hb dX0_joinClasses_40 hl (by decide) rfl (fun ls hl => ?_)
    refine lv_aload_n hx hb dX0_joinClasses_42 rfl (lv_at hl 4 rfl) ?_
    refine va_get (D := D) (ci := 0) (v := .ref n0) (C := RX0) (T := TX0) (N := 4) hx hb hts iw_X0_joinClasses_X0 hown hK hP 0 rfl rfl 1 (by decide) (hts (.fieldLink RX0 15 "JumpGuard$Edges" "targetNumbers" "[I") (List.mem_of_getElem? (l := wsX0_joinClasses) (i := 9) rfl)) (fun _ h9 => h9) rfl dX0_joinClasses_43 ?_
    refine lv_iload hx hb dX0_joinClasses_46 (lv_at hl 0 rfl) ?_
    refine lv_iload hx hb dX0_joinClasses_48 (lv_at hl 1 rfl) ?_
    refine jw_v (va_runS (As := [.ref n0, .int (jMax (jn j) (tn t)), .int (jMin (jn j) (tn t))]) (rest := []) ⟨hx, hb, hml, hown, hts⟩ (c_X0_renumber l D cA s.heap.size n0 tn (jMax (jn j) (tn t)) (jMin (jn j) (tn t))) (va_cwS 3 hts gX0_joinClasses_X0_renumber rfl rfl rfl hv_X0_renumber.2 ⟨Nat.le_of_ble_eq_true rfl, Nat.le_of_ble_eq_true rfl⟩) (rwP.S (av := [.ref n0, .int (jMax (jn j) (tn t)), .int (jMin (jn j) (tn t))]) (wc := [(n0, .inl (cA, 24, .inl tn))]) hP hD hK hN [1] (by decide) rfl) rfl rfl hl.1 rfl (lv_room (Nat.le_of_ble_eq_true rfl)) dX0_joinClasses_50 ⟨Nat.le_of_ble_eq_true rfl, Nat.le_of_ble_eq_true rfl⟩) hP hD hS hA [1] [0, 2] [0, 2, 1] (wr := [(e0, .inr (0, [.ref t0, .ref n0, .ref j0, .int (nI ec)])), (j0, .inl (cA, 24, .inl jn))]) (w2 := [(e0, .inr (0, [.ref t0, .ref n0, .ref j0, .int (nI ec)])), (n0, .inl (cA, 24, .inl (jRen tn (jMax (jn j) (tn t)) (jMin (jn j) (tn t)) 24))), (j0, .inl (cA, 24, .inl jn))]) rfl rfl (by decide) (by decide) (by decide) rfl (fun H locs hP hD hS => ?_)
    refine lv_aload_n hx hb dX0_joinClasses_53 rfl (lv_at hl 4 rfl) ?_
    refine va_get (D := D) (ci := 0) (v := .ref j0) (C := RX0) (T := TX0) (N := 4) hx hb hts iw_X0_joinClasses_X0 hown hK hP 0 rfl rfl 2 (by decide) (hts (.fieldLink RX0 18 "JumpGuard$Edges" "jumpNumbers" "[I") (List.mem_of_getElem? (l := wsX0_joinClasses) (i := 1) rfl)) (fun _ h9 => h9) rfl dX0_joinClasses_54 ?_
    refine lv_iload hx hb dX0_joinClasses_57 (lv_at hl 0 rfl) ?_
    refine lv_iload hx hb dX0_joinClasses_59 (lv_at hl 1 rfl) ?_
    refine jw_v (va_runS (As := [.ref j0, .int (jMax (jn j) (tn t)), .int (jMin (jn j) (tn t))]) (rest := []) ⟨hx, hb, hml, hown, hts⟩ (c_X0_renumber l D cA H.size j0 jn (jMax (jn j) (tn t)) (jMin (jn j) (tn t))) (va_cwS 3 hts gX0_joinClasses_X0_renumber rfl rfl rfl hv_X0_renumber.2 ⟨Nat.le_of_ble_eq_true rfl, Nat.le_of_ble_eq_true rfl⟩) (rwP.S (av := [.ref j0, .int (jMax (jn j) (tn t)), .int (jMin (jn j) (tn t))]) (wc := [(j0, .inl (cA, 24, .inl jn))]) hP hD hK hN [2] (by decide) rfl) rfl rfl hl.1 rfl (lv_room (Nat.le_of_ble_eq_true rfl)) dX0_joinClasses_61 ⟨Nat.le_of_ble_eq_true rfl, Nat.le_of_ble_eq_true rfl⟩) hP hD hS hA [2] [0, 1] [0, 1, 2] (wr := [(e0, .inr (0, [.ref t0, .ref n0, .ref j0, .int (nI ec)])), (n0, .inl (cA, 24, .inl (jRen tn (jMax (jn j) (tn t)) (jMin (jn j) (tn t)) 24)))]) (w2 := [(e0, .inr (0, [.ref t0, .ref n0, .ref j0, .int (nI ec)])), (n0, .inl (cA, 24, .inl (jRen tn (jMax (jn j) (tn t)) (jMin (jn j) (tn t)) 24))), (j0, .inl (cA, 24, .inl (jRen jn (jMax (jn j) (tn t)) (jMin (jn j) (tn t)) 24)))]) rfl rfl (by decide) (by decide) (by decide) rfl (fun H locs hP hD hS => ?_)
    obtain ⟨hP9, hD9⟩ := jk_end (w2 := [(e0, .inr (0, [.ref t0, .ref n0, .ref j0, .int (nI ec)])), (n0, .inl (cA, 24, .inl (jRen tn (jMax (jn j) (tn t)) (jMin (jn j) (tn t)) 24))), (j0, .inl (cA, 24, .inl (jRen jn (jMax (jn j) (tn t)) (jMin (jn j) (tn t)) 24)))]) hP hD [0, 1, 2] (by decide) rfl
    have e9 : ([(e0, .inr (0, [.ref t0, .ref n0, .ref j0, .int (nI ec)])), (n0, .inl (cA, 24, .inl (jRen tn (jMax (jn j) (tn t)) (jMin (jn j) (tn t)) 24))), (j0, .inl (cA, 24, .inl (jRen jn (jMax (jn j) (tn t)) (jMin (jn j) (tn t)) 24)))] : va_W) = [(e0, .inr (0, [.ref t0, .ref n0, .ref j0, .int (nI ec)])), (n0, .inl (cA, 24, .inl (eTn tn jn j t))), (j0, .inl (cA, 24, .inl (eJn tn jn j t)))] := (by unfold eTn eJn; rw [if_neg c_14, if_neg c_14])
    rw [e9] at hP9 hD9
    exact W.vret hx hb hr (fun t9 ht9 hW9 => ⟨⟨(), rfl, trivial, by rw [ht9]; exact hP9, hD9⟩, hS.F ht9⟩) hS.2.2 dX0_joinClasses_64
  · refine lv_aload_n hx hb dX0_joinClasses_17 rfl (lv_at hl 2 rfl) ?_
    refine va_get (D := D) (ci := 0) (v := .ref j0) (C := RX0) (T := TX0) (N := 4) hx hb hts iw_X0_joinClasses_X0 hown hK hP 0 rfl rfl 2 (by decide) (hts (.fieldLink RX0 18 "JumpGuard$Edges" "jumpNumbers" "[I") (List.mem_of_getElem? (l := wsX0_joinClasses) (i := 1) rfl)) (fun _ h9 => h9) rfl dX0_joinClasses_18 ?_
    refine lv_iload_n hx hb dX0_joinClasses_21 rfl (lv_at hl 3 rfl) ?_
    refine lv_iload hx hb dX0_joinClasses_22 (lv_at hl 0 rfl) ?_
    refine jk_ast hx hb hK hP hD hS 2 0 rfl rfl (k := j) rfl (by omega) (by omega) dX0_joinClasses_24 (fun H locs hP hD hS => ?_)
    have hP : va_P D vwCl [(e0, .inr (0, [.ref t0, .ref n0, .ref j0, .int (nI ec)])), (n0, .inl (cA, 24, .inl tn)), (j0, .inl (cA, 24, .inl (upd jn j (tn t))))] H := hP
    have hD : va_D A [(e0, .inr (0, [.ref t0, .ref n0, .ref j0, .int (nI ec)])), (n0, .inl (cA, 24, .inl tn)), (j0, .inl (cA, 24, .inl (upd jn j (tn t))))] := hD
    obtain ⟨hP9, hD9⟩ := jk_end (w2 := [(e0, .inr (0, [.ref t0, .ref n0, .ref j0, .int (nI ec)])), (n0, .inl (cA, 24, .inl tn)), (j0, .inl (cA, 24, .inl (upd jn j (tn t))))]) hP hD [0, 1, 2] (by decide) rfl
    have e9 : ([(e0, .inr (0, [.ref t0, .ref n0, .ref j0, .int (nI ec)])), (n0, .inl (cA, 24, .inl tn)), (j0, .inl (cA, 24, .inl (upd jn j (tn t))))] : va_W) = [(e0, .inr (0, [.ref t0, .ref n0, .ref j0, .int (nI ec)])), (n0, .inl (cA, 24, .inl (eTn tn jn j t))), (j0, .inl (cA, 24, .inl (eJn tn jn j t)))] := (by unfold eTn eJn; rw [if_pos c_14, if_pos c_14])
    rw [e9] at hP9 hD9
    exact W.vret hx hb hr (fun t9 ht9 hW9 => ⟨⟨(), rfl, trivial, by rw [ht9]; exact hP9, hD9⟩, hS.F ht9⟩) hS.2.2 dX0_joinClasses_25
set_option maxHeartbeats 4000000 in
set_option maxRecDepth 100000 in
theorem c_X0_connect (l : Launch) (D : va_G) (cA : ClassId) (sz : Nat) (e0 : Nat) (t0 : Nat) (n0 : Nat) (j0 : Nat) (ec : Nat) (tg : Nat → Int32) (tn : Nat → Int32) (jn : Nat → Int32) (j : Nat) (t : Nat) (hj : j < 24) (ht : t < 24) (hec : ec ≤ 48) : Met l yX0_connect wsX0_connect ({ frames := 3, cells := 0, slots := 0, locals := 67 }) (rwP D cA [.ref e0, .int (nI j), .int (nI t)] sz [(e0, .inr (0, [.ref t0, .ref n0, .ref j0, .int (nI ec)])), (t0, .inl (cA, 24, .inl tg)), (n0, .inl (cA, 24, .inl tn)), (j0, .inl (cA, 24, .inl jn))]) (rwI D (va_A [(e0, .inr (0, [.ref t0, .ref n0, .ref j0, .int (nI ec)])), (t0, .inl (cA, 24, .inl tg)), (n0, .inl (cA, 24, .inl tn)), (j0, .inl (cA, 24, .inl jn))] sz) (jB (eOk tg ec j t)) [(e0, .inr (0, [.ref t0, .ref n0, .ref j0, .int (nI (if eOk tg ec j t then ec + 1 else ec))])), (t0, .inl (cA, 24, .inl (if eOk tg ec j t then upd tg j (tg j ||| eBit t) else tg))), (n0, .inl (cA, 24, .inl (if eOk tg ec j t then eTn (eT1 tn t) jn j t else tn))), (j0, .inl (cA, 24, .inl (if eOk tg ec j t then eJn (eT1 tn t) jn j t else jn)))]) 0 0 (va_A [(e0, .inr (0, [.ref t0, .ref n0, .ref j0, .int (nI ec)])), (t0, .inl (cA, 24, .inl tg)), (n0, .inl (cA, 24, .inl tn)), (j0, .inl (cA, 24, .inl jn))] sz) := by
  refine Met.ofW (cc := cX0_connect) (maxL := 4) (ret := (some .boolean)) (by decide) rfl ?_
  intro p e s m args below meth c s₁ B hml hv
  obtain ⟨rfl, hsz, hP, hK, hN, hD0⟩ := hv
  have hx := B.exec
  have hb := B.bytes
  have hr := B.returns
  have hts := atoms_spec (ws := wsX0_connect) B.pre
  have hown : s.vm.findClass RX0 = some m.cls := findClass_of_methodNamed B.named
  have hlocks := B.notSynchronized
  subst hsz
  have hD := hD0.self (sz := s.heap.size)
  generalize hAe : va_A [(e0, .inr (0, [.ref t0, .ref n0, .ref j0, .int (nI ec)])), (t0, .inl (cA, 24, .inl tg)), (n0, .inl (cA, 24, .inl tn)), (j0, .inl (cA, 24, .inl jn))] s.heap.size = A at hD ⊢
  have hA : ∀ q : Nat, s.heap.size ≤ q → A q := fun q h => by rw [← hAe]; exact Or.inr h
  have hS : va_S A s.heap s.heap [] := va_S.rf
  have hl := lv_entry ([.ref e0, .int (nI j), .int (nI t)]) (n := 4) (Nat.le_of_ble_eq_true rfl)
  rw [lg_entry_eq]
  generalize (lg_sl ([.ref e0, .int (nI j), .int (nI t)]) ++ List.replicate (4 - (lg_sl ([.ref e0, .int (nI j), .int (nI t)])).length) Slot.unset).toArray = ls at hl ⊢
  have hl : lv_has ls 4 [(0, .ref e0), (1, .int (nI j)), (2, .int (nI t))] := hl
  refine lv_iload_n hx hb dX0_connect_0 rfl (lv_at hl 1 rfl) ?_
  refine jr_i (va_runSN (As := [.int (nI j)]) (rest := []) ⟨hx, hb, hml, hown, hts⟩ (c_X3_isAddress l D cA (nI j)) ⟨(va_cnB 1 hts gX0_connect_X3_isAddress_n21 rfl rfl rfl hN.2.2.2.2.2.1 (hts (.initialized RX3) (List.mem_of_getElem? (l := wsX0_connect) (i := 5) rfl)) hv_X3_isAddress.2 ⟨Nat.le_of_ble_eq_true rfl, Nat.le_of_ble_eq_true rfl⟩), (hts (.static yX3_isAddress) (List.mem_of_getElem? (l := wsX0_connect) (i := 4) rfl)), trivial⟩ (roP.S (av := [.int (nI j)]) (jP_sub (w2 := []) hP [] rfl) hK hN) rfl rfl hl.1 rfl (lv_room (Nat.le_of_ble_eq_true rfl)) dX0_connect_1 ⟨Nat.le_of_ble_eq_true rfl, Nat.le_of_ble_eq_true rfl⟩) ?_
  refine lv_if_eq (tgt := 23) hx hb dX0_connect_4 (by decide) (fun c_4 => ?_) (fun c_4 => ?_)
  · replace c_4 := jB_z.mp c_4
    exact absurd ((jIn_n (n := 24) (by decide)).mpr hj).1 c_4
  · replace c_4 := jB_nz.mp c_4
    refine lv_iload_n hx hb dX0_connect_7 rfl (lv_at hl 2 rfl) ?_
    refine jr_i (va_runSN (As := [.int (nI t)]) (rest := []) ⟨hx, hb, hml, hown, hts⟩ (c_X3_isAddress l D cA (nI t)) ⟨(va_cnB 1 hts gX0_connect_X3_isAddress_n21 rfl rfl rfl hN.2.2.2.2.2.1 (hts (.initialized RX3) (List.mem_of_getElem? (l := wsX0_connect) (i := 5) rfl)) hv_X3_isAddress.2 ⟨Nat.le_of_ble_eq_true rfl, Nat.le_of_ble_eq_true rfl⟩), (hts (.static yX3_isAddress) (List.mem_of_getElem? (l := wsX0_connect) (i := 4) rfl)), trivial⟩ (roP.S (av := [.int (nI t)]) (jP_sub (w2 := []) hP [] rfl) hK hN) rfl rfl hl.1 rfl (lv_room (Nat.le_of_ble_eq_true rfl)) dX0_connect_8 ⟨Nat.le_of_ble_eq_true rfl, Nat.le_of_ble_eq_true rfl⟩) ?_
    refine lv_if_eq (tgt := 23) hx hb dX0_connect_11 (by decide) (fun c_11 => ?_) (fun c_11 => ?_)
    · replace c_11 := jB_z.mp c_11
      exact absurd ((jIn_n (n := 24) (by decide)).mpr ht).1 c_11
    · replace c_11 := jB_nz.mp c_11
      refine lv_aload_n hx hb dX0_connect_14 rfl (lv_at hl 0 rfl) ?_
      refine va_get (D := D) (ci := 0) (v := .int (nI ec)) (C := RX0) (T := TX0) (N := 4) hx hb hts iw_X0_connect_X0 hown hK hP 0 rfl rfl 3 (by decide) (hts (.fieldLink RX0 25 "JumpGuard$Edges" "count" "I") (List.mem_of_getElem? (l := wsX0_connect) (i := 1) rfl)) (fun _ h9 => h9) rfl dX0_connect_15 ?_
      refine lv_bipush (v := 48) hx hb dX0_connect_18 (by decide) ?_
      refine lv_icmp_lt (tgt := 25) hx hb dX0_connect_20 (by decide) (fun c_20 => ?_) (fun c_20 => ?_)
      · have h48 : ec < 48 := (nI_ltI (b := 48) (by omega) (by decide)).mp c_20
        refine lv_iconst (v := 1) hx hb dX0_connect_25 (by decide) ?_
        refine lv_iload_n hx hb dX0_connect_26 rfl (lv_at hl 2 rfl) ?_
        refine lv_ishl hx hb dX0_connect_27 ?_
        refine lv_istore_n (lv' := [(3, .int (1 <<< ((nI t) &&& 31))), (0, .ref e0), (1, .int (nI j)), (2, .int (nI t))]) hx hb dX0_connect_28 rfl hl (by decide) rfl (fun ls hl => ?_)
        refine lv_aload_n hx hb dX0_connect_29 rfl (lv_at hl 1 rfl) ?_
        refine va_get (D := D) (ci := 0) (v := .ref t0) (C := RX0) (T := TX0) (N := 4) hx hb hts iw_X0_connect_X0 hown hK hP 0 rfl rfl 0 (by decide) (hts (.fieldLink RX0 9 "JumpGuard$Edges" "targets" "[I") (List.mem_of_getElem? (l := wsX0_connect) (i := 2) rfl)) (fun _ h9 => h9) rfl dX0_connect_30 ?_
        refine lv_iload_n hx hb dX0_connect_33 rfl (lv_at hl 2 rfl) ?_
        refine jk_ald hx hb hK hP 1 0 rfl rfl (k := j) rfl (by omega) (by omega) dX0_connect_34 ?_
        refine lv_iload_n hx hb dX0_connect_35 rfl (lv_at hl 0 rfl) ?_
        refine lv_iand hx hb dX0_connect_36 ?_
        refine lv_if_eq (tgt := 42) hx hb dX0_connect_37 (by decide) (fun c_37 => ?_) (fun c_37 => ?_)
        · have hE : eOk tg ec j t := ⟨h48, c_37⟩
          refine lv_aload_n hx hb dX0_connect_42 rfl (lv_at hl 1 rfl) ?_
          refine va_get (D := D) (ci := 0) (v := .ref t0) (C := RX0) (T := TX0) (N := 4) hx hb hts iw_X0_connect_X0 hown hK hP 0 rfl rfl 0 (by decide) (hts (.fieldLink RX0 9 "JumpGuard$Edges" "targets" "[I") (List.mem_of_getElem? (l := wsX0_connect) (i := 2) rfl)) (fun _ h9 => h9) rfl dX0_connect_43 ?_
          refine lv_iload_n hx hb dX0_connect_46 rfl (lv_at hl 2 rfl) ?_
          refine lv_dup2_11 hx hb dX0_connect_47 rfl rfl ?_
          refine jk_ald hx hb hK hP 1 0 rfl rfl (k := j) rfl (by omega) (by omega) dX0_connect_48 ?_
          refine lv_iload_n hx hb dX0_connect_49 rfl (lv_at hl 0 rfl) ?_
          refine lv_ior hx hb dX0_connect_50 ?_
          refine jk_ast hx hb hK hP hD hS 1 0 rfl rfl (k := j) rfl (by omega) (by omega) dX0_connect_51 (fun H locs hP hD hS => ?_)
          have hP : va_P D vwCl [(e0, .inr (0, [.ref t0, .ref n0, .ref j0, .int (nI ec)])), (t0, .inl (cA, 24, .inl (upd tg j ((tg j) ||| (1 <<< ((nI t) &&& 31)))))), (n0, .inl (cA, 24, .inl tn)), (j0, .inl (cA, 24, .inl jn))] H := hP
          have hD : va_D A [(e0, .inr (0, [.ref t0, .ref n0, .ref j0, .int (nI ec)])), (t0, .inl (cA, 24, .inl (upd tg j ((tg j) ||| (1 <<< ((nI t) &&& 31)))))), (n0, .inl (cA, 24, .inl tn)), (j0, .inl (cA, 24, .inl jn))] := hD
          refine lv_aload_n hx hb dX0_connect_52 rfl (lv_at hl 1 rfl) ?_
          refine lv_dup hx hb dX0_connect_53 rfl ?_
          refine va_get (D := D) (ci := 0) (v := .int (nI ec)) (C := RX0) (T := TX0) (N := 4) hx hb hts iw_X0_connect_X0 hown hK hP 0 rfl rfl 3 (by decide) (hts (.fieldLink RX0 25 "JumpGuard$Edges" "count" "I") (List.mem_of_getElem? (l := wsX0_connect) (i := 1) rfl)) (fun _ h9 => h9) rfl dX0_connect_54 ?_
          refine lv_iconst (v := 1) hx hb dX0_connect_57 (by decide) ?_
          refine lv_iadd hx hb dX0_connect_58 ?_
          refine jk_top (show ((nI ec) + 1) = (nI (ec + 1)) from jn_a1 ec) ?_
          refine va_put (D := D) (ci := 0) (v := .int (nI (ec + 1))) (ty := .int) (C := RX0) (T := TX0) (N := 4) hx hb hts iw_X0_connect_X0 tyX0 tyX0_ok nmX0 hown hK hP hD hS 0 rfl rfl 3 (by decide) (hts (.fieldLink RX0 25 "JumpGuard$Edges" "count" "I") (List.mem_of_getElem? (l := wsX0_connect) (i := 1) rfl)) (fun _ h9 => h9) rfl (by decide +kernel) rfl rfl (Nat.le_of_ble_eq_true rfl) dX0_connect_59 (fun H locs hP hD hS => ?_)
          have hP : va_P D vwCl [(e0, .inr (0, [.ref t0, .ref n0, .ref j0, .int (nI (ec + 1))])), (t0, .inl (cA, 24, .inl (upd tg j ((tg j) ||| (1 <<< ((nI t) &&& 31)))))), (n0, .inl (cA, 24, .inl tn)), (j0, .inl (cA, 24, .inl jn))] H := hP
          have hD : va_D A [(e0, .inr (0, [.ref t0, .ref n0, .ref j0, .int (nI (ec + 1))])), (t0, .inl (cA, 24, .inl (upd tg j ((tg j) ||| (1 <<< ((nI t) &&& 31)))))), (n0, .inl (cA, 24, .inl tn)), (j0, .inl (cA, 24, .inl jn))] := hD
          refine lv_aload_n hx hb dX0_connect_62 rfl (lv_at hl 1 rfl) ?_
          refine va_get (D := D) (ci := 0) (v := .ref n0) (C := RX0) (T := TX0) (N := 4) hx hb hts iw_X0_connect_X0 hown hK hP 0 rfl rfl 1 (by decide) (hts (.fieldLink RX0 15 "JumpGuard$Edges" "targetNumbers" "[I") (List.mem_of_getElem? (l := wsX0_connect) (i := 3) rfl)) (fun _ h9 => h9) rfl dX0_connect_63 ?_
          refine lv_iload_n hx hb dX0_connect_66 rfl (lv_at hl 3 rfl) ?_
          refine jk_ald hx hb hK hP 2 0 rfl rfl (k := t) rfl (by omega) (by omega) dX0_connect_67 ?_
          refine lv_if_ne (tgt := 80) hx hb dX0_connect_68 (by decide) (fun c_68 => ?_) (fun c_68 => ?_)
          · have h1 : tn = eT1 tn t := by unfold eT1; rw [if_neg c_68]
            refine lv_aload_n hx hb dX0_connect_80 rfl (lv_at hl 1 rfl) ?_
            refine lv_iload_n hx hb dX0_connect_81 rfl (lv_at hl 2 rfl) ?_
            refine lv_iload_n hx hb dX0_connect_82 rfl (lv_at hl 3 rfl) ?_
            refine jw_v (va_runV (As := [.int (nI j), .int (nI t)]) (rest := []) ⟨hx, hb, hml, hown, hts⟩ (c_X0_joinClasses l D cA H.size e0 t0 n0 j0 (ec + 1) tn jn j t (by first | assumption | omega) (by first | assumption | omega)) (cwV 2 hts gX0_connect_X0_joinClasses rfl rfl rfl hv_X0_joinClasses ⟨Nat.le_of_ble_eq_true rfl, Nat.le_of_ble_eq_true rfl⟩) (rwP.V (wc := [(e0, .inr (0, [.ref t0, .ref n0, .ref j0, .int (nI (ec + 1))])), (n0, .inl (cA, 24, .inl tn)), (j0, .inl (cA, 24, .inl jn))]) (va_recv hK hP (ci := 0) (q0 := 0) rfl rfl) hP hD hK hN [0, 2, 3] (by decide) rfl) rfl rfl hl.1 rfl (lv_room (Nat.le_of_ble_eq_true rfl)) dX0_connect_83 ⟨Nat.le_of_ble_eq_true rfl, Nat.le_of_ble_eq_true rfl⟩) hP hD hS hA [0, 2, 3] [1] [1, 0, 2, 3] (wr := [(t0, .inl (cA, 24, .inl (upd tg j ((tg j) ||| (1 <<< ((nI t) &&& 31))))))]) (w2 := [(e0, .inr (0, [.ref t0, .ref n0, .ref j0, .int (nI (ec + 1))])), (t0, .inl (cA, 24, .inl (upd tg j ((tg j) ||| (1 <<< ((nI t) &&& 31)))))), (n0, .inl (cA, 24, .inl (eTn tn jn j t))), (j0, .inl (cA, 24, .inl (eJn tn jn j t)))]) rfl rfl (by decide) (by decide) (by decide) rfl (fun H locs hP hD hS => ?_)
            refine lv_iconst (v := 1) hx hb dX0_connect_86 (by decide) ?_
            obtain ⟨hP9, hD9⟩ := jk_end (w2 := [(e0, .inr (0, [.ref t0, .ref n0, .ref j0, .int (nI (ec + 1))])), (t0, .inl (cA, 24, .inl (upd tg j ((tg j) ||| (1 <<< ((nI t) &&& 31)))))), (n0, .inl (cA, 24, .inl (eTn tn jn j t))), (j0, .inl (cA, 24, .inl (eJn tn jn j t)))]) hP hD [0, 1, 2, 3] (by decide) rfl
            have e9 : ([(e0, .inr (0, [.ref t0, .ref n0, .ref j0, .int (nI (ec + 1))])), (t0, .inl (cA, 24, .inl (upd tg j ((tg j) ||| (1 <<< ((nI t) &&& 31)))))), (n0, .inl (cA, 24, .inl (eTn tn jn j t))), (j0, .inl (cA, 24, .inl (eJn tn jn j t)))] : va_W) = [(e0, .inr (0, [.ref t0, .ref n0, .ref j0, .int (nI (if eOk tg ec j t then ec + 1 else ec))])), (t0, .inl (cA, 24, .inl (if eOk tg ec j t then upd tg j (tg j ||| eBit t) else tg))), (n0, .inl (cA, 24, .inl (if eOk tg ec j t then eTn (eT1 tn t) jn j t else tn))), (j0, .inl (cA, 24, .inl (if eOk tg ec j t then eJn (eT1 tn t) jn j t else jn)))] := (by simp only [if_pos hE]; rw [← h1])
            rw [e9] at hP9 hD9
            exact W.zret (ty := .boolean) (v := 1) hx hb hr rfl (fun t9 ht9 hW9 => ⟨⟨_, (), rfl, (show 1 = (jB (eOk tg ec j t)) from (jB_t hE).symm), by rw [ht9]; exact hP9, hD9⟩, hS.F ht9⟩) hS.2.2 dX0_connect_87
          · have h1 : upd tn t (nI (t + 1)) = eT1 tn t := by unfold eT1; rw [if_pos c_68]
            refine lv_aload_n hx hb dX0_connect_71 rfl (lv_at hl 1 rfl) ?_
            refine va_get (D := D) (ci := 0) (v := .ref n0) (C := RX0) (T := TX0) (N := 4) hx hb hts iw_X0_connect_X0 hown hK hP 0 rfl rfl 1 (by decide) (hts (.fieldLink RX0 15 "JumpGuard$Edges" "targetNumbers" "[I") (List.mem_of_getElem? (l := wsX0_connect) (i := 3) rfl)) (fun _ h9 => h9) rfl dX0_connect_72 ?_
            refine lv_iload_n hx hb dX0_connect_75 rfl (lv_at hl 3 rfl) ?_
            refine lv_iload_n hx hb dX0_connect_76 rfl (lv_at hl 3 rfl) ?_
            refine lv_iconst (v := 1) hx hb dX0_connect_77 (by decide) ?_
            refine lv_iadd hx hb dX0_connect_78 ?_
            refine jk_top (show ((nI t) + 1) = (nI (t + 1)) from jn_a1 t) ?_
            refine jk_ast hx hb hK hP hD hS 2 0 rfl rfl (k := t) rfl (by omega) (by omega) dX0_connect_79 (fun H locs hP hD hS => ?_)
            have hP : va_P D vwCl [(e0, .inr (0, [.ref t0, .ref n0, .ref j0, .int (nI (ec + 1))])), (t0, .inl (cA, 24, .inl (upd tg j ((tg j) ||| (1 <<< ((nI t) &&& 31)))))), (n0, .inl (cA, 24, .inl (upd tn t (nI (t + 1))))), (j0, .inl (cA, 24, .inl jn))] H := hP
            have hD : va_D A [(e0, .inr (0, [.ref t0, .ref n0, .ref j0, .int (nI (ec + 1))])), (t0, .inl (cA, 24, .inl (upd tg j ((tg j) ||| (1 <<< ((nI t) &&& 31)))))), (n0, .inl (cA, 24, .inl (upd tn t (nI (t + 1))))), (j0, .inl (cA, 24, .inl jn))] := hD
            refine lv_aload_n hx hb dX0_connect_80 rfl (lv_at hl 1 rfl) ?_
            refine lv_iload_n hx hb dX0_connect_81 rfl (lv_at hl 2 rfl) ?_
            refine lv_iload_n hx hb dX0_connect_82 rfl (lv_at hl 3 rfl) ?_
            refine jw_v (va_runV (As := [.int (nI j), .int (nI t)]) (rest := []) ⟨hx, hb, hml, hown, hts⟩ (c_X0_joinClasses l D cA H.size e0 t0 n0 j0 (ec + 1) (upd tn t (nI (t + 1))) jn j t (by first | assumption | omega) (by first | assumption | omega)) (cwV 2 hts gX0_connect_X0_joinClasses rfl rfl rfl hv_X0_joinClasses ⟨Nat.le_of_ble_eq_true rfl, Nat.le_of_ble_eq_true rfl⟩) (rwP.V (wc := [(e0, .inr (0, [.ref t0, .ref n0, .ref j0, .int (nI (ec + 1))])), (n0, .inl (cA, 24, .inl (upd tn t (nI (t + 1))))), (j0, .inl (cA, 24, .inl jn))]) (va_recv hK hP (ci := 0) (q0 := 0) rfl rfl) hP hD hK hN [0, 2, 3] (by decide) rfl) rfl rfl hl.1 rfl (lv_room (Nat.le_of_ble_eq_true rfl)) dX0_connect_83 ⟨Nat.le_of_ble_eq_true rfl, Nat.le_of_ble_eq_true rfl⟩) hP hD hS hA [0, 2, 3] [1] [1, 0, 2, 3] (wr := [(t0, .inl (cA, 24, .inl (upd tg j ((tg j) ||| (1 <<< ((nI t) &&& 31))))))]) (w2 := [(e0, .inr (0, [.ref t0, .ref n0, .ref j0, .int (nI (ec + 1))])), (t0, .inl (cA, 24, .inl (upd tg j ((tg j) ||| (1 <<< ((nI t) &&& 31)))))), (n0, .inl (cA, 24, .inl (eTn (upd tn t (nI (t + 1))) jn j t))), (j0, .inl (cA, 24, .inl (eJn (upd tn t (nI (t + 1))) jn j t)))]) rfl rfl (by decide) (by decide) (by decide) rfl (fun H locs hP hD hS => ?_)
            refine lv_iconst (v := 1) hx hb dX0_connect_86 (by decide) ?_
            obtain ⟨hP9, hD9⟩ := jk_end (w2 := [(e0, .inr (0, [.ref t0, .ref n0, .ref j0, .int (nI (ec + 1))])), (t0, .inl (cA, 24, .inl (upd tg j ((tg j) ||| (1 <<< ((nI t) &&& 31)))))), (n0, .inl (cA, 24, .inl (eTn (upd tn t (nI (t + 1))) jn j t))), (j0, .inl (cA, 24, .inl (eJn (upd tn t (nI (t + 1))) jn j t)))]) hP hD [0, 1, 2, 3] (by decide) rfl
            have e9 : ([(e0, .inr (0, [.ref t0, .ref n0, .ref j0, .int (nI (ec + 1))])), (t0, .inl (cA, 24, .inl (upd tg j ((tg j) ||| (1 <<< ((nI t) &&& 31)))))), (n0, .inl (cA, 24, .inl (eTn (upd tn t (nI (t + 1))) jn j t))), (j0, .inl (cA, 24, .inl (eJn (upd tn t (nI (t + 1))) jn j t)))] : va_W) = [(e0, .inr (0, [.ref t0, .ref n0, .ref j0, .int (nI (if eOk tg ec j t then ec + 1 else ec))])), (t0, .inl (cA, 24, .inl (if eOk tg ec j t then upd tg j (tg j ||| eBit t) else tg))), (n0, .inl (cA, 24, .inl (if eOk tg ec j t then eTn (eT1 tn t) jn j t else tn))), (j0, .inl (cA, 24, .inl (if eOk tg ec j t then eJn (eT1 tn t) jn j t else jn)))] := (by simp only [if_pos hE]; rw [← h1])
            rw [e9] at hP9 hD9
            exact W.zret (ty := .boolean) (v := 1) hx hb hr rfl (fun t9 ht9 hW9 => ⟨⟨_, (), rfl, (show 1 = (jB (eOk tg ec j t)) from (jB_t hE).symm), by rw [ht9]; exact hP9, hD9⟩, hS.F ht9⟩) hS.2.2 dX0_connect_87
        · have hE : ¬ eOk tg ec j t := fun h => c_37 h.2
          refine lv_iconst (v := 0) hx hb dX0_connect_40 (by decide) ?_
          obtain ⟨hP9, hD9⟩ := jk_end (w2 := [(e0, .inr (0, [.ref t0, .ref n0, .ref j0, .int (nI ec)])), (t0, .inl (cA, 24, .inl tg)), (n0, .inl (cA, 24, .inl tn)), (j0, .inl (cA, 24, .inl jn))]) hP hD [0, 1, 2, 3] (by decide) rfl
          have e9 : ([(e0, .inr (0, [.ref t0, .ref n0, .ref j0, .int (nI ec)])), (t0, .inl (cA, 24, .inl tg)), (n0, .inl (cA, 24, .inl tn)), (j0, .inl (cA, 24, .inl jn))] : va_W) = [(e0, .inr (0, [.ref t0, .ref n0, .ref j0, .int (nI (if eOk tg ec j t then ec + 1 else ec))])), (t0, .inl (cA, 24, .inl (if eOk tg ec j t then upd tg j (tg j ||| eBit t) else tg))), (n0, .inl (cA, 24, .inl (if eOk tg ec j t then eTn (eT1 tn t) jn j t else tn))), (j0, .inl (cA, 24, .inl (if eOk tg ec j t then eJn (eT1 tn t) jn j t else jn)))] := (by simp only [if_neg hE])
          rw [e9] at hP9 hD9
          exact W.zret (ty := .boolean) (v := 0) hx hb hr rfl (fun t9 ht9 hW9 => ⟨⟨_, (), rfl, (show 0 = (jB (eOk tg ec j t)) from (jB_f hE).symm), by rw [ht9]; exact hP9, hD9⟩, hS.F ht9⟩) hS.2.2 dX0_connect_41
      · have hE : ¬ eOk tg ec j t := fun h => c_20 ((nI_ltI (b := 48) (by omega) (by decide)).mpr h.1)
        refine lv_iconst (v := 0) hx hb dX0_connect_23 (by decide) ?_
        obtain ⟨hP9, hD9⟩ := jk_end (w2 := [(e0, .inr (0, [.ref t0, .ref n0, .ref j0, .int (nI ec)])), (t0, .inl (cA, 24, .inl tg)), (n0, .inl (cA, 24, .inl tn)), (j0, .inl (cA, 24, .inl jn))]) hP hD [0, 1, 2, 3] (by decide) rfl
        have e9 : ([(e0, .inr (0, [.ref t0, .ref n0, .ref j0, .int (nI ec)])), (t0, .inl (cA, 24, .inl tg)), (n0, .inl (cA, 24, .inl tn)), (j0, .inl (cA, 24, .inl jn))] : va_W) = [(e0, .inr (0, [.ref t0, .ref n0, .ref j0, .int (nI (if eOk tg ec j t then ec + 1 else ec))])), (t0, .inl (cA, 24, .inl (if eOk tg ec j t then upd tg j (tg j ||| eBit t) else tg))), (n0, .inl (cA, 24, .inl (if eOk tg ec j t then eTn (eT1 tn t) jn j t else tn))), (j0, .inl (cA, 24, .inl (if eOk tg ec j t then eJn (eT1 tn t) jn j t else jn)))] := (by simp only [if_neg hE])
        rw [e9] at hP9 hD9
        exact W.zret (ty := .boolean) (v := 0) hx hb hr rfl (fun t9 ht9 hW9 => ⟨⟨_, (), rfl, (show 0 = (jB (eOk tg ec j t)) from (jB_f hE).symm), by rw [ht9]; exact hP9, hD9⟩, hS.F ht9⟩) hS.2.2 dX0_connect_24
end
section
/-! ===== Machine ===== -/
def jFill (f : Nat → Int32) (v : Int32) (n : Nat) : Nat → Int32 := fun i => if i < n then v else f i
theorem jFill_0 (f : Nat → Int32) (v : Int32) : f = jFill f v 0 := by
  funext i; unfold jFill; rw [if_neg (by omega)]
theorem jFill_s (f : Nat → Int32) (v : Int32) (n : Nat) : upd (jFill f v n) n v = jFill f v (n + 1) := by
  funext i; unfold upd jFill
  by_cases h : i = n
  · rw [if_pos h, if_pos (by omega)]
  · rw [if_neg h]
    by_cases h2 : i < n
    · rw [if_pos h2, if_pos (by omega)]
    · rw [if_neg h2, if_neg (by omega)]
def mShown (L : Nat → Int32) (w : Nat) (x : Int32) : Int32 := if jIn x 8 ∧ ¬ nI w ≤ x then L ((w - 1 - x.toNatClampNeg) % 8) else 0
theorem mShown_no {L : Nat → Int32} {w : Nat} {x : Int32} (h : ¬ (jIn x 8 ∧ ¬ nI w ≤ x)) : mShown L w x = 0 := if_neg h
theorem mShown_at {L : Nat → Int32} {w j : Nat} (h : j < 8) (hw : j < w) (h3 : w < 2 ^ 31) : mShown L w (nI j) = L ((w - 1 - j) % 8) := by
  unfold mShown
  rw [if_pos ⟨((jIn_n (n := 8) (by decide)).mpr h).1, nI_ge hw h3⟩, nI_clamp (by omega)]
def mvR (o : Nat) (a b : Int32) (R C : Nat → Int32) : Nat → Int32 := if o = 1 ∨ o = 9 then jPut R 4 a b else if o = 2 then jPut R 4 a (jAt C 16 b) else if o = 4 then jPut R 4 a (jAt R 4 a + jAt R 4 b) else R
def mvC (o : Nat) (a b : Int32) (R C : Nat → Int32) : Nat → Int32 := if o = 3 then jPut C 16 b (jAt R 4 a) else C
def mvL (o : Nat) (a : Int32) (R L : Nat → Int32) (w : Nat) : Nat → Int32 := if o = 5 then upd L (w % 8) (jAt R 4 a) else L
def mvW (o w : Nat) : Nat := if o = 5 then w + 1 else w
def mvJ (f : Nat → Int32) (k : Nat) (x st : Int32) : Int32 := if jIn x (nI k) then st else 3
def mvG (f : Nat → Int32) (k : Nat) (x y st : Int32) : Int32 := if pGet f k x 0 = 10 ∧ pGet f k x 1 = y then st else 2
def mvS (o : Nat) (a b : Int32) (R f : Nat → Int32) (k : Nat) (st : Int32) : Int32 := if o = 0 then 1 else if o = 8 then mvJ f k (jAt R 4 a) st else if o = 11 then mvG f k (jAt R 4 a) b st else st
def mvN (o : Nat) (a b : Int32) (R : Nat → Int32) (pc : Int32) : Int32 := if o = 6 then a else if o = 7 then (if jAt R 4 a = 0 then b else pc + 1) else if o = 8 then jAt R 4 a else pc + 1
/-- a machine's numbers: registers, cells, what was shown, pc, condition, how often it was shown -/
abbrev MS : Type := (Nat → Int32) × (Nat → Int32) × (Nat → Int32) × Nat × Int32 × Nat
def mOp (f : Nat → Int32) (i : Nat) : Nat := (f (i * 3)).toNatClampNeg
def mStep (f : Nat → Int32) (k : Nat) (x : MS) : MS :=
  (mvR (mOp f x.2.2.2.1) (f (x.2.2.2.1 * 3 + 1)) (f (x.2.2.2.1 * 3 + 2)) x.1 x.2.1,
   mvC (mOp f x.2.2.2.1) (f (x.2.2.2.1 * 3 + 1)) (f (x.2.2.2.1 * 3 + 2)) x.1 x.2.1,
   mvL (mOp f x.2.2.2.1) (f (x.2.2.2.1 * 3 + 1)) x.1 x.2.2.1 x.2.2.2.2.2,
   (if mvS (mOp f x.2.2.2.1) (f (x.2.2.2.1 * 3 + 1)) (f (x.2.2.2.1 * 3 + 2)) x.1 f k x.2.2.2.2.1 = 0 then (mvN (mOp f x.2.2.2.1) (f (x.2.2.2.1 * 3 + 1)) (f (x.2.2.2.1 * 3 + 2)) x.1 (nI x.2.2.2.1)).toNatClampNeg else x.2.2.2.1),
   mvS (mOp f x.2.2.2.1) (f (x.2.2.2.1 * 3 + 1)) (f (x.2.2.2.1 * 3 + 2)) x.1 f k x.2.2.2.2.1,
   mvW (mOp f x.2.2.2.1) x.2.2.2.2.2)
def mRun (f : Nat → Int32) (k : Nat) : Nat → MS → Nat × MS
  | 0, x => (0, x)
  | n + 1, x => if x.2.2.2.2.1 = 0 then ((mRun f k n (mStep f k x)).1 + 1, (mRun f k n (mStep f k x)).2) else (0, x)
/-- a program that its own steps don't leave -/
def mWF (f : Nat → Int32) (k : Nat) : Prop := k ≤ 72 ∧ ∀ i, i < k → ∃ o, o < 12 ∧ f (i * 3) = nI o ∧ (o = 6 → ∃ t, t < k ∧ f (i * 3 + 1) = nI t) ∧ (o = 7 → ∃ t, t < k ∧ f (i * 3 + 2) = nI t) ∧ (o ≠ 0 → o ≠ 6 → o ≠ 8 → i + 1 < k) ∧ (o ≠ 0 → o ≠ 6 → o ≠ 10 → ∃ t, t < 4 ∧ f (i * 3 + 1) = nI t) ∧ (o = 2 ∨ o = 3 → ∃ t, t < 16 ∧ f (i * 3 + 2) = nI t) ∧ (o = 4 → ∃ t, t < 4 ∧ f (i * 3 + 2) = nI t)
theorem mOp_is {f : Nat → Int32} {i o : Nat} (ho : o < 12) (h : f (i * 3) = nI o) : mOp f i = o := by
  unfold mOp; rw [h, nI_clamp (by omega)]
theorem mStep_in {f : Nat → Int32} {k : Nat} (hwf : mWF f k) {i : Nat} (hi : i < k) (R : Nat → Int32) (st : Int32) (h : mvS (mOp f i) (f (i * 3 + 1)) (f (i * 3 + 2)) R f k st = 0) : ∃ t, t < k ∧ mvN (mOp f i) (f (i * 3 + 1)) (f (i * 3 + 2)) R (nI i) = nI t := by
  obtain ⟨hk, hw⟩ := hwf
  obtain ⟨o, ho, h0, h6, h7, hn, -⟩ := hw i hi
  rw [mOp_is ho h0] at h ⊢
  unfold mvN
  by_cases e6 : o = 6
  · obtain ⟨t, ht, e⟩ := h6 e6
    exact ⟨t, ht, by rw [if_pos e6, e]⟩
  · rw [if_neg e6]
    by_cases e7 : o = 7
    · obtain ⟨t, ht, e⟩ := h7 e7
      rw [if_pos e7]
      by_cases q : jAt R 4 (f (i * 3 + 1)) = 0
      · exact ⟨t, ht, by rw [if_pos q, e]⟩
      · exact ⟨i + 1, hn (by omega) (by omega) (by omega), by rw [if_neg q, jn_a1]⟩
    · rw [if_neg e7]
      by_cases e8 : o = 8
      · rw [if_pos e8]
        unfold mvS at h
        rw [if_neg (by omega), if_pos e8] at h
        unfold mvJ at h
        by_cases q : jIn (jAt R 4 (f (i * 3 + 1))) (nI k)
        · exact jN_of (by omega) q
        · rw [if_neg q] at h; exact absurd h (by decide)
      · rw [if_neg e8]
        by_cases e0 : o = 0
        · unfold mvS at h
          rw [if_pos e0] at h
          exact absurd h (by decide)
        · exact ⟨i + 1, hn e0 e6 e8, jn_a1 i⟩
theorem mStep_lt {f : Nat → Int32} {k : Nat} (hwf : mWF f k) {x : MS} (hi : x.2.2.2.1 < k) : (mStep f k x).2.2.2.2.1 = 0 → (mStep f k x).2.2.2.1 < k := by
  intro h
  obtain ⟨t, ht, e⟩ := mStep_in hwf hi x.1 x.2.2.2.2.1 h
  have hk := hwf.1
  have h2 : mvS (mOp f x.2.2.2.1) (f (x.2.2.2.1 * 3 + 1)) (f (x.2.2.2.1 * 3 + 2)) x.1 f k x.2.2.2.2.1 = 0 := h
  show (if _ = 0 then _ else _) < k
  rw [if_pos h2, e, nI_clamp (by omega)]
  exact ht
theorem mStep_w (f : Nat → Int32) (k : Nat) (x : MS) : (mStep f k x).2.2.2.2.2 ≤ x.2.2.2.2.2 + 1 := by
  show mvW _ _ ≤ _
  unfold mvW
  split <;> omega
theorem mRun_stop {f : Nat → Int32} {k n : Nat} {x : MS} (h : ¬ x.2.2.2.2.1 = 0) : mRun f k n x = (0, x) := by
  cases n with
  | zero => rfl
  | succ n => show (if _ then _ else _) = _; rw [if_neg h]
theorem mRun_next {f : Nat → Int32} {k nn i : Nat} {x y : MS} (hlt : i < nn) (hrun : mRun f k nn x = (i + (mRun f k (nn - i) y).1, (mRun f k (nn - i) y).2)) (h : y.2.2.2.2.1 = 0) : mRun f k nn x = ((i + 1) + (mRun f k (nn - (i + 1)) (mStep f k y)).1, (mRun f k (nn - (i + 1)) (mStep f k y)).2) := by
  rw [hrun]
  have e : nn - i = (nn - (i + 1)) + 1 := by omega
  rw [e]
  have e2 : mRun f k ((nn - (i + 1)) + 1) y = ((mRun f k (nn - (i + 1)) (mStep f k y)).1 + 1, (mRun f k (nn - (i + 1)) (mStep f k y)).2) := by
    show (if _ then _ else _) = _
    rw [if_pos h]
  rw [e2]
  exact Prod.ext (by show _ + (_ + 1) = _; omega) rfl
theorem iw_X1_carryOut_X1 : ∀ w ∈ wsX10, w ∈ wsX1_carryOut := by decide +kernel
theorem iw_X1_cellValue_X1 : ∀ w ∈ wsX10, w ∈ wsX1_cellValue := by decide +kernel
theorem iw_X1_checkLabel_X1 : ∀ w ∈ wsX10, w ∈ wsX1_checkLabel := by decide +kernel
theorem iw_X1_isIdle_X1 : ∀ w ∈ wsX10, w ∈ wsX1_isIdle := by decide +kernel
theorem iw_X1_jumpTo_X1 : ∀ w ∈ wsX10, w ∈ wsX1_jumpTo := by decide +kernel
theorem iw_X1_keepShown_X1 : ∀ w ∈ wsX10, w ∈ wsX1_keepShown := by decide +kernel
theorem iw_X1_makeStep_X1 : ∀ w ∈ wsX10, w ∈ wsX1_makeStep := by decide +kernel
theorem iw_X1_makeSteps_X1 : ∀ w ∈ wsX10, w ∈ wsX1_makeSteps := by decide +kernel
theorem iw_X1_registerValue_X1 : ∀ w ∈ wsX10, w ∈ wsX1_registerValue := by decide +kernel
theorem iw_X1_setCell_X1 : ∀ w ∈ wsX10, w ∈ wsX1_setCell := by decide +kernel
theorem iw_X1_setRegister_X1 : ∀ w ∈ wsX10, w ∈ wsX1_setRegister := by decide +kernel
theorem iw_X1_shownBefore_X1 : ∀ w ∈ wsX10, w ∈ wsX1_shownBefore := by decide +kernel
theorem iw_X1_stop_X1 : ∀ w ∈ wsX10, w ∈ wsX1_stop := by decide +kernel
theorem hv_X1_carryOut : yX1_carryOut.cls = RX1 ∧ yX1_carryOut.cls ≠ "java/lang/invoke/MethodHandle" ∧ yX1_carryOut.cls ≠ "java/lang/invoke/VarHandle" ∧ (parseMethodDescriptor yX1_carryOut.desc).map (fun d => d.parameters.length) = some 3 := by decide +kernel
theorem hv_X1_cellValue : yX1_cellValue.cls = RX1 ∧ yX1_cellValue.cls ≠ "java/lang/invoke/MethodHandle" ∧ yX1_cellValue.cls ≠ "java/lang/invoke/VarHandle" ∧ (parseMethodDescriptor yX1_cellValue.desc).map (fun d => d.parameters.length) = some 1 := by decide +kernel
theorem hv_X1_checkLabel : yX1_checkLabel.cls = RX1 ∧ yX1_checkLabel.cls ≠ "java/lang/invoke/MethodHandle" ∧ yX1_checkLabel.cls ≠ "java/lang/invoke/VarHandle" ∧ (parseMethodDescriptor yX1_checkLabel.desc).map (fun d => d.parameters.length) = some 2 := by decide +kernel
theorem hv_X1_jumpTo : yX1_jumpTo.cls = RX1 ∧ yX1_jumpTo.cls ≠ "java/lang/invoke/MethodHandle" ∧ yX1_jumpTo.cls ≠ "java/lang/invoke/VarHandle" ∧ (parseMethodDescriptor yX1_jumpTo.desc).map (fun d => d.parameters.length) = some 1 := by decide +kernel
theorem hv_X1_keepShown : yX1_keepShown.cls = RX1 ∧ yX1_keepShown.cls ≠ "java/lang/invoke/MethodHandle" ∧ yX1_keepShown.cls ≠ "java/lang/invoke/VarHandle" ∧ (parseMethodDescriptor yX1_keepShown.desc).map (fun d => d.parameters.length) = some 1 := by decide +kernel
theorem hv_X1_makeStep : yX1_makeStep.cls = RX1 ∧ yX1_makeStep.cls ≠ "java/lang/invoke/MethodHandle" ∧ yX1_makeStep.cls ≠ "java/lang/invoke/VarHandle" ∧ (parseMethodDescriptor yX1_makeStep.desc).map (fun d => d.parameters.length) = some 0 := by decide +kernel
theorem hv_X1_registerValue : yX1_registerValue.cls = RX1 ∧ yX1_registerValue.cls ≠ "java/lang/invoke/MethodHandle" ∧ yX1_registerValue.cls ≠ "java/lang/invoke/VarHandle" ∧ (parseMethodDescriptor yX1_registerValue.desc).map (fun d => d.parameters.length) = some 1 := by decide +kernel
theorem hv_X1_setCell : yX1_setCell.cls = RX1 ∧ yX1_setCell.cls ≠ "java/lang/invoke/MethodHandle" ∧ yX1_setCell.cls ≠ "java/lang/invoke/VarHandle" ∧ (parseMethodDescriptor yX1_setCell.desc).map (fun d => d.parameters.length) = some 2 := by decide +kernel
theorem hv_X1_setRegister : yX1_setRegister.cls = RX1 ∧ yX1_setRegister.cls ≠ "java/lang/invoke/MethodHandle" ∧ yX1_setRegister.cls ≠ "java/lang/invoke/VarHandle" ∧ (parseMethodDescriptor yX1_setRegister.desc).map (fun d => d.parameters.length) = some 2 := by decide +kernel
theorem hv_X2_get : yX2_get.cls = RX2 ∧ yX2_get.cls ≠ "java/lang/invoke/MethodHandle" ∧ yX2_get.cls ≠ "java/lang/invoke/VarHandle" ∧ (parseMethodDescriptor yX2_get.desc).map (fun d => d.parameters.length) = some 2 := by decide +kernel
theorem hv_X3_isCell : yX3_isCell.cls = RX3 ∧ yX3_isCell.cls ≠ "java/lang/invoke/MethodHandle" ∧ yX3_isCell.cls ≠ "java/lang/invoke/VarHandle" ∧ (parseMethodDescriptor yX3_isCell.desc).map (fun d => d.parameters.length) = some 1 := by decide +kernel
theorem hv_X3_isRegister : yX3_isRegister.cls = RX3 ∧ yX3_isRegister.cls ≠ "java/lang/invoke/MethodHandle" ∧ yX3_isRegister.cls ≠ "java/lang/invoke/VarHandle" ∧ (parseMethodDescriptor yX3_isRegister.desc).map (fun d => d.parameters.length) = some 1 := by decide +kernel
set_option maxHeartbeats 4000000 in
set_option maxRecDepth 100000 in
theorem c_J7_fill_53178 (l : Launch) (D : va_G) (cA : ClassId) (sz : Nat) (a0 : Nat) (nn : Nat) (f : Nat → Int32) (v : Int32) (hn9 : nn < 1000) : Met l yJ7_fill_53178 wsJ7_fill_53178 ({ frames := 0, cells := 0, slots := 0, locals := 0 }) (rwP D cA [.ref a0, .int v] sz [(a0, .inl (cA, nn, .inl f))]) (rwV D (va_A [(a0, .inl (cA, nn, .inl f))] sz) [(a0, .inl (cA, nn, .inl (jFill f v nn)))]) 0 0 (va_A [(a0, .inl (cA, nn, .inl f))] sz) := by
  refine Met.ofW (cc := cJ7_fill_53178) (maxL := 4) (ret := none) (by decide) rfl ?_
  intro p e s m args below meth c s₁ B hml hv
  obtain ⟨rfl, hsz, hP, hK, hN, hD0⟩ := hv
  have hx := B.exec
  have hb := B.bytes
  have hr := B.returns
  have hts := atoms_spec (ws := wsJ7_fill_53178) B.pre
  have hown : s.vm.findClass RJ7 = some m.cls := findClass_of_methodNamed B.named
  have hlocks := B.notSynchronized
  subst hsz
  have hD := hD0.self (sz := s.heap.size)
  generalize hAe : va_A [(a0, .inl (cA, nn, .inl f))] s.heap.size = A at hD ⊢
  have hA : ∀ q : Nat, s.heap.size ≤ q → A q := fun q h => by rw [← hAe]; exact Or.inr h
  have hS : va_S A s.heap s.heap [] := va_S.rf
  have hl := lv_entry ([.ref a0, .int v]) (n := 4) (Nat.le_of_ble_eq_true rfl)
  rw [lg_entry_eq]
  generalize (lg_sl ([.ref a0, .int v]) ++ List.replicate (4 - (lg_sl ([.ref a0, .int v])).length) Slot.unset).toArray = ls at hl ⊢
  have hl : lv_has ls 4 [(0, .ref a0), (1, .int v)] := hl
  refine lv_iconst (v := 0) hx hb dJ7_fill_53178_0 (by decide) ?_
  refine lv_istore_n (lv' := [(2, .int 0), (0, .ref a0), (1, .int v)]) hx hb dJ7_fill_53178_1 rfl hl (by decide) rfl (fun ls hl => ?_)
  refine lv_aload_n hx hb dJ7_fill_53178_2 rfl (lv_at hl 1 rfl) ?_
  refine va_alen (v := nI nn) hx hb hK hP 0 0 rfl rfl rfl dJ7_fill_53178_3 ?_
  refine lv_istore_n (lv' := [(3, .int (nI nn)), (2, .int 0), (0, .ref a0), (1, .int v)]) hx hb dJ7_fill_53178_4 rfl hl (by decide) rfl (fun ls hl => ?_)
  have loop5 : ∀ (n : Nat) (i : Nat) (F : Nat → Int32), (i ≤ nn) → (nn + 1 ≤ i + n) → (F = jFill f v i) → ∀ (H : Heap) (locs : List Loc), va_P D vwCl [(a0, .inl (cA, nn, .inl F))] H → va_D A [(a0, .inl (cA, nn, .inl F))] → va_S A s.heap H locs → ∀ (ls : Array Slot), lv_has ls 4 [(0, .ref a0), (1, .int v), (2, .int (nI i)), (3, .int (nI nn))] → W p l e (headSpec wsJ7_fill_53178 ({ frames := 0, cells := 0, slots := 0, locals := 0 })).room s m ([.ref a0, .int v] : List Value).toArray below meth c H locs 0 0 (MQ below (rwV D A [(a0, .inl (cA, nn, .inl (jFill f v nn)))]) ([.ref a0, .int v] : List Value).toArray s 0 0 A) (F0 m 5 ls []) := by
    intro n
    induction n with
    | zero => intro i F hi hfu hF; exact absurd hfu (by omega)
    | succ n ih5 =>
      intro i F hi hfu hF H locs hP hD hS ls hl
      refine lv_iload_n hx hb dJ7_fill_53178_5 rfl (lv_at hl 2 rfl) ?_
      refine lv_iload_n hx hb dJ7_fill_53178_6 rfl (lv_at hl 3 rfl) ?_
      refine lv_icmp_ge (tgt := 20) hx hb dJ7_fill_53178_7 (by decide) (fun c_7 => ?_) (fun c_7 => ?_)
      · have hi2 : i = nn := by
          rcases Nat.lt_or_ge i nn with q | q
          · exact absurd c_7 (nI_ge q (by omega))
          · omega
        subst hi2
        obtain ⟨hP9, hD9⟩ := jk_end (w2 := [(a0, .inl (cA, i, .inl F))]) hP hD [0] (by decide) rfl
        have e9 : ([(a0, .inl (cA, i, .inl F))] : va_W) = [(a0, .inl (cA, i, .inl (jFill f v i)))] := (by rw [hF])
        rw [e9] at hP9 hD9
        exact W.vret hx hb hr (fun t9 ht9 hW9 => ⟨⟨(), rfl, trivial, by rw [ht9]; exact hP9, hD9⟩, hS.F ht9⟩) hS.2.2 dJ7_fill_53178_20
      · have hi2 : i < nn := by
          rcases Nat.lt_or_ge i nn with q | q
          · exact q
          · exact absurd (nI_le q (by omega)) c_7
        refine lv_aload_n hx hb dJ7_fill_53178_10 rfl (lv_at hl 0 rfl) ?_
        refine lv_iload_n hx hb dJ7_fill_53178_11 rfl (lv_at hl 2 rfl) ?_
        refine lv_iload_n hx hb dJ7_fill_53178_12 rfl (lv_at hl 1 rfl) ?_
        refine jk_ast hx hb hK hP hD hS 0 0 rfl rfl (k := i) rfl (by omega) (by omega) dJ7_fill_53178_13 (fun H locs hP hD hS => ?_)
        have hP : va_P D vwCl [(a0, .inl (cA, nn, .inl (upd F i v)))] H := hP
        have hD : va_D A [(a0, .inl (cA, nn, .inl (upd F i v)))] := hD
        refine lv_iinc (v := (nI (i + 1))) (lv' := [(2, .int (nI (i + 1))), (0, .ref a0), (1, .int v), (3, .int (nI nn))]) hx hb dJ7_fill_53178_14 hl (k := 2) rfl (jn_a1 i) (by decide) rfl (fun ls hl => ?_)
        refine lv_goto (tgt := 5) hx hb dJ7_fill_53178_17 (by decide) ?_
        exact ih5 (i + 1) (upd F i v) (by omega) (by omega) (by subst hF; exact jFill_s f v i) _ _ (jP_sub (w2 := [(a0, .inl (cA, nn, .inl (upd F i v)))]) hP [0] rfl) (hD.sub (ws' := [(a0, .inl (cA, nn, .inl (upd F i v)))]) [0] (by decide) rfl) hS ls (lv_sub hl [1, 2, 0, 3] rfl)
  exact loop5 (nn + 1) 0 f (by omega) (by omega) (jFill_0 f v) _ _ (jP_sub (w2 := [(a0, .inl (cA, nn, .inl f))]) hP [0] rfl) (hD.sub (ws' := [(a0, .inl (cA, nn, .inl f))]) [0] (by decide) rfl) hS ls (lv_sub hl [2, 3, 1, 0] rfl)
set_option maxHeartbeats 4000000 in
set_option maxRecDepth 100000 in
theorem c_X1_registerValue (l : Launch) (D : va_G) (cA : ClassId) (m0 : Nat) (r0 : Nat) (c0 : Nat) (s0 : Nat) (p0 : Nat) (pc : Int32) (st : Int32) (w : Nat) (R : Nat → Int32) (x : Int32) : Met l yX1_registerValue wsX1_registerValue ({ frames := 1, cells := 0, slots := 0, locals := 20 }) (roP D cA [.ref m0, .int x] [(m0, .inr (1, [.ref r0, .ref c0, .ref s0, .ref p0, .int pc, .int st, .int (nI w)])), (r0, .inl (cA, 4, .inl R))]) (QcRead (jAt R 4 x)) 0 0 (fun _ => False) := by
  refine Met.ofW (cc := cX1_registerValue) (maxL := 2) (ret := (some .int)) (by decide) rfl ?_
  intro p e s m args below meth c s₁ B hml hv
  obtain ⟨rfl, hP, hK, hN⟩ := hv
  have hx := B.exec
  have hb := B.bytes
  have hr := B.returns
  have hts := atoms_spec (ws := wsX1_registerValue) B.pre
  have hown : s.vm.findClass RX1 = some m.cls := findClass_of_methodNamed B.named
  have hlocks := B.notSynchronized
  have hl := lv_entry ([.ref m0, .int x]) (n := 2) (Nat.le_of_ble_eq_true rfl)
  rw [lg_entry_eq]
  generalize (lg_sl ([.ref m0, .int x]) ++ List.replicate (2 - (lg_sl ([.ref m0, .int x])).length) Slot.unset).toArray = ls at hl ⊢
  have hl : lv_has ls 2 [(0, .ref m0), (1, .int x)] := hl
  refine lv_iload_n hx hb dX1_registerValue_0 rfl (lv_at hl 1 rfl) ?_
  refine jr_i (va_runSN (As := [.int x]) (rest := []) ⟨hx, hb, hml, hown, hts⟩ (c_X3_isRegister l D cA x) ⟨(va_cnB 1 hts gX1_registerValue_X3_isRegister_n49 rfl rfl rfl hN.2.2.2.2.2.2.1 (hts (.initialized RX3) (List.mem_of_getElem? (l := wsX1_registerValue) (i := 3) rfl)) hv_X3_isRegister.2 ⟨Nat.le_of_ble_eq_true rfl, Nat.le_of_ble_eq_true rfl⟩), (hts (.static yX3_isRegister) (List.mem_of_getElem? (l := wsX1_registerValue) (i := 2) rfl)), trivial⟩ (roP.S (av := [.int x]) (jP_sub (w2 := []) hP [] rfl) hK hN) rfl rfl hl.1 rfl (lv_room (Nat.le_of_ble_eq_true rfl)) dX1_registerValue_1 ⟨Nat.le_of_ble_eq_true rfl, Nat.le_of_ble_eq_true rfl⟩) ?_
  refine lv_if_eq (tgt := 16) hx hb dX1_registerValue_4 (by decide) (fun c_4 => ?_) (fun c_4 => ?_)
  · replace c_4 := jB_z.mp c_4
    refine lv_iconst (v := 0) hx hb dX1_registerValue_16 (by decide) ?_
    exact W.iret (v := 0) hx hb hr (fun t9 ht9 hW9 => ⟨jk_ret (show 0 = (jAt R 4 x) from (jAt_no c_4).symm), ht9⟩) (fun q h => absurd h List.not_mem_nil) dX1_registerValue_17
  · replace c_4 := jB_nz.mp c_4
    obtain ⟨j, hj, rfl⟩ := jN_of (n := 4) (by decide) c_4
    refine lv_aload_n hx hb dX1_registerValue_7 rfl (lv_at hl 0 rfl) ?_
    refine va_get (D := D) (ci := 1) (v := .ref r0) (C := RX1) (T := TX1) (N := 7) hx hb hts iw_X1_registerValue_X1 hown hK hP 0 rfl rfl 0 (by decide) (hts (.fieldLink RX1 9 "JumpGuard$Machine" "registers" "[I") (List.mem_of_getElem? (l := wsX1_registerValue) (i := 1) rfl)) (fun _ h9 => h9) rfl dX1_registerValue_8 ?_
    refine lv_iload_n hx hb dX1_registerValue_11 rfl (lv_at hl 1 rfl) ?_
    refine jk_ald hx hb hK hP 1 0 rfl rfl (k := j) rfl (by omega) (by omega) dX1_registerValue_12 ?_
    refine lv_goto (tgt := 17) hx hb dX1_registerValue_13 (by decide) ?_
    exact W.iret (v := (R j)) hx hb hr (fun t9 ht9 hW9 => ⟨jk_ret (show (R j) = (jAt R 4 (nI j)) from (jAt_n (n := 4) hj (by decide)).symm), ht9⟩) (fun q h => absurd h List.not_mem_nil) dX1_registerValue_17
set_option maxHeartbeats 4000000 in
set_option maxRecDepth 100000 in
theorem c_X1_cellValue (l : Launch) (D : va_G) (cA : ClassId) (m0 : Nat) (r0 : Nat) (c0 : Nat) (s0 : Nat) (p0 : Nat) (pc : Int32) (st : Int32) (w : Nat) (Cm : Nat → Int32) (x : Int32) : Met l yX1_cellValue wsX1_cellValue ({ frames := 1, cells := 0, slots := 0, locals := 20 }) (roP D cA [.ref m0, .int x] [(m0, .inr (1, [.ref r0, .ref c0, .ref s0, .ref p0, .int pc, .int st, .int (nI w)])), (c0, .inl (cA, 16, .inl Cm))]) (QcRead (jAt Cm 16 x)) 0 0 (fun _ => False) := by
  refine Met.ofW (cc := cX1_cellValue) (maxL := 2) (ret := (some .int)) (by decide) rfl ?_
  intro p e s m args below meth c s₁ B hml hv
  obtain ⟨rfl, hP, hK, hN⟩ := hv
  have hx := B.exec
  have hb := B.bytes
  have hr := B.returns
  have hts := atoms_spec (ws := wsX1_cellValue) B.pre
  have hown : s.vm.findClass RX1 = some m.cls := findClass_of_methodNamed B.named
  have hlocks := B.notSynchronized
  have hl := lv_entry ([.ref m0, .int x]) (n := 2) (Nat.le_of_ble_eq_true rfl)
  rw [lg_entry_eq]
  generalize (lg_sl ([.ref m0, .int x]) ++ List.replicate (2 - (lg_sl ([.ref m0, .int x])).length) Slot.unset).toArray = ls at hl ⊢
  have hl : lv_has ls 2 [(0, .ref m0), (1, .int x)] := hl
  refine lv_iload_n hx hb dX1_cellValue_0 rfl (lv_at hl 1 rfl) ?_
  refine jr_i (va_runSN (As := [.int x]) (rest := []) ⟨hx, hb, hml, hown, hts⟩ (c_X3_isCell l D cA x) ⟨(va_cnB 1 hts gX1_cellValue_X3_isCell_n53 rfl rfl rfl hN.2.2.2.2.2.2.2 (hts (.initialized RX3) (List.mem_of_getElem? (l := wsX1_cellValue) (i := 3) rfl)) hv_X3_isCell.2 ⟨Nat.le_of_ble_eq_true rfl, Nat.le_of_ble_eq_true rfl⟩), (hts (.static yX3_isCell) (List.mem_of_getElem? (l := wsX1_cellValue) (i := 2) rfl)), trivial⟩ (roP.S (av := [.int x]) (jP_sub (w2 := []) hP [] rfl) hK hN) rfl rfl hl.1 rfl (lv_room (Nat.le_of_ble_eq_true rfl)) dX1_cellValue_1 ⟨Nat.le_of_ble_eq_true rfl, Nat.le_of_ble_eq_true rfl⟩) ?_
  refine lv_if_eq (tgt := 16) hx hb dX1_cellValue_4 (by decide) (fun c_4 => ?_) (fun c_4 => ?_)
  · replace c_4 := jB_z.mp c_4
    refine lv_iconst (v := 0) hx hb dX1_cellValue_16 (by decide) ?_
    exact W.iret (v := 0) hx hb hr (fun t9 ht9 hW9 => ⟨jk_ret (show 0 = (jAt Cm 16 x) from (jAt_no c_4).symm), ht9⟩) (fun q h => absurd h List.not_mem_nil) dX1_cellValue_17
  · replace c_4 := jB_nz.mp c_4
    obtain ⟨j, hj, rfl⟩ := jN_of (n := 16) (by decide) c_4
    refine lv_aload_n hx hb dX1_cellValue_7 rfl (lv_at hl 0 rfl) ?_
    refine va_get (D := D) (ci := 1) (v := .ref c0) (C := RX1) (T := TX1) (N := 7) hx hb hts iw_X1_cellValue_X1 hown hK hP 0 rfl rfl 1 (by decide) (hts (.fieldLink RX1 15 "JumpGuard$Machine" "cells" "[I") (List.mem_of_getElem? (l := wsX1_cellValue) (i := 1) rfl)) (fun _ h9 => h9) rfl dX1_cellValue_8 ?_
    refine lv_iload_n hx hb dX1_cellValue_11 rfl (lv_at hl 1 rfl) ?_
    refine jk_ald hx hb hK hP 1 0 rfl rfl (k := j) rfl (by omega) (by omega) dX1_cellValue_12 ?_
    refine lv_goto (tgt := 17) hx hb dX1_cellValue_13 (by decide) ?_
    exact W.iret (v := (Cm j)) hx hb hr (fun t9 ht9 hW9 => ⟨jk_ret (show (Cm j) = (jAt Cm 16 (nI j)) from (jAt_n (n := 16) hj (by decide)).symm), ht9⟩) (fun q h => absurd h List.not_mem_nil) dX1_cellValue_17
set_option maxHeartbeats 4000000 in
set_option maxRecDepth 100000 in
theorem c_X1_setRegister (l : Launch) (D : va_G) (cA : ClassId) (sz : Nat) (m0 : Nat) (r0 : Nat) (c0 : Nat) (s0 : Nat) (p0 : Nat) (pc : Int32) (st : Int32) (w : Nat) (R : Nat → Int32) (x : Int32) (v : Int32) : Met l yX1_setRegister wsX1_setRegister ({ frames := 1, cells := 0, slots := 0, locals := 20 }) (rwP D cA [.ref m0, .int x, .int v] sz [(m0, .inr (1, [.ref r0, .ref c0, .ref s0, .ref p0, .int pc, .int st, .int (nI w)])), (r0, .inl (cA, 4, .inl R))]) (rwV D (va_A [(m0, .inr (1, [.ref r0, .ref c0, .ref s0, .ref p0, .int pc, .int st, .int (nI w)])), (r0, .inl (cA, 4, .inl R))] sz) [(m0, .inr (1, [.ref r0, .ref c0, .ref s0, .ref p0, .int pc, .int st, .int (nI w)])), (r0, .inl (cA, 4, .inl (jPut R 4 x v)))]) 0 0 (va_A [(m0, .inr (1, [.ref r0, .ref c0, .ref s0, .ref p0, .int pc, .int st, .int (nI w)])), (r0, .inl (cA, 4, .inl R))] sz) := by
  refine Met.ofW (cc := cX1_setRegister) (maxL := 3) (ret := none) (by decide) rfl ?_
  intro p e s m args below meth c s₁ B hml hv
  obtain ⟨rfl, hsz, hP, hK, hN, hD0⟩ := hv
  have hx := B.exec
  have hb := B.bytes
  have hr := B.returns
  have hts := atoms_spec (ws := wsX1_setRegister) B.pre
  have hown : s.vm.findClass RX1 = some m.cls := findClass_of_methodNamed B.named
  have hlocks := B.notSynchronized
  subst hsz
  have hD := hD0.self (sz := s.heap.size)
  generalize hAe : va_A [(m0, .inr (1, [.ref r0, .ref c0, .ref s0, .ref p0, .int pc, .int st, .int (nI w)])), (r0, .inl (cA, 4, .inl R))] s.heap.size = A at hD ⊢
  have hA : ∀ q : Nat, s.heap.size ≤ q → A q := fun q h => by rw [← hAe]; exact Or.inr h
  have hS : va_S A s.heap s.heap [] := va_S.rf
  have hl := lv_entry ([.ref m0, .int x, .int v]) (n := 3) (Nat.le_of_ble_eq_true rfl)
  rw [lg_entry_eq]
  generalize (lg_sl ([.ref m0, .int x, .int v]) ++ List.replicate (3 - (lg_sl ([.ref m0, .int x, .int v])).length) Slot.unset).toArray = ls at hl ⊢
  have hl : lv_has ls 3 [(0, .ref m0), (1, .int x), (2, .int v)] := hl
  refine lv_iload_n hx hb dX1_setRegister_0 rfl (lv_at hl 1 rfl) ?_
  refine jr_i (va_runSN (As := [.int x]) (rest := []) ⟨hx, hb, hml, hown, hts⟩ (c_X3_isRegister l D cA x) ⟨(va_cnB 1 hts gX1_setRegister_X3_isRegister_n49 rfl rfl rfl hN.2.2.2.2.2.2.1 (hts (.initialized RX3) (List.mem_of_getElem? (l := wsX1_setRegister) (i := 3) rfl)) hv_X3_isRegister.2 ⟨Nat.le_of_ble_eq_true rfl, Nat.le_of_ble_eq_true rfl⟩), (hts (.static yX3_isRegister) (List.mem_of_getElem? (l := wsX1_setRegister) (i := 2) rfl)), trivial⟩ (roP.S (av := [.int x]) (jP_sub (w2 := []) hP [] rfl) hK hN) rfl rfl hl.1 rfl (lv_room (Nat.le_of_ble_eq_true rfl)) dX1_setRegister_1 ⟨Nat.le_of_ble_eq_true rfl, Nat.le_of_ble_eq_true rfl⟩) ?_
  refine lv_if_eq (tgt := 14) hx hb dX1_setRegister_4 (by decide) (fun c_4 => ?_) (fun c_4 => ?_)
  · replace c_4 := jB_z.mp c_4
    obtain ⟨hP9, hD9⟩ := jk_end (w2 := [(m0, .inr (1, [.ref r0, .ref c0, .ref s0, .ref p0, .int pc, .int st, .int (nI w)])), (r0, .inl (cA, 4, .inl R))]) hP hD [0, 1] (by decide) rfl
    have e9 : ([(m0, .inr (1, [.ref r0, .ref c0, .ref s0, .ref p0, .int pc, .int st, .int (nI w)])), (r0, .inl (cA, 4, .inl R))] : va_W) = [(m0, .inr (1, [.ref r0, .ref c0, .ref s0, .ref p0, .int pc, .int st, .int (nI w)])), (r0, .inl (cA, 4, .inl (jPut R 4 x v)))] := (by rw [jPut_no c_4])
    rw [e9] at hP9 hD9
    exact W.vret hx hb hr (fun t9 ht9 hW9 => ⟨⟨(), rfl, trivial, by rw [ht9]; exact hP9, hD9⟩, hS.F ht9⟩) hS.2.2 dX1_setRegister_14
  · replace c_4 := jB_nz.mp c_4
    obtain ⟨j, hj, rfl⟩ := jN_of (n := 4) (by decide) c_4
    refine lv_aload_n hx hb dX1_setRegister_7 rfl (lv_at hl 0 rfl) ?_
    refine va_get (D := D) (ci := 1) (v := .ref r0) (C := RX1) (T := TX1) (N := 7) hx hb hts iw_X1_setRegister_X1 hown hK hP 0 rfl rfl 0 (by decide) (hts (.fieldLink RX1 9 "JumpGuard$Machine" "registers" "[I") (List.mem_of_getElem? (l := wsX1_setRegister) (i := 1) rfl)) (fun _ h9 => h9) rfl dX1_setRegister_8 ?_
    refine lv_iload_n hx hb dX1_setRegister_11 rfl (lv_at hl 1 rfl) ?_
    refine lv_iload_n hx hb dX1_setRegister_12 rfl (lv_at hl 2 rfl) ?_
    refine jk_ast hx hb hK hP hD hS 1 0 rfl rfl (k := j) rfl (by omega) (by omega) dX1_setRegister_13 (fun H locs hP hD hS => ?_)
    have hP : va_P D vwCl [(m0, .inr (1, [.ref r0, .ref c0, .ref s0, .ref p0, .int pc, .int st, .int (nI w)])), (r0, .inl (cA, 4, .inl (upd R j v)))] H := hP
    have hD : va_D A [(m0, .inr (1, [.ref r0, .ref c0, .ref s0, .ref p0, .int pc, .int st, .int (nI w)])), (r0, .inl (cA, 4, .inl (upd R j v)))] := hD
    obtain ⟨hP9, hD9⟩ := jk_end (w2 := [(m0, .inr (1, [.ref r0, .ref c0, .ref s0, .ref p0, .int pc, .int st, .int (nI w)])), (r0, .inl (cA, 4, .inl (upd R j v)))]) hP hD [0, 1] (by decide) rfl
    have e9 : ([(m0, .inr (1, [.ref r0, .ref c0, .ref s0, .ref p0, .int pc, .int st, .int (nI w)])), (r0, .inl (cA, 4, .inl (upd R j v)))] : va_W) = [(m0, .inr (1, [.ref r0, .ref c0, .ref s0, .ref p0, .int pc, .int st, .int (nI w)])), (r0, .inl (cA, 4, .inl (jPut R 4 (nI j) v)))] := (by rw [show jPut R 4 (nI j) v = upd R j v from jPut_n (n := 4) hj (by decide)])
    rw [e9] at hP9 hD9
    exact W.vret hx hb hr (fun t9 ht9 hW9 => ⟨⟨(), rfl, trivial, by rw [ht9]; exact hP9, hD9⟩, hS.F ht9⟩) hS.2.2 dX1_setRegister_14
set_option maxHeartbeats 4000000 in
set_option maxRecDepth 100000 in
theorem c_X1_setCell (l : Launch) (D : va_G) (cA : ClassId) (sz : Nat) (m0 : Nat) (r0 : Nat) (c0 : Nat) (s0 : Nat) (p0 : Nat) (pc : Int32) (st : Int32) (w : Nat) (Cm : Nat → Int32) (x : Int32) (v : Int32) : Met l yX1_setCell wsX1_setCell ({ frames := 1, cells := 0, slots := 0, locals := 20 }) (rwP D cA [.ref m0, .int x, .int v] sz [(m0, .inr (1, [.ref r0, .ref c0, .ref s0, .ref p0, .int pc, .int st, .int (nI w)])), (c0, .inl (cA, 16, .inl Cm))]) (rwV D (va_A [(m0, .inr (1, [.ref r0, .ref c0, .ref s0, .ref p0, .int pc, .int st, .int (nI w)])), (c0, .inl (cA, 16, .inl Cm))] sz) [(m0, .inr (1, [.ref r0, .ref c0, .ref s0, .ref p0, .int pc, .int st, .int (nI w)])), (c0, .inl (cA, 16, .inl (jPut Cm 16 x v)))]) 0 0 (va_A [(m0, .inr (1, [.ref r0, .ref c0, .ref s0, .ref p0, .int pc, .int st, .int (nI w)])), (c0, .inl (cA, 16, .inl Cm))] sz) := by
  refine Met.ofW (cc := cX1_setCell) (maxL := 3) (ret := none) (by decide) rfl ?_
  intro p e s m args below meth c s₁ B hml hv
  obtain ⟨rfl, hsz, hP, hK, hN, hD0⟩ := hv
  have hx := B.exec
  have hb := B.bytes
  have hr := B.returns
  have hts := atoms_spec (ws := wsX1_setCell) B.pre
  have hown : s.vm.findClass RX1 = some m.cls := findClass_of_methodNamed B.named
  have hlocks := B.notSynchronized
  subst hsz
  have hD := hD0.self (sz := s.heap.size)
  generalize hAe : va_A [(m0, .inr (1, [.ref r0, .ref c0, .ref s0, .ref p0, .int pc, .int st, .int (nI w)])), (c0, .inl (cA, 16, .inl Cm))] s.heap.size = A at hD ⊢
  have hA : ∀ q : Nat, s.heap.size ≤ q → A q := fun q h => by rw [← hAe]; exact Or.inr h
  have hS : va_S A s.heap s.heap [] := va_S.rf
  have hl := lv_entry ([.ref m0, .int x, .int v]) (n := 3) (Nat.le_of_ble_eq_true rfl)
  rw [lg_entry_eq]
  generalize (lg_sl ([.ref m0, .int x, .int v]) ++ List.replicate (3 - (lg_sl ([.ref m0, .int x, .int v])).length) Slot.unset).toArray = ls at hl ⊢
  have hl : lv_has ls 3 [(0, .ref m0), (1, .int x), (2, .int v)] := hl
  refine lv_iload_n hx hb dX1_setCell_0 rfl (lv_at hl 1 rfl) ?_
  refine jr_i (va_runSN (As := [.int x]) (rest := []) ⟨hx, hb, hml, hown, hts⟩ (c_X3_isCell l D cA x) ⟨(va_cnB 1 hts gX1_setCell_X3_isCell_n53 rfl rfl rfl hN.2.2.2.2.2.2.2 (hts (.initialized RX3) (List.mem_of_getElem? (l := wsX1_setCell) (i := 3) rfl)) hv_X3_isCell.2 ⟨Nat.le_of_ble_eq_true rfl, Nat.le_of_ble_eq_true rfl⟩), (hts (.static yX3_isCell) (List.mem_of_getElem? (l := wsX1_setCell) (i := 2) rfl)), trivial⟩ (roP.S (av := [.int x]) (jP_sub (w2 := []) hP [] rfl) hK hN) rfl rfl hl.1 rfl (lv_room (Nat.le_of_ble_eq_true rfl)) dX1_setCell_1 ⟨Nat.le_of_ble_eq_true rfl, Nat.le_of_ble_eq_true rfl⟩) ?_
  refine lv_if_eq (tgt := 14) hx hb dX1_setCell_4 (by decide) (fun c_4 => ?_) (fun c_4 => ?_)
  · replace c_4 := jB_z.mp c_4
    obtain ⟨hP9, hD9⟩ := jk_end (w2 := [(m0, .inr (1, [.ref r0, .ref c0, .ref s0, .ref p0, .int pc, .int st, .int (nI w)])), (c0, .inl (cA, 16, .inl Cm))]) hP hD [0, 1] (by decide) rfl
    have e9 : ([(m0, .inr (1, [.ref r0, .ref c0, .ref s0, .ref p0, .int pc, .int st, .int (nI w)])), (c0, .inl (cA, 16, .inl Cm))] : va_W) = [(m0, .inr (1, [.ref r0, .ref c0, .ref s0, .ref p0, .int pc, .int st, .int (nI w)])), (c0, .inl (cA, 16, .inl (jPut Cm 16 x v)))] := (by rw [jPut_no c_4])
    rw [e9] at hP9 hD9
    exact W.vret hx hb hr (fun t9 ht9 hW9 => ⟨⟨(), rfl, trivial, by rw [ht9]; exact hP9, hD9⟩, hS.F ht9⟩) hS.2.2 dX1_setCell_14
  · replace c_4 := jB_nz.mp c_4
    obtain ⟨j, hj, rfl⟩ := jN_of (n := 16) (by decide) c_4
    refine lv_aload_n hx hb dX1_setCell_7 rfl (lv_at hl 0 rfl) ?_
    refine va_get (D := D) (ci := 1) (v := .ref c0) (C := RX1) (T := TX1) (N := 7) hx hb hts iw_X1_setCell_X1 hown hK hP 0 rfl rfl 1 (by decide) (hts (.fieldLink RX1 15 "JumpGuard$Machine" "cells" "[I") (List.mem_of_getElem? (l := wsX1_setCell) (i := 1) rfl)) (fun _ h9 => h9) rfl dX1_setCell_8 ?_
    refine lv_iload_n hx hb dX1_setCell_11 rfl (lv_at hl 1 rfl) ?_
    refine lv_iload_n hx hb dX1_setCell_12 rfl (lv_at hl 2 rfl) ?_
    refine jk_ast hx hb hK hP hD hS 1 0 rfl rfl (k := j) rfl (by omega) (by omega) dX1_setCell_13 (fun H locs hP hD hS => ?_)
    have hP : va_P D vwCl [(m0, .inr (1, [.ref r0, .ref c0, .ref s0, .ref p0, .int pc, .int st, .int (nI w)])), (c0, .inl (cA, 16, .inl (upd Cm j v)))] H := hP
    have hD : va_D A [(m0, .inr (1, [.ref r0, .ref c0, .ref s0, .ref p0, .int pc, .int st, .int (nI w)])), (c0, .inl (cA, 16, .inl (upd Cm j v)))] := hD
    obtain ⟨hP9, hD9⟩ := jk_end (w2 := [(m0, .inr (1, [.ref r0, .ref c0, .ref s0, .ref p0, .int pc, .int st, .int (nI w)])), (c0, .inl (cA, 16, .inl (upd Cm j v)))]) hP hD [0, 1] (by decide) rfl
    have e9 : ([(m0, .inr (1, [.ref r0, .ref c0, .ref s0, .ref p0, .int pc, .int st, .int (nI w)])), (c0, .inl (cA, 16, .inl (upd Cm j v)))] : va_W) = [(m0, .inr (1, [.ref r0, .ref c0, .ref s0, .ref p0, .int pc, .int st, .int (nI w)])), (c0, .inl (cA, 16, .inl (jPut Cm 16 (nI j) v)))] := (by rw [show jPut Cm 16 (nI j) v = upd Cm j v from jPut_n (n := 16) hj (by decide)])
    rw [e9] at hP9 hD9
    exact W.vret hx hb hr (fun t9 ht9 hW9 => ⟨⟨(), rfl, trivial, by rw [ht9]; exact hP9, hD9⟩, hS.F ht9⟩) hS.2.2 dX1_setCell_14
set_option maxHeartbeats 4000000 in
set_option maxRecDepth 100000 in
theorem c_X1_stop (l : Launch) (D : va_G) (cA : ClassId) (sz : Nat) (m0 : Nat) (r0 : Nat) (c0 : Nat) (s0 : Nat) (p0 : Nat) (pc : Int32) (st : Int32) (w : Nat) : Met l yX1_stop wsX1_stop ({ frames := 0, cells := 0, slots := 0, locals := 0 }) (rwP D cA [.ref m0] sz [(m0, .inr (1, [.ref r0, .ref c0, .ref s0, .ref p0, .int pc, .int st, .int (nI w)]))]) (rwV D (va_A [(m0, .inr (1, [.ref r0, .ref c0, .ref s0, .ref p0, .int pc, .int st, .int (nI w)]))] sz) [(m0, .inr (1, [.ref r0, .ref c0, .ref s0, .ref p0, .int pc, .int (-1), .int (nI w)]))]) 0 0 (va_A [(m0, .inr (1, [.ref r0, .ref c0, .ref s0, .ref p0, .int pc, .int st, .int (nI w)]))] sz) := by
  refine Met.ofW (cc := cX1_stop) (maxL := 1) (ret := none) (by decide) rfl ?_
  intro p e s m args below meth c s₁ B hml hv
  obtain ⟨rfl, hsz, hP, hK, hN, hD0⟩ := hv
  have hx := B.exec
  have hb := B.bytes
  have hr := B.returns
  have hts := atoms_spec (ws := wsX1_stop) B.pre
  have hown : s.vm.findClass RX1 = some m.cls := findClass_of_methodNamed B.named
  have hlocks := B.notSynchronized
  subst hsz
  have hD := hD0.self (sz := s.heap.size)
  generalize hAe : va_A [(m0, .inr (1, [.ref r0, .ref c0, .ref s0, .ref p0, .int pc, .int st, .int (nI w)]))] s.heap.size = A at hD ⊢
  have hA : ∀ q : Nat, s.heap.size ≤ q → A q := fun q h => by rw [← hAe]; exact Or.inr h
  have hS : va_S A s.heap s.heap [] := va_S.rf
  have hl := lv_entry ([.ref m0]) (n := 1) (Nat.le_of_ble_eq_true rfl)
  rw [lg_entry_eq]
  generalize (lg_sl ([.ref m0]) ++ List.replicate (1 - (lg_sl ([.ref m0])).length) Slot.unset).toArray = ls at hl ⊢
  have hl : lv_has ls 1 [(0, .ref m0)] := hl
  refine lv_aload_n hx hb dX1_stop_0 rfl (lv_at hl 0 rfl) ?_
  refine lv_iconst (v := (-1)) hx hb dX1_stop_1 (by decide) ?_
  refine va_put (D := D) (ci := 1) (v := .int (-1)) (ty := .int) (C := RX1) (T := TX1) (N := 7) hx hb hts iw_X1_stop_X1 tyX1 tyX1_ok nmX1 hown hK hP hD hS 0 rfl rfl 5 (by decide) (hts (.fieldLink RX1 30 "JumpGuard$Machine" "condition" "I") (List.mem_of_getElem? (l := wsX1_stop) (i := 1) rfl)) (fun _ h9 => h9) rfl (by decide +kernel) rfl rfl (Nat.le_of_ble_eq_true rfl) dX1_stop_2 (fun H locs hP hD hS => ?_)
  have hP : va_P D vwCl [(m0, .inr (1, [.ref r0, .ref c0, .ref s0, .ref p0, .int pc, .int (-1), .int (nI w)]))] H := hP
  have hD : va_D A [(m0, .inr (1, [.ref r0, .ref c0, .ref s0, .ref p0, .int pc, .int (-1), .int (nI w)]))] := hD
  obtain ⟨hP9, hD9⟩ := jk_end (w2 := [(m0, .inr (1, [.ref r0, .ref c0, .ref s0, .ref p0, .int pc, .int (-1), .int (nI w)]))]) hP hD [0] (by decide) rfl
  exact W.vret hx hb hr (fun t9 ht9 hW9 => ⟨⟨(), rfl, trivial, by rw [ht9]; exact hP9, hD9⟩, hS.F ht9⟩) hS.2.2 dX1_stop_5
set_option maxHeartbeats 4000000 in
set_option maxRecDepth 100000 in
theorem c_X1_isIdle (l : Launch) (D : va_G) (cA : ClassId) (m0 : Nat) (r0 : Nat) (c0 : Nat) (s0 : Nat) (p0 : Nat) (pc : Int32) (st : Int32) (w : Nat) : Met l yX1_isIdle wsX1_isIdle ({ frames := 0, cells := 0, slots := 0, locals := 0 }) (roP D cA [.ref m0] [(m0, .inr (1, [.ref r0, .ref c0, .ref s0, .ref p0, .int pc, .int st, .int (nI w)]))]) (QcRead (jB (st = (-1)))) 0 0 (fun _ => False) := by
  refine Met.ofW (cc := cX1_isIdle) (maxL := 1) (ret := (some .boolean)) (by decide) rfl ?_
  intro p e s m args below meth c s₁ B hml hv
  obtain ⟨rfl, hP, hK, hN⟩ := hv
  have hx := B.exec
  have hb := B.bytes
  have hr := B.returns
  have hts := atoms_spec (ws := wsX1_isIdle) B.pre
  have hown : s.vm.findClass RX1 = some m.cls := findClass_of_methodNamed B.named
  have hlocks := B.notSynchronized
  have hl := lv_entry ([.ref m0]) (n := 1) (Nat.le_of_ble_eq_true rfl)
  rw [lg_entry_eq]
  generalize (lg_sl ([.ref m0]) ++ List.replicate (1 - (lg_sl ([.ref m0])).length) Slot.unset).toArray = ls at hl ⊢
  have hl : lv_has ls 1 [(0, .ref m0)] := hl
  refine lv_aload_n hx hb dX1_isIdle_0 rfl (lv_at hl 0 rfl) ?_
  refine va_get (D := D) (ci := 1) (v := .int st) (C := RX1) (T := TX1) (N := 7) hx hb hts iw_X1_isIdle_X1 hown hK hP 0 rfl rfl 5 (by decide) (hts (.fieldLink RX1 30 "JumpGuard$Machine" "condition" "I") (List.mem_of_getElem? (l := wsX1_isIdle) (i := 1) rfl)) (fun _ h9 => h9) rfl dX1_isIdle_1 ?_
  refine lv_iconst (v := (-1)) hx hb dX1_isIdle_4 (by decide) ?_
  refine lv_icmp_ne (tgt := 12) hx hb dX1_isIdle_5 (by decide) (fun c_5 => ?_) (fun c_5 => ?_)
  · refine lv_iconst (v := 0) hx hb dX1_isIdle_12 (by decide) ?_
    exact W.zret (ty := .boolean) (v := 0) hx hb hr rfl (fun t9 ht9 hW9 => ⟨jk_ret (show 0 = (jB (st = (-1))) from (by first | exact (jB_t (by assumption)).symm | exact (jB_f (by assumption)).symm)), ht9⟩) (fun q h => absurd h List.not_mem_nil) dX1_isIdle_13
  · refine lv_iconst (v := 1) hx hb dX1_isIdle_8 (by decide) ?_
    refine lv_goto (tgt := 13) hx hb dX1_isIdle_9 (by decide) ?_
    exact W.zret (ty := .boolean) (v := 1) hx hb hr rfl (fun t9 ht9 hW9 => ⟨jk_ret (show 1 = (jB (st = (-1))) from (by first | exact (jB_t (by assumption)).symm | exact (jB_f (by assumption)).symm)), ht9⟩) (fun q h => absurd h List.not_mem_nil) dX1_isIdle_13
set_option maxHeartbeats 4000000 in
set_option maxRecDepth 100000 in
theorem c_X1_shownBefore (l : Launch) (D : va_G) (cA : ClassId) (m0 : Nat) (r0 : Nat) (c0 : Nat) (s0 : Nat) (p0 : Nat) (pc : Int32) (st : Int32) (w : Nat) (Ls : Nat → Int32) (x : Int32) (hw : w < 1000000) : Met l yX1_shownBefore wsX1_shownBefore ({ frames := 0, cells := 0, slots := 0, locals := 0 }) (roP D cA [.ref m0, .int x] [(m0, .inr (1, [.ref r0, .ref c0, .ref s0, .ref p0, .int pc, .int st, .int (nI w)])), (s0, .inl (cA, 8, .inl Ls))]) (QcRead (mShown Ls w x)) 0 0 (fun _ => False) := by
  refine Met.ofW (cc := cX1_shownBefore) (maxL := 2) (ret := (some .int)) (by decide) rfl ?_
  intro p e s m args below meth c s₁ B hml hv
  obtain ⟨rfl, hP, hK, hN⟩ := hv
  have hx := B.exec
  have hb := B.bytes
  have hr := B.returns
  have hts := atoms_spec (ws := wsX1_shownBefore) B.pre
  have hown : s.vm.findClass RX1 = some m.cls := findClass_of_methodNamed B.named
  have hlocks := B.notSynchronized
  have hl := lv_entry ([.ref m0, .int x]) (n := 2) (Nat.le_of_ble_eq_true rfl)
  rw [lg_entry_eq]
  generalize (lg_sl ([.ref m0, .int x]) ++ List.replicate (2 - (lg_sl ([.ref m0, .int x])).length) Slot.unset).toArray = ls at hl ⊢
  have hl : lv_has ls 2 [(0, .ref m0), (1, .int x)] := hl
  refine lv_iload_n hx hb dX1_shownBefore_0 rfl (lv_at hl 1 rfl) ?_
  refine lv_if_lt (tgt := 18) hx hb dX1_shownBefore_1 (by decide) (fun c_1 => ?_) (fun c_1 => ?_)
  · refine lv_iconst (v := 0) hx hb dX1_shownBefore_18 (by decide) ?_
    exact W.iret (v := 0) hx hb hr (fun t9 ht9 hW9 => ⟨jk_ret (show 0 = (mShown Ls w x) from (mShown_no (by first | exact fun h => h.1.1 c_1 | exact fun h => h.1.2 c_7 | exact fun h => h.2 (Int32.not_lt.mp c_15))).symm), ht9⟩) (fun q h => absurd h List.not_mem_nil) dX1_shownBefore_19
  · refine lv_iload_n hx hb dX1_shownBefore_4 rfl (lv_at hl 1 rfl) ?_
    refine lv_bipush (v := 8) hx hb dX1_shownBefore_5 (by decide) ?_
    refine lv_icmp_ge (tgt := 18) hx hb dX1_shownBefore_7 (by decide) (fun c_7 => ?_) (fun c_7 => ?_)
    · refine lv_iconst (v := 0) hx hb dX1_shownBefore_18 (by decide) ?_
      exact W.iret (v := 0) hx hb hr (fun t9 ht9 hW9 => ⟨jk_ret (show 0 = (mShown Ls w x) from (mShown_no (by first | exact fun h => h.1.1 c_1 | exact fun h => h.1.2 c_7 | exact fun h => h.2 (Int32.not_lt.mp c_15))).symm), ht9⟩) (fun q h => absurd h List.not_mem_nil) dX1_shownBefore_19
    · refine lv_iload_n hx hb dX1_shownBefore_10 rfl (lv_at hl 1 rfl) ?_
      refine lv_aload_n hx hb dX1_shownBefore_11 rfl (lv_at hl 0 rfl) ?_
      refine va_get (D := D) (ci := 1) (v := .int (nI w)) (C := RX1) (T := TX1) (N := 7) hx hb hts iw_X1_shownBefore_X1 hown hK hP 0 rfl rfl 6 (by decide) (hts (.fieldLink RX1 43 "JumpGuard$Machine" "showCount" "I") (List.mem_of_getElem? (l := wsX1_shownBefore) (i := 1) rfl)) (fun _ h9 => h9) rfl dX1_shownBefore_12 ?_
      refine lv_icmp_lt (tgt := 20) hx hb dX1_shownBefore_15 (by decide) (fun c_15 => ?_) (fun c_15 => ?_)
      · obtain ⟨j, hj, rfl⟩ := jN_of (x := x) (n := 8) (by decide) ⟨c_1, c_7⟩
        have hjw : j < w := (nI_ltI (by omega) (by omega)).mp c_15
        refine lv_aload_n hx hb dX1_shownBefore_20 rfl (lv_at hl 0 rfl) ?_
        refine va_get (D := D) (ci := 1) (v := .ref s0) (C := RX1) (T := TX1) (N := 7) hx hb hts iw_X1_shownBefore_X1 hown hK hP 0 rfl rfl 2 (by decide) (hts (.fieldLink RX1 18 "JumpGuard$Machine" "lastShown" "[I") (List.mem_of_getElem? (l := wsX1_shownBefore) (i := 2) rfl)) (fun _ h9 => h9) rfl dX1_shownBefore_21 ?_
        refine lv_aload_n hx hb dX1_shownBefore_24 rfl (lv_at hl 0 rfl) ?_
        refine va_get (D := D) (ci := 1) (v := .int (nI w)) (C := RX1) (T := TX1) (N := 7) hx hb hts iw_X1_shownBefore_X1 hown hK hP 0 rfl rfl 6 (by decide) (hts (.fieldLink RX1 43 "JumpGuard$Machine" "showCount" "I") (List.mem_of_getElem? (l := wsX1_shownBefore) (i := 1) rfl)) (fun _ h9 => h9) rfl dX1_shownBefore_25 ?_
        refine lv_iconst (v := 1) hx hb dX1_shownBefore_28 (by decide) ?_
        refine lv_isub hx hb dX1_shownBefore_29 ?_
        refine jk_top (show ((nI w) - 1) = (nI (w - 1)) from pk_sub (a := w) (b := 1) (by omega)) ?_
        refine lv_iload_n hx hb dX1_shownBefore_30 rfl (lv_at hl 1 rfl) ?_
        refine lv_isub hx hb dX1_shownBefore_31 ?_
        refine jk_top (show ((nI (w - 1)) - (nI j)) = (nI (w - 1 - j)) from pk_sub (by omega)) ?_
        refine lv_bipush (v := 7) hx hb dX1_shownBefore_32 (by decide) ?_
        refine lv_iand hx hb dX1_shownBefore_34 ?_
        refine jk_top (show ((nI (w - 1 - j)) &&& 7) = (nI ((w - 1 - j) % 8)) from pk_andN (by omega) 3 (by decide)) ?_
        refine jk_ald hx hb hK hP 1 0 rfl rfl (k := ((w - 1 - j) % 8)) rfl (by omega) (by omega) dX1_shownBefore_35 ?_
        exact W.iret (v := (Ls ((w - 1 - j) % 8))) hx hb hr (fun t9 ht9 hW9 => ⟨jk_ret (show (Ls ((w - 1 - j) % 8)) = (mShown Ls w (nI j)) from (mShown_at hj hjw (by omega)).symm), ht9⟩) (fun q h => absurd h List.not_mem_nil) dX1_shownBefore_36
      · refine lv_iconst (v := 0) hx hb dX1_shownBefore_18 (by decide) ?_
        exact W.iret (v := 0) hx hb hr (fun t9 ht9 hW9 => ⟨jk_ret (show 0 = (mShown Ls w x) from (mShown_no (by first | exact fun h => h.1.1 c_1 | exact fun h => h.1.2 c_7 | exact fun h => h.2 (Int32.not_lt.mp c_15))).symm), ht9⟩) (fun q h => absurd h List.not_mem_nil) dX1_shownBefore_19
set_option maxHeartbeats 4000000 in
set_option maxRecDepth 100000 in
theorem c_X1_keepShown (l : Launch) (D : va_G) (cA : ClassId) (sz : Nat) (m0 : Nat) (r0 : Nat) (c0 : Nat) (s0 : Nat) (p0 : Nat) (pc : Int32) (st : Int32) (w : Nat) (Ls : Nat → Int32) (v : Int32) (hw : w < 1000000) : Met l yX1_keepShown wsX1_keepShown ({ frames := 0, cells := 0, slots := 0, locals := 0 }) (rwP D cA [.ref m0, .int v] sz [(m0, .inr (1, [.ref r0, .ref c0, .ref s0, .ref p0, .int pc, .int st, .int (nI w)])), (s0, .inl (cA, 8, .inl Ls))]) (rwV D (va_A [(m0, .inr (1, [.ref r0, .ref c0, .ref s0, .ref p0, .int pc, .int st, .int (nI w)])), (s0, .inl (cA, 8, .inl Ls))] sz) [(m0, .inr (1, [.ref r0, .ref c0, .ref s0, .ref p0, .int pc, .int st, .int (nI (w + 1))])), (s0, .inl (cA, 8, .inl (upd Ls (w % 8) v)))]) 0 0 (va_A [(m0, .inr (1, [.ref r0, .ref c0, .ref s0, .ref p0, .int pc, .int st, .int (nI w)])), (s0, .inl (cA, 8, .inl Ls))] sz) := by
  refine Met.ofW (cc := cX1_keepShown) (maxL := 2) (ret := none) (by decide) rfl ?_
  intro p e s m args below meth c s₁ B hml hv
  obtain ⟨rfl, hsz, hP, hK, hN, hD0⟩ := hv
  have hx := B.exec
  have hb := B.bytes
  have hr := B.returns
  have hts := atoms_spec (ws := wsX1_keepShown) B.pre
  have hown : s.vm.findClass RX1 = some m.cls := findClass_of_methodNamed B.named
  have hlocks := B.notSynchronized
  subst hsz
  have hD := hD0.self (sz := s.heap.size)
  generalize hAe : va_A [(m0, .inr (1, [.ref r0, .ref c0, .ref s0, .ref p0, .int pc, .int st, .int (nI w)])), (s0, .inl (cA, 8, .inl Ls))] s.heap.size = A at hD ⊢
  have hA : ∀ q : Nat, s.heap.size ≤ q → A q := fun q h => by rw [← hAe]; exact Or.inr h
  have hS : va_S A s.heap s.heap [] := va_S.rf
  have hl := lv_entry ([.ref m0, .int v]) (n := 2) (Nat.le_of_ble_eq_true rfl)
  rw [lg_entry_eq]
  generalize (lg_sl ([.ref m0, .int v]) ++ List.replicate (2 - (lg_sl ([.ref m0, .int v])).length) Slot.unset).toArray = ls at hl ⊢
  have hl : lv_has ls 2 [(0, .ref m0), (1, .int v)] := hl
  refine lv_aload_n hx hb dX1_keepShown_0 rfl (lv_at hl 0 rfl) ?_
  refine va_get (D := D) (ci := 1) (v := .ref s0) (C := RX1) (T := TX1) (N := 7) hx hb hts iw_X1_keepShown_X1 hown hK hP 0 rfl rfl 2 (by decide) (hts (.fieldLink RX1 18 "JumpGuard$Machine" "lastShown" "[I") (List.mem_of_getElem? (l := wsX1_keepShown) (i := 1) rfl)) (fun _ h9 => h9) rfl dX1_keepShown_1 ?_
  refine lv_aload_n hx hb dX1_keepShown_4 rfl (lv_at hl 0 rfl) ?_
  refine va_get (D := D) (ci := 1) (v := .int (nI w)) (C := RX1) (T := TX1) (N := 7) hx hb hts iw_X1_keepShown_X1 hown hK hP 0 rfl rfl 6 (by decide) (hts (.fieldLink RX1 43 "JumpGuard$Machine" "showCount" "I") (List.mem_of_getElem? (l := wsX1_keepShown) (i := 2) rfl)) (fun _ h9 => h9) rfl dX1_keepShown_5 ?_
  refine lv_bipush (v := 7) hx hb dX1_keepShown_8 (by decide) ?_
  refine lv_iand hx hb dX1_keepShown_10 ?_
  refine jk_top (show ((nI w) &&& 7) = (nI (w % 8)) from pk_andN (by omega) 3 (by decide)) ?_
  refine lv_iload_n hx hb dX1_keepShown_11 rfl (lv_at hl 1 rfl) ?_
  refine jk_ast hx hb hK hP hD hS 1 0 rfl rfl (k := (w % 8)) rfl (by omega) (by omega) dX1_keepShown_12 (fun H locs hP hD hS => ?_)
  have hP : va_P D vwCl [(m0, .inr (1, [.ref r0, .ref c0, .ref s0, .ref p0, .int pc, .int st, .int (nI w)])), (s0, .inl (cA, 8, .inl (upd Ls (w % 8) v)))] H := hP
  have hD : va_D A [(m0, .inr (1, [.ref r0, .ref c0, .ref s0, .ref p0, .int pc, .int st, .int (nI w)])), (s0, .inl (cA, 8, .inl (upd Ls (w % 8) v)))] := hD
  refine lv_aload_n hx hb dX1_keepShown_13 rfl (lv_at hl 0 rfl) ?_
  refine lv_dup hx hb dX1_keepShown_14 rfl ?_
  refine va_get (D := D) (ci := 1) (v := .int (nI w)) (C := RX1) (T := TX1) (N := 7) hx hb hts iw_X1_keepShown_X1 hown hK hP 0 rfl rfl 6 (by decide) (hts (.fieldLink RX1 43 "JumpGuard$Machine" "showCount" "I") (List.mem_of_getElem? (l := wsX1_keepShown) (i := 2) rfl)) (fun _ h9 => h9) rfl dX1_keepShown_15 ?_
  refine lv_iconst (v := 1) hx hb dX1_keepShown_18 (by decide) ?_
  refine lv_iadd hx hb dX1_keepShown_19 ?_
  refine jk_top (show ((nI w) + 1) = (nI (w + 1)) from jn_a1 w) ?_
  refine va_put (D := D) (ci := 1) (v := .int (nI (w + 1))) (ty := .int) (C := RX1) (T := TX1) (N := 7) hx hb hts iw_X1_keepShown_X1 tyX1 tyX1_ok nmX1 hown hK hP hD hS 0 rfl rfl 6 (by decide) (hts (.fieldLink RX1 43 "JumpGuard$Machine" "showCount" "I") (List.mem_of_getElem? (l := wsX1_keepShown) (i := 2) rfl)) (fun _ h9 => h9) rfl (by decide +kernel) rfl rfl (Nat.le_of_ble_eq_true rfl) dX1_keepShown_20 (fun H locs hP hD hS => ?_)
  have hP : va_P D vwCl [(m0, .inr (1, [.ref r0, .ref c0, .ref s0, .ref p0, .int pc, .int st, .int (nI (w + 1))])), (s0, .inl (cA, 8, .inl (upd Ls (w % 8) v)))] H := hP
  have hD : va_D A [(m0, .inr (1, [.ref r0, .ref c0, .ref s0, .ref p0, .int pc, .int st, .int (nI (w + 1))])), (s0, .inl (cA, 8, .inl (upd Ls (w % 8) v)))] := hD
  obtain ⟨hP9, hD9⟩ := jk_end (w2 := [(m0, .inr (1, [.ref r0, .ref c0, .ref s0, .ref p0, .int pc, .int st, .int (nI (w + 1))])), (s0, .inl (cA, 8, .inl (upd Ls (w % 8) v)))]) hP hD [0, 1] (by decide) rfl
  exact W.vret hx hb hr (fun t9 ht9 hW9 => ⟨⟨(), rfl, trivial, by rw [ht9]; exact hP9, hD9⟩, hS.F ht9⟩) hS.2.2 dX1_keepShown_23
set_option maxHeartbeats 4000000 in
set_option maxRecDepth 100000 in
theorem c_X1_jumpTo (l : Launch) (D : va_G) (cA : ClassId) (sz : Nat) (m0 : Nat) (r0 : Nat) (c0 : Nat) (s0 : Nat) (p0 : Nat) (pc : Int32) (st : Int32) (w : Nat) (a0 : Nat) (mo : Nat) (k : Nat) (f : Nat → Int32) (x : Int32) : Met l yX1_jumpTo wsX1_jumpTo ({ frames := 1, cells := 0, slots := 0, locals := 21 }) (rwP D cA [.ref m0, .int x] sz [(m0, .inr (1, [.ref r0, .ref c0, .ref s0, .ref p0, .int pc, .int st, .int (nI w)])), (p0, .inr (2, [.ref a0, .int (nI mo), .int (nI k)]))]) (rwI D (va_A [(m0, .inr (1, [.ref r0, .ref c0, .ref s0, .ref p0, .int pc, .int st, .int (nI w)])), (p0, .inr (2, [.ref a0, .int (nI mo), .int (nI k)]))] sz) x [(m0, .inr (1, [.ref r0, .ref c0, .ref s0, .ref p0, .int pc, .int (mvJ f k x st), .int (nI w)])), (p0, .inr (2, [.ref a0, .int (nI mo), .int (nI k)]))]) 0 0 (va_A [(m0, .inr (1, [.ref r0, .ref c0, .ref s0, .ref p0, .int pc, .int st, .int (nI w)])), (p0, .inr (2, [.ref a0, .int (nI mo), .int (nI k)]))] sz) := by
  refine Met.ofW (cc := cX1_jumpTo) (maxL := 2) (ret := (some .int)) (by decide) rfl ?_
  intro p e s m args below meth c s₁ B hml hv
  obtain ⟨rfl, hsz, hP, hK, hN, hD0⟩ := hv
  have hx := B.exec
  have hb := B.bytes
  have hr := B.returns
  have hts := atoms_spec (ws := wsX1_jumpTo) B.pre
  have hown : s.vm.findClass RX1 = some m.cls := findClass_of_methodNamed B.named
  have hlocks := B.notSynchronized
  subst hsz
  have hD := hD0.self (sz := s.heap.size)
  generalize hAe : va_A [(m0, .inr (1, [.ref r0, .ref c0, .ref s0, .ref p0, .int pc, .int st, .int (nI w)])), (p0, .inr (2, [.ref a0, .int (nI mo), .int (nI k)]))] s.heap.size = A at hD ⊢
  have hA : ∀ q : Nat, s.heap.size ≤ q → A q := fun q h => by rw [← hAe]; exact Or.inr h
  have hS : va_S A s.heap s.heap [] := va_S.rf
  have hl := lv_entry ([.ref m0, .int x]) (n := 2) (Nat.le_of_ble_eq_true rfl)
  rw [lg_entry_eq]
  generalize (lg_sl ([.ref m0, .int x]) ++ List.replicate (2 - (lg_sl ([.ref m0, .int x])).length) Slot.unset).toArray = ls at hl ⊢
  have hl : lv_has ls 2 [(0, .ref m0), (1, .int x)] := hl
  refine lv_aload_n hx hb dX1_jumpTo_0 rfl (lv_at hl 0 rfl) ?_
  refine va_get (D := D) (ci := 1) (v := .ref p0) (C := RX1) (T := TX1) (N := 7) hx hb hts iw_X1_jumpTo_X1 hown hK hP 0 rfl rfl 3 (by decide) (hts (.fieldLink RX1 26 "JumpGuard$Machine" "program" "LJumpGuard$Program;") (List.mem_of_getElem? (l := wsX1_jumpTo) (i := 1) rfl)) (fun _ h9 => h9) rfl dX1_jumpTo_1 ?_
  refine lv_iload_n hx hb dX1_jumpTo_4 rfl (lv_at hl 1 rfl) ?_
  refine jr_i (va_runV (As := [.int x]) (rest := []) ⟨hx, hb, hml, hown, hts⟩ (c_X2_has l D cA p0 a0 mo k x) (cwV 1 hts gX1_jumpTo_X2_has rfl rfl rfl hv_X2_has ⟨Nat.le_of_ble_eq_true rfl, Nat.le_of_ble_eq_true rfl⟩) (roP.V (va_recv hK hP (ci := 2) (q0 := 1) rfl rfl) (jP_sub (w2 := [(p0, .inr (2, [.ref a0, .int (nI mo), .int (nI k)]))]) hP [1] rfl) hK hN) rfl rfl hl.1 rfl (lv_room (Nat.le_of_ble_eq_true rfl)) dX1_jumpTo_5 ⟨Nat.le_of_ble_eq_true rfl, Nat.le_of_ble_eq_true rfl⟩) ?_
  refine lv_if_ne (tgt := 16) hx hb dX1_jumpTo_8 (by decide) (fun c_8 => ?_) (fun c_8 => ?_)
  · replace c_8 := jB_nz.mp c_8
    refine lv_iload_n hx hb dX1_jumpTo_16 rfl (lv_at hl 1 rfl) ?_
    obtain ⟨hP9, hD9⟩ := jk_end (w2 := [(m0, .inr (1, [.ref r0, .ref c0, .ref s0, .ref p0, .int pc, .int st, .int (nI w)])), (p0, .inr (2, [.ref a0, .int (nI mo), .int (nI k)]))]) hP hD [0, 1] (by decide) rfl
    have e9 : ([(m0, .inr (1, [.ref r0, .ref c0, .ref s0, .ref p0, .int pc, .int st, .int (nI w)])), (p0, .inr (2, [.ref a0, .int (nI mo), .int (nI k)]))] : va_W) = [(m0, .inr (1, [.ref r0, .ref c0, .ref s0, .ref p0, .int pc, .int (mvJ f k x st), .int (nI w)])), (p0, .inr (2, [.ref a0, .int (nI mo), .int (nI k)]))] := (by unfold mvJ; rw [if_pos c_8])
    rw [e9] at hP9 hD9
    exact W.iret (v := x) hx hb hr (fun t9 ht9 hW9 => ⟨⟨_, (), rfl, (show x = x from rfl), by rw [ht9]; exact hP9, hD9⟩, hS.F ht9⟩) hS.2.2 dX1_jumpTo_17
  · replace c_8 := jB_z.mp c_8
    refine lv_aload_n hx hb dX1_jumpTo_11 rfl (lv_at hl 0 rfl) ?_
    refine lv_iconst (v := 3) hx hb dX1_jumpTo_12 (by decide) ?_
    refine va_put (D := D) (ci := 1) (v := .int 3) (ty := .int) (C := RX1) (T := TX1) (N := 7) hx hb hts iw_X1_jumpTo_X1 tyX1 tyX1_ok nmX1 hown hK hP hD hS 0 rfl rfl 5 (by decide) (hts (.fieldLink RX1 30 "JumpGuard$Machine" "condition" "I") (List.mem_of_getElem? (l := wsX1_jumpTo) (i := 2) rfl)) (fun _ h9 => h9) rfl (by decide +kernel) rfl rfl (Nat.le_of_ble_eq_true rfl) dX1_jumpTo_13 (fun H locs hP hD hS => ?_)
    have hP : va_P D vwCl [(m0, .inr (1, [.ref r0, .ref c0, .ref s0, .ref p0, .int pc, .int 3, .int (nI w)])), (p0, .inr (2, [.ref a0, .int (nI mo), .int (nI k)]))] H := hP
    have hD : va_D A [(m0, .inr (1, [.ref r0, .ref c0, .ref s0, .ref p0, .int pc, .int 3, .int (nI w)])), (p0, .inr (2, [.ref a0, .int (nI mo), .int (nI k)]))] := hD
    refine lv_iload_n hx hb dX1_jumpTo_16 rfl (lv_at hl 1 rfl) ?_
    obtain ⟨hP9, hD9⟩ := jk_end (w2 := [(m0, .inr (1, [.ref r0, .ref c0, .ref s0, .ref p0, .int pc, .int 3, .int (nI w)])), (p0, .inr (2, [.ref a0, .int (nI mo), .int (nI k)]))]) hP hD [0, 1] (by decide) rfl
    have e9 : ([(m0, .inr (1, [.ref r0, .ref c0, .ref s0, .ref p0, .int pc, .int 3, .int (nI w)])), (p0, .inr (2, [.ref a0, .int (nI mo), .int (nI k)]))] : va_W) = [(m0, .inr (1, [.ref r0, .ref c0, .ref s0, .ref p0, .int pc, .int (mvJ f k x st), .int (nI w)])), (p0, .inr (2, [.ref a0, .int (nI mo), .int (nI k)]))] := (by unfold mvJ; rw [if_neg c_8])
    rw [e9] at hP9 hD9
    exact W.iret (v := x) hx hb hr (fun t9 ht9 hW9 => ⟨⟨_, (), rfl, (show x = x from rfl), by rw [ht9]; exact hP9, hD9⟩, hS.F ht9⟩) hS.2.2 dX1_jumpTo_17
set_option maxHeartbeats 4000000 in
set_option maxRecDepth 100000 in
theorem c_X1_checkLabel (l : Launch) (D : va_G) (cA : ClassId) (sz : Nat) (m0 : Nat) (r0 : Nat) (c0 : Nat) (s0 : Nat) (p0 : Nat) (pc : Int32) (st : Int32) (w : Nat) (a0 : Nat) (mo : Nat) (k : Nat) (N : Nat) (f : Nat → Int32) (x : Int32) (y : Int32) (hk : k * 3 ≤ N) (hN3 : N ≤ 216) : Met l yX1_checkLabel wsX1_checkLabel ({ frames := 2, cells := 0, slots := 0, locals := 43 }) (rwP D cA [.ref m0, .int x, .int y] sz [(m0, .inr (1, [.ref r0, .ref c0, .ref s0, .ref p0, .int pc, .int st, .int (nI w)])), (p0, .inr (2, [.ref a0, .int (nI mo), .int (nI k)])), (a0, .inl (cA, N, .inl f))]) (rwV D (va_A [(m0, .inr (1, [.ref r0, .ref c0, .ref s0, .ref p0, .int pc, .int st, .int (nI w)])), (p0, .inr (2, [.ref a0, .int (nI mo), .int (nI k)])), (a0, .inl (cA, N, .inl f))] sz) [(m0, .inr (1, [.ref r0, .ref c0, .ref s0, .ref p0, .int pc, .int (mvG f k x y st), .int (nI w)])), (p0, .inr (2, [.ref a0, .int (nI mo), .int (nI k)])), (a0, .inl (cA, N, .inl f))]) 0 0 (va_A [(m0, .inr (1, [.ref r0, .ref c0, .ref s0, .ref p0, .int pc, .int st, .int (nI w)])), (p0, .inr (2, [.ref a0, .int (nI mo), .int (nI k)])), (a0, .inl (cA, N, .inl f))] sz) := by
  refine Met.ofW (cc := cX1_checkLabel) (maxL := 3) (ret := none) (by decide) rfl ?_
  intro p e s m args below meth c s₁ B hml hv
  obtain ⟨rfl, hsz, hP, hK, hN, hD0⟩ := hv
  have hx := B.exec
  have hb := B.bytes
  have hr := B.returns
  have hts := atoms_spec (ws := wsX1_checkLabel) B.pre
  have hown : s.vm.findClass RX1 = some m.cls := findClass_of_methodNamed B.named
  have hlocks := B.notSynchronized
  subst hsz
  have hD := hD0.self (sz := s.heap.size)
  generalize hAe : va_A [(m0, .inr (1, [.ref r0, .ref c0, .ref s0, .ref p0, .int pc, .int st, .int (nI w)])), (p0, .inr (2, [.ref a0, .int (nI mo), .int (nI k)])), (a0, .inl (cA, N, .inl f))] s.heap.size = A at hD ⊢
  have hA : ∀ q : Nat, s.heap.size ≤ q → A q := fun q h => by rw [← hAe]; exact Or.inr h
  have hS : va_S A s.heap s.heap [] := va_S.rf
  have hl := lv_entry ([.ref m0, .int x, .int y]) (n := 3) (Nat.le_of_ble_eq_true rfl)
  rw [lg_entry_eq]
  generalize (lg_sl ([.ref m0, .int x, .int y]) ++ List.replicate (3 - (lg_sl ([.ref m0, .int x, .int y])).length) Slot.unset).toArray = ls at hl ⊢
  have hl : lv_has ls 3 [(0, .ref m0), (1, .int x), (2, .int y)] := hl
  refine lv_aload_n hx hb dX1_checkLabel_0 rfl (lv_at hl 0 rfl) ?_
  refine va_get (D := D) (ci := 1) (v := .ref p0) (C := RX1) (T := TX1) (N := 7) hx hb hts iw_X1_checkLabel_X1 hown hK hP 0 rfl rfl 3 (by decide) (hts (.fieldLink RX1 26 "JumpGuard$Machine" "program" "LJumpGuard$Program;") (List.mem_of_getElem? (l := wsX1_checkLabel) (i := 1) rfl)) (fun _ h9 => h9) rfl dX1_checkLabel_1 ?_
  refine lv_iload_n hx hb dX1_checkLabel_4 rfl (lv_at hl 1 rfl) ?_
  refine lv_iconst (v := 0) hx hb dX1_checkLabel_5 (by decide) ?_
  refine jr_i (va_runV (As := [.int x, .int 0]) (rest := []) ⟨hx, hb, hml, hown, hts⟩ (c_X2_get l D cA p0 a0 mo k N f x 0 (by first | assumption | omega) (by first | assumption | omega)) (cwV 2 hts gX1_checkLabel_X2_get rfl rfl rfl hv_X2_get ⟨Nat.le_of_ble_eq_true rfl, Nat.le_of_ble_eq_true rfl⟩) (roP.V (va_recv hK hP (ci := 2) (q0 := 1) rfl rfl) (jP_sub (w2 := [(p0, .inr (2, [.ref a0, .int (nI mo), .int (nI k)])), (a0, .inl (cA, N, .inl f))]) hP [1, 2] rfl) hK hN) rfl rfl hl.1 rfl (lv_room (Nat.le_of_ble_eq_true rfl)) dX1_checkLabel_6 ⟨Nat.le_of_ble_eq_true rfl, Nat.le_of_ble_eq_true rfl⟩) ?_
  refine lv_bipush (v := 10) hx hb dX1_checkLabel_9 (by decide) ?_
  refine lv_icmp_ne (tgt := 27) hx hb dX1_checkLabel_11 (by decide) (fun c_11 => ?_) (fun c_11 => ?_)
  · refine lv_aload_n hx hb dX1_checkLabel_27 rfl (lv_at hl 0 rfl) ?_
    refine lv_iconst (v := 2) hx hb dX1_checkLabel_28 (by decide) ?_
    refine va_put (D := D) (ci := 1) (v := .int 2) (ty := .int) (C := RX1) (T := TX1) (N := 7) hx hb hts iw_X1_checkLabel_X1 tyX1 tyX1_ok nmX1 hown hK hP hD hS 0 rfl rfl 5 (by decide) (hts (.fieldLink RX1 30 "JumpGuard$Machine" "condition" "I") (List.mem_of_getElem? (l := wsX1_checkLabel) (i := 2) rfl)) (fun _ h9 => h9) rfl (by decide +kernel) rfl rfl (Nat.le_of_ble_eq_true rfl) dX1_checkLabel_29 (fun H locs hP hD hS => ?_)
    have hP : va_P D vwCl [(m0, .inr (1, [.ref r0, .ref c0, .ref s0, .ref p0, .int pc, .int 2, .int (nI w)])), (p0, .inr (2, [.ref a0, .int (nI mo), .int (nI k)])), (a0, .inl (cA, N, .inl f))] H := hP
    have hD : va_D A [(m0, .inr (1, [.ref r0, .ref c0, .ref s0, .ref p0, .int pc, .int 2, .int (nI w)])), (p0, .inr (2, [.ref a0, .int (nI mo), .int (nI k)])), (a0, .inl (cA, N, .inl f))] := hD
    obtain ⟨hP9, hD9⟩ := jk_end (w2 := [(m0, .inr (1, [.ref r0, .ref c0, .ref s0, .ref p0, .int pc, .int 2, .int (nI w)])), (p0, .inr (2, [.ref a0, .int (nI mo), .int (nI k)])), (a0, .inl (cA, N, .inl f))]) hP hD [0, 1, 2] (by decide) rfl
    have e9 : ([(m0, .inr (1, [.ref r0, .ref c0, .ref s0, .ref p0, .int pc, .int 2, .int (nI w)])), (p0, .inr (2, [.ref a0, .int (nI mo), .int (nI k)])), (a0, .inl (cA, N, .inl f))] : va_W) = [(m0, .inr (1, [.ref r0, .ref c0, .ref s0, .ref p0, .int pc, .int (mvG f k x y st), .int (nI w)])), (p0, .inr (2, [.ref a0, .int (nI mo), .int (nI k)])), (a0, .inl (cA, N, .inl f))] := (by unfold mvG; rw [if_neg (by first | exact fun h => c_11 h.1 | exact fun h => c_24 h.2)])
    rw [e9] at hP9 hD9
    exact W.vret hx hb hr (fun t9 ht9 hW9 => ⟨⟨(), rfl, trivial, by rw [ht9]; exact hP9, hD9⟩, hS.F ht9⟩) hS.2.2 dX1_checkLabel_32
  · refine lv_aload_n hx hb dX1_checkLabel_14 rfl (lv_at hl 0 rfl) ?_
    refine va_get (D := D) (ci := 1) (v := .ref p0) (C := RX1) (T := TX1) (N := 7) hx hb hts iw_X1_checkLabel_X1 hown hK hP 0 rfl rfl 3 (by decide) (hts (.fieldLink RX1 26 "JumpGuard$Machine" "program" "LJumpGuard$Program;") (List.mem_of_getElem? (l := wsX1_checkLabel) (i := 1) rfl)) (fun _ h9 => h9) rfl dX1_checkLabel_15 ?_
    refine lv_iload_n hx hb dX1_checkLabel_18 rfl (lv_at hl 1 rfl) ?_
    refine lv_iconst (v := 1) hx hb dX1_checkLabel_19 (by decide) ?_
    refine jr_i (va_runV (As := [.int x, .int 1]) (rest := []) ⟨hx, hb, hml, hown, hts⟩ (c_X2_get l D cA p0 a0 mo k N f x 1 (by first | assumption | omega) (by first | assumption | omega)) (cwV 2 hts gX1_checkLabel_X2_get rfl rfl rfl hv_X2_get ⟨Nat.le_of_ble_eq_true rfl, Nat.le_of_ble_eq_true rfl⟩) (roP.V (va_recv hK hP (ci := 2) (q0 := 1) rfl rfl) (jP_sub (w2 := [(p0, .inr (2, [.ref a0, .int (nI mo), .int (nI k)])), (a0, .inl (cA, N, .inl f))]) hP [1, 2] rfl) hK hN) rfl rfl hl.1 rfl (lv_room (Nat.le_of_ble_eq_true rfl)) dX1_checkLabel_20 ⟨Nat.le_of_ble_eq_true rfl, Nat.le_of_ble_eq_true rfl⟩) ?_
    refine lv_iload_n hx hb dX1_checkLabel_23 rfl (lv_at hl 2 rfl) ?_
    refine lv_icmp_eq (tgt := 32) hx hb dX1_checkLabel_24 (by decide) (fun c_24 => ?_) (fun c_24 => ?_)
    · obtain ⟨hP9, hD9⟩ := jk_end (w2 := [(m0, .inr (1, [.ref r0, .ref c0, .ref s0, .ref p0, .int pc, .int st, .int (nI w)])), (p0, .inr (2, [.ref a0, .int (nI mo), .int (nI k)])), (a0, .inl (cA, N, .inl f))]) hP hD [0, 1, 2] (by decide) rfl
      have e9 : ([(m0, .inr (1, [.ref r0, .ref c0, .ref s0, .ref p0, .int pc, .int st, .int (nI w)])), (p0, .inr (2, [.ref a0, .int (nI mo), .int (nI k)])), (a0, .inl (cA, N, .inl f))] : va_W) = [(m0, .inr (1, [.ref r0, .ref c0, .ref s0, .ref p0, .int pc, .int (mvG f k x y st), .int (nI w)])), (p0, .inr (2, [.ref a0, .int (nI mo), .int (nI k)])), (a0, .inl (cA, N, .inl f))] := (by unfold mvG; rw [if_pos ⟨c_11, c_24⟩])
      rw [e9] at hP9 hD9
      exact W.vret hx hb hr (fun t9 ht9 hW9 => ⟨⟨(), rfl, trivial, by rw [ht9]; exact hP9, hD9⟩, hS.F ht9⟩) hS.2.2 dX1_checkLabel_32
    · refine lv_aload_n hx hb dX1_checkLabel_27 rfl (lv_at hl 0 rfl) ?_
      refine lv_iconst (v := 2) hx hb dX1_checkLabel_28 (by decide) ?_
      refine va_put (D := D) (ci := 1) (v := .int 2) (ty := .int) (C := RX1) (T := TX1) (N := 7) hx hb hts iw_X1_checkLabel_X1 tyX1 tyX1_ok nmX1 hown hK hP hD hS 0 rfl rfl 5 (by decide) (hts (.fieldLink RX1 30 "JumpGuard$Machine" "condition" "I") (List.mem_of_getElem? (l := wsX1_checkLabel) (i := 2) rfl)) (fun _ h9 => h9) rfl (by decide +kernel) rfl rfl (Nat.le_of_ble_eq_true rfl) dX1_checkLabel_29 (fun H locs hP hD hS => ?_)
      have hP : va_P D vwCl [(m0, .inr (1, [.ref r0, .ref c0, .ref s0, .ref p0, .int pc, .int 2, .int (nI w)])), (p0, .inr (2, [.ref a0, .int (nI mo), .int (nI k)])), (a0, .inl (cA, N, .inl f))] H := hP
      have hD : va_D A [(m0, .inr (1, [.ref r0, .ref c0, .ref s0, .ref p0, .int pc, .int 2, .int (nI w)])), (p0, .inr (2, [.ref a0, .int (nI mo), .int (nI k)])), (a0, .inl (cA, N, .inl f))] := hD
      obtain ⟨hP9, hD9⟩ := jk_end (w2 := [(m0, .inr (1, [.ref r0, .ref c0, .ref s0, .ref p0, .int pc, .int 2, .int (nI w)])), (p0, .inr (2, [.ref a0, .int (nI mo), .int (nI k)])), (a0, .inl (cA, N, .inl f))]) hP hD [0, 1, 2] (by decide) rfl
      have e9 : ([(m0, .inr (1, [.ref r0, .ref c0, .ref s0, .ref p0, .int pc, .int 2, .int (nI w)])), (p0, .inr (2, [.ref a0, .int (nI mo), .int (nI k)])), (a0, .inl (cA, N, .inl f))] : va_W) = [(m0, .inr (1, [.ref r0, .ref c0, .ref s0, .ref p0, .int pc, .int (mvG f k x y st), .int (nI w)])), (p0, .inr (2, [.ref a0, .int (nI mo), .int (nI k)])), (a0, .inl (cA, N, .inl f))] := (by unfold mvG; rw [if_neg (by first | exact fun h => c_11 h.1 | exact fun h => c_24 h.2)])
      rw [e9] at hP9 hD9
      exact W.vret hx hb hr (fun t9 ht9 hW9 => ⟨⟨(), rfl, trivial, by rw [ht9]; exact hP9, hD9⟩, hS.F ht9⟩) hS.2.2 dX1_checkLabel_32
set_option maxHeartbeats 4000000 in
set_option maxRecDepth 100000 in
theorem c_X1_carryOut (l : Launch) (D : va_G) (cA : ClassId) (sz : Nat) (m0 : Nat) (r0 : Nat) (c0 : Nat) (s0 : Nat) (p0 : Nat) (pc : Int32) (st : Int32) (w : Nat) (a0 : Nat) (mo : Nat) (k : Nat) (N : Nat) (f : Nat → Int32) (R : Nat → Int32) (Cm : Nat → Int32) (Ls : Nat → Int32) (o : Nat) (a : Int32) (b : Int32) (ho : o < 12) (hk : k * 3 ≤ N) (hN3 : N ≤ 216) (hw : w < 1000000) : Met l yX1_carryOut wsX1_carryOut ({ frames := 3, cells := 0, slots := 0, locals := 65 }) (rwP D cA [.ref m0, .int (nI o), .int a, .int b] sz [(m0, .inr (1, [.ref r0, .ref c0, .ref s0, .ref p0, .int pc, .int st, .int (nI w)])), (r0, .inl (cA, 4, .inl R)), (c0, .inl (cA, 16, .inl Cm)), (s0, .inl (cA, 8, .inl Ls)), (p0, .inr (2, [.ref a0, .int (nI mo), .int (nI k)])), (a0, .inl (cA, N, .inl f))]) (rwI D (va_A [(m0, .inr (1, [.ref r0, .ref c0, .ref s0, .ref p0, .int pc, .int st, .int (nI w)])), (r0, .inl (cA, 4, .inl R)), (c0, .inl (cA, 16, .inl Cm)), (s0, .inl (cA, 8, .inl Ls)), (p0, .inr (2, [.ref a0, .int (nI mo), .int (nI k)])), (a0, .inl (cA, N, .inl f))] sz) (mvN o a b R pc) [(m0, .inr (1, [.ref r0, .ref c0, .ref s0, .ref p0, .int pc, .int (mvS o a b R f k st), .int (nI (mvW o w))])), (r0, .inl (cA, 4, .inl (mvR o a b R Cm))), (c0, .inl (cA, 16, .inl (mvC o a b R Cm))), (s0, .inl (cA, 8, .inl (mvL o a R Ls w))), (p0, .inr (2, [.ref a0, .int (nI mo), .int (nI k)])), (a0, .inl (cA, N, .inl f))]) 0 0 (va_A [(m0, .inr (1, [.ref r0, .ref c0, .ref s0, .ref p0, .int pc, .int st, .int (nI w)])), (r0, .inl (cA, 4, .inl R)), (c0, .inl (cA, 16, .inl Cm)), (s0, .inl (cA, 8, .inl Ls)), (p0, .inr (2, [.ref a0, .int (nI mo), .int (nI k)])), (a0, .inl (cA, N, .inl f))] sz) := by
  refine Met.ofW (cc := cX1_carryOut) (maxL := 5) (ret := (some .int)) (by decide) rfl ?_
  intro p e s m args below meth c s₁ B hml hv
  obtain ⟨rfl, hsz, hP, hK, hN, hD0⟩ := hv
  have hx := B.exec
  have hb := B.bytes
  have hr := B.returns
  have hts := atoms_spec (ws := wsX1_carryOut) B.pre
  have hown : s.vm.findClass RX1 = some m.cls := findClass_of_methodNamed B.named
  have hlocks := B.notSynchronized
  subst hsz
  have hD := hD0.self (sz := s.heap.size)
  generalize hAe : va_A [(m0, .inr (1, [.ref r0, .ref c0, .ref s0, .ref p0, .int pc, .int st, .int (nI w)])), (r0, .inl (cA, 4, .inl R)), (c0, .inl (cA, 16, .inl Cm)), (s0, .inl (cA, 8, .inl Ls)), (p0, .inr (2, [.ref a0, .int (nI mo), .int (nI k)])), (a0, .inl (cA, N, .inl f))] s.heap.size = A at hD ⊢
  have hA : ∀ q : Nat, s.heap.size ≤ q → A q := fun q h => by rw [← hAe]; exact Or.inr h
  have hS : va_S A s.heap s.heap [] := va_S.rf
  have hl := lv_entry ([.ref m0, .int (nI o), .int a, .int b]) (n := 5) (Nat.le_of_ble_eq_true rfl)
  rw [lg_entry_eq]
  generalize (lg_sl ([.ref m0, .int (nI o), .int a, .int b]) ++ List.replicate (5 - (lg_sl ([.ref m0, .int (nI o), .int a, .int b])).length) Slot.unset).toArray = ls at hl ⊢
  have hl : lv_has ls 5 [(0, .ref m0), (1, .int (nI o)), (2, .int a), (3, .int b)] := hl
  refine lv_aload_n hx hb dX1_carryOut_0 rfl (lv_at hl 0 rfl) ?_
  refine va_get (D := D) (ci := 1) (v := .int pc) (C := RX1) (T := TX1) (N := 7) hx hb hts iw_X1_carryOut_X1 hown hK hP 0 rfl rfl 4 (by decide) (hts (.fieldLink RX1 40 "JumpGuard$Machine" "counter" "I") (List.mem_of_getElem? (l := wsX1_carryOut) (i := 1) rfl)) (fun _ h9 => h9) rfl dX1_carryOut_1 ?_
  refine lv_iconst (v := 1) hx hb dX1_carryOut_4 (by decide) ?_
  refine lv_iadd hx hb dX1_carryOut_5 ?_
  refine lv_istore (lv' := [(4, .int (pc + 1)), (0, .ref m0), (1, .int (nI o)), (2, .int a), (3, .int b)]) hx hb dX1_carryOut_6 hl (by decide) rfl (fun ls hl => ?_)
  refine lv_iload_n hx hb dX1_carryOut_8 rfl (lv_at hl 2 rfl) ?_
  rcases (show o = 0 ∨ o = 1 ∨ o = 2 ∨ o = 3 ∨ o = 4 ∨ o = 5 ∨ o = 6 ∨ o = 7 ∨ o = 8 ∨ o = 9 ∨ o = 10 ∨ o = 11 by omega) with rfl | rfl | rfl | rfl | rfl | rfl | rfl | rfl | rfl | rfl | rfl | rfl
  · refine lv_tableIn (off := 63) (tgt := 72) hx hb dX1_carryOut_9 (by decide) (by decide) rfl (by decide) ?_
    refine lv_aload_n hx hb dX1_carryOut_72 rfl (lv_at hl 1 rfl) ?_
    refine lv_iconst (v := 1) hx hb dX1_carryOut_73 (by decide) ?_
    refine va_put (D := D) (ci := 1) (v := .int 1) (ty := .int) (C := RX1) (T := TX1) (N := 7) hx hb hts iw_X1_carryOut_X1 tyX1 tyX1_ok nmX1 hown hK hP hD hS 0 rfl rfl 5 (by decide) (hts (.fieldLink RX1 30 "JumpGuard$Machine" "condition" "I") (List.mem_of_getElem? (l := wsX1_carryOut) (i := 2) rfl)) (fun _ h9 => h9) rfl (by decide +kernel) rfl rfl (Nat.le_of_ble_eq_true rfl) dX1_carryOut_74 (fun H locs hP hD hS => ?_)
    have hP : va_P D vwCl [(m0, .inr (1, [.ref r0, .ref c0, .ref s0, .ref p0, .int pc, .int 1, .int (nI w)])), (r0, .inl (cA, 4, .inl R)), (c0, .inl (cA, 16, .inl Cm)), (s0, .inl (cA, 8, .inl Ls)), (p0, .inr (2, [.ref a0, .int (nI mo), .int (nI k)])), (a0, .inl (cA, N, .inl f))] H := hP
    have hD : va_D A [(m0, .inr (1, [.ref r0, .ref c0, .ref s0, .ref p0, .int pc, .int 1, .int (nI w)])), (r0, .inl (cA, 4, .inl R)), (c0, .inl (cA, 16, .inl Cm)), (s0, .inl (cA, 8, .inl Ls)), (p0, .inr (2, [.ref a0, .int (nI mo), .int (nI k)])), (a0, .inl (cA, N, .inl f))] := hD
    refine lv_iload hx hb dX1_carryOut_77 (lv_at hl 0 rfl) ?_
    obtain ⟨hP9, hD9⟩ := jk_end (w2 := [(m0, .inr (1, [.ref r0, .ref c0, .ref s0, .ref p0, .int pc, .int 1, .int (nI w)])), (r0, .inl (cA, 4, .inl R)), (c0, .inl (cA, 16, .inl Cm)), (s0, .inl (cA, 8, .inl Ls)), (p0, .inr (2, [.ref a0, .int (nI mo), .int (nI k)])), (a0, .inl (cA, N, .inl f))]) hP hD [0, 1, 2, 3, 4, 5] (by decide) rfl
    have e9 : ([(m0, .inr (1, [.ref r0, .ref c0, .ref s0, .ref p0, .int pc, .int 1, .int (nI w)])), (r0, .inl (cA, 4, .inl R)), (c0, .inl (cA, 16, .inl Cm)), (s0, .inl (cA, 8, .inl Ls)), (p0, .inr (2, [.ref a0, .int (nI mo), .int (nI k)])), (a0, .inl (cA, N, .inl f))] : va_W) = [(m0, .inr (1, [.ref r0, .ref c0, .ref s0, .ref p0, .int pc, .int (mvS 0 a b R f k st), .int (nI (mvW 0 w))])), (r0, .inl (cA, 4, .inl (mvR 0 a b R Cm))), (c0, .inl (cA, 16, .inl (mvC 0 a b R Cm))), (s0, .inl (cA, 8, .inl (mvL 0 a R Ls w))), (p0, .inr (2, [.ref a0, .int (nI mo), .int (nI k)])), (a0, .inl (cA, N, .inl f))] := rfl
    rw [e9] at hP9 hD9
    exact W.iret (v := (pc + 1)) hx hb hr (fun t9 ht9 hW9 => ⟨⟨_, (), rfl, (show (pc + 1) = (mvN 0 a b R pc) from rfl), by rw [ht9]; exact hP9, hD9⟩, hS.F ht9⟩) hS.2.2 dX1_carryOut_79
  · refine lv_tableIn (off := 71) (tgt := 80) hx hb dX1_carryOut_9 (by decide) (by decide) rfl (by decide) ?_
    refine lv_aload_n hx hb dX1_carryOut_80 rfl (lv_at hl 1 rfl) ?_
    refine lv_iload_n hx hb dX1_carryOut_81 rfl (lv_at hl 3 rfl) ?_
    refine lv_iload_n hx hb dX1_carryOut_82 rfl (lv_at hl 4 rfl) ?_
    refine jw_v (va_runV (As := [.int a, .int b]) (rest := []) ⟨hx, hb, hml, hown, hts⟩ (c_X1_setRegister l D cA s.heap.size m0 r0 c0 s0 p0 pc st w R a b) (cwV 2 hts gX1_carryOut_X1_setRegister rfl rfl rfl hv_X1_setRegister ⟨Nat.le_of_ble_eq_true rfl, Nat.le_of_ble_eq_true rfl⟩) (rwP.V (wc := [(m0, .inr (1, [.ref r0, .ref c0, .ref s0, .ref p0, .int pc, .int st, .int (nI w)])), (r0, .inl (cA, 4, .inl R))]) (va_recv hK hP (ci := 1) (q0 := 0) rfl rfl) hP hD hK hN [0, 1] (by decide) rfl) rfl rfl hl.1 rfl (lv_room (Nat.le_of_ble_eq_true rfl)) dX1_carryOut_83 ⟨Nat.le_of_ble_eq_true rfl, Nat.le_of_ble_eq_true rfl⟩) hP hD hS hA [0, 1] [2, 3, 4, 5] [4, 5, 0, 1, 2, 3] (wr := [(c0, .inl (cA, 16, .inl Cm)), (s0, .inl (cA, 8, .inl Ls)), (p0, .inr (2, [.ref a0, .int (nI mo), .int (nI k)])), (a0, .inl (cA, N, .inl f))]) (w2 := [(m0, .inr (1, [.ref r0, .ref c0, .ref s0, .ref p0, .int pc, .int st, .int (nI w)])), (r0, .inl (cA, 4, .inl (jPut R 4 a b))), (c0, .inl (cA, 16, .inl Cm)), (s0, .inl (cA, 8, .inl Ls)), (p0, .inr (2, [.ref a0, .int (nI mo), .int (nI k)])), (a0, .inl (cA, N, .inl f))]) rfl rfl (by decide) (by decide) (by decide) rfl (fun H locs hP hD hS => ?_)
    refine lv_iload hx hb dX1_carryOut_86 (lv_at hl 0 rfl) ?_
    obtain ⟨hP9, hD9⟩ := jk_end (w2 := [(m0, .inr (1, [.ref r0, .ref c0, .ref s0, .ref p0, .int pc, .int st, .int (nI w)])), (r0, .inl (cA, 4, .inl (jPut R 4 a b))), (c0, .inl (cA, 16, .inl Cm)), (s0, .inl (cA, 8, .inl Ls)), (p0, .inr (2, [.ref a0, .int (nI mo), .int (nI k)])), (a0, .inl (cA, N, .inl f))]) hP hD [0, 1, 2, 3, 4, 5] (by decide) rfl
    have e9 : ([(m0, .inr (1, [.ref r0, .ref c0, .ref s0, .ref p0, .int pc, .int st, .int (nI w)])), (r0, .inl (cA, 4, .inl (jPut R 4 a b))), (c0, .inl (cA, 16, .inl Cm)), (s0, .inl (cA, 8, .inl Ls)), (p0, .inr (2, [.ref a0, .int (nI mo), .int (nI k)])), (a0, .inl (cA, N, .inl f))] : va_W) = [(m0, .inr (1, [.ref r0, .ref c0, .ref s0, .ref p0, .int pc, .int (mvS 1 a b R f k st), .int (nI (mvW 1 w))])), (r0, .inl (cA, 4, .inl (mvR 1 a b R Cm))), (c0, .inl (cA, 16, .inl (mvC 1 a b R Cm))), (s0, .inl (cA, 8, .inl (mvL 1 a R Ls w))), (p0, .inr (2, [.ref a0, .int (nI mo), .int (nI k)])), (a0, .inl (cA, N, .inl f))] := rfl
    rw [e9] at hP9 hD9
    exact W.iret (v := (pc + 1)) hx hb hr (fun t9 ht9 hW9 => ⟨⟨_, (), rfl, (show (pc + 1) = (mvN 1 a b R pc) from rfl), by rw [ht9]; exact hP9, hD9⟩, hS.F ht9⟩) hS.2.2 dX1_carryOut_88
  · refine lv_tableIn (off := 80) (tgt := 89) hx hb dX1_carryOut_9 (by decide) (by decide) rfl (by decide) ?_
    refine lv_aload_n hx hb dX1_carryOut_89 rfl (lv_at hl 1 rfl) ?_
    refine lv_iload_n hx hb dX1_carryOut_90 rfl (lv_at hl 3 rfl) ?_
    refine lv_aload_n hx hb dX1_carryOut_91 rfl (lv_at hl 1 rfl) ?_
    refine lv_iload_n hx hb dX1_carryOut_92 rfl (lv_at hl 4 rfl) ?_
    refine jr_i (va_runV (As := [.int b]) (rest := [.int a, .ref m0]) ⟨hx, hb, hml, hown, hts⟩ (c_X1_cellValue l D cA m0 r0 c0 s0 p0 pc st w Cm b) (cwV 1 hts gX1_carryOut_X1_cellValue rfl rfl rfl hv_X1_cellValue ⟨Nat.le_of_ble_eq_true rfl, Nat.le_of_ble_eq_true rfl⟩) (roP.V (va_recv hK hP (ci := 1) (q0 := 0) rfl rfl) (jP_sub (w2 := [(m0, .inr (1, [.ref r0, .ref c0, .ref s0, .ref p0, .int pc, .int st, .int (nI w)])), (c0, .inl (cA, 16, .inl Cm))]) hP [0, 2] rfl) hK hN) rfl rfl hl.1 rfl (lv_room (Nat.le_of_ble_eq_true rfl)) dX1_carryOut_93 ⟨Nat.le_of_ble_eq_true rfl, Nat.le_of_ble_eq_true rfl⟩) ?_
    refine jw_v (va_runV (As := [.int a, .int (jAt Cm 16 b)]) (rest := []) ⟨hx, hb, hml, hown, hts⟩ (c_X1_setRegister l D cA s.heap.size m0 r0 c0 s0 p0 pc st w R a (jAt Cm 16 b)) (cwV 2 hts gX1_carryOut_X1_setRegister rfl rfl rfl hv_X1_setRegister ⟨Nat.le_of_ble_eq_true rfl, Nat.le_of_ble_eq_true rfl⟩) (rwP.V (wc := [(m0, .inr (1, [.ref r0, .ref c0, .ref s0, .ref p0, .int pc, .int st, .int (nI w)])), (r0, .inl (cA, 4, .inl R))]) (va_recv hK hP (ci := 1) (q0 := 0) rfl rfl) hP hD hK hN [0, 1] (by decide) rfl) rfl rfl hl.1 rfl (lv_room (Nat.le_of_ble_eq_true rfl)) dX1_carryOut_96 ⟨Nat.le_of_ble_eq_true rfl, Nat.le_of_ble_eq_true rfl⟩) hP hD hS hA [0, 1] [2, 3, 4, 5] [4, 5, 0, 1, 2, 3] (wr := [(c0, .inl (cA, 16, .inl Cm)), (s0, .inl (cA, 8, .inl Ls)), (p0, .inr (2, [.ref a0, .int (nI mo), .int (nI k)])), (a0, .inl (cA, N, .inl f))]) (w2 := [(m0, .inr (1, [.ref r0, .ref c0, .ref s0, .ref p0, .int pc, .int st, .int (nI w)])), (r0, .inl (cA, 4, .inl (jPut R 4 a (jAt Cm 16 b)))), (c0, .inl (cA, 16, .inl Cm)), (s0, .inl (cA, 8, .inl Ls)), (p0, .inr (2, [.ref a0, .int (nI mo), .int (nI k)])), (a0, .inl (cA, N, .inl f))]) rfl rfl (by decide) (by decide) (by decide) rfl (fun H locs hP hD hS => ?_)
    refine lv_iload hx hb dX1_carryOut_99 (lv_at hl 0 rfl) ?_
    obtain ⟨hP9, hD9⟩ := jk_end (w2 := [(m0, .inr (1, [.ref r0, .ref c0, .ref s0, .ref p0, .int pc, .int st, .int (nI w)])), (r0, .inl (cA, 4, .inl (jPut R 4 a (jAt Cm 16 b)))), (c0, .inl (cA, 16, .inl Cm)), (s0, .inl (cA, 8, .inl Ls)), (p0, .inr (2, [.ref a0, .int (nI mo), .int (nI k)])), (a0, .inl (cA, N, .inl f))]) hP hD [0, 1, 2, 3, 4, 5] (by decide) rfl
    have e9 : ([(m0, .inr (1, [.ref r0, .ref c0, .ref s0, .ref p0, .int pc, .int st, .int (nI w)])), (r0, .inl (cA, 4, .inl (jPut R 4 a (jAt Cm 16 b)))), (c0, .inl (cA, 16, .inl Cm)), (s0, .inl (cA, 8, .inl Ls)), (p0, .inr (2, [.ref a0, .int (nI mo), .int (nI k)])), (a0, .inl (cA, N, .inl f))] : va_W) = [(m0, .inr (1, [.ref r0, .ref c0, .ref s0, .ref p0, .int pc, .int (mvS 2 a b R f k st), .int (nI (mvW 2 w))])), (r0, .inl (cA, 4, .inl (mvR 2 a b R Cm))), (c0, .inl (cA, 16, .inl (mvC 2 a b R Cm))), (s0, .inl (cA, 8, .inl (mvL 2 a R Ls w))), (p0, .inr (2, [.ref a0, .int (nI mo), .int (nI k)])), (a0, .inl (cA, N, .inl f))] := rfl
    rw [e9] at hP9 hD9
    exact W.iret (v := (pc + 1)) hx hb hr (fun t9 ht9 hW9 => ⟨⟨_, (), rfl, (show (pc + 1) = (mvN 2 a b R pc) from rfl), by rw [ht9]; exact hP9, hD9⟩, hS.F ht9⟩) hS.2.2 dX1_carryOut_101
  · refine lv_tableIn (off := 93) (tgt := 102) hx hb dX1_carryOut_9 (by decide) (by decide) rfl (by decide) ?_
    refine lv_aload_n hx hb dX1_carryOut_102 rfl (lv_at hl 1 rfl) ?_
    refine lv_iload_n hx hb dX1_carryOut_103 rfl (lv_at hl 4 rfl) ?_
    refine lv_aload_n hx hb dX1_carryOut_104 rfl (lv_at hl 1 rfl) ?_
    refine lv_iload_n hx hb dX1_carryOut_105 rfl (lv_at hl 3 rfl) ?_
    refine jr_i (va_runV (As := [.int a]) (rest := [.int b, .ref m0]) ⟨hx, hb, hml, hown, hts⟩ (c_X1_registerValue l D cA m0 r0 c0 s0 p0 pc st w R a) (cwV 1 hts gX1_carryOut_X1_registerValue rfl rfl rfl hv_X1_registerValue ⟨Nat.le_of_ble_eq_true rfl, Nat.le_of_ble_eq_true rfl⟩) (roP.V (va_recv hK hP (ci := 1) (q0 := 0) rfl rfl) (jP_sub (w2 := [(m0, .inr (1, [.ref r0, .ref c0, .ref s0, .ref p0, .int pc, .int st, .int (nI w)])), (r0, .inl (cA, 4, .inl R))]) hP [0, 1] rfl) hK hN) rfl rfl hl.1 rfl (lv_room (Nat.le_of_ble_eq_true rfl)) dX1_carryOut_106 ⟨Nat.le_of_ble_eq_true rfl, Nat.le_of_ble_eq_true rfl⟩) ?_
    refine jw_v (va_runV (As := [.int b, .int (jAt R 4 a)]) (rest := []) ⟨hx, hb, hml, hown, hts⟩ (c_X1_setCell l D cA s.heap.size m0 r0 c0 s0 p0 pc st w Cm b (jAt R 4 a)) (cwV 2 hts gX1_carryOut_X1_setCell rfl rfl rfl hv_X1_setCell ⟨Nat.le_of_ble_eq_true rfl, Nat.le_of_ble_eq_true rfl⟩) (rwP.V (wc := [(m0, .inr (1, [.ref r0, .ref c0, .ref s0, .ref p0, .int pc, .int st, .int (nI w)])), (c0, .inl (cA, 16, .inl Cm))]) (va_recv hK hP (ci := 1) (q0 := 0) rfl rfl) hP hD hK hN [0, 2] (by decide) rfl) rfl rfl hl.1 rfl (lv_room (Nat.le_of_ble_eq_true rfl)) dX1_carryOut_109 ⟨Nat.le_of_ble_eq_true rfl, Nat.le_of_ble_eq_true rfl⟩) hP hD hS hA [0, 2] [1, 3, 4, 5] [4, 0, 5, 1, 2, 3] (wr := [(r0, .inl (cA, 4, .inl R)), (s0, .inl (cA, 8, .inl Ls)), (p0, .inr (2, [.ref a0, .int (nI mo), .int (nI k)])), (a0, .inl (cA, N, .inl f))]) (w2 := [(m0, .inr (1, [.ref r0, .ref c0, .ref s0, .ref p0, .int pc, .int st, .int (nI w)])), (r0, .inl (cA, 4, .inl R)), (c0, .inl (cA, 16, .inl (jPut Cm 16 b (jAt R 4 a)))), (s0, .inl (cA, 8, .inl Ls)), (p0, .inr (2, [.ref a0, .int (nI mo), .int (nI k)])), (a0, .inl (cA, N, .inl f))]) rfl rfl (by decide) (by decide) (by decide) rfl (fun H locs hP hD hS => ?_)
    refine lv_iload hx hb dX1_carryOut_112 (lv_at hl 0 rfl) ?_
    obtain ⟨hP9, hD9⟩ := jk_end (w2 := [(m0, .inr (1, [.ref r0, .ref c0, .ref s0, .ref p0, .int pc, .int st, .int (nI w)])), (r0, .inl (cA, 4, .inl R)), (c0, .inl (cA, 16, .inl (jPut Cm 16 b (jAt R 4 a)))), (s0, .inl (cA, 8, .inl Ls)), (p0, .inr (2, [.ref a0, .int (nI mo), .int (nI k)])), (a0, .inl (cA, N, .inl f))]) hP hD [0, 1, 2, 3, 4, 5] (by decide) rfl
    have e9 : ([(m0, .inr (1, [.ref r0, .ref c0, .ref s0, .ref p0, .int pc, .int st, .int (nI w)])), (r0, .inl (cA, 4, .inl R)), (c0, .inl (cA, 16, .inl (jPut Cm 16 b (jAt R 4 a)))), (s0, .inl (cA, 8, .inl Ls)), (p0, .inr (2, [.ref a0, .int (nI mo), .int (nI k)])), (a0, .inl (cA, N, .inl f))] : va_W) = [(m0, .inr (1, [.ref r0, .ref c0, .ref s0, .ref p0, .int pc, .int (mvS 3 a b R f k st), .int (nI (mvW 3 w))])), (r0, .inl (cA, 4, .inl (mvR 3 a b R Cm))), (c0, .inl (cA, 16, .inl (mvC 3 a b R Cm))), (s0, .inl (cA, 8, .inl (mvL 3 a R Ls w))), (p0, .inr (2, [.ref a0, .int (nI mo), .int (nI k)])), (a0, .inl (cA, N, .inl f))] := rfl
    rw [e9] at hP9 hD9
    exact W.iret (v := (pc + 1)) hx hb hr (fun t9 ht9 hW9 => ⟨⟨_, (), rfl, (show (pc + 1) = (mvN 3 a b R pc) from rfl), by rw [ht9]; exact hP9, hD9⟩, hS.F ht9⟩) hS.2.2 dX1_carryOut_114
  · refine lv_tableIn (off := 106) (tgt := 115) hx hb dX1_carryOut_9 (by decide) (by decide) rfl (by decide) ?_
    refine lv_aload_n hx hb dX1_carryOut_115 rfl (lv_at hl 1 rfl) ?_
    refine lv_iload_n hx hb dX1_carryOut_116 rfl (lv_at hl 3 rfl) ?_
    refine lv_aload_n hx hb dX1_carryOut_117 rfl (lv_at hl 1 rfl) ?_
    refine lv_iload_n hx hb dX1_carryOut_118 rfl (lv_at hl 3 rfl) ?_
    refine jr_i (va_runV (As := [.int a]) (rest := [.int a, .ref m0]) ⟨hx, hb, hml, hown, hts⟩ (c_X1_registerValue l D cA m0 r0 c0 s0 p0 pc st w R a) (cwV 1 hts gX1_carryOut_X1_registerValue rfl rfl rfl hv_X1_registerValue ⟨Nat.le_of_ble_eq_true rfl, Nat.le_of_ble_eq_true rfl⟩) (roP.V (va_recv hK hP (ci := 1) (q0 := 0) rfl rfl) (jP_sub (w2 := [(m0, .inr (1, [.ref r0, .ref c0, .ref s0, .ref p0, .int pc, .int st, .int (nI w)])), (r0, .inl (cA, 4, .inl R))]) hP [0, 1] rfl) hK hN) rfl rfl hl.1 rfl (lv_room (Nat.le_of_ble_eq_true rfl)) dX1_carryOut_119 ⟨Nat.le_of_ble_eq_true rfl, Nat.le_of_ble_eq_true rfl⟩) ?_
    refine lv_aload_n hx hb dX1_carryOut_122 rfl (lv_at hl 1 rfl) ?_
    refine lv_iload_n hx hb dX1_carryOut_123 rfl (lv_at hl 4 rfl) ?_
    refine jr_i (va_runV (As := [.int b]) (rest := [.int (jAt R 4 a), .int a, .ref m0]) ⟨hx, hb, hml, hown, hts⟩ (c_X1_registerValue l D cA m0 r0 c0 s0 p0 pc st w R b) (cwV 1 hts gX1_carryOut_X1_registerValue rfl rfl rfl hv_X1_registerValue ⟨Nat.le_of_ble_eq_true rfl, Nat.le_of_ble_eq_true rfl⟩) (roP.V (va_recv hK hP (ci := 1) (q0 := 0) rfl rfl) (jP_sub (w2 := [(m0, .inr (1, [.ref r0, .ref c0, .ref s0, .ref p0, .int pc, .int st, .int (nI w)])), (r0, .inl (cA, 4, .inl R))]) hP [0, 1] rfl) hK hN) rfl rfl hl.1 rfl (lv_room (Nat.le_of_ble_eq_true rfl)) dX1_carryOut_124 ⟨Nat.le_of_ble_eq_true rfl, Nat.le_of_ble_eq_true rfl⟩) ?_
    refine lv_iadd hx hb dX1_carryOut_127 ?_
    refine jw_v (va_runV (As := [.int a, .int ((jAt R 4 a) + (jAt R 4 b))]) (rest := []) ⟨hx, hb, hml, hown, hts⟩ (c_X1_setRegister l D cA s.heap.size m0 r0 c0 s0 p0 pc st w R a ((jAt R 4 a) + (jAt R 4 b))) (cwV 2 hts gX1_carryOut_X1_setRegister rfl rfl rfl hv_X1_setRegister ⟨Nat.le_of_ble_eq_true rfl, Nat.le_of_ble_eq_true rfl⟩) (rwP.V (wc := [(m0, .inr (1, [.ref r0, .ref c0, .ref s0, .ref p0, .int pc, .int st, .int (nI w)])), (r0, .inl (cA, 4, .inl R))]) (va_recv hK hP (ci := 1) (q0 := 0) rfl rfl) hP hD hK hN [0, 1] (by decide) rfl) rfl rfl hl.1 rfl (lv_room (Nat.le_of_ble_eq_true rfl)) dX1_carryOut_128 ⟨Nat.le_of_ble_eq_true rfl, Nat.le_of_ble_eq_true rfl⟩) hP hD hS hA [0, 1] [2, 3, 4, 5] [4, 5, 0, 1, 2, 3] (wr := [(c0, .inl (cA, 16, .inl Cm)), (s0, .inl (cA, 8, .inl Ls)), (p0, .inr (2, [.ref a0, .int (nI mo), .int (nI k)])), (a0, .inl (cA, N, .inl f))]) (w2 := [(m0, .inr (1, [.ref r0, .ref c0, .ref s0, .ref p0, .int pc, .int st, .int (nI w)])), (r0, .inl (cA, 4, .inl (jPut R 4 a ((jAt R 4 a) + (jAt R 4 b))))), (c0, .inl (cA, 16, .inl Cm)), (s0, .inl (cA, 8, .inl Ls)), (p0, .inr (2, [.ref a0, .int (nI mo), .int (nI k)])), (a0, .inl (cA, N, .inl f))]) rfl rfl (by decide) (by decide) (by decide) rfl (fun H locs hP hD hS => ?_)
    refine lv_iload hx hb dX1_carryOut_131 (lv_at hl 0 rfl) ?_
    obtain ⟨hP9, hD9⟩ := jk_end (w2 := [(m0, .inr (1, [.ref r0, .ref c0, .ref s0, .ref p0, .int pc, .int st, .int (nI w)])), (r0, .inl (cA, 4, .inl (jPut R 4 a ((jAt R 4 a) + (jAt R 4 b))))), (c0, .inl (cA, 16, .inl Cm)), (s0, .inl (cA, 8, .inl Ls)), (p0, .inr (2, [.ref a0, .int (nI mo), .int (nI k)])), (a0, .inl (cA, N, .inl f))]) hP hD [0, 1, 2, 3, 4, 5] (by decide) rfl
    have e9 : ([(m0, .inr (1, [.ref r0, .ref c0, .ref s0, .ref p0, .int pc, .int st, .int (nI w)])), (r0, .inl (cA, 4, .inl (jPut R 4 a ((jAt R 4 a) + (jAt R 4 b))))), (c0, .inl (cA, 16, .inl Cm)), (s0, .inl (cA, 8, .inl Ls)), (p0, .inr (2, [.ref a0, .int (nI mo), .int (nI k)])), (a0, .inl (cA, N, .inl f))] : va_W) = [(m0, .inr (1, [.ref r0, .ref c0, .ref s0, .ref p0, .int pc, .int (mvS 4 a b R f k st), .int (nI (mvW 4 w))])), (r0, .inl (cA, 4, .inl (mvR 4 a b R Cm))), (c0, .inl (cA, 16, .inl (mvC 4 a b R Cm))), (s0, .inl (cA, 8, .inl (mvL 4 a R Ls w))), (p0, .inr (2, [.ref a0, .int (nI mo), .int (nI k)])), (a0, .inl (cA, N, .inl f))] := rfl
    rw [e9] at hP9 hD9
    exact W.iret (v := (pc + 1)) hx hb hr (fun t9 ht9 hW9 => ⟨⟨_, (), rfl, (show (pc + 1) = (mvN 4 a b R pc) from rfl), by rw [ht9]; exact hP9, hD9⟩, hS.F ht9⟩) hS.2.2 dX1_carryOut_133
  · refine lv_tableIn (off := 125) (tgt := 134) hx hb dX1_carryOut_9 (by decide) (by decide) rfl (by decide) ?_
    refine lv_aload_n hx hb dX1_carryOut_134 rfl (lv_at hl 1 rfl) ?_
    refine lv_aload_n hx hb dX1_carryOut_135 rfl (lv_at hl 1 rfl) ?_
    refine lv_iload_n hx hb dX1_carryOut_136 rfl (lv_at hl 3 rfl) ?_
    refine jr_i (va_runV (As := [.int a]) (rest := [.ref m0]) ⟨hx, hb, hml, hown, hts⟩ (c_X1_registerValue l D cA m0 r0 c0 s0 p0 pc st w R a) (cwV 1 hts gX1_carryOut_X1_registerValue rfl rfl rfl hv_X1_registerValue ⟨Nat.le_of_ble_eq_true rfl, Nat.le_of_ble_eq_true rfl⟩) (roP.V (va_recv hK hP (ci := 1) (q0 := 0) rfl rfl) (jP_sub (w2 := [(m0, .inr (1, [.ref r0, .ref c0, .ref s0, .ref p0, .int pc, .int st, .int (nI w)])), (r0, .inl (cA, 4, .inl R))]) hP [0, 1] rfl) hK hN) rfl rfl hl.1 rfl (lv_room (Nat.le_of_ble_eq_true rfl)) dX1_carryOut_137 ⟨Nat.le_of_ble_eq_true rfl, Nat.le_of_ble_eq_true rfl⟩) ?_
    refine jw_v (va_runV (As := [.int (jAt R 4 a)]) (rest := []) ⟨hx, hb, hml, hown, hts⟩ (c_X1_keepShown l D cA s.heap.size m0 r0 c0 s0 p0 pc st w Ls (jAt R 4 a) (by first | assumption | omega)) (cwV 1 hts gX1_carryOut_X1_keepShown rfl rfl rfl hv_X1_keepShown ⟨Nat.le_of_ble_eq_true rfl, Nat.le_of_ble_eq_true rfl⟩) (rwP.V (wc := [(m0, .inr (1, [.ref r0, .ref c0, .ref s0, .ref p0, .int pc, .int st, .int (nI w)])), (s0, .inl (cA, 8, .inl Ls))]) (va_recv hK hP (ci := 1) (q0 := 0) rfl rfl) hP hD hK hN [0, 3] (by decide) rfl) rfl rfl hl.1 rfl (lv_room (Nat.le_of_ble_eq_true rfl)) dX1_carryOut_140 ⟨Nat.le_of_ble_eq_true rfl, Nat.le_of_ble_eq_true rfl⟩) hP hD hS hA [0, 3] [1, 2, 4, 5] [4, 0, 1, 5, 2, 3] (wr := [(r0, .inl (cA, 4, .inl R)), (c0, .inl (cA, 16, .inl Cm)), (p0, .inr (2, [.ref a0, .int (nI mo), .int (nI k)])), (a0, .inl (cA, N, .inl f))]) (w2 := [(m0, .inr (1, [.ref r0, .ref c0, .ref s0, .ref p0, .int pc, .int st, .int (nI (w + 1))])), (r0, .inl (cA, 4, .inl R)), (c0, .inl (cA, 16, .inl Cm)), (s0, .inl (cA, 8, .inl (upd Ls (w % 8) (jAt R 4 a)))), (p0, .inr (2, [.ref a0, .int (nI mo), .int (nI k)])), (a0, .inl (cA, N, .inl f))]) rfl rfl (by decide) (by decide) (by decide) rfl (fun H locs hP hD hS => ?_)
    refine lv_iload hx hb dX1_carryOut_143 (lv_at hl 0 rfl) ?_
    obtain ⟨hP9, hD9⟩ := jk_end (w2 := [(m0, .inr (1, [.ref r0, .ref c0, .ref s0, .ref p0, .int pc, .int st, .int (nI (w + 1))])), (r0, .inl (cA, 4, .inl R)), (c0, .inl (cA, 16, .inl Cm)), (s0, .inl (cA, 8, .inl (upd Ls (w % 8) (jAt R 4 a)))), (p0, .inr (2, [.ref a0, .int (nI mo), .int (nI k)])), (a0, .inl (cA, N, .inl f))]) hP hD [0, 1, 2, 3, 4, 5] (by decide) rfl
    have e9 : ([(m0, .inr (1, [.ref r0, .ref c0, .ref s0, .ref p0, .int pc, .int st, .int (nI (w + 1))])), (r0, .inl (cA, 4, .inl R)), (c0, .inl (cA, 16, .inl Cm)), (s0, .inl (cA, 8, .inl (upd Ls (w % 8) (jAt R 4 a)))), (p0, .inr (2, [.ref a0, .int (nI mo), .int (nI k)])), (a0, .inl (cA, N, .inl f))] : va_W) = [(m0, .inr (1, [.ref r0, .ref c0, .ref s0, .ref p0, .int pc, .int (mvS 5 a b R f k st), .int (nI (mvW 5 w))])), (r0, .inl (cA, 4, .inl (mvR 5 a b R Cm))), (c0, .inl (cA, 16, .inl (mvC 5 a b R Cm))), (s0, .inl (cA, 8, .inl (mvL 5 a R Ls w))), (p0, .inr (2, [.ref a0, .int (nI mo), .int (nI k)])), (a0, .inl (cA, N, .inl f))] := rfl
    rw [e9] at hP9 hD9
    exact W.iret (v := (pc + 1)) hx hb hr (fun t9 ht9 hW9 => ⟨⟨_, (), rfl, (show (pc + 1) = (mvN 5 a b R pc) from rfl), by rw [ht9]; exact hP9, hD9⟩, hS.F ht9⟩) hS.2.2 dX1_carryOut_145
  · refine lv_tableIn (off := 137) (tgt := 146) hx hb dX1_carryOut_9 (by decide) (by decide) rfl (by decide) ?_
    refine lv_iload_n hx hb dX1_carryOut_146 rfl (lv_at hl 3 rfl) ?_
    obtain ⟨hP9, hD9⟩ := jk_end (w2 := [(m0, .inr (1, [.ref r0, .ref c0, .ref s0, .ref p0, .int pc, .int st, .int (nI w)])), (r0, .inl (cA, 4, .inl R)), (c0, .inl (cA, 16, .inl Cm)), (s0, .inl (cA, 8, .inl Ls)), (p0, .inr (2, [.ref a0, .int (nI mo), .int (nI k)])), (a0, .inl (cA, N, .inl f))]) hP hD [0, 1, 2, 3, 4, 5] (by decide) rfl
    have e9 : ([(m0, .inr (1, [.ref r0, .ref c0, .ref s0, .ref p0, .int pc, .int st, .int (nI w)])), (r0, .inl (cA, 4, .inl R)), (c0, .inl (cA, 16, .inl Cm)), (s0, .inl (cA, 8, .inl Ls)), (p0, .inr (2, [.ref a0, .int (nI mo), .int (nI k)])), (a0, .inl (cA, N, .inl f))] : va_W) = [(m0, .inr (1, [.ref r0, .ref c0, .ref s0, .ref p0, .int pc, .int (mvS 6 a b R f k st), .int (nI (mvW 6 w))])), (r0, .inl (cA, 4, .inl (mvR 6 a b R Cm))), (c0, .inl (cA, 16, .inl (mvC 6 a b R Cm))), (s0, .inl (cA, 8, .inl (mvL 6 a R Ls w))), (p0, .inr (2, [.ref a0, .int (nI mo), .int (nI k)])), (a0, .inl (cA, N, .inl f))] := rfl
    rw [e9] at hP9 hD9
    exact W.iret (v := a) hx hb hr (fun t9 ht9 hW9 => ⟨⟨_, (), rfl, (show a = (mvN 6 a b R pc) from rfl), by rw [ht9]; exact hP9, hD9⟩, hS.F ht9⟩) hS.2.2 dX1_carryOut_147
  · refine lv_tableIn (off := 139) (tgt := 148) hx hb dX1_carryOut_9 (by decide) (by decide) rfl (by decide) ?_
    refine lv_aload_n hx hb dX1_carryOut_148 rfl (lv_at hl 1 rfl) ?_
    refine lv_iload_n hx hb dX1_carryOut_149 rfl (lv_at hl 3 rfl) ?_
    refine jr_i (va_runV (As := [.int a]) (rest := []) ⟨hx, hb, hml, hown, hts⟩ (c_X1_registerValue l D cA m0 r0 c0 s0 p0 pc st w R a) (cwV 1 hts gX1_carryOut_X1_registerValue rfl rfl rfl hv_X1_registerValue ⟨Nat.le_of_ble_eq_true rfl, Nat.le_of_ble_eq_true rfl⟩) (roP.V (va_recv hK hP (ci := 1) (q0 := 0) rfl rfl) (jP_sub (w2 := [(m0, .inr (1, [.ref r0, .ref c0, .ref s0, .ref p0, .int pc, .int st, .int (nI w)])), (r0, .inl (cA, 4, .inl R))]) hP [0, 1] rfl) hK hN) rfl rfl hl.1 rfl (lv_room (Nat.le_of_ble_eq_true rfl)) dX1_carryOut_150 ⟨Nat.le_of_ble_eq_true rfl, Nat.le_of_ble_eq_true rfl⟩) ?_
    refine lv_if_ne (tgt := 160) hx hb dX1_carryOut_153 (by decide) (fun c_153 => ?_) (fun c_153 => ?_)
    · refine lv_iload hx hb dX1_carryOut_160 (lv_at hl 0 rfl) ?_
      obtain ⟨hP9, hD9⟩ := jk_end (w2 := [(m0, .inr (1, [.ref r0, .ref c0, .ref s0, .ref p0, .int pc, .int st, .int (nI w)])), (r0, .inl (cA, 4, .inl R)), (c0, .inl (cA, 16, .inl Cm)), (s0, .inl (cA, 8, .inl Ls)), (p0, .inr (2, [.ref a0, .int (nI mo), .int (nI k)])), (a0, .inl (cA, N, .inl f))]) hP hD [0, 1, 2, 3, 4, 5] (by decide) rfl
      have e9 : ([(m0, .inr (1, [.ref r0, .ref c0, .ref s0, .ref p0, .int pc, .int st, .int (nI w)])), (r0, .inl (cA, 4, .inl R)), (c0, .inl (cA, 16, .inl Cm)), (s0, .inl (cA, 8, .inl Ls)), (p0, .inr (2, [.ref a0, .int (nI mo), .int (nI k)])), (a0, .inl (cA, N, .inl f))] : va_W) = [(m0, .inr (1, [.ref r0, .ref c0, .ref s0, .ref p0, .int pc, .int (mvS 7 a b R f k st), .int (nI (mvW 7 w))])), (r0, .inl (cA, 4, .inl (mvR 7 a b R Cm))), (c0, .inl (cA, 16, .inl (mvC 7 a b R Cm))), (s0, .inl (cA, 8, .inl (mvL 7 a R Ls w))), (p0, .inr (2, [.ref a0, .int (nI mo), .int (nI k)])), (a0, .inl (cA, N, .inl f))] := rfl
      rw [e9] at hP9 hD9
      exact W.iret (v := (pc + 1)) hx hb hr (fun t9 ht9 hW9 => ⟨⟨_, (), rfl, (show (pc + 1) = (mvN 7 a b R pc) from (by show _ = (if jAt R 4 a = 0 then b else (pc + 1)); rw [if_neg c_153])), by rw [ht9]; exact hP9, hD9⟩, hS.F ht9⟩) hS.2.2 dX1_carryOut_162
    · refine lv_iload_n hx hb dX1_carryOut_156 rfl (lv_at hl 4 rfl) ?_
      refine lv_goto (tgt := 162) hx hb dX1_carryOut_157 (by decide) ?_
      obtain ⟨hP9, hD9⟩ := jk_end (w2 := [(m0, .inr (1, [.ref r0, .ref c0, .ref s0, .ref p0, .int pc, .int st, .int (nI w)])), (r0, .inl (cA, 4, .inl R)), (c0, .inl (cA, 16, .inl Cm)), (s0, .inl (cA, 8, .inl Ls)), (p0, .inr (2, [.ref a0, .int (nI mo), .int (nI k)])), (a0, .inl (cA, N, .inl f))]) hP hD [0, 1, 2, 3, 4, 5] (by decide) rfl
      have e9 : ([(m0, .inr (1, [.ref r0, .ref c0, .ref s0, .ref p0, .int pc, .int st, .int (nI w)])), (r0, .inl (cA, 4, .inl R)), (c0, .inl (cA, 16, .inl Cm)), (s0, .inl (cA, 8, .inl Ls)), (p0, .inr (2, [.ref a0, .int (nI mo), .int (nI k)])), (a0, .inl (cA, N, .inl f))] : va_W) = [(m0, .inr (1, [.ref r0, .ref c0, .ref s0, .ref p0, .int pc, .int (mvS 7 a b R f k st), .int (nI (mvW 7 w))])), (r0, .inl (cA, 4, .inl (mvR 7 a b R Cm))), (c0, .inl (cA, 16, .inl (mvC 7 a b R Cm))), (s0, .inl (cA, 8, .inl (mvL 7 a R Ls w))), (p0, .inr (2, [.ref a0, .int (nI mo), .int (nI k)])), (a0, .inl (cA, N, .inl f))] := rfl
      rw [e9] at hP9 hD9
      exact W.iret (v := b) hx hb hr (fun t9 ht9 hW9 => ⟨⟨_, (), rfl, (show b = (mvN 7 a b R pc) from (by show _ = (if jAt R 4 a = 0 then b else (pc + 1)); rw [if_pos c_153])), by rw [ht9]; exact hP9, hD9⟩, hS.F ht9⟩) hS.2.2 dX1_carryOut_162
  · refine lv_tableIn (off := 154) (tgt := 163) hx hb dX1_carryOut_9 (by decide) (by decide) rfl (by decide) ?_
    refine lv_aload_n hx hb dX1_carryOut_163 rfl (lv_at hl 1 rfl) ?_
    refine lv_aload_n hx hb dX1_carryOut_164 rfl (lv_at hl 1 rfl) ?_
    refine lv_iload_n hx hb dX1_carryOut_165 rfl (lv_at hl 3 rfl) ?_
    refine jr_i (va_runV (As := [.int a]) (rest := [.ref m0]) ⟨hx, hb, hml, hown, hts⟩ (c_X1_registerValue l D cA m0 r0 c0 s0 p0 pc st w R a) (cwV 1 hts gX1_carryOut_X1_registerValue rfl rfl rfl hv_X1_registerValue ⟨Nat.le_of_ble_eq_true rfl, Nat.le_of_ble_eq_true rfl⟩) (roP.V (va_recv hK hP (ci := 1) (q0 := 0) rfl rfl) (jP_sub (w2 := [(m0, .inr (1, [.ref r0, .ref c0, .ref s0, .ref p0, .int pc, .int st, .int (nI w)])), (r0, .inl (cA, 4, .inl R))]) hP [0, 1] rfl) hK hN) rfl rfl hl.1 rfl (lv_room (Nat.le_of_ble_eq_true rfl)) dX1_carryOut_166 ⟨Nat.le_of_ble_eq_true rfl, Nat.le_of_ble_eq_true rfl⟩) ?_
    refine jw_i (va_runV (As := [.int (jAt R 4 a)]) (rest := []) ⟨hx, hb, hml, hown, hts⟩ (c_X1_jumpTo l D cA s.heap.size m0 r0 c0 s0 p0 pc st w a0 mo k f (jAt R 4 a)) (cwV 1 hts gX1_carryOut_X1_jumpTo rfl rfl rfl hv_X1_jumpTo ⟨Nat.le_of_ble_eq_true rfl, Nat.le_of_ble_eq_true rfl⟩) (rwP.V (wc := [(m0, .inr (1, [.ref r0, .ref c0, .ref s0, .ref p0, .int pc, .int st, .int (nI w)])), (p0, .inr (2, [.ref a0, .int (nI mo), .int (nI k)]))]) (va_recv hK hP (ci := 1) (q0 := 0) rfl rfl) hP hD hK hN [0, 4] (by decide) rfl) rfl rfl hl.1 rfl (lv_room (Nat.le_of_ble_eq_true rfl)) dX1_carryOut_169 ⟨Nat.le_of_ble_eq_true rfl, Nat.le_of_ble_eq_true rfl⟩) hP hD hS hA [0, 4] [1, 2, 3, 5] [4, 0, 1, 2, 5, 3] (wr := [(r0, .inl (cA, 4, .inl R)), (c0, .inl (cA, 16, .inl Cm)), (s0, .inl (cA, 8, .inl Ls)), (a0, .inl (cA, N, .inl f))]) (w2 := [(m0, .inr (1, [.ref r0, .ref c0, .ref s0, .ref p0, .int pc, .int (mvJ f k (jAt R 4 a) st), .int (nI w)])), (r0, .inl (cA, 4, .inl R)), (c0, .inl (cA, 16, .inl Cm)), (s0, .inl (cA, 8, .inl Ls)), (p0, .inr (2, [.ref a0, .int (nI mo), .int (nI k)])), (a0, .inl (cA, N, .inl f))]) rfl rfl (by decide) (by decide) (by decide) rfl (fun H locs hP hD hS => ?_)
    obtain ⟨hP9, hD9⟩ := jk_end (w2 := [(m0, .inr (1, [.ref r0, .ref c0, .ref s0, .ref p0, .int pc, .int (mvJ f k (jAt R 4 a) st), .int (nI w)])), (r0, .inl (cA, 4, .inl R)), (c0, .inl (cA, 16, .inl Cm)), (s0, .inl (cA, 8, .inl Ls)), (p0, .inr (2, [.ref a0, .int (nI mo), .int (nI k)])), (a0, .inl (cA, N, .inl f))]) hP hD [0, 1, 2, 3, 4, 5] (by decide) rfl
    have e9 : ([(m0, .inr (1, [.ref r0, .ref c0, .ref s0, .ref p0, .int pc, .int (mvJ f k (jAt R 4 a) st), .int (nI w)])), (r0, .inl (cA, 4, .inl R)), (c0, .inl (cA, 16, .inl Cm)), (s0, .inl (cA, 8, .inl Ls)), (p0, .inr (2, [.ref a0, .int (nI mo), .int (nI k)])), (a0, .inl (cA, N, .inl f))] : va_W) = [(m0, .inr (1, [.ref r0, .ref c0, .ref s0, .ref p0, .int pc, .int (mvS 8 a b R f k st), .int (nI (mvW 8 w))])), (r0, .inl (cA, 4, .inl (mvR 8 a b R Cm))), (c0, .inl (cA, 16, .inl (mvC 8 a b R Cm))), (s0, .inl (cA, 8, .inl (mvL 8 a R Ls w))), (p0, .inr (2, [.ref a0, .int (nI mo), .int (nI k)])), (a0, .inl (cA, N, .inl f))] := rfl
    rw [e9] at hP9 hD9
    exact W.iret (v := (jAt R 4 a)) hx hb hr (fun t9 ht9 hW9 => ⟨⟨_, (), rfl, (show (jAt R 4 a) = (mvN 8 a b R pc) from rfl), by rw [ht9]; exact hP9, hD9⟩, hS.F ht9⟩) hS.2.2 dX1_carryOut_172
  · refine lv_tableIn (off := 71) (tgt := 80) hx hb dX1_carryOut_9 (by decide) (by decide) rfl (by decide) ?_
    refine lv_aload_n hx hb dX1_carryOut_80 rfl (lv_at hl 1 rfl) ?_
    refine lv_iload_n hx hb dX1_carryOut_81 rfl (lv_at hl 3 rfl) ?_
    refine lv_iload_n hx hb dX1_carryOut_82 rfl (lv_at hl 4 rfl) ?_
    refine jw_v (va_runV (As := [.int a, .int b]) (rest := []) ⟨hx, hb, hml, hown, hts⟩ (c_X1_setRegister l D cA s.heap.size m0 r0 c0 s0 p0 pc st w R a b) (cwV 2 hts gX1_carryOut_X1_setRegister rfl rfl rfl hv_X1_setRegister ⟨Nat.le_of_ble_eq_true rfl, Nat.le_of_ble_eq_true rfl⟩) (rwP.V (wc := [(m0, .inr (1, [.ref r0, .ref c0, .ref s0, .ref p0, .int pc, .int st, .int (nI w)])), (r0, .inl (cA, 4, .inl R))]) (va_recv hK hP (ci := 1) (q0 := 0) rfl rfl) hP hD hK hN [0, 1] (by decide) rfl) rfl rfl hl.1 rfl (lv_room (Nat.le_of_ble_eq_true rfl)) dX1_carryOut_83 ⟨Nat.le_of_ble_eq_true rfl, Nat.le_of_ble_eq_true rfl⟩) hP hD hS hA [0, 1] [2, 3, 4, 5] [4, 5, 0, 1, 2, 3] (wr := [(c0, .inl (cA, 16, .inl Cm)), (s0, .inl (cA, 8, .inl Ls)), (p0, .inr (2, [.ref a0, .int (nI mo), .int (nI k)])), (a0, .inl (cA, N, .inl f))]) (w2 := [(m0, .inr (1, [.ref r0, .ref c0, .ref s0, .ref p0, .int pc, .int st, .int (nI w)])), (r0, .inl (cA, 4, .inl (jPut R 4 a b))), (c0, .inl (cA, 16, .inl Cm)), (s0, .inl (cA, 8, .inl Ls)), (p0, .inr (2, [.ref a0, .int (nI mo), .int (nI k)])), (a0, .inl (cA, N, .inl f))]) rfl rfl (by decide) (by decide) (by decide) rfl (fun H locs hP hD hS => ?_)
    refine lv_iload hx hb dX1_carryOut_86 (lv_at hl 0 rfl) ?_
    obtain ⟨hP9, hD9⟩ := jk_end (w2 := [(m0, .inr (1, [.ref r0, .ref c0, .ref s0, .ref p0, .int pc, .int st, .int (nI w)])), (r0, .inl (cA, 4, .inl (jPut R 4 a b))), (c0, .inl (cA, 16, .inl Cm)), (s0, .inl (cA, 8, .inl Ls)), (p0, .inr (2, [.ref a0, .int (nI mo), .int (nI k)])), (a0, .inl (cA, N, .inl f))]) hP hD [0, 1, 2, 3, 4, 5] (by decide) rfl
    have e9 : ([(m0, .inr (1, [.ref r0, .ref c0, .ref s0, .ref p0, .int pc, .int st, .int (nI w)])), (r0, .inl (cA, 4, .inl (jPut R 4 a b))), (c0, .inl (cA, 16, .inl Cm)), (s0, .inl (cA, 8, .inl Ls)), (p0, .inr (2, [.ref a0, .int (nI mo), .int (nI k)])), (a0, .inl (cA, N, .inl f))] : va_W) = [(m0, .inr (1, [.ref r0, .ref c0, .ref s0, .ref p0, .int pc, .int (mvS 9 a b R f k st), .int (nI (mvW 9 w))])), (r0, .inl (cA, 4, .inl (mvR 9 a b R Cm))), (c0, .inl (cA, 16, .inl (mvC 9 a b R Cm))), (s0, .inl (cA, 8, .inl (mvL 9 a R Ls w))), (p0, .inr (2, [.ref a0, .int (nI mo), .int (nI k)])), (a0, .inl (cA, N, .inl f))] := rfl
    rw [e9] at hP9 hD9
    exact W.iret (v := (pc + 1)) hx hb hr (fun t9 ht9 hW9 => ⟨⟨_, (), rfl, (show (pc + 1) = (mvN 9 a b R pc) from rfl), by rw [ht9]; exact hP9, hD9⟩, hS.F ht9⟩) hS.2.2 dX1_carryOut_88
  · refine lv_tableIn (off := 177) (tgt := 186) hx hb dX1_carryOut_9 (by decide) (by decide) rfl (by decide) ?_
    refine lv_iload hx hb dX1_carryOut_186 (lv_at hl 0 rfl) ?_
    obtain ⟨hP9, hD9⟩ := jk_end (w2 := [(m0, .inr (1, [.ref r0, .ref c0, .ref s0, .ref p0, .int pc, .int st, .int (nI w)])), (r0, .inl (cA, 4, .inl R)), (c0, .inl (cA, 16, .inl Cm)), (s0, .inl (cA, 8, .inl Ls)), (p0, .inr (2, [.ref a0, .int (nI mo), .int (nI k)])), (a0, .inl (cA, N, .inl f))]) hP hD [0, 1, 2, 3, 4, 5] (by decide) rfl
    have e9 : ([(m0, .inr (1, [.ref r0, .ref c0, .ref s0, .ref p0, .int pc, .int st, .int (nI w)])), (r0, .inl (cA, 4, .inl R)), (c0, .inl (cA, 16, .inl Cm)), (s0, .inl (cA, 8, .inl Ls)), (p0, .inr (2, [.ref a0, .int (nI mo), .int (nI k)])), (a0, .inl (cA, N, .inl f))] : va_W) = [(m0, .inr (1, [.ref r0, .ref c0, .ref s0, .ref p0, .int pc, .int (mvS 10 a b R f k st), .int (nI (mvW 10 w))])), (r0, .inl (cA, 4, .inl (mvR 10 a b R Cm))), (c0, .inl (cA, 16, .inl (mvC 10 a b R Cm))), (s0, .inl (cA, 8, .inl (mvL 10 a R Ls w))), (p0, .inr (2, [.ref a0, .int (nI mo), .int (nI k)])), (a0, .inl (cA, N, .inl f))] := rfl
    rw [e9] at hP9 hD9
    exact W.iret (v := (pc + 1)) hx hb hr (fun t9 ht9 hW9 => ⟨⟨_, (), rfl, (show (pc + 1) = (mvN 10 a b R pc) from rfl), by rw [ht9]; exact hP9, hD9⟩, hS.F ht9⟩) hS.2.2 dX1_carryOut_188
  · refine lv_tableIn (off := 164) (tgt := 173) hx hb dX1_carryOut_9 (by decide) (by decide) rfl (by decide) ?_
    refine lv_aload_n hx hb dX1_carryOut_173 rfl (lv_at hl 1 rfl) ?_
    refine lv_aload_n hx hb dX1_carryOut_174 rfl (lv_at hl 1 rfl) ?_
    refine lv_iload_n hx hb dX1_carryOut_175 rfl (lv_at hl 3 rfl) ?_
    refine jr_i (va_runV (As := [.int a]) (rest := [.ref m0]) ⟨hx, hb, hml, hown, hts⟩ (c_X1_registerValue l D cA m0 r0 c0 s0 p0 pc st w R a) (cwV 1 hts gX1_carryOut_X1_registerValue rfl rfl rfl hv_X1_registerValue ⟨Nat.le_of_ble_eq_true rfl, Nat.le_of_ble_eq_true rfl⟩) (roP.V (va_recv hK hP (ci := 1) (q0 := 0) rfl rfl) (jP_sub (w2 := [(m0, .inr (1, [.ref r0, .ref c0, .ref s0, .ref p0, .int pc, .int st, .int (nI w)])), (r0, .inl (cA, 4, .inl R))]) hP [0, 1] rfl) hK hN) rfl rfl hl.1 rfl (lv_room (Nat.le_of_ble_eq_true rfl)) dX1_carryOut_176 ⟨Nat.le_of_ble_eq_true rfl, Nat.le_of_ble_eq_true rfl⟩) ?_
    refine lv_iload_n hx hb dX1_carryOut_179 rfl (lv_at hl 4 rfl) ?_
    refine jw_v (va_runV (As := [.int (jAt R 4 a), .int b]) (rest := []) ⟨hx, hb, hml, hown, hts⟩ (c_X1_checkLabel l D cA s.heap.size m0 r0 c0 s0 p0 pc st w a0 mo k N f (jAt R 4 a) b (by first | assumption | omega) (by first | assumption | omega)) (cwV 2 hts gX1_carryOut_X1_checkLabel rfl rfl rfl hv_X1_checkLabel ⟨Nat.le_of_ble_eq_true rfl, Nat.le_of_ble_eq_true rfl⟩) (rwP.V (wc := [(m0, .inr (1, [.ref r0, .ref c0, .ref s0, .ref p0, .int pc, .int st, .int (nI w)])), (p0, .inr (2, [.ref a0, .int (nI mo), .int (nI k)])), (a0, .inl (cA, N, .inl f))]) (va_recv hK hP (ci := 1) (q0 := 0) rfl rfl) hP hD hK hN [0, 4, 5] (by decide) rfl) rfl rfl hl.1 rfl (lv_room (Nat.le_of_ble_eq_true rfl)) dX1_carryOut_180 ⟨Nat.le_of_ble_eq_true rfl, Nat.le_of_ble_eq_true rfl⟩) hP hD hS hA [0, 4, 5] [1, 2, 3] [3, 0, 1, 2, 4, 5] (wr := [(r0, .inl (cA, 4, .inl R)), (c0, .inl (cA, 16, .inl Cm)), (s0, .inl (cA, 8, .inl Ls))]) (w2 := [(m0, .inr (1, [.ref r0, .ref c0, .ref s0, .ref p0, .int pc, .int (mvG f k (jAt R 4 a) b st), .int (nI w)])), (r0, .inl (cA, 4, .inl R)), (c0, .inl (cA, 16, .inl Cm)), (s0, .inl (cA, 8, .inl Ls)), (p0, .inr (2, [.ref a0, .int (nI mo), .int (nI k)])), (a0, .inl (cA, N, .inl f))]) rfl rfl (by decide) (by decide) (by decide) rfl (fun H locs hP hD hS => ?_)
    refine lv_iload hx hb dX1_carryOut_183 (lv_at hl 0 rfl) ?_
    obtain ⟨hP9, hD9⟩ := jk_end (w2 := [(m0, .inr (1, [.ref r0, .ref c0, .ref s0, .ref p0, .int pc, .int (mvG f k (jAt R 4 a) b st), .int (nI w)])), (r0, .inl (cA, 4, .inl R)), (c0, .inl (cA, 16, .inl Cm)), (s0, .inl (cA, 8, .inl Ls)), (p0, .inr (2, [.ref a0, .int (nI mo), .int (nI k)])), (a0, .inl (cA, N, .inl f))]) hP hD [0, 1, 2, 3, 4, 5] (by decide) rfl
    have e9 : ([(m0, .inr (1, [.ref r0, .ref c0, .ref s0, .ref p0, .int pc, .int (mvG f k (jAt R 4 a) b st), .int (nI w)])), (r0, .inl (cA, 4, .inl R)), (c0, .inl (cA, 16, .inl Cm)), (s0, .inl (cA, 8, .inl Ls)), (p0, .inr (2, [.ref a0, .int (nI mo), .int (nI k)])), (a0, .inl (cA, N, .inl f))] : va_W) = [(m0, .inr (1, [.ref r0, .ref c0, .ref s0, .ref p0, .int pc, .int (mvS 11 a b R f k st), .int (nI (mvW 11 w))])), (r0, .inl (cA, 4, .inl (mvR 11 a b R Cm))), (c0, .inl (cA, 16, .inl (mvC 11 a b R Cm))), (s0, .inl (cA, 8, .inl (mvL 11 a R Ls w))), (p0, .inr (2, [.ref a0, .int (nI mo), .int (nI k)])), (a0, .inl (cA, N, .inl f))] := rfl
    rw [e9] at hP9 hD9
    exact W.iret (v := (pc + 1)) hx hb hr (fun t9 ht9 hW9 => ⟨⟨_, (), rfl, (show (pc + 1) = (mvN 11 a b R pc) from rfl), by rw [ht9]; exact hP9, hD9⟩, hS.F ht9⟩) hS.2.2 dX1_carryOut_185
set_option maxHeartbeats 4000000 in
set_option maxRecDepth 100000 in
theorem c_X1_makeStep (l : Launch) (D : va_G) (cA : ClassId) (sz : Nat) (m0 : Nat) (r0 : Nat) (c0 : Nat) (s0 : Nat) (p0 : Nat) (a0 : Nat) (mo : Nat) (k : Nat) (N : Nat) (f : Nat → Int32) (x : MS) (hwf : mWF f k) (hi : x.2.2.2.1 < k) (hk : k * 3 ≤ N) (hN3 : N ≤ 216) (hw : x.2.2.2.2.2 < 1000000) : Met l yX1_makeStep wsX1_makeStep ({ frames := 4, cells := 0, slots := 0, locals := 89 }) (rwP D cA [.ref m0] sz [(m0, .inr (1, [.ref r0, .ref c0, .ref s0, .ref p0, .int (nI x.2.2.2.1), .int x.2.2.2.2.1, .int (nI x.2.2.2.2.2)])), (r0, .inl (cA, 4, .inl x.1)), (c0, .inl (cA, 16, .inl x.2.1)), (s0, .inl (cA, 8, .inl x.2.2.1)), (p0, .inr (2, [.ref a0, .int (nI mo), .int (nI k)])), (a0, .inl (cA, N, .inl f))]) (rwV D (va_A [(m0, .inr (1, [.ref r0, .ref c0, .ref s0, .ref p0, .int (nI x.2.2.2.1), .int x.2.2.2.2.1, .int (nI x.2.2.2.2.2)])), (r0, .inl (cA, 4, .inl x.1)), (c0, .inl (cA, 16, .inl x.2.1)), (s0, .inl (cA, 8, .inl x.2.2.1)), (p0, .inr (2, [.ref a0, .int (nI mo), .int (nI k)])), (a0, .inl (cA, N, .inl f))] sz) [(m0, .inr (1, [.ref r0, .ref c0, .ref s0, .ref p0, .int (nI (mStep f k x).2.2.2.1), .int ((mStep f k x).2.2.2.2.1), .int (nI (mStep f k x).2.2.2.2.2)])), (r0, .inl (cA, 4, .inl ((mStep f k x).1))), (c0, .inl (cA, 16, .inl ((mStep f k x).2.1))), (s0, .inl (cA, 8, .inl ((mStep f k x).2.2.1))), (p0, .inr (2, [.ref a0, .int (nI mo), .int (nI k)])), (a0, .inl (cA, N, .inl f))]) 0 0 (va_A [(m0, .inr (1, [.ref r0, .ref c0, .ref s0, .ref p0, .int (nI x.2.2.2.1), .int x.2.2.2.2.1, .int (nI x.2.2.2.2.2)])), (r0, .inl (cA, 4, .inl x.1)), (c0, .inl (cA, 16, .inl x.2.1)), (s0, .inl (cA, 8, .inl x.2.2.1)), (p0, .inr (2, [.ref a0, .int (nI mo), .int (nI k)])), (a0, .inl (cA, N, .inl f))] sz) := by
  refine Met.ofW (cc := cX1_makeStep) (maxL := 2) (ret := none) (by decide) rfl ?_
  intro p e s m args below meth c s₁ B hml hv
  obtain ⟨rfl, hsz, hP, hK, hN, hD0⟩ := hv
  have hx := B.exec
  have hb := B.bytes
  have hr := B.returns
  have hts := atoms_spec (ws := wsX1_makeStep) B.pre
  have hown : s.vm.findClass RX1 = some m.cls := findClass_of_methodNamed B.named
  have hlocks := B.notSynchronized
  subst hsz
  have hD := hD0.self (sz := s.heap.size)
  generalize hAe : va_A [(m0, .inr (1, [.ref r0, .ref c0, .ref s0, .ref p0, .int (nI x.2.2.2.1), .int x.2.2.2.2.1, .int (nI x.2.2.2.2.2)])), (r0, .inl (cA, 4, .inl x.1)), (c0, .inl (cA, 16, .inl x.2.1)), (s0, .inl (cA, 8, .inl x.2.2.1)), (p0, .inr (2, [.ref a0, .int (nI mo), .int (nI k)])), (a0, .inl (cA, N, .inl f))] s.heap.size = A at hD ⊢
  have hA : ∀ q : Nat, s.heap.size ≤ q → A q := fun q h => by rw [← hAe]; exact Or.inr h
  have hS : va_S A s.heap s.heap [] := va_S.rf
  have hl := lv_entry ([.ref m0]) (n := 2) (Nat.le_of_ble_eq_true rfl)
  rw [lg_entry_eq]
  generalize (lg_sl ([.ref m0]) ++ List.replicate (2 - (lg_sl ([.ref m0])).length) Slot.unset).toArray = ls at hl ⊢
  have hl : lv_has ls 2 [(0, .ref m0)] := hl
  obtain ⟨o, ho, hfo, -⟩ := hwf.2 _ hi
  have hoo := mOp_is ho hfo
  refine lv_aload_n hx hb dX1_makeStep_0 rfl (lv_at hl 0 rfl) ?_
  refine lv_aload_n hx hb dX1_makeStep_1 rfl (lv_at hl 0 rfl) ?_
  refine va_get (D := D) (ci := 1) (v := .ref p0) (C := RX1) (T := TX1) (N := 7) hx hb hts iw_X1_makeStep_X1 hown hK hP 0 rfl rfl 3 (by decide) (hts (.fieldLink RX1 26 "JumpGuard$Machine" "program" "LJumpGuard$Program;") (List.mem_of_getElem? (l := wsX1_makeStep) (i := 1) rfl)) (fun _ h9 => h9) rfl dX1_makeStep_2 ?_
  refine lv_aload_n hx hb dX1_makeStep_5 rfl (lv_at hl 0 rfl) ?_
  refine va_get (D := D) (ci := 1) (v := .int (nI x.2.2.2.1)) (C := RX1) (T := TX1) (N := 7) hx hb hts iw_X1_makeStep_X1 hown hK hP 0 rfl rfl 4 (by decide) (hts (.fieldLink RX1 40 "JumpGuard$Machine" "counter" "I") (List.mem_of_getElem? (l := wsX1_makeStep) (i := 2) rfl)) (fun _ h9 => h9) rfl dX1_makeStep_6 ?_
  refine lv_iconst (v := 0) hx hb dX1_makeStep_9 (by decide) ?_
  refine jr_i (va_runV (As := [.int (nI x.2.2.2.1), .int 0]) (rest := [.ref m0]) ⟨hx, hb, hml, hown, hts⟩ (c_X2_get l D cA p0 a0 mo k N f (nI x.2.2.2.1) 0 (by first | assumption | omega) (by first | assumption | omega)) (cwV 2 hts gX1_makeStep_X2_get rfl rfl rfl hv_X2_get ⟨Nat.le_of_ble_eq_true rfl, Nat.le_of_ble_eq_true rfl⟩) (roP.V (va_recv hK hP (ci := 2) (q0 := 4) rfl rfl) (jP_sub (w2 := [(p0, .inr (2, [.ref a0, .int (nI mo), .int (nI k)])), (a0, .inl (cA, N, .inl f))]) hP [4, 5] rfl) hK hN) rfl rfl hl.1 rfl (lv_room (Nat.le_of_ble_eq_true rfl)) dX1_makeStep_10 ⟨Nat.le_of_ble_eq_true rfl, Nat.le_of_ble_eq_true rfl⟩) ?_
  refine jk_top (show (pGet f k (nI x.2.2.2.1) 0) = (nI o) from (pGet_at (q := 0) hi (by decide) (by omega)).trans hfo) ?_
  refine lv_aload_n hx hb dX1_makeStep_13 rfl (lv_at hl 0 rfl) ?_
  refine va_get (D := D) (ci := 1) (v := .ref p0) (C := RX1) (T := TX1) (N := 7) hx hb hts iw_X1_makeStep_X1 hown hK hP 0 rfl rfl 3 (by decide) (hts (.fieldLink RX1 26 "JumpGuard$Machine" "program" "LJumpGuard$Program;") (List.mem_of_getElem? (l := wsX1_makeStep) (i := 1) rfl)) (fun _ h9 => h9) rfl dX1_makeStep_14 ?_
  refine lv_aload_n hx hb dX1_makeStep_17 rfl (lv_at hl 0 rfl) ?_
  refine va_get (D := D) (ci := 1) (v := .int (nI x.2.2.2.1)) (C := RX1) (T := TX1) (N := 7) hx hb hts iw_X1_makeStep_X1 hown hK hP 0 rfl rfl 4 (by decide) (hts (.fieldLink RX1 40 "JumpGuard$Machine" "counter" "I") (List.mem_of_getElem? (l := wsX1_makeStep) (i := 2) rfl)) (fun _ h9 => h9) rfl dX1_makeStep_18 ?_
  refine lv_iconst (v := 1) hx hb dX1_makeStep_21 (by decide) ?_
  refine jr_i (va_runV (As := [.int (nI x.2.2.2.1), .int 1]) (rest := [.int (nI o), .ref m0]) ⟨hx, hb, hml, hown, hts⟩ (c_X2_get l D cA p0 a0 mo k N f (nI x.2.2.2.1) 1 (by first | assumption | omega) (by first | assumption | omega)) (cwV 2 hts gX1_makeStep_X2_get rfl rfl rfl hv_X2_get ⟨Nat.le_of_ble_eq_true rfl, Nat.le_of_ble_eq_true rfl⟩) (roP.V (va_recv hK hP (ci := 2) (q0 := 4) rfl rfl) (jP_sub (w2 := [(p0, .inr (2, [.ref a0, .int (nI mo), .int (nI k)])), (a0, .inl (cA, N, .inl f))]) hP [4, 5] rfl) hK hN) rfl rfl hl.1 rfl (lv_room (Nat.le_of_ble_eq_true rfl)) dX1_makeStep_22 ⟨Nat.le_of_ble_eq_true rfl, Nat.le_of_ble_eq_true rfl⟩) ?_
  refine jk_top (show (pGet f k (nI x.2.2.2.1) 1) = (f (x.2.2.2.1 * 3 + 1)) from pGet_at (q := 1) hi (by decide) (by omega)) ?_
  refine lv_aload_n hx hb dX1_makeStep_25 rfl (lv_at hl 0 rfl) ?_
  refine va_get (D := D) (ci := 1) (v := .ref p0) (C := RX1) (T := TX1) (N := 7) hx hb hts iw_X1_makeStep_X1 hown hK hP 0 rfl rfl 3 (by decide) (hts (.fieldLink RX1 26 "JumpGuard$Machine" "program" "LJumpGuard$Program;") (List.mem_of_getElem? (l := wsX1_makeStep) (i := 1) rfl)) (fun _ h9 => h9) rfl dX1_makeStep_26 ?_
  refine lv_aload_n hx hb dX1_makeStep_29 rfl (lv_at hl 0 rfl) ?_
  refine va_get (D := D) (ci := 1) (v := .int (nI x.2.2.2.1)) (C := RX1) (T := TX1) (N := 7) hx hb hts iw_X1_makeStep_X1 hown hK hP 0 rfl rfl 4 (by decide) (hts (.fieldLink RX1 40 "JumpGuard$Machine" "counter" "I") (List.mem_of_getElem? (l := wsX1_makeStep) (i := 2) rfl)) (fun _ h9 => h9) rfl dX1_makeStep_30 ?_
  refine lv_iconst (v := 2) hx hb dX1_makeStep_33 (by decide) ?_
  refine jr_i (va_runV (As := [.int (nI x.2.2.2.1), .int 2]) (rest := [.int (f (x.2.2.2.1 * 3 + 1)), .int (nI o), .ref m0]) ⟨hx, hb, hml, hown, hts⟩ (c_X2_get l D cA p0 a0 mo k N f (nI x.2.2.2.1) 2 (by first | assumption | omega) (by first | assumption | omega)) (cwV 2 hts gX1_makeStep_X2_get rfl rfl rfl hv_X2_get ⟨Nat.le_of_ble_eq_true rfl, Nat.le_of_ble_eq_true rfl⟩) (roP.V (va_recv hK hP (ci := 2) (q0 := 4) rfl rfl) (jP_sub (w2 := [(p0, .inr (2, [.ref a0, .int (nI mo), .int (nI k)])), (a0, .inl (cA, N, .inl f))]) hP [4, 5] rfl) hK hN) rfl rfl hl.1 rfl (lv_room (Nat.le_of_ble_eq_true rfl)) dX1_makeStep_34 ⟨Nat.le_of_ble_eq_true rfl, Nat.le_of_ble_eq_true rfl⟩) ?_
  refine jk_top (show (pGet f k (nI x.2.2.2.1) 2) = (f (x.2.2.2.1 * 3 + 2)) from pGet_at (q := 2) hi (by decide) (by omega)) ?_
  refine jw_i (va_runV (As := [.int (nI o), .int (f (x.2.2.2.1 * 3 + 1)), .int (f (x.2.2.2.1 * 3 + 2))]) (rest := []) ⟨hx, hb, hml, hown, hts⟩ (c_X1_carryOut l D cA s.heap.size m0 r0 c0 s0 p0 (nI x.2.2.2.1) x.2.2.2.2.1 x.2.2.2.2.2 a0 mo k N f x.1 x.2.1 x.2.2.1 o (f (x.2.2.2.1 * 3 + 1)) (f (x.2.2.2.1 * 3 + 2)) (by first | assumption | omega) (by first | assumption | omega) (by first | assumption | omega) (by first | assumption | omega)) (cwV 3 hts gX1_makeStep_X1_carryOut rfl rfl rfl hv_X1_carryOut ⟨Nat.le_of_ble_eq_true rfl, Nat.le_of_ble_eq_true rfl⟩) (rwP.V (wc := [(m0, .inr (1, [.ref r0, .ref c0, .ref s0, .ref p0, .int (nI x.2.2.2.1), .int x.2.2.2.2.1, .int (nI x.2.2.2.2.2)])), (r0, .inl (cA, 4, .inl x.1)), (c0, .inl (cA, 16, .inl x.2.1)), (s0, .inl (cA, 8, .inl x.2.2.1)), (p0, .inr (2, [.ref a0, .int (nI mo), .int (nI k)])), (a0, .inl (cA, N, .inl f))]) (va_recv hK hP (ci := 1) (q0 := 0) rfl rfl) hP hD hK hN [0, 1, 2, 3, 4, 5] (by decide) rfl) rfl rfl hl.1 rfl (lv_room (Nat.le_of_ble_eq_true rfl)) dX1_makeStep_37 ⟨Nat.le_of_ble_eq_true rfl, Nat.le_of_ble_eq_true rfl⟩) hP hD hS hA [0, 1, 2, 3, 4, 5] [] [0, 1, 2, 3, 4, 5] (wr := []) (w2 := [(m0, .inr (1, [.ref r0, .ref c0, .ref s0, .ref p0, .int (nI x.2.2.2.1), .int (mvS o (f (x.2.2.2.1 * 3 + 1)) (f (x.2.2.2.1 * 3 + 2)) x.1 f k x.2.2.2.2.1), .int (nI (mvW o x.2.2.2.2.2))])), (r0, .inl (cA, 4, .inl (mvR o (f (x.2.2.2.1 * 3 + 1)) (f (x.2.2.2.1 * 3 + 2)) x.1 x.2.1))), (c0, .inl (cA, 16, .inl (mvC o (f (x.2.2.2.1 * 3 + 1)) (f (x.2.2.2.1 * 3 + 2)) x.1 x.2.1))), (s0, .inl (cA, 8, .inl (mvL o (f (x.2.2.2.1 * 3 + 1)) x.1 x.2.2.1 x.2.2.2.2.2))), (p0, .inr (2, [.ref a0, .int (nI mo), .int (nI k)])), (a0, .inl (cA, N, .inl f))]) rfl rfl (by decide) (by decide) (by decide) rfl (fun H locs hP hD hS => ?_)
  refine lv_istore_n (lv' := [(1, .int (mvN o (f (x.2.2.2.1 * 3 + 1)) (f (x.2.2.2.1 * 3 + 2)) x.1 (nI x.2.2.2.1))), (0, .ref m0)]) hx hb dX1_makeStep_40 rfl hl (by decide) rfl (fun ls hl => ?_)
  refine lv_aload_n hx hb dX1_makeStep_41 rfl (lv_at hl 1 rfl) ?_
  refine va_get (D := D) (ci := 1) (v := .int (mvS o (f (x.2.2.2.1 * 3 + 1)) (f (x.2.2.2.1 * 3 + 2)) x.1 f k x.2.2.2.2.1)) (C := RX1) (T := TX1) (N := 7) hx hb hts iw_X1_makeStep_X1 hown hK hP 0 rfl rfl 5 (by decide) (hts (.fieldLink RX1 30 "JumpGuard$Machine" "condition" "I") (List.mem_of_getElem? (l := wsX1_makeStep) (i := 3) rfl)) (fun _ h9 => h9) rfl dX1_makeStep_42 ?_
  refine lv_if_ne (tgt := 53) hx hb dX1_makeStep_45 (by decide) (fun c_45 => ?_) (fun c_45 => ?_)
  · obtain ⟨hP9, hD9⟩ := jk_end (w2 := [(m0, .inr (1, [.ref r0, .ref c0, .ref s0, .ref p0, .int (nI x.2.2.2.1), .int (mvS o (f (x.2.2.2.1 * 3 + 1)) (f (x.2.2.2.1 * 3 + 2)) x.1 f k x.2.2.2.2.1), .int (nI (mvW o x.2.2.2.2.2))])), (r0, .inl (cA, 4, .inl (mvR o (f (x.2.2.2.1 * 3 + 1)) (f (x.2.2.2.1 * 3 + 2)) x.1 x.2.1))), (c0, .inl (cA, 16, .inl (mvC o (f (x.2.2.2.1 * 3 + 1)) (f (x.2.2.2.1 * 3 + 2)) x.1 x.2.1))), (s0, .inl (cA, 8, .inl (mvL o (f (x.2.2.2.1 * 3 + 1)) x.1 x.2.2.1 x.2.2.2.2.2))), (p0, .inr (2, [.ref a0, .int (nI mo), .int (nI k)])), (a0, .inl (cA, N, .inl f))]) hP hD [0, 1, 2, 3, 4, 5] (by decide) rfl
    have e9 : ([(m0, .inr (1, [.ref r0, .ref c0, .ref s0, .ref p0, .int (nI x.2.2.2.1), .int (mvS o (f (x.2.2.2.1 * 3 + 1)) (f (x.2.2.2.1 * 3 + 2)) x.1 f k x.2.2.2.2.1), .int (nI (mvW o x.2.2.2.2.2))])), (r0, .inl (cA, 4, .inl (mvR o (f (x.2.2.2.1 * 3 + 1)) (f (x.2.2.2.1 * 3 + 2)) x.1 x.2.1))), (c0, .inl (cA, 16, .inl (mvC o (f (x.2.2.2.1 * 3 + 1)) (f (x.2.2.2.1 * 3 + 2)) x.1 x.2.1))), (s0, .inl (cA, 8, .inl (mvL o (f (x.2.2.2.1 * 3 + 1)) x.1 x.2.2.1 x.2.2.2.2.2))), (p0, .inr (2, [.ref a0, .int (nI mo), .int (nI k)])), (a0, .inl (cA, N, .inl f))] : va_W) = [(m0, .inr (1, [.ref r0, .ref c0, .ref s0, .ref p0, .int (nI (mStep f k x).2.2.2.1), .int ((mStep f k x).2.2.2.2.1), .int (nI (mStep f k x).2.2.2.2.2)])), (r0, .inl (cA, 4, .inl ((mStep f k x).1))), (c0, .inl (cA, 16, .inl ((mStep f k x).2.1))), (s0, .inl (cA, 8, .inl ((mStep f k x).2.2.1))), (p0, .inr (2, [.ref a0, .int (nI mo), .int (nI k)])), (a0, .inl (cA, N, .inl f))] := (by unfold mStep; dsimp only; rw [hoo, if_neg c_45])
    rw [e9] at hP9 hD9
    exact W.vret hx hb hr (fun t9 ht9 hW9 => ⟨⟨(), rfl, trivial, by rw [ht9]; exact hP9, hD9⟩, hS.F ht9⟩) hS.2.2 dX1_makeStep_53
  · rw [← hoo] at c_45
    obtain ⟨t, ht, htn⟩ := mStep_in hwf hi _ _ c_45
    refine lv_aload_n hx hb dX1_makeStep_48 rfl (lv_at hl 1 rfl) ?_
    refine lv_iload_n hx hb dX1_makeStep_49 rfl (lv_at hl 0 rfl) ?_
    refine va_put (D := D) (ci := 1) (v := .int (mvN o (f (x.2.2.2.1 * 3 + 1)) (f (x.2.2.2.1 * 3 + 2)) x.1 (nI x.2.2.2.1))) (ty := .int) (C := RX1) (T := TX1) (N := 7) hx hb hts iw_X1_makeStep_X1 tyX1 tyX1_ok nmX1 hown hK hP hD hS 0 rfl rfl 4 (by decide) (hts (.fieldLink RX1 40 "JumpGuard$Machine" "counter" "I") (List.mem_of_getElem? (l := wsX1_makeStep) (i := 2) rfl)) (fun _ h9 => h9) rfl (by decide +kernel) rfl rfl (Nat.le_of_ble_eq_true rfl) dX1_makeStep_50 (fun H locs hP hD hS => ?_)
    have hP : va_P D vwCl [(m0, .inr (1, [.ref r0, .ref c0, .ref s0, .ref p0, .int (mvN o (f (x.2.2.2.1 * 3 + 1)) (f (x.2.2.2.1 * 3 + 2)) x.1 (nI x.2.2.2.1)), .int (mvS o (f (x.2.2.2.1 * 3 + 1)) (f (x.2.2.2.1 * 3 + 2)) x.1 f k x.2.2.2.2.1), .int (nI (mvW o x.2.2.2.2.2))])), (r0, .inl (cA, 4, .inl (mvR o (f (x.2.2.2.1 * 3 + 1)) (f (x.2.2.2.1 * 3 + 2)) x.1 x.2.1))), (c0, .inl (cA, 16, .inl (mvC o (f (x.2.2.2.1 * 3 + 1)) (f (x.2.2.2.1 * 3 + 2)) x.1 x.2.1))), (s0, .inl (cA, 8, .inl (mvL o (f (x.2.2.2.1 * 3 + 1)) x.1 x.2.2.1 x.2.2.2.2.2))), (p0, .inr (2, [.ref a0, .int (nI mo), .int (nI k)])), (a0, .inl (cA, N, .inl f))] H := hP
    have hD : va_D A [(m0, .inr (1, [.ref r0, .ref c0, .ref s0, .ref p0, .int (mvN o (f (x.2.2.2.1 * 3 + 1)) (f (x.2.2.2.1 * 3 + 2)) x.1 (nI x.2.2.2.1)), .int (mvS o (f (x.2.2.2.1 * 3 + 1)) (f (x.2.2.2.1 * 3 + 2)) x.1 f k x.2.2.2.2.1), .int (nI (mvW o x.2.2.2.2.2))])), (r0, .inl (cA, 4, .inl (mvR o (f (x.2.2.2.1 * 3 + 1)) (f (x.2.2.2.1 * 3 + 2)) x.1 x.2.1))), (c0, .inl (cA, 16, .inl (mvC o (f (x.2.2.2.1 * 3 + 1)) (f (x.2.2.2.1 * 3 + 2)) x.1 x.2.1))), (s0, .inl (cA, 8, .inl (mvL o (f (x.2.2.2.1 * 3 + 1)) x.1 x.2.2.1 x.2.2.2.2.2))), (p0, .inr (2, [.ref a0, .int (nI mo), .int (nI k)])), (a0, .inl (cA, N, .inl f))] := hD
    obtain ⟨hP9, hD9⟩ := jk_end (w2 := [(m0, .inr (1, [.ref r0, .ref c0, .ref s0, .ref p0, .int (mvN o (f (x.2.2.2.1 * 3 + 1)) (f (x.2.2.2.1 * 3 + 2)) x.1 (nI x.2.2.2.1)), .int (mvS o (f (x.2.2.2.1 * 3 + 1)) (f (x.2.2.2.1 * 3 + 2)) x.1 f k x.2.2.2.2.1), .int (nI (mvW o x.2.2.2.2.2))])), (r0, .inl (cA, 4, .inl (mvR o (f (x.2.2.2.1 * 3 + 1)) (f (x.2.2.2.1 * 3 + 2)) x.1 x.2.1))), (c0, .inl (cA, 16, .inl (mvC o (f (x.2.2.2.1 * 3 + 1)) (f (x.2.2.2.1 * 3 + 2)) x.1 x.2.1))), (s0, .inl (cA, 8, .inl (mvL o (f (x.2.2.2.1 * 3 + 1)) x.1 x.2.2.1 x.2.2.2.2.2))), (p0, .inr (2, [.ref a0, .int (nI mo), .int (nI k)])), (a0, .inl (cA, N, .inl f))]) hP hD [0, 1, 2, 3, 4, 5] (by decide) rfl
    have e9 : ([(m0, .inr (1, [.ref r0, .ref c0, .ref s0, .ref p0, .int (mvN o (f (x.2.2.2.1 * 3 + 1)) (f (x.2.2.2.1 * 3 + 2)) x.1 (nI x.2.2.2.1)), .int (mvS o (f (x.2.2.2.1 * 3 + 1)) (f (x.2.2.2.1 * 3 + 2)) x.1 f k x.2.2.2.2.1), .int (nI (mvW o x.2.2.2.2.2))])), (r0, .inl (cA, 4, .inl (mvR o (f (x.2.2.2.1 * 3 + 1)) (f (x.2.2.2.1 * 3 + 2)) x.1 x.2.1))), (c0, .inl (cA, 16, .inl (mvC o (f (x.2.2.2.1 * 3 + 1)) (f (x.2.2.2.1 * 3 + 2)) x.1 x.2.1))), (s0, .inl (cA, 8, .inl (mvL o (f (x.2.2.2.1 * 3 + 1)) x.1 x.2.2.1 x.2.2.2.2.2))), (p0, .inr (2, [.ref a0, .int (nI mo), .int (nI k)])), (a0, .inl (cA, N, .inl f))] : va_W) = [(m0, .inr (1, [.ref r0, .ref c0, .ref s0, .ref p0, .int (nI (mStep f k x).2.2.2.1), .int ((mStep f k x).2.2.2.2.1), .int (nI (mStep f k x).2.2.2.2.2)])), (r0, .inl (cA, 4, .inl ((mStep f k x).1))), (c0, .inl (cA, 16, .inl ((mStep f k x).2.1))), (s0, .inl (cA, 8, .inl ((mStep f k x).2.2.1))), (p0, .inr (2, [.ref a0, .int (nI mo), .int (nI k)])), (a0, .inl (cA, N, .inl f))] := (by unfold mStep; dsimp only; rw [if_pos c_45, htn, nI_clamp (by omega), ← htn, hoo])
    rw [e9] at hP9 hD9
    exact W.vret hx hb hr (fun t9 ht9 hW9 => ⟨⟨(), rfl, trivial, by rw [ht9]; exact hP9, hD9⟩, hS.F ht9⟩) hS.2.2 dX1_makeStep_53
set_option maxHeartbeats 4000000 in
set_option maxRecDepth 100000 in
theorem c_X1_makeSteps (l : Launch) (D : va_G) (cA : ClassId) (sz : Nat) (m0 : Nat) (r0 : Nat) (c0 : Nat) (s0 : Nat) (p0 : Nat) (a0 : Nat) (mo : Nat) (k : Nat) (N : Nat) (f : Nat → Int32) (x : MS) (nn : Nat) (hwf : mWF f k) (hi : x.2.2.2.2.1 = 0 → x.2.2.2.1 < k) (hk : k * 3 ≤ N) (hN3 : N ≤ 216) (hw : x.2.2.2.2.2 + nn < 1000000) : Met l yX1_makeSteps wsX1_makeSteps ({ frames := 5, cells := 0, slots := 0, locals := 110 }) (rwP D cA [.ref m0, .int (nI nn)] sz [(m0, .inr (1, [.ref r0, .ref c0, .ref s0, .ref p0, .int (nI x.2.2.2.1), .int x.2.2.2.2.1, .int (nI x.2.2.2.2.2)])), (r0, .inl (cA, 4, .inl x.1)), (c0, .inl (cA, 16, .inl x.2.1)), (s0, .inl (cA, 8, .inl x.2.2.1)), (p0, .inr (2, [.ref a0, .int (nI mo), .int (nI k)])), (a0, .inl (cA, N, .inl f))]) (rwI D (va_A [(m0, .inr (1, [.ref r0, .ref c0, .ref s0, .ref p0, .int (nI x.2.2.2.1), .int x.2.2.2.2.1, .int (nI x.2.2.2.2.2)])), (r0, .inl (cA, 4, .inl x.1)), (c0, .inl (cA, 16, .inl x.2.1)), (s0, .inl (cA, 8, .inl x.2.2.1)), (p0, .inr (2, [.ref a0, .int (nI mo), .int (nI k)])), (a0, .inl (cA, N, .inl f))] sz) (nI (mRun f k nn x).1) [(m0, .inr (1, [.ref r0, .ref c0, .ref s0, .ref p0, .int (nI (mRun f k nn x).2.2.2.2.1), .int ((mRun f k nn x).2.2.2.2.2.1), .int (nI (mRun f k nn x).2.2.2.2.2.2)])), (r0, .inl (cA, 4, .inl ((mRun f k nn x).2.1))), (c0, .inl (cA, 16, .inl ((mRun f k nn x).2.2.1))), (s0, .inl (cA, 8, .inl ((mRun f k nn x).2.2.2.1))), (p0, .inr (2, [.ref a0, .int (nI mo), .int (nI k)])), (a0, .inl (cA, N, .inl f))]) 0 0 (va_A [(m0, .inr (1, [.ref r0, .ref c0, .ref s0, .ref p0, .int (nI x.2.2.2.1), .int x.2.2.2.2.1, .int (nI x.2.2.2.2.2)])), (r0, .inl (cA, 4, .inl x.1)), (c0, .inl (cA, 16, .inl x.2.1)), (s0, .inl (cA, 8, .inl x.2.2.1)), (p0, .inr (2, [.ref a0, .int (nI mo), .int (nI k)])), (a0, .inl (cA, N, .inl f))] sz) := by
  refine Met.ofW (cc := cX1_makeSteps) (maxL := 3) (ret := (some .int)) (by decide) rfl ?_
  intro p e s m args below meth c s₁ B hml hv
  obtain ⟨rfl, hsz, hP, hK, hN, hD0⟩ := hv
  have hx := B.exec
  have hb := B.bytes
  have hr := B.returns
  have hts := atoms_spec (ws := wsX1_makeSteps) B.pre
  have hown : s.vm.findClass RX1 = some m.cls := findClass_of_methodNamed B.named
  have hlocks := B.notSynchronized
  subst hsz
  have hD := hD0.self (sz := s.heap.size)
  generalize hAe : va_A [(m0, .inr (1, [.ref r0, .ref c0, .ref s0, .ref p0, .int (nI x.2.2.2.1), .int x.2.2.2.2.1, .int (nI x.2.2.2.2.2)])), (r0, .inl (cA, 4, .inl x.1)), (c0, .inl (cA, 16, .inl x.2.1)), (s0, .inl (cA, 8, .inl x.2.2.1)), (p0, .inr (2, [.ref a0, .int (nI mo), .int (nI k)])), (a0, .inl (cA, N, .inl f))] s.heap.size = A at hD ⊢
  have hA : ∀ q : Nat, s.heap.size ≤ q → A q := fun q h => by rw [← hAe]; exact Or.inr h
  have hS : va_S A s.heap s.heap [] := va_S.rf
  have hl := lv_entry ([.ref m0, .int (nI nn)]) (n := 3) (Nat.le_of_ble_eq_true rfl)
  rw [lg_entry_eq]
  generalize (lg_sl ([.ref m0, .int (nI nn)]) ++ List.replicate (3 - (lg_sl ([.ref m0, .int (nI nn)])).length) Slot.unset).toArray = ls at hl ⊢
  have hl : lv_has ls 3 [(0, .ref m0), (1, .int (nI nn))] := hl
  refine lv_iconst (v := 0) hx hb dX1_makeSteps_0 (by decide) ?_
  refine lv_istore_n (lv' := [(2, .int 0), (0, .ref m0), (1, .int (nI nn))]) hx hb dX1_makeSteps_1 rfl hl (by decide) rfl (fun ls hl => ?_)
  have loop2 : ∀ (n : Nat) (y : MS) (i : Nat), (i ≤ nn) → (nn + 1 ≤ i + n) → (y.2.2.2.2.1 = 0 → y.2.2.2.1 < k) → (y.2.2.2.2.2 + (nn - i) < 1000000) → (mRun f k nn x = (i + (mRun f k (nn - i) y).1, (mRun f k (nn - i) y).2)) → ∀ (H : Heap) (locs : List Loc), va_P D vwCl [(m0, .inr (1, [.ref r0, .ref c0, .ref s0, .ref p0, .int (nI y.2.2.2.1), .int y.2.2.2.2.1, .int (nI y.2.2.2.2.2)])), (r0, .inl (cA, 4, .inl y.1)), (c0, .inl (cA, 16, .inl y.2.1)), (s0, .inl (cA, 8, .inl y.2.2.1)), (p0, .inr (2, [.ref a0, .int (nI mo), .int (nI k)])), (a0, .inl (cA, N, .inl f))] H → va_D A [(m0, .inr (1, [.ref r0, .ref c0, .ref s0, .ref p0, .int (nI y.2.2.2.1), .int y.2.2.2.2.1, .int (nI y.2.2.2.2.2)])), (r0, .inl (cA, 4, .inl y.1)), (c0, .inl (cA, 16, .inl y.2.1)), (s0, .inl (cA, 8, .inl y.2.2.1)), (p0, .inr (2, [.ref a0, .int (nI mo), .int (nI k)])), (a0, .inl (cA, N, .inl f))] → va_S A s.heap H locs → ∀ (ls : Array Slot), lv_has ls 3 [(0, .ref m0), (1, .int (nI nn)), (2, .int (nI i))] → W p l e (headSpec wsX1_makeSteps ({ frames := 5, cells := 0, slots := 0, locals := 110 })).room s m ([.ref m0, .int (nI nn)] : List Value).toArray below meth c H locs 0 0 (MQ below (rwI D A (nI (mRun f k nn x).1) [(m0, .inr (1, [.ref r0, .ref c0, .ref s0, .ref p0, .int (nI (mRun f k nn x).2.2.2.2.1), .int ((mRun f k nn x).2.2.2.2.2.1), .int (nI (mRun f k nn x).2.2.2.2.2.2)])), (r0, .inl (cA, 4, .inl ((mRun f k nn x).2.1))), (c0, .inl (cA, 16, .inl ((mRun f k nn x).2.2.1))), (s0, .inl (cA, 8, .inl ((mRun f k nn x).2.2.2.1))), (p0, .inr (2, [.ref a0, .int (nI mo), .int (nI k)])), (a0, .inl (cA, N, .inl f))]) ([.ref m0, .int (nI nn)] : List Value).toArray s 0 0 A) (F0 m 2 ls []) := by
    intro n
    induction n with
    | zero => intro y i hin hfu hy hyw hrun; exact absurd hfu (by omega)
    | succ n ih2 =>
      intro y i hin hfu hy hyw hrun H locs hP hD hS ls hl
      refine lv_iload_n hx hb dX1_makeSteps_2 rfl (lv_at hl 2 rfl) ?_
      refine lv_iload_n hx hb dX1_makeSteps_3 rfl (lv_at hl 1 rfl) ?_
      refine lv_icmp_ge (tgt := 24) hx hb dX1_makeSteps_4 (by decide) (fun c_4 => ?_) (fun c_4 => ?_)
      · have hend : nn - i = 0 := by
          rcases Nat.lt_or_ge i nn with q | q
          · exact absurd c_4 (nI_ge q (by omega))
          · omega
        have hfin : mRun f k nn x = (i, y) := by rw [hrun, hend]; rfl
        refine lv_iload_n hx hb dX1_makeSteps_24 rfl (lv_at hl 2 rfl) ?_
        obtain ⟨hP9, hD9⟩ := jk_end (w2 := [(m0, .inr (1, [.ref r0, .ref c0, .ref s0, .ref p0, .int (nI y.2.2.2.1), .int y.2.2.2.2.1, .int (nI y.2.2.2.2.2)])), (r0, .inl (cA, 4, .inl y.1)), (c0, .inl (cA, 16, .inl y.2.1)), (s0, .inl (cA, 8, .inl y.2.2.1)), (p0, .inr (2, [.ref a0, .int (nI mo), .int (nI k)])), (a0, .inl (cA, N, .inl f))]) hP hD [0, 1, 2, 3, 4, 5] (by decide) rfl
        have e9 : ([(m0, .inr (1, [.ref r0, .ref c0, .ref s0, .ref p0, .int (nI y.2.2.2.1), .int y.2.2.2.2.1, .int (nI y.2.2.2.2.2)])), (r0, .inl (cA, 4, .inl y.1)), (c0, .inl (cA, 16, .inl y.2.1)), (s0, .inl (cA, 8, .inl y.2.2.1)), (p0, .inr (2, [.ref a0, .int (nI mo), .int (nI k)])), (a0, .inl (cA, N, .inl f))] : va_W) = [(m0, .inr (1, [.ref r0, .ref c0, .ref s0, .ref p0, .int (nI (mRun f k nn x).2.2.2.2.1), .int ((mRun f k nn x).2.2.2.2.2.1), .int (nI (mRun f k nn x).2.2.2.2.2.2)])), (r0, .inl (cA, 4, .inl ((mRun f k nn x).2.1))), (c0, .inl (cA, 16, .inl ((mRun f k nn x).2.2.1))), (s0, .inl (cA, 8, .inl ((mRun f k nn x).2.2.2.1))), (p0, .inr (2, [.ref a0, .int (nI mo), .int (nI k)])), (a0, .inl (cA, N, .inl f))] := (by rw [hfin])
        rw [e9] at hP9 hD9
        exact W.iret (v := (nI i)) hx hb hr (fun t9 ht9 hW9 => ⟨⟨_, (), rfl, (show (nI i) = (nI (mRun f k nn x).1) from (by rw [hfin])), by rw [ht9]; exact hP9, hD9⟩, hS.F ht9⟩) hS.2.2 dX1_makeSteps_25
      · have hlt : i < nn := by
          rcases Nat.lt_or_ge i nn with q | q
          · exact q
          · exact absurd (nI_le q (by omega)) c_4
        refine lv_aload_n hx hb dX1_makeSteps_7 rfl (lv_at hl 0 rfl) ?_
        refine va_get (D := D) (ci := 1) (v := .int y.2.2.2.2.1) (C := RX1) (T := TX1) (N := 7) hx hb hts iw_X1_makeSteps_X1 hown hK hP 0 rfl rfl 5 (by decide) (hts (.fieldLink RX1 30 "JumpGuard$Machine" "condition" "I") (List.mem_of_getElem? (l := wsX1_makeSteps) (i := 1) rfl)) (fun _ h9 => h9) rfl dX1_makeSteps_8 ?_
        refine lv_if_ne (tgt := 24) hx hb dX1_makeSteps_11 (by decide) (fun c_11 => ?_) (fun c_11 => ?_)
        · have hfin : mRun f k nn x = (i, y) := by rw [hrun, mRun_stop c_11]; rfl
          refine lv_iload_n hx hb dX1_makeSteps_24 rfl (lv_at hl 2 rfl) ?_
          obtain ⟨hP9, hD9⟩ := jk_end (w2 := [(m0, .inr (1, [.ref r0, .ref c0, .ref s0, .ref p0, .int (nI y.2.2.2.1), .int y.2.2.2.2.1, .int (nI y.2.2.2.2.2)])), (r0, .inl (cA, 4, .inl y.1)), (c0, .inl (cA, 16, .inl y.2.1)), (s0, .inl (cA, 8, .inl y.2.2.1)), (p0, .inr (2, [.ref a0, .int (nI mo), .int (nI k)])), (a0, .inl (cA, N, .inl f))]) hP hD [0, 1, 2, 3, 4, 5] (by decide) rfl
          have e9 : ([(m0, .inr (1, [.ref r0, .ref c0, .ref s0, .ref p0, .int (nI y.2.2.2.1), .int y.2.2.2.2.1, .int (nI y.2.2.2.2.2)])), (r0, .inl (cA, 4, .inl y.1)), (c0, .inl (cA, 16, .inl y.2.1)), (s0, .inl (cA, 8, .inl y.2.2.1)), (p0, .inr (2, [.ref a0, .int (nI mo), .int (nI k)])), (a0, .inl (cA, N, .inl f))] : va_W) = [(m0, .inr (1, [.ref r0, .ref c0, .ref s0, .ref p0, .int (nI (mRun f k nn x).2.2.2.2.1), .int ((mRun f k nn x).2.2.2.2.2.1), .int (nI (mRun f k nn x).2.2.2.2.2.2)])), (r0, .inl (cA, 4, .inl ((mRun f k nn x).2.1))), (c0, .inl (cA, 16, .inl ((mRun f k nn x).2.2.1))), (s0, .inl (cA, 8, .inl ((mRun f k nn x).2.2.2.1))), (p0, .inr (2, [.ref a0, .int (nI mo), .int (nI k)])), (a0, .inl (cA, N, .inl f))] := (by rw [hfin])
          rw [e9] at hP9 hD9
          exact W.iret (v := (nI i)) hx hb hr (fun t9 ht9 hW9 => ⟨⟨_, (), rfl, (show (nI i) = (nI (mRun f k nn x).1) from (by rw [hfin])), by rw [ht9]; exact hP9, hD9⟩, hS.F ht9⟩) hS.2.2 dX1_makeSteps_25
        · refine lv_aload_n hx hb dX1_makeSteps_14 rfl (lv_at hl 0 rfl) ?_
          refine jw_v (va_runV (As := []) (rest := []) ⟨hx, hb, hml, hown, hts⟩ (c_X1_makeStep l D cA H.size m0 r0 c0 s0 p0 a0 mo k N f y (by first | assumption | omega) (hy c_11) (by first | assumption | omega) (by first | assumption | omega) (by omega)) (cwV 0 hts gX1_makeSteps_X1_makeStep rfl rfl rfl hv_X1_makeStep ⟨Nat.le_of_ble_eq_true rfl, Nat.le_of_ble_eq_true rfl⟩) (rwP.V (wc := [(m0, .inr (1, [.ref r0, .ref c0, .ref s0, .ref p0, .int (nI y.2.2.2.1), .int y.2.2.2.2.1, .int (nI y.2.2.2.2.2)])), (r0, .inl (cA, 4, .inl y.1)), (c0, .inl (cA, 16, .inl y.2.1)), (s0, .inl (cA, 8, .inl y.2.2.1)), (p0, .inr (2, [.ref a0, .int (nI mo), .int (nI k)])), (a0, .inl (cA, N, .inl f))]) (va_recv hK hP (ci := 1) (q0 := 0) rfl rfl) hP hD hK hN [0, 1, 2, 3, 4, 5] (by decide) rfl) rfl rfl hl.1 rfl (lv_room (Nat.le_of_ble_eq_true rfl)) dX1_makeSteps_15 ⟨Nat.le_of_ble_eq_true rfl, Nat.le_of_ble_eq_true rfl⟩) hP hD hS hA [0, 1, 2, 3, 4, 5] [] [0, 1, 2, 3, 4, 5] (wr := []) (w2 := [(m0, .inr (1, [.ref r0, .ref c0, .ref s0, .ref p0, .int (nI (mStep f k y).2.2.2.1), .int ((mStep f k y).2.2.2.2.1), .int (nI (mStep f k y).2.2.2.2.2)])), (r0, .inl (cA, 4, .inl ((mStep f k y).1))), (c0, .inl (cA, 16, .inl ((mStep f k y).2.1))), (s0, .inl (cA, 8, .inl ((mStep f k y).2.2.1))), (p0, .inr (2, [.ref a0, .int (nI mo), .int (nI k)])), (a0, .inl (cA, N, .inl f))]) rfl rfl (by decide) (by decide) (by decide) rfl (fun H locs hP hD hS => ?_)
          refine lv_iinc (v := (nI (i + 1))) (lv' := [(2, .int (nI (i + 1))), (0, .ref m0), (1, .int (nI nn))]) hx hb dX1_makeSteps_18 hl (k := 2) rfl (jn_a1 i) (by decide) rfl (fun ls hl => ?_)
          refine lv_goto (tgt := 2) hx hb dX1_makeSteps_21 (by decide) ?_
          exact ih2 (mStep f k y) (i + 1) (by omega) (by omega) (mStep_lt hwf (hy c_11)) (by have := mStep_w f k y; omega) (mRun_next hlt hrun c_11) _ _ (jP_sub (w2 := [(m0, .inr (1, [.ref r0, .ref c0, .ref s0, .ref p0, .int (nI (mStep f k y).2.2.2.1), .int ((mStep f k y).2.2.2.2.1), .int (nI (mStep f k y).2.2.2.2.2)])), (r0, .inl (cA, 4, .inl ((mStep f k y).1))), (c0, .inl (cA, 16, .inl ((mStep f k y).2.1))), (s0, .inl (cA, 8, .inl ((mStep f k y).2.2.1))), (p0, .inr (2, [.ref a0, .int (nI mo), .int (nI k)])), (a0, .inl (cA, N, .inl f))]) hP [0, 1, 2, 3, 4, 5] rfl) (hD.sub (ws' := [(m0, .inr (1, [.ref r0, .ref c0, .ref s0, .ref p0, .int (nI (mStep f k y).2.2.2.1), .int ((mStep f k y).2.2.2.2.1), .int (nI (mStep f k y).2.2.2.2.2)])), (r0, .inl (cA, 4, .inl ((mStep f k y).1))), (c0, .inl (cA, 16, .inl ((mStep f k y).2.1))), (s0, .inl (cA, 8, .inl ((mStep f k y).2.2.1))), (p0, .inr (2, [.ref a0, .int (nI mo), .int (nI k)])), (a0, .inl (cA, N, .inl f))]) [0, 1, 2, 3, 4, 5] (by decide) rfl) hS ls (lv_sub hl [1, 2, 0] rfl)
  exact loop2 (nn + 1) x 0 (by omega) (by omega) hi (by omega) (by simp) _ _ (jP_sub (w2 := [(m0, .inr (1, [.ref r0, .ref c0, .ref s0, .ref p0, .int (nI x.2.2.2.1), .int x.2.2.2.2.1, .int (nI x.2.2.2.2.2)])), (r0, .inl (cA, 4, .inl x.1)), (c0, .inl (cA, 16, .inl x.2.1)), (s0, .inl (cA, 8, .inl x.2.2.1)), (p0, .inr (2, [.ref a0, .int (nI mo), .int (nI k)])), (a0, .inl (cA, N, .inl f))]) hP [0, 1, 2, 3, 4, 5] rfl) (hD.sub (ws' := [(m0, .inr (1, [.ref r0, .ref c0, .ref s0, .ref p0, .int (nI x.2.2.2.1), .int x.2.2.2.2.1, .int (nI x.2.2.2.2.2)])), (r0, .inl (cA, 4, .inl x.1)), (c0, .inl (cA, 16, .inl x.2.1)), (s0, .inl (cA, 8, .inl x.2.2.1)), (p0, .inr (2, [.ref a0, .int (nI mo), .int (nI k)])), (a0, .inl (cA, N, .inl f))]) [0, 1, 2, 3, 4, 5] (by decide) rfl) hS ls (lv_sub hl [1, 2, 0] rfl)
end
section
/-! ===== JumpGuard: its own little methods ===== -/
abbrev sI (o a b : Int32) : Prop := o = 0 ∨ ((o = 1 ∨ o = 5 ∨ o = 8) ∧ jIn a 4) ∨ ((o = 2 ∨ o = 3) ∧ jIn a 4 ∧ jIn b 16) ∨ (o = 4 ∧ jIn a 4 ∧ jIn b 4) ∨ (o = 6 ∧ jIn a 24) ∨ ((o = 7 ∨ o = 9) ∧ jIn a 4 ∧ jIn b 24)
theorem sI_0 (a b : Int32) : sI (nI 0) a b := Or.inl rfl
theorem sI_158 {o a b : Int32} (h : o = 1 ∨ o = 5 ∨ o = 8) : sI o a b ↔ jIn a 4 := by
  constructor
  · intro q
    rcases q with q | q | q | q | q | q
    · rcases h with h | h | h <;> (rw [h] at q; exact absurd q (by decide))
    · exact q.2
    · exact q.2.1
    · exact q.2.1
    · rcases h with h | h | h <;> (rw [h] at q; exact absurd q.1 (by decide))
    · exact q.2.1
  · intro q; exact Or.inr (Or.inl ⟨h, q⟩)
theorem sI_23 {o a b : Int32} (h : o = 2 ∨ o = 3) : sI o a b ↔ jIn a 4 ∧ jIn b 16 := by
  constructor
  · intro q
    rcases q with q | q | q | q | q | q
    · rcases h with h | h <;> (rw [h] at q; exact absurd q (by decide))
    · rcases h with h | h <;> (rw [h] at q; exact absurd q.1 (by decide))
    · exact q.2
    · rcases h with h | h <;> (rw [h] at q; exact absurd q.1 (by decide))
    · rcases h with h | h <;> (rw [h] at q; exact absurd q.1 (by decide))
    · rcases h with h | h <;> (rw [h] at q; exact absurd q.1 (by decide))
  · intro q; exact Or.inr (Or.inr (Or.inl ⟨h, q⟩))
theorem sI_4 {o a b : Int32} (h : o = 4) : sI o a b ↔ jIn a 4 ∧ jIn b 4 := by
  subst h
  constructor
  · intro q
    rcases q with q | q | q | q | q | q
    · exact absurd q (by decide)
    · exact absurd q.1 (by decide)
    · exact absurd q.1 (by decide)
    · exact q.2
    · exact absurd q.1 (by decide)
    · exact absurd q.1 (by decide)
  · intro q; exact Or.inr (Or.inr (Or.inr (Or.inl ⟨rfl, q⟩)))
theorem sI_6 {o a b : Int32} (h : o = 6) : sI o a b ↔ jIn a 24 := by
  subst h
  constructor
  · intro q
    rcases q with q | q | q | q | q | q
    · exact absurd q (by decide)
    · exact absurd q.1 (by decide)
    · exact absurd q.1 (by decide)
    · exact absurd q.1 (by decide)
    · exact q.2
    · exact absurd q.1 (by decide)
  · intro q; exact Or.inr (Or.inr (Or.inr (Or.inr (Or.inl ⟨rfl, q⟩))))
theorem sI_79 {o a b : Int32} (h : o = 7 ∨ o = 9) : sI o a b ↔ jIn a 4 ∧ jIn b 24 := by
  constructor
  · intro q
    rcases q with q | q | q | q | q | q
    · rcases h with h | h <;> (rw [h] at q; exact absurd q (by decide))
    · rcases h with h | h <;> (rw [h] at q; exact absurd q.1 (by decide))
    · rcases h with h | h <;> (rw [h] at q; exact absurd q.1 (by decide))
    · rcases h with h | h <;> (rw [h] at q; exact absurd q.1 (by decide))
    · rcases h with h | h <;> (rw [h] at q; exact absurd q.1 (by decide))
    · exact q.2
  · intro q; exact Or.inr (Or.inr (Or.inr (Or.inr (Or.inr ⟨h, q⟩))))
theorem sI_out {o a b : Int32} (h : o.toInt < 0 ∨ (((10 : Nat) : Int) - 1) < o.toInt) : ¬ sI o a b := by
  have e : ∀ n : Nat, n < 10 → ¬ o = nI n := by
    intro n hn q
    rw [q, nI_toInt (by omega)] at h
    omega
  intro q
  rcases q with q | q | q | q | q | q
  · exact e 0 (by omega) q
  · rcases q.1 with q | q | q
    · exact e 1 (by omega) q
    · exact e 5 (by omega) q
    · exact e 8 (by omega) q
  · rcases q.1 with q | q
    · exact e 2 (by omega) q
    · exact e 3 (by omega) q
  · exact e 4 (by omega) q.1
  · exact e 6 (by omega) q.1
  · rcases q.1 with q | q
    · exact e 7 (by omega) q
    · exact e 9 (by omega) q
abbrev hA (f : Nat → Int32) (k i : Nat) : Prop := (f (i * 3) = 6 → jIn (f (i * 3 + 1)) (nI k)) ∧ ((f (i * 3) = 7 ∨ f (i * 3) = 9) → jIn (f (i * 3 + 2)) (nI k))
theorem hA_6 {f : Nat → Int32} {k i : Nat} (h : f (i * 3) = 6) : jIn (f (i * 3 + 1)) (nI k) ↔ hA f k i := by
  constructor
  · intro q
    refine ⟨fun _ => q, fun e => ?_⟩
    rw [h] at e
    exact absurd e (by decide)
  · intro q; exact q.1 h
theorem hA_79 {f : Nat → Int32} {k i : Nat} (h6 : ¬ f (i * 3) = 6) (h : f (i * 3) = 7 ∨ f (i * 3) = 9) : jIn (f (i * 3 + 2)) (nI k) ↔ hA f k i := ⟨fun q => ⟨fun e => absurd e h6, fun _ => q⟩, fun q => q.2 h⟩
def lst (f : Nat → Int32) (k : Nat) : Int32 := pGet f k (nI k - 1) 0
abbrev clO (f : Nat → Int32) (k : Nat) : Prop := (lst f k = 0 ∨ lst f k = 6 ∨ lst f k = 8) ∧ ∀ i, i < k → hA f k i
def plN (f tn : Nat → Int32) : Nat → Nat
  | 0 => 0
  | i + 1 => plN f tn i + 1 + (if tn i = 0 then 0 else 1) + (if f (i * 3) = 8 then 1 else 0)
theorem plN_le (f tn : Nat → Int32) (i : Nat) : plN f tn i ≤ 3 * i := by
  induction i with
  | zero => exact Nat.le_refl 0
  | succ i ih =>
    show plN f tn i + 1 + (if tn i = 0 then 0 else 1) + (if f (i * 3) = 8 then 1 else 0) ≤ 3 * (i + 1)
    split <;> split <;> omega
def plP (f tn P : Nat → Int32) (n : Nat) : Nat → Int32 := fun i => if i < n then nI (plN f tn i) else P i
theorem plP_0 (f tn P : Nat → Int32) : P = plP f tn P 0 := by
  funext i; unfold plP; rw [if_neg (by omega)]
theorem plP_s (f tn P : Nat → Int32) (n : Nat) : upd (plP f tn P n) n (nI (plN f tn n)) = plP f tn P (n + 1) := by
  funext i; unfold upd plP
  by_cases h : i = n
  · rw [if_pos h, if_pos (by omega), h]
  · rw [if_neg h]
    by_cases h2 : i < n
    · rw [if_pos h2, if_pos (by omega)]
    · rw [if_neg h2, if_neg (by omega)]
def pPl (P : Nat → Int32) (x : Int32) : Int32 := if jIn x 24 then P x.toNatClampNeg else -1
theorem pPl_no {P : Nat → Int32} {x : Int32} (h : ¬ jIn x 24) : pPl P x = -1 := if_neg h
theorem pPl_n {P : Nat → Int32} {j : Nat} (h : j < 24) : pPl P (nI j) = P j := by
  have hh : jIn (nI j) 24 := ((jIn_n (n := 24) (by decide)).mpr h).1
  unfold pPl
  rw [if_pos hh, nI_clamp (by omega)]
theorem gua_pos {k : Nat} (h : ¬ nI k ≤ 0) : 0 < k := by
  rcases Nat.eq_zero_or_pos k with q | q
  · subst q; exact absurd (by decide) h
  · exact q
abbrev GS : Type := Nat × (Nat → Int32)
def gA1 (tn : Nat → Int32) (i : Nat) (g : GS) : GS := if tn i = 0 then g else (g.1 + 1, pApp g.2 g.1 10 (tn i) 0)
def gA2 (f jn : Nat → Int32) (i : Nat) (g : GS) : GS := if f (i * 3) = 8 then (g.1 + 1, pApp g.2 g.1 11 (f (i * 3 + 1)) (jn i)) else g
def gX (f P : Nat → Int32) (i : Nat) : Int32 := if f (i * 3) = 6 then pPl P (f (i * 3 + 1)) else f (i * 3 + 1)
def gY (f P : Nat → Int32) (i : Nat) : Int32 := if f (i * 3) = 7 ∨ f (i * 3) = 9 then pPl P (f (i * 3 + 2)) else f (i * 3 + 2)
def gA3 (f P : Nat → Int32) (i : Nat) (g : GS) : GS := (g.1 + 1, pApp g.2 g.1 (f (i * 3)) (gX f P i) (gY f P i))
def gA (f tn jn P : Nat → Int32) (i : Nat) (g : GS) : GS := gA3 f P i (gA2 f jn i (gA1 tn i g))
def gN (f tn jn P f2 : Nat → Int32) : Nat → GS
  | 0 => (0, f2)
  | i + 1 => gA f tn jn P i (gN f tn jn P f2 i)
theorem gA_1 (f tn jn P : Nat → Int32) (i : Nat) (g : GS) : (gA f tn jn P i g).1 = g.1 + 1 + (if tn i = 0 then 0 else 1) + (if f (i * 3) = 8 then 1 else 0) := by
  unfold gA gA3 gA2 gA1
  by_cases h1 : tn i = 0
  · by_cases h2 : f (i * 3) = 8
    · simp only [if_pos h1, if_pos h2]; try omega
    · simp only [if_pos h1, if_neg h2]; try omega
  · by_cases h2 : f (i * 3) = 8
    · simp only [if_neg h1, if_pos h2]; try omega
    · simp only [if_neg h1, if_neg h2]; try omega
theorem gN_1 (f tn jn P f2 : Nat → Int32) (i : Nat) : (gN f tn jn P f2 i).1 = plN f tn i := by
  induction i with
  | zero => rfl
  | succ i ih =>
    show (gA f tn jn P i (gN f tn jn P f2 i)).1 = plN f tn i + 1 + (if tn i = 0 then 0 else 1) + (if f (i * 3) = 8 then 1 else 0)
    rw [gA_1, ih]
theorem iw_X3_appendGuarded_X3 : ∀ w ∈ wsX30, w ∈ wsX3_appendGuarded := by decide +kernel
theorem iw_X3_dropGuarded_X3 : ∀ w ∈ wsX30, w ∈ wsX3_dropGuarded := by decide +kernel
theorem iw_X3_hasItsAddress_X3 : ∀ w ∈ wsX30, w ∈ wsX3_hasItsAddress := by decide +kernel
theorem iw_X3_isClosed_X3 : ∀ w ∈ wsX30, w ∈ wsX3_isClosed := by decide +kernel
theorem iw_X3_isGuarded_X3 : ∀ w ∈ wsX30, w ∈ wsX3_isGuarded := by decide +kernel
theorem iw_X3_placeOf_X3 : ∀ w ∈ wsX30, w ∈ wsX3_placeOf := by decide +kernel
theorem iw_X3_setPlaces_X3 : ∀ w ∈ wsX30, w ∈ wsX3_setPlaces := by decide +kernel
theorem hv_X1_stop : yX1_stop.cls = RX1 ∧ yX1_stop.cls ≠ "java/lang/invoke/MethodHandle" ∧ yX1_stop.cls ≠ "java/lang/invoke/VarHandle" ∧ (parseMethodDescriptor yX1_stop.desc).map (fun d => d.parameters.length) = some 0 := by decide +kernel
theorem hv_X2_append : yX2_append.cls = RX2 ∧ yX2_append.cls ≠ "java/lang/invoke/MethodHandle" ∧ yX2_append.cls ≠ "java/lang/invoke/VarHandle" ∧ (parseMethodDescriptor yX2_append.desc).map (fun d => d.parameters.length) = some 3 := by decide +kernel
theorem hv_X2_clear : yX2_clear.cls = RX2 ∧ yX2_clear.cls ≠ "java/lang/invoke/MethodHandle" ∧ yX2_clear.cls ≠ "java/lang/invoke/VarHandle" ∧ (parseMethodDescriptor yX2_clear.desc).map (fun d => d.parameters.length) = some 0 := by decide +kernel
theorem hv_X2_length : yX2_length.cls = RX2 ∧ yX2_length.cls ≠ "java/lang/invoke/MethodHandle" ∧ yX2_length.cls ≠ "java/lang/invoke/VarHandle" ∧ (parseMethodDescriptor yX2_length.desc).map (fun d => d.parameters.length) = some 0 := by decide +kernel
theorem hv_X3_hasItsAddress : yX3_hasItsAddress.cls = RX3 ∧ yX3_hasItsAddress.cls ≠ "java/lang/invoke/MethodHandle" ∧ yX3_hasItsAddress.cls ≠ "java/lang/invoke/VarHandle" ∧ (parseMethodDescriptor yX3_hasItsAddress.desc).map (fun d => d.parameters.length) = some 1 := by decide +kernel
theorem hv_X3_holdsAddressInB : yX3_holdsAddressInB.cls = RX3 ∧ yX3_holdsAddressInB.cls ≠ "java/lang/invoke/MethodHandle" ∧ yX3_holdsAddressInB.cls ≠ "java/lang/invoke/VarHandle" ∧ (parseMethodDescriptor yX3_holdsAddressInB.desc).map (fun d => d.parameters.length) = some 1 := by decide +kernel
theorem hv_X3_placeOf : yX3_placeOf.cls = RX3 ∧ yX3_placeOf.cls ≠ "java/lang/invoke/MethodHandle" ∧ yX3_placeOf.cls ≠ "java/lang/invoke/VarHandle" ∧ (parseMethodDescriptor yX3_placeOf.desc).map (fun d => d.parameters.length) = some 1 := by decide +kernel
set_option maxHeartbeats 4000000 in
set_option maxRecDepth 100000 in
theorem c_X3_isSourceInstruction (l : Launch) (D : va_G) (cA : ClassId) (x : Int32) (y : Int32) (z : Int32) : Met l yX3_isSourceInstruction wsX3_isSourceInstruction ({ frames := 1, cells := 0, slots := 0, locals := 20 }) (roP D cA [.int x, .int y, .int z] []) (QcRead (jB (sI x y z))) 0 0 (fun _ => False) := by
  refine Met.ofW (cc := cX3_isSourceInstruction) (maxL := 3) (ret := (some .boolean)) (by decide) rfl ?_
  intro p e s m args below meth c s₁ B hml hv
  obtain ⟨rfl, hP, hK, hN⟩ := hv
  have hx := B.exec
  have hb := B.bytes
  have hr := B.returns
  have hts := atoms_spec (ws := wsX3_isSourceInstruction) B.pre
  have hown : s.vm.findClass RX3 = some m.cls := findClass_of_methodNamed B.named
  have hlocks := B.notSynchronized
  have hl := lv_entry ([.int x, .int y, .int z]) (n := 3) (Nat.le_of_ble_eq_true rfl)
  rw [lg_entry_eq]
  generalize (lg_sl ([.int x, .int y, .int z]) ++ List.replicate (3 - (lg_sl ([.int x, .int y, .int z])).length) Slot.unset).toArray = ls at hl ⊢
  have hl : lv_has ls 3 [(0, .int x), (1, .int y), (2, .int z)] := hl
  refine lv_iload_n hx hb dX3_isSourceInstruction_0 rfl (lv_at hl 0 rfl) ?_
  rcases jk_sw x 10 (by decide) with ⟨j, hj, c_1⟩ | c_1
  · rcases (show j = 0 ∨ j = 1 ∨ j = 2 ∨ j = 3 ∨ j = 4 ∨ j = 5 ∨ j = 6 ∨ j = 7 ∨ j = 8 ∨ j = 9 by omega) with rfl | rfl | rfl | rfl | rfl | rfl | rfl | rfl | rfl | rfl
    · refine lv_tableIn (off := 55) (tgt := 56) hx hb dX3_isSourceInstruction_1 (by rw [c_1]; decide) (by rw [c_1]; decide) (by rw [c_1]; rfl) (by decide) ?_
      refine lv_iconst (v := 1) hx hb dX3_isSourceInstruction_56 (by decide) ?_
      exact W.zret (ty := .boolean) (v := 1) hx hb hr rfl (fun t9 ht9 hW9 => ⟨jk_ret (show 1 = (jB (sI x y z)) from (jB_t (by rw [c_1]; exact sI_0 y z)).symm), ht9⟩) (fun q h => absurd h List.not_mem_nil) dX3_isSourceInstruction_57
    · refine lv_tableIn (off := 57) (tgt := 58) hx hb dX3_isSourceInstruction_1 (by rw [c_1]; decide) (by rw [c_1]; decide) (by rw [c_1]; rfl) (by decide) ?_
      refine lv_iload_n hx hb dX3_isSourceInstruction_58 rfl (lv_at hl 1 rfl) ?_
      refine jr_i (va_runS (As := [.int y]) (rest := []) ⟨hx, hb, hml, hown, hts⟩ (c_X3_isRegister l D cA y) (va_cwS 1 hts gX3_isSourceInstruction_X3_isRegister rfl rfl rfl hv_X3_isRegister.2 ⟨Nat.le_of_ble_eq_true rfl, Nat.le_of_ble_eq_true rfl⟩) (roP.S (av := [.int y]) (jP_sub (w2 := []) hP [] rfl) hK hN) rfl rfl hl.1 rfl (lv_room (Nat.le_of_ble_eq_true rfl)) dX3_isSourceInstruction_59 ⟨Nat.le_of_ble_eq_true rfl, Nat.le_of_ble_eq_true rfl⟩) ?_
      exact W.zret (ty := .boolean) (v := (jB (jIn y 4))) hx hb hr jB_nar (fun t9 ht9 hW9 => ⟨jk_ret (show (jB (jIn y 4)) = (jB (sI x y z)) from jB_i (sI_158 (Or.inl c_1)).symm), ht9⟩) (fun q h => absurd h List.not_mem_nil) dX3_isSourceInstruction_62
    · refine lv_tableIn (off := 62) (tgt := 63) hx hb dX3_isSourceInstruction_1 (by rw [c_1]; decide) (by rw [c_1]; decide) (by rw [c_1]; rfl) (by decide) ?_
      refine lv_iload_n hx hb dX3_isSourceInstruction_63 rfl (lv_at hl 1 rfl) ?_
      refine jr_i (va_runS (As := [.int y]) (rest := []) ⟨hx, hb, hml, hown, hts⟩ (c_X3_isRegister l D cA y) (va_cwS 1 hts gX3_isSourceInstruction_X3_isRegister rfl rfl rfl hv_X3_isRegister.2 ⟨Nat.le_of_ble_eq_true rfl, Nat.le_of_ble_eq_true rfl⟩) (roP.S (av := [.int y]) (jP_sub (w2 := []) hP [] rfl) hK hN) rfl rfl hl.1 rfl (lv_room (Nat.le_of_ble_eq_true rfl)) dX3_isSourceInstruction_64 ⟨Nat.le_of_ble_eq_true rfl, Nat.le_of_ble_eq_true rfl⟩) ?_
      refine lv_if_eq (tgt := 81) hx hb dX3_isSourceInstruction_67 (by decide) (fun c_67 => ?_) (fun c_67 => ?_)
      · replace c_67 := jB_z.mp c_67
        refine lv_iconst (v := 0) hx hb dX3_isSourceInstruction_81 (by decide) ?_
        exact W.zret (ty := .boolean) (v := 0) hx hb hr rfl (fun t9 ht9 hW9 => ⟨jk_ret (show 0 = (jB (sI x y z)) from (jB_f (fun h => by have h := (sI_23 (Or.inl c_1)).mp h; first | exact absurd h.1 (by assumption) | exact absurd h.2 (by assumption))).symm), ht9⟩) (fun q h => absurd h List.not_mem_nil) dX3_isSourceInstruction_82
      · replace c_67 := jB_nz.mp c_67
        refine lv_iload_n hx hb dX3_isSourceInstruction_70 rfl (lv_at hl 2 rfl) ?_
        refine jr_i (va_runS (As := [.int z]) (rest := []) ⟨hx, hb, hml, hown, hts⟩ (c_X3_isCell l D cA z) (va_cwS 1 hts gX3_isSourceInstruction_X3_isCell rfl rfl rfl hv_X3_isCell.2 ⟨Nat.le_of_ble_eq_true rfl, Nat.le_of_ble_eq_true rfl⟩) (roP.S (av := [.int z]) (jP_sub (w2 := []) hP [] rfl) hK hN) rfl rfl hl.1 rfl (lv_room (Nat.le_of_ble_eq_true rfl)) dX3_isSourceInstruction_71 ⟨Nat.le_of_ble_eq_true rfl, Nat.le_of_ble_eq_true rfl⟩) ?_
        refine lv_if_eq (tgt := 81) hx hb dX3_isSourceInstruction_74 (by decide) (fun c_74 => ?_) (fun c_74 => ?_)
        · replace c_74 := jB_z.mp c_74
          refine lv_iconst (v := 0) hx hb dX3_isSourceInstruction_81 (by decide) ?_
          exact W.zret (ty := .boolean) (v := 0) hx hb hr rfl (fun t9 ht9 hW9 => ⟨jk_ret (show 0 = (jB (sI x y z)) from (jB_f (fun h => by have h := (sI_23 (Or.inl c_1)).mp h; first | exact absurd h.1 (by assumption) | exact absurd h.2 (by assumption))).symm), ht9⟩) (fun q h => absurd h List.not_mem_nil) dX3_isSourceInstruction_82
        · replace c_74 := jB_nz.mp c_74
          refine lv_iconst (v := 1) hx hb dX3_isSourceInstruction_77 (by decide) ?_
          refine lv_goto (tgt := 82) hx hb dX3_isSourceInstruction_78 (by decide) ?_
          exact W.zret (ty := .boolean) (v := 1) hx hb hr rfl (fun t9 ht9 hW9 => ⟨jk_ret (show 1 = (jB (sI x y z)) from (jB_t ((sI_23 (Or.inl c_1)).mpr ⟨by assumption, by assumption⟩)).symm), ht9⟩) (fun q h => absurd h List.not_mem_nil) dX3_isSourceInstruction_82
    · refine lv_tableIn (off := 62) (tgt := 63) hx hb dX3_isSourceInstruction_1 (by rw [c_1]; decide) (by rw [c_1]; decide) (by rw [c_1]; rfl) (by decide) ?_
      refine lv_iload_n hx hb dX3_isSourceInstruction_63 rfl (lv_at hl 1 rfl) ?_
      refine jr_i (va_runS (As := [.int y]) (rest := []) ⟨hx, hb, hml, hown, hts⟩ (c_X3_isRegister l D cA y) (va_cwS 1 hts gX3_isSourceInstruction_X3_isRegister rfl rfl rfl hv_X3_isRegister.2 ⟨Nat.le_of_ble_eq_true rfl, Nat.le_of_ble_eq_true rfl⟩) (roP.S (av := [.int y]) (jP_sub (w2 := []) hP [] rfl) hK hN) rfl rfl hl.1 rfl (lv_room (Nat.le_of_ble_eq_true rfl)) dX3_isSourceInstruction_64 ⟨Nat.le_of_ble_eq_true rfl, Nat.le_of_ble_eq_true rfl⟩) ?_
      refine lv_if_eq (tgt := 81) hx hb dX3_isSourceInstruction_67 (by decide) (fun c_67 => ?_) (fun c_67 => ?_)
      · replace c_67 := jB_z.mp c_67
        refine lv_iconst (v := 0) hx hb dX3_isSourceInstruction_81 (by decide) ?_
        exact W.zret (ty := .boolean) (v := 0) hx hb hr rfl (fun t9 ht9 hW9 => ⟨jk_ret (show 0 = (jB (sI x y z)) from (jB_f (fun h => by have h := (sI_23 (Or.inr c_1)).mp h; first | exact absurd h.1 (by assumption) | exact absurd h.2 (by assumption))).symm), ht9⟩) (fun q h => absurd h List.not_mem_nil) dX3_isSourceInstruction_82
      · replace c_67 := jB_nz.mp c_67
        refine lv_iload_n hx hb dX3_isSourceInstruction_70 rfl (lv_at hl 2 rfl) ?_
        refine jr_i (va_runS (As := [.int z]) (rest := []) ⟨hx, hb, hml, hown, hts⟩ (c_X3_isCell l D cA z) (va_cwS 1 hts gX3_isSourceInstruction_X3_isCell rfl rfl rfl hv_X3_isCell.2 ⟨Nat.le_of_ble_eq_true rfl, Nat.le_of_ble_eq_true rfl⟩) (roP.S (av := [.int z]) (jP_sub (w2 := []) hP [] rfl) hK hN) rfl rfl hl.1 rfl (lv_room (Nat.le_of_ble_eq_true rfl)) dX3_isSourceInstruction_71 ⟨Nat.le_of_ble_eq_true rfl, Nat.le_of_ble_eq_true rfl⟩) ?_
        refine lv_if_eq (tgt := 81) hx hb dX3_isSourceInstruction_74 (by decide) (fun c_74 => ?_) (fun c_74 => ?_)
        · replace c_74 := jB_z.mp c_74
          refine lv_iconst (v := 0) hx hb dX3_isSourceInstruction_81 (by decide) ?_
          exact W.zret (ty := .boolean) (v := 0) hx hb hr rfl (fun t9 ht9 hW9 => ⟨jk_ret (show 0 = (jB (sI x y z)) from (jB_f (fun h => by have h := (sI_23 (Or.inr c_1)).mp h; first | exact absurd h.1 (by assumption) | exact absurd h.2 (by assumption))).symm), ht9⟩) (fun q h => absurd h List.not_mem_nil) dX3_isSourceInstruction_82
        · replace c_74 := jB_nz.mp c_74
          refine lv_iconst (v := 1) hx hb dX3_isSourceInstruction_77 (by decide) ?_
          refine lv_goto (tgt := 82) hx hb dX3_isSourceInstruction_78 (by decide) ?_
          exact W.zret (ty := .boolean) (v := 1) hx hb hr rfl (fun t9 ht9 hW9 => ⟨jk_ret (show 1 = (jB (sI x y z)) from (jB_t ((sI_23 (Or.inr c_1)).mpr ⟨by assumption, by assumption⟩)).symm), ht9⟩) (fun q h => absurd h List.not_mem_nil) dX3_isSourceInstruction_82
    · refine lv_tableIn (off := 82) (tgt := 83) hx hb dX3_isSourceInstruction_1 (by rw [c_1]; decide) (by rw [c_1]; decide) (by rw [c_1]; rfl) (by decide) ?_
      refine lv_iload_n hx hb dX3_isSourceInstruction_83 rfl (lv_at hl 1 rfl) ?_
      refine jr_i (va_runS (As := [.int y]) (rest := []) ⟨hx, hb, hml, hown, hts⟩ (c_X3_isRegister l D cA y) (va_cwS 1 hts gX3_isSourceInstruction_X3_isRegister rfl rfl rfl hv_X3_isRegister.2 ⟨Nat.le_of_ble_eq_true rfl, Nat.le_of_ble_eq_true rfl⟩) (roP.S (av := [.int y]) (jP_sub (w2 := []) hP [] rfl) hK hN) rfl rfl hl.1 rfl (lv_room (Nat.le_of_ble_eq_true rfl)) dX3_isSourceInstruction_84 ⟨Nat.le_of_ble_eq_true rfl, Nat.le_of_ble_eq_true rfl⟩) ?_
      refine lv_if_eq (tgt := 101) hx hb dX3_isSourceInstruction_87 (by decide) (fun c_87 => ?_) (fun c_87 => ?_)
      · replace c_87 := jB_z.mp c_87
        refine lv_iconst (v := 0) hx hb dX3_isSourceInstruction_101 (by decide) ?_
        exact W.zret (ty := .boolean) (v := 0) hx hb hr rfl (fun t9 ht9 hW9 => ⟨jk_ret (show 0 = (jB (sI x y z)) from (jB_f (fun h => by have h := (sI_4 c_1).mp h; first | exact absurd h.1 (by assumption) | exact absurd h.2 (by assumption))).symm), ht9⟩) (fun q h => absurd h List.not_mem_nil) dX3_isSourceInstruction_102
      · replace c_87 := jB_nz.mp c_87
        refine lv_iload_n hx hb dX3_isSourceInstruction_90 rfl (lv_at hl 2 rfl) ?_
        refine jr_i (va_runS (As := [.int z]) (rest := []) ⟨hx, hb, hml, hown, hts⟩ (c_X3_isRegister l D cA z) (va_cwS 1 hts gX3_isSourceInstruction_X3_isRegister rfl rfl rfl hv_X3_isRegister.2 ⟨Nat.le_of_ble_eq_true rfl, Nat.le_of_ble_eq_true rfl⟩) (roP.S (av := [.int z]) (jP_sub (w2 := []) hP [] rfl) hK hN) rfl rfl hl.1 rfl (lv_room (Nat.le_of_ble_eq_true rfl)) dX3_isSourceInstruction_91 ⟨Nat.le_of_ble_eq_true rfl, Nat.le_of_ble_eq_true rfl⟩) ?_
        refine lv_if_eq (tgt := 101) hx hb dX3_isSourceInstruction_94 (by decide) (fun c_94 => ?_) (fun c_94 => ?_)
        · replace c_94 := jB_z.mp c_94
          refine lv_iconst (v := 0) hx hb dX3_isSourceInstruction_101 (by decide) ?_
          exact W.zret (ty := .boolean) (v := 0) hx hb hr rfl (fun t9 ht9 hW9 => ⟨jk_ret (show 0 = (jB (sI x y z)) from (jB_f (fun h => by have h := (sI_4 c_1).mp h; first | exact absurd h.1 (by assumption) | exact absurd h.2 (by assumption))).symm), ht9⟩) (fun q h => absurd h List.not_mem_nil) dX3_isSourceInstruction_102
        · replace c_94 := jB_nz.mp c_94
          refine lv_iconst (v := 1) hx hb dX3_isSourceInstruction_97 (by decide) ?_
          refine lv_goto (tgt := 102) hx hb dX3_isSourceInstruction_98 (by decide) ?_
          exact W.zret (ty := .boolean) (v := 1) hx hb hr rfl (fun t9 ht9 hW9 => ⟨jk_ret (show 1 = (jB (sI x y z)) from (jB_t ((sI_4 c_1).mpr ⟨by assumption, by assumption⟩)).symm), ht9⟩) (fun q h => absurd h List.not_mem_nil) dX3_isSourceInstruction_102
    · refine lv_tableIn (off := 57) (tgt := 58) hx hb dX3_isSourceInstruction_1 (by rw [c_1]; decide) (by rw [c_1]; decide) (by rw [c_1]; rfl) (by decide) ?_
      refine lv_iload_n hx hb dX3_isSourceInstruction_58 rfl (lv_at hl 1 rfl) ?_
      refine jr_i (va_runS (As := [.int y]) (rest := []) ⟨hx, hb, hml, hown, hts⟩ (c_X3_isRegister l D cA y) (va_cwS 1 hts gX3_isSourceInstruction_X3_isRegister rfl rfl rfl hv_X3_isRegister.2 ⟨Nat.le_of_ble_eq_true rfl, Nat.le_of_ble_eq_true rfl⟩) (roP.S (av := [.int y]) (jP_sub (w2 := []) hP [] rfl) hK hN) rfl rfl hl.1 rfl (lv_room (Nat.le_of_ble_eq_true rfl)) dX3_isSourceInstruction_59 ⟨Nat.le_of_ble_eq_true rfl, Nat.le_of_ble_eq_true rfl⟩) ?_
      exact W.zret (ty := .boolean) (v := (jB (jIn y 4))) hx hb hr jB_nar (fun t9 ht9 hW9 => ⟨jk_ret (show (jB (jIn y 4)) = (jB (sI x y z)) from jB_i (sI_158 (Or.inr (Or.inl c_1))).symm), ht9⟩) (fun q h => absurd h List.not_mem_nil) dX3_isSourceInstruction_62
    · refine lv_tableIn (off := 102) (tgt := 103) hx hb dX3_isSourceInstruction_1 (by rw [c_1]; decide) (by rw [c_1]; decide) (by rw [c_1]; rfl) (by decide) ?_
      refine lv_iload_n hx hb dX3_isSourceInstruction_103 rfl (lv_at hl 1 rfl) ?_
      refine jr_i (va_runS (As := [.int y]) (rest := []) ⟨hx, hb, hml, hown, hts⟩ (c_X3_isAddress l D cA y) (va_cwS 1 hts gX3_isSourceInstruction_X3_isAddress rfl rfl rfl hv_X3_isAddress.2 ⟨Nat.le_of_ble_eq_true rfl, Nat.le_of_ble_eq_true rfl⟩) (roP.S (av := [.int y]) (jP_sub (w2 := []) hP [] rfl) hK hN) rfl rfl hl.1 rfl (lv_room (Nat.le_of_ble_eq_true rfl)) dX3_isSourceInstruction_104 ⟨Nat.le_of_ble_eq_true rfl, Nat.le_of_ble_eq_true rfl⟩) ?_
      exact W.zret (ty := .boolean) (v := (jB (jIn y 24))) hx hb hr jB_nar (fun t9 ht9 hW9 => ⟨jk_ret (show (jB (jIn y 24)) = (jB (sI x y z)) from jB_i (sI_6 c_1).symm), ht9⟩) (fun q h => absurd h List.not_mem_nil) dX3_isSourceInstruction_107
    · refine lv_tableIn (off := 107) (tgt := 108) hx hb dX3_isSourceInstruction_1 (by rw [c_1]; decide) (by rw [c_1]; decide) (by rw [c_1]; rfl) (by decide) ?_
      refine lv_iload_n hx hb dX3_isSourceInstruction_108 rfl (lv_at hl 1 rfl) ?_
      refine jr_i (va_runS (As := [.int y]) (rest := []) ⟨hx, hb, hml, hown, hts⟩ (c_X3_isRegister l D cA y) (va_cwS 1 hts gX3_isSourceInstruction_X3_isRegister rfl rfl rfl hv_X3_isRegister.2 ⟨Nat.le_of_ble_eq_true rfl, Nat.le_of_ble_eq_true rfl⟩) (roP.S (av := [.int y]) (jP_sub (w2 := []) hP [] rfl) hK hN) rfl rfl hl.1 rfl (lv_room (Nat.le_of_ble_eq_true rfl)) dX3_isSourceInstruction_109 ⟨Nat.le_of_ble_eq_true rfl, Nat.le_of_ble_eq_true rfl⟩) ?_
      refine lv_if_eq (tgt := 126) hx hb dX3_isSourceInstruction_112 (by decide) (fun c_112 => ?_) (fun c_112 => ?_)
      · replace c_112 := jB_z.mp c_112
        refine lv_iconst (v := 0) hx hb dX3_isSourceInstruction_126 (by decide) ?_
        exact W.zret (ty := .boolean) (v := 0) hx hb hr rfl (fun t9 ht9 hW9 => ⟨jk_ret (show 0 = (jB (sI x y z)) from (jB_f (fun h => by have h := (sI_79 (Or.inl c_1)).mp h; first | exact absurd h.1 (by assumption) | exact absurd h.2 (by assumption))).symm), ht9⟩) (fun q h => absurd h List.not_mem_nil) dX3_isSourceInstruction_127
      · replace c_112 := jB_nz.mp c_112
        refine lv_iload_n hx hb dX3_isSourceInstruction_115 rfl (lv_at hl 2 rfl) ?_
        refine jr_i (va_runS (As := [.int z]) (rest := []) ⟨hx, hb, hml, hown, hts⟩ (c_X3_isAddress l D cA z) (va_cwS 1 hts gX3_isSourceInstruction_X3_isAddress rfl rfl rfl hv_X3_isAddress.2 ⟨Nat.le_of_ble_eq_true rfl, Nat.le_of_ble_eq_true rfl⟩) (roP.S (av := [.int z]) (jP_sub (w2 := []) hP [] rfl) hK hN) rfl rfl hl.1 rfl (lv_room (Nat.le_of_ble_eq_true rfl)) dX3_isSourceInstruction_116 ⟨Nat.le_of_ble_eq_true rfl, Nat.le_of_ble_eq_true rfl⟩) ?_
        refine lv_if_eq (tgt := 126) hx hb dX3_isSourceInstruction_119 (by decide) (fun c_119 => ?_) (fun c_119 => ?_)
        · replace c_119 := jB_z.mp c_119
          refine lv_iconst (v := 0) hx hb dX3_isSourceInstruction_126 (by decide) ?_
          exact W.zret (ty := .boolean) (v := 0) hx hb hr rfl (fun t9 ht9 hW9 => ⟨jk_ret (show 0 = (jB (sI x y z)) from (jB_f (fun h => by have h := (sI_79 (Or.inl c_1)).mp h; first | exact absurd h.1 (by assumption) | exact absurd h.2 (by assumption))).symm), ht9⟩) (fun q h => absurd h List.not_mem_nil) dX3_isSourceInstruction_127
        · replace c_119 := jB_nz.mp c_119
          refine lv_iconst (v := 1) hx hb dX3_isSourceInstruction_122 (by decide) ?_
          refine lv_goto (tgt := 127) hx hb dX3_isSourceInstruction_123 (by decide) ?_
          exact W.zret (ty := .boolean) (v := 1) hx hb hr rfl (fun t9 ht9 hW9 => ⟨jk_ret (show 1 = (jB (sI x y z)) from (jB_t ((sI_79 (Or.inl c_1)).mpr ⟨by assumption, by assumption⟩)).symm), ht9⟩) (fun q h => absurd h List.not_mem_nil) dX3_isSourceInstruction_127
    · refine lv_tableIn (off := 57) (tgt := 58) hx hb dX3_isSourceInstruction_1 (by rw [c_1]; decide) (by rw [c_1]; decide) (by rw [c_1]; rfl) (by decide) ?_
      refine lv_iload_n hx hb dX3_isSourceInstruction_58 rfl (lv_at hl 1 rfl) ?_
      refine jr_i (va_runS (As := [.int y]) (rest := []) ⟨hx, hb, hml, hown, hts⟩ (c_X3_isRegister l D cA y) (va_cwS 1 hts gX3_isSourceInstruction_X3_isRegister rfl rfl rfl hv_X3_isRegister.2 ⟨Nat.le_of_ble_eq_true rfl, Nat.le_of_ble_eq_true rfl⟩) (roP.S (av := [.int y]) (jP_sub (w2 := []) hP [] rfl) hK hN) rfl rfl hl.1 rfl (lv_room (Nat.le_of_ble_eq_true rfl)) dX3_isSourceInstruction_59 ⟨Nat.le_of_ble_eq_true rfl, Nat.le_of_ble_eq_true rfl⟩) ?_
      exact W.zret (ty := .boolean) (v := (jB (jIn y 4))) hx hb hr jB_nar (fun t9 ht9 hW9 => ⟨jk_ret (show (jB (jIn y 4)) = (jB (sI x y z)) from jB_i (sI_158 (Or.inr (Or.inr c_1))).symm), ht9⟩) (fun q h => absurd h List.not_mem_nil) dX3_isSourceInstruction_62
    · refine lv_tableIn (off := 107) (tgt := 108) hx hb dX3_isSourceInstruction_1 (by rw [c_1]; decide) (by rw [c_1]; decide) (by rw [c_1]; rfl) (by decide) ?_
      refine lv_iload_n hx hb dX3_isSourceInstruction_108 rfl (lv_at hl 1 rfl) ?_
      refine jr_i (va_runS (As := [.int y]) (rest := []) ⟨hx, hb, hml, hown, hts⟩ (c_X3_isRegister l D cA y) (va_cwS 1 hts gX3_isSourceInstruction_X3_isRegister rfl rfl rfl hv_X3_isRegister.2 ⟨Nat.le_of_ble_eq_true rfl, Nat.le_of_ble_eq_true rfl⟩) (roP.S (av := [.int y]) (jP_sub (w2 := []) hP [] rfl) hK hN) rfl rfl hl.1 rfl (lv_room (Nat.le_of_ble_eq_true rfl)) dX3_isSourceInstruction_109 ⟨Nat.le_of_ble_eq_true rfl, Nat.le_of_ble_eq_true rfl⟩) ?_
      refine lv_if_eq (tgt := 126) hx hb dX3_isSourceInstruction_112 (by decide) (fun c_112 => ?_) (fun c_112 => ?_)
      · replace c_112 := jB_z.mp c_112
        refine lv_iconst (v := 0) hx hb dX3_isSourceInstruction_126 (by decide) ?_
        exact W.zret (ty := .boolean) (v := 0) hx hb hr rfl (fun t9 ht9 hW9 => ⟨jk_ret (show 0 = (jB (sI x y z)) from (jB_f (fun h => by have h := (sI_79 (Or.inr c_1)).mp h; first | exact absurd h.1 (by assumption) | exact absurd h.2 (by assumption))).symm), ht9⟩) (fun q h => absurd h List.not_mem_nil) dX3_isSourceInstruction_127
      · replace c_112 := jB_nz.mp c_112
        refine lv_iload_n hx hb dX3_isSourceInstruction_115 rfl (lv_at hl 2 rfl) ?_
        refine jr_i (va_runS (As := [.int z]) (rest := []) ⟨hx, hb, hml, hown, hts⟩ (c_X3_isAddress l D cA z) (va_cwS 1 hts gX3_isSourceInstruction_X3_isAddress rfl rfl rfl hv_X3_isAddress.2 ⟨Nat.le_of_ble_eq_true rfl, Nat.le_of_ble_eq_true rfl⟩) (roP.S (av := [.int z]) (jP_sub (w2 := []) hP [] rfl) hK hN) rfl rfl hl.1 rfl (lv_room (Nat.le_of_ble_eq_true rfl)) dX3_isSourceInstruction_116 ⟨Nat.le_of_ble_eq_true rfl, Nat.le_of_ble_eq_true rfl⟩) ?_
        refine lv_if_eq (tgt := 126) hx hb dX3_isSourceInstruction_119 (by decide) (fun c_119 => ?_) (fun c_119 => ?_)
        · replace c_119 := jB_z.mp c_119
          refine lv_iconst (v := 0) hx hb dX3_isSourceInstruction_126 (by decide) ?_
          exact W.zret (ty := .boolean) (v := 0) hx hb hr rfl (fun t9 ht9 hW9 => ⟨jk_ret (show 0 = (jB (sI x y z)) from (jB_f (fun h => by have h := (sI_79 (Or.inr c_1)).mp h; first | exact absurd h.1 (by assumption) | exact absurd h.2 (by assumption))).symm), ht9⟩) (fun q h => absurd h List.not_mem_nil) dX3_isSourceInstruction_127
        · replace c_119 := jB_nz.mp c_119
          refine lv_iconst (v := 1) hx hb dX3_isSourceInstruction_122 (by decide) ?_
          refine lv_goto (tgt := 127) hx hb dX3_isSourceInstruction_123 (by decide) ?_
          exact W.zret (ty := .boolean) (v := 1) hx hb hr rfl (fun t9 ht9 hW9 => ⟨jk_ret (show 1 = (jB (sI x y z)) from (jB_t ((sI_79 (Or.inr c_1)).mpr ⟨by assumption, by assumption⟩)).symm), ht9⟩) (fun q h => absurd h List.not_mem_nil) dX3_isSourceInstruction_127
  · refine lv_tableOut (tgt := 128) hx hb dX3_isSourceInstruction_1 c_1 (by decide) ?_
    refine lv_iconst (v := 0) hx hb dX3_isSourceInstruction_128 (by decide) ?_
    exact W.zret (ty := .boolean) (v := 0) hx hb hr rfl (fun t9 ht9 hW9 => ⟨jk_ret (show 0 = (jB (sI x y z)) from (jB_f (sI_out c_1)).symm), ht9⟩) (fun q h => absurd h List.not_mem_nil) dX3_isSourceInstruction_129
set_option maxHeartbeats 4000000 in
set_option maxRecDepth 100000 in
theorem c_X3_isGuarded (l : Launch) (D : va_G) (cA : ClassId) (h0 : Nat) (p1 : Nat) (p2 : Nat) (e0 : Nat) (l0 : Nat) (m0 : Nat) (b2 : Nat) (k2 : Nat) (hk2 : k2 ≤ 72) : Met l yX3_isGuarded wsX3_isGuarded ({ frames := 1, cells := 0, slots := 0, locals := 20 }) (roP D cA [.ref h0] [(h0, .inr (3, [.ref p1, .ref p2, .ref e0, .ref l0, .ref m0])), (p2, .inr (2, [.ref b2, .int (nI 72), .int (nI k2)]))]) (QcRead (jB (0 < k2))) 0 0 (fun _ => False) := by
  refine Met.ofW (cc := cX3_isGuarded) (maxL := 1) (ret := (some .boolean)) (by decide) rfl ?_
  intro p e s m args below meth c s₁ B hml hv
  obtain ⟨rfl, hP, hK, hN⟩ := hv
  have hx := B.exec
  have hb := B.bytes
  have hr := B.returns
  have hts := atoms_spec (ws := wsX3_isGuarded) B.pre
  have hown : s.vm.findClass RX3 = some m.cls := findClass_of_methodNamed B.named
  have hlocks := B.notSynchronized
  have hl := lv_entry ([.ref h0]) (n := 1) (Nat.le_of_ble_eq_true rfl)
  rw [lg_entry_eq]
  generalize (lg_sl ([.ref h0]) ++ List.replicate (1 - (lg_sl ([.ref h0])).length) Slot.unset).toArray = ls at hl ⊢
  have hl : lv_has ls 1 [(0, .ref h0)] := hl
  refine lv_aload_n hx hb dX3_isGuarded_0 rfl (lv_at hl 0 rfl) ?_
  refine va_get (D := D) (ci := 3) (v := .ref p2) (C := RX3) (T := TX3) (N := 5) hx hb hts iw_X3_isGuarded_X3 hown hK hP 0 rfl rfl 1 (by decide) (hts (.fieldLink RX3 18 "JumpGuard" "guardedProgram" "LJumpGuard$Program;") (List.mem_of_getElem? (l := wsX3_isGuarded) (i := 1) rfl)) (fun _ h9 => h9) rfl dX3_isGuarded_1 ?_
  refine jr_i (va_runV (As := []) (rest := []) ⟨hx, hb, hml, hown, hts⟩ (c_X2_length l D cA p2 b2 72 k2) (cwV 0 hts gX3_isGuarded_X2_length rfl rfl rfl hv_X2_length ⟨Nat.le_of_ble_eq_true rfl, Nat.le_of_ble_eq_true rfl⟩) (roP.V (va_recv hK hP (ci := 2) (q0 := 1) rfl rfl) (jP_sub (w2 := [(p2, .inr (2, [.ref b2, .int (nI 72), .int (nI k2)]))]) hP [1] rfl) hK hN) rfl rfl hl.1 rfl (lv_room (Nat.le_of_ble_eq_true rfl)) dX3_isGuarded_4 ⟨Nat.le_of_ble_eq_true rfl, Nat.le_of_ble_eq_true rfl⟩) ?_
  refine lv_if_le (tgt := 14) hx hb dX3_isGuarded_7 (by decide) (fun c_7 => ?_) (fun c_7 => ?_)
  · refine lv_iconst (v := 0) hx hb dX3_isGuarded_14 (by decide) ?_
    exact W.zret (ty := .boolean) (v := 0) hx hb hr rfl (fun t9 ht9 hW9 => ⟨jk_ret (show 0 = (jB (0 < k2)) from (jB_f (fun h => absurd c_7 (nI_nle h (by omega)))).symm), ht9⟩) (fun q h => absurd h List.not_mem_nil) dX3_isGuarded_15
  · refine lv_iconst (v := 1) hx hb dX3_isGuarded_10 (by decide) ?_
    refine lv_goto (tgt := 15) hx hb dX3_isGuarded_11 (by decide) ?_
    exact W.zret (ty := .boolean) (v := 1) hx hb hr rfl (fun t9 ht9 hW9 => ⟨jk_ret (show 1 = (jB (0 < k2)) from (jB_t (gua_pos c_7)).symm), ht9⟩) (fun q h => absurd h List.not_mem_nil) dX3_isGuarded_15
set_option maxHeartbeats 4000000 in
set_option maxRecDepth 100000 in
theorem c_X3_dropGuarded (l : Launch) (D : va_G) (cA : ClassId) (sz : Nat) (h0 : Nat) (p1 : Nat) (p2 : Nat) (e0 : Nat) (l0 : Nat) (m0 : Nat) (b2 : Nat) (k2 : Nat) (r0 : Nat) (c0 : Nat) (s0 : Nat) (p0 : Nat) (pc : Int32) (st : Int32) (w : Nat) : Met l yX3_dropGuarded wsX3_dropGuarded ({ frames := 1, cells := 0, slots := 0, locals := 20 }) (rwP D cA [.ref h0] sz [(h0, .inr (3, [.ref p1, .ref p2, .ref e0, .ref l0, .ref m0])), (p2, .inr (2, [.ref b2, .int (nI 72), .int (nI k2)])), (m0, .inr (1, [.ref r0, .ref c0, .ref s0, .ref p0, .int pc, .int st, .int (nI w)]))]) (rwV D (va_A [(h0, .inr (3, [.ref p1, .ref p2, .ref e0, .ref l0, .ref m0])), (p2, .inr (2, [.ref b2, .int (nI 72), .int (nI k2)])), (m0, .inr (1, [.ref r0, .ref c0, .ref s0, .ref p0, .int pc, .int st, .int (nI w)]))] sz) [(h0, .inr (3, [.ref p1, .ref p2, .ref e0, .ref l0, .ref m0])), (p2, .inr (2, [.ref b2, .int (nI 72), .int (nI 0)])), (m0, .inr (1, [.ref r0, .ref c0, .ref s0, .ref p0, .int pc, .int (-1), .int (nI w)]))]) 0 0 (va_A [(h0, .inr (3, [.ref p1, .ref p2, .ref e0, .ref l0, .ref m0])), (p2, .inr (2, [.ref b2, .int (nI 72), .int (nI k2)])), (m0, .inr (1, [.ref r0, .ref c0, .ref s0, .ref p0, .int pc, .int st, .int (nI w)]))] sz) := by
  refine Met.ofW (cc := cX3_dropGuarded) (maxL := 1) (ret := none) (by decide) rfl ?_
  intro p e s m args below meth c s₁ B hml hv
  obtain ⟨rfl, hsz, hP, hK, hN, hD0⟩ := hv
  have hx := B.exec
  have hb := B.bytes
  have hr := B.returns
  have hts := atoms_spec (ws := wsX3_dropGuarded) B.pre
  have hown : s.vm.findClass RX3 = some m.cls := findClass_of_methodNamed B.named
  have hlocks := B.notSynchronized
  subst hsz
  have hD := hD0.self (sz := s.heap.size)
  generalize hAe : va_A [(h0, .inr (3, [.ref p1, .ref p2, .ref e0, .ref l0, .ref m0])), (p2, .inr (2, [.ref b2, .int (nI 72), .int (nI k2)])), (m0, .inr (1, [.ref r0, .ref c0, .ref s0, .ref p0, .int pc, .int st, .int (nI w)]))] s.heap.size = A at hD ⊢
  have hA : ∀ q : Nat, s.heap.size ≤ q → A q := fun q h => by rw [← hAe]; exact Or.inr h
  have hS : va_S A s.heap s.heap [] := va_S.rf
  have hl := lv_entry ([.ref h0]) (n := 1) (Nat.le_of_ble_eq_true rfl)
  rw [lg_entry_eq]
  generalize (lg_sl ([.ref h0]) ++ List.replicate (1 - (lg_sl ([.ref h0])).length) Slot.unset).toArray = ls at hl ⊢
  have hl : lv_has ls 1 [(0, .ref h0)] := hl
  refine lv_aload_n hx hb dX3_dropGuarded_0 rfl (lv_at hl 0 rfl) ?_
  refine va_get (D := D) (ci := 3) (v := .ref p2) (C := RX3) (T := TX3) (N := 5) hx hb hts iw_X3_dropGuarded_X3 hown hK hP 0 rfl rfl 1 (by decide) (hts (.fieldLink RX3 18 "JumpGuard" "guardedProgram" "LJumpGuard$Program;") (List.mem_of_getElem? (l := wsX3_dropGuarded) (i := 1) rfl)) (fun _ h9 => h9) rfl dX3_dropGuarded_1 ?_
  refine jw_v (va_runV (As := []) (rest := []) ⟨hx, hb, hml, hown, hts⟩ (c_X2_clear l D cA s.heap.size p2 b2 72 k2) (cwV 0 hts gX3_dropGuarded_X2_clear rfl rfl rfl hv_X2_clear ⟨Nat.le_of_ble_eq_true rfl, Nat.le_of_ble_eq_true rfl⟩) (rwP.V (wc := [(p2, .inr (2, [.ref b2, .int (nI 72), .int (nI k2)]))]) (va_recv hK hP (ci := 2) (q0 := 1) rfl rfl) hP hD hK hN [1] (by decide) rfl) rfl rfl hl.1 rfl (lv_room (Nat.le_of_ble_eq_true rfl)) dX3_dropGuarded_4 ⟨Nat.le_of_ble_eq_true rfl, Nat.le_of_ble_eq_true rfl⟩) hP hD hS hA [1] [0, 2] [0, 2, 1] (wr := [(h0, .inr (3, [.ref p1, .ref p2, .ref e0, .ref l0, .ref m0])), (m0, .inr (1, [.ref r0, .ref c0, .ref s0, .ref p0, .int pc, .int st, .int (nI w)]))]) (w2 := [(h0, .inr (3, [.ref p1, .ref p2, .ref e0, .ref l0, .ref m0])), (p2, .inr (2, [.ref b2, .int (nI 72), .int (nI 0)])), (m0, .inr (1, [.ref r0, .ref c0, .ref s0, .ref p0, .int pc, .int st, .int (nI w)]))]) rfl rfl (by decide) (by decide) (by decide) rfl (fun H locs hP hD hS => ?_)
  refine lv_aload_n hx hb dX3_dropGuarded_7 rfl (lv_at hl 0 rfl) ?_
  refine va_get (D := D) (ci := 3) (v := .ref m0) (C := RX3) (T := TX3) (N := 5) hx hb hts iw_X3_dropGuarded_X3 hown hK hP 0 rfl rfl 4 (by decide) (hts (.fieldLink RX3 35 "JumpGuard" "machine" "LJumpGuard$Machine;") (List.mem_of_getElem? (l := wsX3_dropGuarded) (i := 2) rfl)) (fun _ h9 => h9) rfl dX3_dropGuarded_8 ?_
  refine jw_v (va_runV (As := []) (rest := []) ⟨hx, hb, hml, hown, hts⟩ (c_X1_stop l D cA H.size m0 r0 c0 s0 p0 pc st w) (cwV 0 hts gX3_dropGuarded_X1_stop rfl rfl rfl hv_X1_stop ⟨Nat.le_of_ble_eq_true rfl, Nat.le_of_ble_eq_true rfl⟩) (rwP.V (wc := [(m0, .inr (1, [.ref r0, .ref c0, .ref s0, .ref p0, .int pc, .int st, .int (nI w)]))]) (va_recv hK hP (ci := 1) (q0 := 2) rfl rfl) hP hD hK hN [2] (by decide) rfl) rfl rfl hl.1 rfl (lv_room (Nat.le_of_ble_eq_true rfl)) dX3_dropGuarded_11 ⟨Nat.le_of_ble_eq_true rfl, Nat.le_of_ble_eq_true rfl⟩) hP hD hS hA [2] [0, 1] [0, 1, 2] (wr := [(h0, .inr (3, [.ref p1, .ref p2, .ref e0, .ref l0, .ref m0])), (p2, .inr (2, [.ref b2, .int (nI 72), .int (nI 0)]))]) (w2 := [(h0, .inr (3, [.ref p1, .ref p2, .ref e0, .ref l0, .ref m0])), (p2, .inr (2, [.ref b2, .int (nI 72), .int (nI 0)])), (m0, .inr (1, [.ref r0, .ref c0, .ref s0, .ref p0, .int pc, .int (-1), .int (nI w)]))]) rfl rfl (by decide) (by decide) (by decide) rfl (fun H locs hP hD hS => ?_)
  obtain ⟨hP9, hD9⟩ := jk_end (w2 := [(h0, .inr (3, [.ref p1, .ref p2, .ref e0, .ref l0, .ref m0])), (p2, .inr (2, [.ref b2, .int (nI 72), .int (nI 0)])), (m0, .inr (1, [.ref r0, .ref c0, .ref s0, .ref p0, .int pc, .int (-1), .int (nI w)]))]) hP hD [0, 1, 2] (by decide) rfl
  exact W.vret hx hb hr (fun t9 ht9 hW9 => ⟨⟨(), rfl, trivial, by rw [ht9]; exact hP9, hD9⟩, hS.F ht9⟩) hS.2.2 dX3_dropGuarded_14
set_option maxHeartbeats 4000000 in
set_option maxRecDepth 100000 in
theorem c_X3_hasItsAddress (l : Launch) (D : va_G) (cA : ClassId) (h0 : Nat) (p1 : Nat) (p2 : Nat) (e0 : Nat) (l0 : Nat) (m0 : Nat) (b1 : Nat) (k1 : Nat) (f1 : Nat → Int32) (i : Nat) (hk1 : k1 ≤ 24) (hi : i < k1) : Met l yX3_hasItsAddress wsX3_hasItsAddress ({ frames := 2, cells := 0, slots := 0, locals := 43 }) (roP D cA [.ref h0, .int (nI i)] [(h0, .inr (3, [.ref p1, .ref p2, .ref e0, .ref l0, .ref m0])), (p1, .inr (2, [.ref b1, .int (nI 24), .int (nI k1)])), (b1, .inl (cA, 72, .inl f1))]) (QcRead (jB (hA f1 k1 i))) 0 0 (fun _ => False) := by
  refine Met.ofW (cc := cX3_hasItsAddress) (maxL := 3) (ret := (some .boolean)) (by decide) rfl ?_
  intro p e s m args below meth c s₁ B hml hv
  obtain ⟨rfl, hP, hK, hN⟩ := hv
  have hx := B.exec
  have hb := B.bytes
  have hr := B.returns
  have hts := atoms_spec (ws := wsX3_hasItsAddress) B.pre
  have hown : s.vm.findClass RX3 = some m.cls := findClass_of_methodNamed B.named
  have hlocks := B.notSynchronized
  have hl := lv_entry ([.ref h0, .int (nI i)]) (n := 3) (Nat.le_of_ble_eq_true rfl)
  rw [lg_entry_eq]
  generalize (lg_sl ([.ref h0, .int (nI i)]) ++ List.replicate (3 - (lg_sl ([.ref h0, .int (nI i)])).length) Slot.unset).toArray = ls at hl ⊢
  have hl : lv_has ls 3 [(0, .ref h0), (1, .int (nI i))] := hl
  refine lv_aload_n hx hb dX3_hasItsAddress_0 rfl (lv_at hl 0 rfl) ?_
  refine va_get (D := D) (ci := 3) (v := .ref p1) (C := RX3) (T := TX3) (N := 5) hx hb hts iw_X3_hasItsAddress_X3 hown hK hP 0 rfl rfl 0 (by decide) (hts (.fieldLink RX3 14 "JumpGuard" "sourceProgram" "LJumpGuard$Program;") (List.mem_of_getElem? (l := wsX3_hasItsAddress) (i := 1) rfl)) (fun _ h9 => h9) rfl dX3_hasItsAddress_1 ?_
  refine lv_iload_n hx hb dX3_hasItsAddress_4 rfl (lv_at hl 1 rfl) ?_
  refine lv_iconst (v := 0) hx hb dX3_hasItsAddress_5 (by decide) ?_
  refine jr_i (va_runV (As := [.int (nI i), .int 0]) (rest := []) ⟨hx, hb, hml, hown, hts⟩ (c_X2_get l D cA p1 b1 24 k1 72 f1 (nI i) 0 (by omega) (by omega)) (cwV 2 hts gX3_hasItsAddress_X2_get rfl rfl rfl hv_X2_get ⟨Nat.le_of_ble_eq_true rfl, Nat.le_of_ble_eq_true rfl⟩) (roP.V (va_recv hK hP (ci := 2) (q0 := 1) rfl rfl) (jP_sub (w2 := [(p1, .inr (2, [.ref b1, .int (nI 24), .int (nI k1)])), (b1, .inl (cA, 72, .inl f1))]) hP [1, 2] rfl) hK hN) rfl rfl hl.1 rfl (lv_room (Nat.le_of_ble_eq_true rfl)) dX3_hasItsAddress_6 ⟨Nat.le_of_ble_eq_true rfl, Nat.le_of_ble_eq_true rfl⟩) ?_
  refine jk_top (show (pGet f1 k1 (nI i) 0) = (f1 (i * 3)) from pGet_at (q := 0) hi (by decide) (by omega)) ?_
  refine lv_istore_n (lv' := [(2, .int (f1 (i * 3))), (0, .ref h0), (1, .int (nI i))]) hx hb dX3_hasItsAddress_9 rfl hl (by decide) rfl (fun ls hl => ?_)
  refine lv_iload_n hx hb dX3_hasItsAddress_10 rfl (lv_at hl 0 rfl) ?_
  refine lv_bipush (v := 6) hx hb dX3_hasItsAddress_11 (by decide) ?_
  refine lv_icmp_ne (tgt := 33) hx hb dX3_hasItsAddress_13 (by decide) (fun c_13 => ?_) (fun c_13 => ?_)
  · refine lv_iload_n hx hb dX3_hasItsAddress_33 rfl (lv_at hl 0 rfl) ?_
    refine jr_i (va_runS (As := [.int (f1 (i * 3))]) (rest := []) ⟨hx, hb, hml, hown, hts⟩ (c_X3_holdsAddressInB l D cA (f1 (i * 3))) (va_cwS 1 hts gX3_hasItsAddress_X3_holdsAddressInB rfl rfl rfl hv_X3_holdsAddressInB.2 ⟨Nat.le_of_ble_eq_true rfl, Nat.le_of_ble_eq_true rfl⟩) (roP.S (av := [.int (f1 (i * 3))]) (jP_sub (w2 := []) hP [] rfl) hK hN) rfl rfl hl.1 rfl (lv_room (Nat.le_of_ble_eq_true rfl)) dX3_hasItsAddress_34 ⟨Nat.le_of_ble_eq_true rfl, Nat.le_of_ble_eq_true rfl⟩) ?_
    refine lv_if_eq (tgt := 59) hx hb dX3_hasItsAddress_37 (by decide) (fun c_37 => ?_) (fun c_37 => ?_)
    · replace c_37 := jB_z.mp c_37
      refine lv_iconst (v := 1) hx hb dX3_hasItsAddress_59 (by decide) ?_
      refine lv_goto (tgt := 64) hx hb dX3_hasItsAddress_60 (by decide) ?_
      exact W.zret (ty := .boolean) (v := 1) hx hb hr rfl (fun t9 ht9 hW9 => ⟨jk_ret (show 1 = (jB (hA f1 k1 i)) from (jB_t ⟨fun e => absurd e c_13, fun e => absurd e c_37⟩).symm), ht9⟩) (fun q h => absurd h List.not_mem_nil) dX3_hasItsAddress_64
    · replace c_37 := jB_nz.mp c_37
      refine lv_aload_n hx hb dX3_hasItsAddress_40 rfl (lv_at hl 1 rfl) ?_
      refine va_get (D := D) (ci := 3) (v := .ref p1) (C := RX3) (T := TX3) (N := 5) hx hb hts iw_X3_hasItsAddress_X3 hown hK hP 0 rfl rfl 0 (by decide) (hts (.fieldLink RX3 14 "JumpGuard" "sourceProgram" "LJumpGuard$Program;") (List.mem_of_getElem? (l := wsX3_hasItsAddress) (i := 1) rfl)) (fun _ h9 => h9) rfl dX3_hasItsAddress_41 ?_
      refine lv_aload_n hx hb dX3_hasItsAddress_44 rfl (lv_at hl 1 rfl) ?_
      refine va_get (D := D) (ci := 3) (v := .ref p1) (C := RX3) (T := TX3) (N := 5) hx hb hts iw_X3_hasItsAddress_X3 hown hK hP 0 rfl rfl 0 (by decide) (hts (.fieldLink RX3 14 "JumpGuard" "sourceProgram" "LJumpGuard$Program;") (List.mem_of_getElem? (l := wsX3_hasItsAddress) (i := 1) rfl)) (fun _ h9 => h9) rfl dX3_hasItsAddress_45 ?_
      refine lv_iload_n hx hb dX3_hasItsAddress_48 rfl (lv_at hl 2 rfl) ?_
      refine lv_iconst (v := 2) hx hb dX3_hasItsAddress_49 (by decide) ?_
      refine jr_i (va_runV (As := [.int (nI i), .int 2]) (rest := [.ref p1]) ⟨hx, hb, hml, hown, hts⟩ (c_X2_get l D cA p1 b1 24 k1 72 f1 (nI i) 2 (by omega) (by omega)) (cwV 2 hts gX3_hasItsAddress_X2_get rfl rfl rfl hv_X2_get ⟨Nat.le_of_ble_eq_true rfl, Nat.le_of_ble_eq_true rfl⟩) (roP.V (va_recv hK hP (ci := 2) (q0 := 1) rfl rfl) (jP_sub (w2 := [(p1, .inr (2, [.ref b1, .int (nI 24), .int (nI k1)])), (b1, .inl (cA, 72, .inl f1))]) hP [1, 2] rfl) hK hN) rfl rfl hl.1 rfl (lv_room (Nat.le_of_ble_eq_true rfl)) dX3_hasItsAddress_50 ⟨Nat.le_of_ble_eq_true rfl, Nat.le_of_ble_eq_true rfl⟩) ?_
      refine jk_top (show (pGet f1 k1 (nI i) 2) = (f1 (i * 3 + 2)) from pGet_at (q := 2) hi (by decide) (by omega)) ?_
      refine jr_i (va_runV (As := [.int (f1 (i * 3 + 2))]) (rest := []) ⟨hx, hb, hml, hown, hts⟩ (c_X2_has l D cA p1 b1 24 k1 (f1 (i * 3 + 2))) (cwV 1 hts gX3_hasItsAddress_X2_has rfl rfl rfl hv_X2_has ⟨Nat.le_of_ble_eq_true rfl, Nat.le_of_ble_eq_true rfl⟩) (roP.V (va_recv hK hP (ci := 2) (q0 := 1) rfl rfl) (jP_sub (w2 := [(p1, .inr (2, [.ref b1, .int (nI 24), .int (nI k1)]))]) hP [1] rfl) hK hN) rfl rfl hl.1 rfl (lv_room (Nat.le_of_ble_eq_true rfl)) dX3_hasItsAddress_53 ⟨Nat.le_of_ble_eq_true rfl, Nat.le_of_ble_eq_true rfl⟩) ?_
      refine lv_if_eq (tgt := 63) hx hb dX3_hasItsAddress_56 (by decide) (fun c_56 => ?_) (fun c_56 => ?_)
      · replace c_56 := jB_z.mp c_56
        refine lv_iconst (v := 0) hx hb dX3_hasItsAddress_63 (by decide) ?_
        exact W.zret (ty := .boolean) (v := 0) hx hb hr rfl (fun t9 ht9 hW9 => ⟨jk_ret (show 0 = (jB (hA f1 k1 i)) from (jB_f (fun h => c_56 ((hA_79 c_13 c_37).mpr h))).symm), ht9⟩) (fun q h => absurd h List.not_mem_nil) dX3_hasItsAddress_64
      · replace c_56 := jB_nz.mp c_56
        refine lv_iconst (v := 1) hx hb dX3_hasItsAddress_59 (by decide) ?_
        refine lv_goto (tgt := 64) hx hb dX3_hasItsAddress_60 (by decide) ?_
        exact W.zret (ty := .boolean) (v := 1) hx hb hr rfl (fun t9 ht9 hW9 => ⟨jk_ret (show 1 = (jB (hA f1 k1 i)) from (jB_t ((hA_79 c_13 c_37).mp c_56)).symm), ht9⟩) (fun q h => absurd h List.not_mem_nil) dX3_hasItsAddress_64
  · refine lv_aload_n hx hb dX3_hasItsAddress_16 rfl (lv_at hl 1 rfl) ?_
    refine va_get (D := D) (ci := 3) (v := .ref p1) (C := RX3) (T := TX3) (N := 5) hx hb hts iw_X3_hasItsAddress_X3 hown hK hP 0 rfl rfl 0 (by decide) (hts (.fieldLink RX3 14 "JumpGuard" "sourceProgram" "LJumpGuard$Program;") (List.mem_of_getElem? (l := wsX3_hasItsAddress) (i := 1) rfl)) (fun _ h9 => h9) rfl dX3_hasItsAddress_17 ?_
    refine lv_aload_n hx hb dX3_hasItsAddress_20 rfl (lv_at hl 1 rfl) ?_
    refine va_get (D := D) (ci := 3) (v := .ref p1) (C := RX3) (T := TX3) (N := 5) hx hb hts iw_X3_hasItsAddress_X3 hown hK hP 0 rfl rfl 0 (by decide) (hts (.fieldLink RX3 14 "JumpGuard" "sourceProgram" "LJumpGuard$Program;") (List.mem_of_getElem? (l := wsX3_hasItsAddress) (i := 1) rfl)) (fun _ h9 => h9) rfl dX3_hasItsAddress_21 ?_
    refine lv_iload_n hx hb dX3_hasItsAddress_24 rfl (lv_at hl 2 rfl) ?_
    refine lv_iconst (v := 1) hx hb dX3_hasItsAddress_25 (by decide) ?_
    refine jr_i (va_runV (As := [.int (nI i), .int 1]) (rest := [.ref p1]) ⟨hx, hb, hml, hown, hts⟩ (c_X2_get l D cA p1 b1 24 k1 72 f1 (nI i) 1 (by omega) (by omega)) (cwV 2 hts gX3_hasItsAddress_X2_get rfl rfl rfl hv_X2_get ⟨Nat.le_of_ble_eq_true rfl, Nat.le_of_ble_eq_true rfl⟩) (roP.V (va_recv hK hP (ci := 2) (q0 := 1) rfl rfl) (jP_sub (w2 := [(p1, .inr (2, [.ref b1, .int (nI 24), .int (nI k1)])), (b1, .inl (cA, 72, .inl f1))]) hP [1, 2] rfl) hK hN) rfl rfl hl.1 rfl (lv_room (Nat.le_of_ble_eq_true rfl)) dX3_hasItsAddress_26 ⟨Nat.le_of_ble_eq_true rfl, Nat.le_of_ble_eq_true rfl⟩) ?_
    refine jk_top (show (pGet f1 k1 (nI i) 1) = (f1 (i * 3 + 1)) from pGet_at (q := 1) hi (by decide) (by omega)) ?_
    refine jr_i (va_runV (As := [.int (f1 (i * 3 + 1))]) (rest := []) ⟨hx, hb, hml, hown, hts⟩ (c_X2_has l D cA p1 b1 24 k1 (f1 (i * 3 + 1))) (cwV 1 hts gX3_hasItsAddress_X2_has rfl rfl rfl hv_X2_has ⟨Nat.le_of_ble_eq_true rfl, Nat.le_of_ble_eq_true rfl⟩) (roP.V (va_recv hK hP (ci := 2) (q0 := 1) rfl rfl) (jP_sub (w2 := [(p1, .inr (2, [.ref b1, .int (nI 24), .int (nI k1)]))]) hP [1] rfl) hK hN) rfl rfl hl.1 rfl (lv_room (Nat.le_of_ble_eq_true rfl)) dX3_hasItsAddress_29 ⟨Nat.le_of_ble_eq_true rfl, Nat.le_of_ble_eq_true rfl⟩) ?_
    exact W.zret (ty := .boolean) (v := (jB (jIn (f1 (i * 3 + 1)) (nI k1)))) hx hb hr jB_nar (fun t9 ht9 hW9 => ⟨jk_ret (show (jB (jIn (f1 (i * 3 + 1)) (nI k1))) = (jB (hA f1 k1 i)) from jB_i (hA_6 c_13)), ht9⟩) (fun q h => absurd h List.not_mem_nil) dX3_hasItsAddress_32
set_option maxHeartbeats 4000000 in
set_option maxRecDepth 100000 in
theorem c_X3_isClosed (l : Launch) (D : va_G) (cA : ClassId) (h0 : Nat) (p1 : Nat) (p2 : Nat) (e0 : Nat) (l0 : Nat) (m0 : Nat) (b1 : Nat) (k1 : Nat) (f1 : Nat → Int32) (hk1 : k1 ≤ 24) : Met l yX3_isClosed wsX3_isClosed ({ frames := 3, cells := 0, slots := 0, locals := 65 }) (roP D cA [.ref h0] [(h0, .inr (3, [.ref p1, .ref p2, .ref e0, .ref l0, .ref m0])), (p1, .inr (2, [.ref b1, .int (nI 24), .int (nI k1)])), (b1, .inl (cA, 72, .inl f1))]) (QcRead (jB (clO f1 k1))) 0 0 (fun _ => False) := by
  refine Met.ofW (cc := cX3_isClosed) (maxL := 3) (ret := (some .boolean)) (by decide) rfl ?_
  intro p e s m args below meth c s₁ B hml hv
  obtain ⟨rfl, hP, hK, hN⟩ := hv
  have hx := B.exec
  have hb := B.bytes
  have hr := B.returns
  have hts := atoms_spec (ws := wsX3_isClosed) B.pre
  have hown : s.vm.findClass RX3 = some m.cls := findClass_of_methodNamed B.named
  have hlocks := B.notSynchronized
  have hl := lv_entry ([.ref h0]) (n := 3) (Nat.le_of_ble_eq_true rfl)
  rw [lg_entry_eq]
  generalize (lg_sl ([.ref h0]) ++ List.replicate (3 - (lg_sl ([.ref h0])).length) Slot.unset).toArray = ls at hl ⊢
  have hl : lv_has ls 3 [(0, .ref h0)] := hl
  refine lv_aload_n hx hb dX3_isClosed_0 rfl (lv_at hl 0 rfl) ?_
  refine va_get (D := D) (ci := 3) (v := .ref p1) (C := RX3) (T := TX3) (N := 5) hx hb hts iw_X3_isClosed_X3 hown hK hP 0 rfl rfl 0 (by decide) (hts (.fieldLink RX3 14 "JumpGuard" "sourceProgram" "LJumpGuard$Program;") (List.mem_of_getElem? (l := wsX3_isClosed) (i := 1) rfl)) (fun _ h9 => h9) rfl dX3_isClosed_1 ?_
  refine lv_aload_n hx hb dX3_isClosed_4 rfl (lv_at hl 0 rfl) ?_
  refine va_get (D := D) (ci := 3) (v := .ref p1) (C := RX3) (T := TX3) (N := 5) hx hb hts iw_X3_isClosed_X3 hown hK hP 0 rfl rfl 0 (by decide) (hts (.fieldLink RX3 14 "JumpGuard" "sourceProgram" "LJumpGuard$Program;") (List.mem_of_getElem? (l := wsX3_isClosed) (i := 1) rfl)) (fun _ h9 => h9) rfl dX3_isClosed_5 ?_
  refine jr_i (va_runV (As := []) (rest := [.ref p1]) ⟨hx, hb, hml, hown, hts⟩ (c_X2_length l D cA p1 b1 24 k1) (cwV 0 hts gX3_isClosed_X2_length rfl rfl rfl hv_X2_length ⟨Nat.le_of_ble_eq_true rfl, Nat.le_of_ble_eq_true rfl⟩) (roP.V (va_recv hK hP (ci := 2) (q0 := 1) rfl rfl) (jP_sub (w2 := [(p1, .inr (2, [.ref b1, .int (nI 24), .int (nI k1)]))]) hP [1] rfl) hK hN) rfl rfl hl.1 rfl (lv_room (Nat.le_of_ble_eq_true rfl)) dX3_isClosed_8 ⟨Nat.le_of_ble_eq_true rfl, Nat.le_of_ble_eq_true rfl⟩) ?_
  refine lv_iconst (v := 1) hx hb dX3_isClosed_11 (by decide) ?_
  refine lv_isub hx hb dX3_isClosed_12 ?_
  refine lv_iconst (v := 0) hx hb dX3_isClosed_13 (by decide) ?_
  refine jr_i (va_runV (As := [.int ((nI k1) - 1), .int 0]) (rest := []) ⟨hx, hb, hml, hown, hts⟩ (c_X2_get l D cA p1 b1 24 k1 72 f1 ((nI k1) - 1) 0 (by omega) (by omega)) (cwV 2 hts gX3_isClosed_X2_get rfl rfl rfl hv_X2_get ⟨Nat.le_of_ble_eq_true rfl, Nat.le_of_ble_eq_true rfl⟩) (roP.V (va_recv hK hP (ci := 2) (q0 := 1) rfl rfl) (jP_sub (w2 := [(p1, .inr (2, [.ref b1, .int (nI 24), .int (nI k1)])), (b1, .inl (cA, 72, .inl f1))]) hP [1, 2] rfl) hK hN) rfl rfl hl.1 rfl (lv_room (Nat.le_of_ble_eq_true rfl)) dX3_isClosed_14 ⟨Nat.le_of_ble_eq_true rfl, Nat.le_of_ble_eq_true rfl⟩) ?_
  refine jk_top (show (pGet f1 k1 ((nI k1) - 1) 0) = (lst f1 k1) from rfl) ?_
  refine lv_istore_n (lv' := [(1, .int (lst f1 k1)), (0, .ref h0)]) hx hb dX3_isClosed_17 rfl hl (by decide) rfl (fun ls hl => ?_)
  refine lv_iload_n hx hb dX3_isClosed_18 rfl (lv_at hl 0 rfl) ?_
  refine lv_if_eq (tgt := 36) hx hb dX3_isClosed_19 (by decide) (fun c_19 => ?_) (fun c_19 => ?_)
  · have hlast : lst f1 k1 = 0 ∨ lst f1 k1 = 6 ∨ lst f1 k1 = 8 := Or.inl c_19
    refine lv_iconst (v := 0) hx hb dX3_isClosed_36 (by decide) ?_
    refine lv_istore_n (lv' := [(2, .int 0), (1, .int (lst f1 k1)), (0, .ref h0)]) hx hb dX3_isClosed_37 rfl hl (by decide) rfl (fun ls hl => ?_)
    have loop38 : ∀ (n : Nat) (i : Nat), (i ≤ k1) → (k1 + 1 ≤ i + n) → (∀ j, j < i → hA f1 k1 j) → ∀ (ls : Array Slot), lv_has ls 3 [(0, .ref h0), (1, .int (lst f1 k1)), (2, .int (nI i))] → W p l e (headSpec wsX3_isClosed ({ frames := 3, cells := 0, slots := 0, locals := 65 })).room s m ([.ref h0] : List Value).toArray below meth c s.heap [] 0 0 (MQ below (QcRead (jB (clO f1 k1))) ([.ref h0] : List Value).toArray s 0 0 (fun _ => False)) (F0 m 38 ls []) := by
      intro n
      induction n with
      | zero => intro i hi hfu hdone; exact absurd hfu (by omega)
      | succ n ih38 =>
        intro i hi hfu hdone  ls hl
        refine lv_iload_n hx hb dX3_isClosed_38 rfl (lv_at hl 2 rfl) ?_
        refine lv_aload_n hx hb dX3_isClosed_39 rfl (lv_at hl 0 rfl) ?_
        refine va_get (D := D) (ci := 3) (v := .ref p1) (C := RX3) (T := TX3) (N := 5) hx hb hts iw_X3_isClosed_X3 hown hK hP 0 rfl rfl 0 (by decide) (hts (.fieldLink RX3 14 "JumpGuard" "sourceProgram" "LJumpGuard$Program;") (List.mem_of_getElem? (l := wsX3_isClosed) (i := 1) rfl)) (fun _ h9 => h9) rfl dX3_isClosed_40 ?_
        refine jr_i (va_runV (As := []) (rest := [.int (nI i)]) ⟨hx, hb, hml, hown, hts⟩ (c_X2_length l D cA p1 b1 24 k1) (cwV 0 hts gX3_isClosed_X2_length rfl rfl rfl hv_X2_length ⟨Nat.le_of_ble_eq_true rfl, Nat.le_of_ble_eq_true rfl⟩) (roP.V (va_recv hK hP (ci := 2) (q0 := 1) rfl rfl) (jP_sub (w2 := [(p1, .inr (2, [.ref b1, .int (nI 24), .int (nI k1)]))]) hP [1] rfl) hK hN) rfl rfl hl.1 rfl (lv_room (Nat.le_of_ble_eq_true rfl)) dX3_isClosed_43 ⟨Nat.le_of_ble_eq_true rfl, Nat.le_of_ble_eq_true rfl⟩) ?_
        refine lv_icmp_ge (tgt := 65) hx hb dX3_isClosed_46 (by decide) (fun c_46 => ?_) (fun c_46 => ?_)
        · have hall : ∀ j, j < k1 → hA f1 k1 j := fun j hj => hdone j (by
            rcases Nat.lt_or_ge i k1 with q | q
            · exact absurd c_46 (nI_ge q (by omega))
            · omega)
          refine lv_iconst (v := 1) hx hb dX3_isClosed_65 (by decide) ?_
          exact W.zret (ty := .boolean) (v := 1) hx hb hr rfl (fun t9 ht9 hW9 => ⟨jk_ret (show 1 = (jB (clO f1 k1)) from (jB_t ⟨hlast, hall⟩).symm), ht9⟩) (fun q h => absurd h List.not_mem_nil) dX3_isClosed_66
        · have hi2 : i < k1 := by
            rcases Nat.lt_or_ge i k1 with q | q
            · exact q
            · exact absurd (nI_le q (by omega)) c_46
          refine lv_aload_n hx hb dX3_isClosed_49 rfl (lv_at hl 0 rfl) ?_
          refine lv_iload_n hx hb dX3_isClosed_50 rfl (lv_at hl 2 rfl) ?_
          refine jr_i (va_runV (As := [.int (nI i)]) (rest := []) ⟨hx, hb, hml, hown, hts⟩ (c_X3_hasItsAddress l D cA h0 p1 p2 e0 l0 m0 b1 k1 f1 i (by first | assumption | omega) (by first | assumption | omega)) (cwV 1 hts gX3_isClosed_X3_hasItsAddress rfl rfl rfl hv_X3_hasItsAddress ⟨Nat.le_of_ble_eq_true rfl, Nat.le_of_ble_eq_true rfl⟩) (roP.V (va_recv hK hP (ci := 3) (q0 := 0) rfl rfl) (jP_sub (w2 := [(h0, .inr (3, [.ref p1, .ref p2, .ref e0, .ref l0, .ref m0])), (p1, .inr (2, [.ref b1, .int (nI 24), .int (nI k1)])), (b1, .inl (cA, 72, .inl f1))]) hP [0, 1, 2] rfl) hK hN) rfl rfl hl.1 rfl (lv_room (Nat.le_of_ble_eq_true rfl)) dX3_isClosed_51 ⟨Nat.le_of_ble_eq_true rfl, Nat.le_of_ble_eq_true rfl⟩) ?_
          refine lv_if_ne (tgt := 59) hx hb dX3_isClosed_54 (by decide) (fun c_54 => ?_) (fun c_54 => ?_)
          · replace c_54 := jB_nz.mp c_54
            refine lv_iinc (v := (nI (i + 1))) (lv' := [(2, .int (nI (i + 1))), (0, .ref h0), (1, .int (lst f1 k1))]) hx hb dX3_isClosed_59 hl (k := 2) rfl (jn_a1 _) (by decide) rfl (fun ls hl => ?_)
            refine lv_goto (tgt := 38) hx hb dX3_isClosed_62 (by decide) ?_
            exact ih38 (i + 1) (by omega) (by omega) (fun j hj => by
  rcases Nat.lt_or_ge j i with q | q
  · exact hdone j q
  · have e : j = i := by omega
    subst e; exact c_54) ls (lv_sub hl [1, 2, 0] rfl)
          · replace c_54 := jB_z.mp c_54
            have hno : ¬ clO f1 k1 := fun h => c_54 (h.2 i hi2)
            refine lv_iconst (v := 0) hx hb dX3_isClosed_57 (by decide) ?_
            exact W.zret (ty := .boolean) (v := 0) hx hb hr rfl (fun t9 ht9 hW9 => ⟨jk_ret (show 0 = (jB (clO f1 k1)) from (jB_f hno).symm), ht9⟩) (fun q h => absurd h List.not_mem_nil) dX3_isClosed_58
    exact loop38 (k1 + 1) 0 (by omega) (by omega) (fun j hj => absurd hj (by omega)) ls (lv_sub hl [2, 1, 0] rfl)
  · refine lv_iload_n hx hb dX3_isClosed_22 rfl (lv_at hl 0 rfl) ?_
    refine lv_bipush (v := 6) hx hb dX3_isClosed_23 (by decide) ?_
    refine lv_icmp_eq (tgt := 36) hx hb dX3_isClosed_25 (by decide) (fun c_25 => ?_) (fun c_25 => ?_)
    · have hlast : lst f1 k1 = 0 ∨ lst f1 k1 = 6 ∨ lst f1 k1 = 8 := Or.inr (Or.inl c_25)
      refine lv_iconst (v := 0) hx hb dX3_isClosed_36 (by decide) ?_
      refine lv_istore_n (lv' := [(2, .int 0), (1, .int (lst f1 k1)), (0, .ref h0)]) hx hb dX3_isClosed_37 rfl hl (by decide) rfl (fun ls hl => ?_)
      have loop38 : ∀ (n : Nat) (i : Nat), (i ≤ k1) → (k1 + 1 ≤ i + n) → (∀ j, j < i → hA f1 k1 j) → ∀ (ls : Array Slot), lv_has ls 3 [(0, .ref h0), (1, .int (lst f1 k1)), (2, .int (nI i))] → W p l e (headSpec wsX3_isClosed ({ frames := 3, cells := 0, slots := 0, locals := 65 })).room s m ([.ref h0] : List Value).toArray below meth c s.heap [] 0 0 (MQ below (QcRead (jB (clO f1 k1))) ([.ref h0] : List Value).toArray s 0 0 (fun _ => False)) (F0 m 38 ls []) := by
        intro n
        induction n with
        | zero => intro i hi hfu hdone; exact absurd hfu (by omega)
        | succ n ih38 =>
          intro i hi hfu hdone  ls hl
          refine lv_iload_n hx hb dX3_isClosed_38 rfl (lv_at hl 2 rfl) ?_
          refine lv_aload_n hx hb dX3_isClosed_39 rfl (lv_at hl 0 rfl) ?_
          refine va_get (D := D) (ci := 3) (v := .ref p1) (C := RX3) (T := TX3) (N := 5) hx hb hts iw_X3_isClosed_X3 hown hK hP 0 rfl rfl 0 (by decide) (hts (.fieldLink RX3 14 "JumpGuard" "sourceProgram" "LJumpGuard$Program;") (List.mem_of_getElem? (l := wsX3_isClosed) (i := 1) rfl)) (fun _ h9 => h9) rfl dX3_isClosed_40 ?_
          refine jr_i (va_runV (As := []) (rest := [.int (nI i)]) ⟨hx, hb, hml, hown, hts⟩ (c_X2_length l D cA p1 b1 24 k1) (cwV 0 hts gX3_isClosed_X2_length rfl rfl rfl hv_X2_length ⟨Nat.le_of_ble_eq_true rfl, Nat.le_of_ble_eq_true rfl⟩) (roP.V (va_recv hK hP (ci := 2) (q0 := 1) rfl rfl) (jP_sub (w2 := [(p1, .inr (2, [.ref b1, .int (nI 24), .int (nI k1)]))]) hP [1] rfl) hK hN) rfl rfl hl.1 rfl (lv_room (Nat.le_of_ble_eq_true rfl)) dX3_isClosed_43 ⟨Nat.le_of_ble_eq_true rfl, Nat.le_of_ble_eq_true rfl⟩) ?_
          refine lv_icmp_ge (tgt := 65) hx hb dX3_isClosed_46 (by decide) (fun c_46 => ?_) (fun c_46 => ?_)
          · have hall : ∀ j, j < k1 → hA f1 k1 j := fun j hj => hdone j (by
              rcases Nat.lt_or_ge i k1 with q | q
              · exact absurd c_46 (nI_ge q (by omega))
              · omega)
            refine lv_iconst (v := 1) hx hb dX3_isClosed_65 (by decide) ?_
            exact W.zret (ty := .boolean) (v := 1) hx hb hr rfl (fun t9 ht9 hW9 => ⟨jk_ret (show 1 = (jB (clO f1 k1)) from (jB_t ⟨hlast, hall⟩).symm), ht9⟩) (fun q h => absurd h List.not_mem_nil) dX3_isClosed_66
          · have hi2 : i < k1 := by
              rcases Nat.lt_or_ge i k1 with q | q
              · exact q
              · exact absurd (nI_le q (by omega)) c_46
            refine lv_aload_n hx hb dX3_isClosed_49 rfl (lv_at hl 0 rfl) ?_
            refine lv_iload_n hx hb dX3_isClosed_50 rfl (lv_at hl 2 rfl) ?_
            refine jr_i (va_runV (As := [.int (nI i)]) (rest := []) ⟨hx, hb, hml, hown, hts⟩ (c_X3_hasItsAddress l D cA h0 p1 p2 e0 l0 m0 b1 k1 f1 i (by first | assumption | omega) (by first | assumption | omega)) (cwV 1 hts gX3_isClosed_X3_hasItsAddress rfl rfl rfl hv_X3_hasItsAddress ⟨Nat.le_of_ble_eq_true rfl, Nat.le_of_ble_eq_true rfl⟩) (roP.V (va_recv hK hP (ci := 3) (q0 := 0) rfl rfl) (jP_sub (w2 := [(h0, .inr (3, [.ref p1, .ref p2, .ref e0, .ref l0, .ref m0])), (p1, .inr (2, [.ref b1, .int (nI 24), .int (nI k1)])), (b1, .inl (cA, 72, .inl f1))]) hP [0, 1, 2] rfl) hK hN) rfl rfl hl.1 rfl (lv_room (Nat.le_of_ble_eq_true rfl)) dX3_isClosed_51 ⟨Nat.le_of_ble_eq_true rfl, Nat.le_of_ble_eq_true rfl⟩) ?_
            refine lv_if_ne (tgt := 59) hx hb dX3_isClosed_54 (by decide) (fun c_54 => ?_) (fun c_54 => ?_)
            · replace c_54 := jB_nz.mp c_54
              refine lv_iinc (v := (nI (i + 1))) (lv' := [(2, .int (nI (i + 1))), (0, .ref h0), (1, .int (lst f1 k1))]) hx hb dX3_isClosed_59 hl (k := 2) rfl (jn_a1 _) (by decide) rfl (fun ls hl => ?_)
              refine lv_goto (tgt := 38) hx hb dX3_isClosed_62 (by decide) ?_
              exact ih38 (i + 1) (by omega) (by omega) (fun j hj => by
  rcases Nat.lt_or_ge j i with q | q
  · exact hdone j q
  · have e : j = i := by omega
    subst e; exact c_54) ls (lv_sub hl [1, 2, 0] rfl)
            · replace c_54 := jB_z.mp c_54
              have hno : ¬ clO f1 k1 := fun h => c_54 (h.2 i hi2)
              refine lv_iconst (v := 0) hx hb dX3_isClosed_57 (by decide) ?_
              exact W.zret (ty := .boolean) (v := 0) hx hb hr rfl (fun t9 ht9 hW9 => ⟨jk_ret (show 0 = (jB (clO f1 k1)) from (jB_f hno).symm), ht9⟩) (fun q h => absurd h List.not_mem_nil) dX3_isClosed_58
      exact loop38 (k1 + 1) 0 (by omega) (by omega) (fun j hj => absurd hj (by omega)) ls (lv_sub hl [2, 1, 0] rfl)
    · refine lv_iload_n hx hb dX3_isClosed_28 rfl (lv_at hl 0 rfl) ?_
      refine lv_bipush (v := 8) hx hb dX3_isClosed_29 (by decide) ?_
      refine lv_icmp_eq (tgt := 36) hx hb dX3_isClosed_31 (by decide) (fun c_31 => ?_) (fun c_31 => ?_)
      · have hlast : lst f1 k1 = 0 ∨ lst f1 k1 = 6 ∨ lst f1 k1 = 8 := Or.inr (Or.inr c_31)
        refine lv_iconst (v := 0) hx hb dX3_isClosed_36 (by decide) ?_
        refine lv_istore_n (lv' := [(2, .int 0), (1, .int (lst f1 k1)), (0, .ref h0)]) hx hb dX3_isClosed_37 rfl hl (by decide) rfl (fun ls hl => ?_)
        have loop38 : ∀ (n : Nat) (i : Nat), (i ≤ k1) → (k1 + 1 ≤ i + n) → (∀ j, j < i → hA f1 k1 j) → ∀ (ls : Array Slot), lv_has ls 3 [(0, .ref h0), (1, .int (lst f1 k1)), (2, .int (nI i))] → W p l e (headSpec wsX3_isClosed ({ frames := 3, cells := 0, slots := 0, locals := 65 })).room s m ([.ref h0] : List Value).toArray below meth c s.heap [] 0 0 (MQ below (QcRead (jB (clO f1 k1))) ([.ref h0] : List Value).toArray s 0 0 (fun _ => False)) (F0 m 38 ls []) := by
          intro n
          induction n with
          | zero => intro i hi hfu hdone; exact absurd hfu (by omega)
          | succ n ih38 =>
            intro i hi hfu hdone  ls hl
            refine lv_iload_n hx hb dX3_isClosed_38 rfl (lv_at hl 2 rfl) ?_
            refine lv_aload_n hx hb dX3_isClosed_39 rfl (lv_at hl 0 rfl) ?_
            refine va_get (D := D) (ci := 3) (v := .ref p1) (C := RX3) (T := TX3) (N := 5) hx hb hts iw_X3_isClosed_X3 hown hK hP 0 rfl rfl 0 (by decide) (hts (.fieldLink RX3 14 "JumpGuard" "sourceProgram" "LJumpGuard$Program;") (List.mem_of_getElem? (l := wsX3_isClosed) (i := 1) rfl)) (fun _ h9 => h9) rfl dX3_isClosed_40 ?_
            refine jr_i (va_runV (As := []) (rest := [.int (nI i)]) ⟨hx, hb, hml, hown, hts⟩ (c_X2_length l D cA p1 b1 24 k1) (cwV 0 hts gX3_isClosed_X2_length rfl rfl rfl hv_X2_length ⟨Nat.le_of_ble_eq_true rfl, Nat.le_of_ble_eq_true rfl⟩) (roP.V (va_recv hK hP (ci := 2) (q0 := 1) rfl rfl) (jP_sub (w2 := [(p1, .inr (2, [.ref b1, .int (nI 24), .int (nI k1)]))]) hP [1] rfl) hK hN) rfl rfl hl.1 rfl (lv_room (Nat.le_of_ble_eq_true rfl)) dX3_isClosed_43 ⟨Nat.le_of_ble_eq_true rfl, Nat.le_of_ble_eq_true rfl⟩) ?_
            refine lv_icmp_ge (tgt := 65) hx hb dX3_isClosed_46 (by decide) (fun c_46 => ?_) (fun c_46 => ?_)
            · have hall : ∀ j, j < k1 → hA f1 k1 j := fun j hj => hdone j (by
                rcases Nat.lt_or_ge i k1 with q | q
                · exact absurd c_46 (nI_ge q (by omega))
                · omega)
              refine lv_iconst (v := 1) hx hb dX3_isClosed_65 (by decide) ?_
              exact W.zret (ty := .boolean) (v := 1) hx hb hr rfl (fun t9 ht9 hW9 => ⟨jk_ret (show 1 = (jB (clO f1 k1)) from (jB_t ⟨hlast, hall⟩).symm), ht9⟩) (fun q h => absurd h List.not_mem_nil) dX3_isClosed_66
            · have hi2 : i < k1 := by
                rcases Nat.lt_or_ge i k1 with q | q
                · exact q
                · exact absurd (nI_le q (by omega)) c_46
              refine lv_aload_n hx hb dX3_isClosed_49 rfl (lv_at hl 0 rfl) ?_
              refine lv_iload_n hx hb dX3_isClosed_50 rfl (lv_at hl 2 rfl) ?_
              refine jr_i (va_runV (As := [.int (nI i)]) (rest := []) ⟨hx, hb, hml, hown, hts⟩ (c_X3_hasItsAddress l D cA h0 p1 p2 e0 l0 m0 b1 k1 f1 i (by first | assumption | omega) (by first | assumption | omega)) (cwV 1 hts gX3_isClosed_X3_hasItsAddress rfl rfl rfl hv_X3_hasItsAddress ⟨Nat.le_of_ble_eq_true rfl, Nat.le_of_ble_eq_true rfl⟩) (roP.V (va_recv hK hP (ci := 3) (q0 := 0) rfl rfl) (jP_sub (w2 := [(h0, .inr (3, [.ref p1, .ref p2, .ref e0, .ref l0, .ref m0])), (p1, .inr (2, [.ref b1, .int (nI 24), .int (nI k1)])), (b1, .inl (cA, 72, .inl f1))]) hP [0, 1, 2] rfl) hK hN) rfl rfl hl.1 rfl (lv_room (Nat.le_of_ble_eq_true rfl)) dX3_isClosed_51 ⟨Nat.le_of_ble_eq_true rfl, Nat.le_of_ble_eq_true rfl⟩) ?_
              refine lv_if_ne (tgt := 59) hx hb dX3_isClosed_54 (by decide) (fun c_54 => ?_) (fun c_54 => ?_)
              · replace c_54 := jB_nz.mp c_54
                refine lv_iinc (v := (nI (i + 1))) (lv' := [(2, .int (nI (i + 1))), (0, .ref h0), (1, .int (lst f1 k1))]) hx hb dX3_isClosed_59 hl (k := 2) rfl (jn_a1 _) (by decide) rfl (fun ls hl => ?_)
                refine lv_goto (tgt := 38) hx hb dX3_isClosed_62 (by decide) ?_
                exact ih38 (i + 1) (by omega) (by omega) (fun j hj => by
  rcases Nat.lt_or_ge j i with q | q
  · exact hdone j q
  · have e : j = i := by omega
    subst e; exact c_54) ls (lv_sub hl [1, 2, 0] rfl)
              · replace c_54 := jB_z.mp c_54
                have hno : ¬ clO f1 k1 := fun h => c_54 (h.2 i hi2)
                refine lv_iconst (v := 0) hx hb dX3_isClosed_57 (by decide) ?_
                exact W.zret (ty := .boolean) (v := 0) hx hb hr rfl (fun t9 ht9 hW9 => ⟨jk_ret (show 0 = (jB (clO f1 k1)) from (jB_f hno).symm), ht9⟩) (fun q h => absurd h List.not_mem_nil) dX3_isClosed_58
        exact loop38 (k1 + 1) 0 (by omega) (by omega) (fun j hj => absurd hj (by omega)) ls (lv_sub hl [2, 1, 0] rfl)
      · have hno : ¬ clO f1 k1 := fun h => by
          rcases h.1 with q | q | q
          · exact c_19 q
          · exact c_25 q
          · exact c_31 q
        refine lv_iconst (v := 0) hx hb dX3_isClosed_34 (by decide) ?_
        exact W.zret (ty := .boolean) (v := 0) hx hb hr rfl (fun t9 ht9 hW9 => ⟨jk_ret (show 0 = (jB (clO f1 k1)) from (jB_f hno).symm), ht9⟩) (fun q h => absurd h List.not_mem_nil) dX3_isClosed_35
set_option maxHeartbeats 4000000 in
set_option maxRecDepth 100000 in
theorem c_X3_placeOf (l : Launch) (D : va_G) (cA : ClassId) (h0 : Nat) (p1 : Nat) (p2 : Nat) (e0 : Nat) (l0 : Nat) (m0 : Nat) (P : Nat → Int32) (x : Int32) : Met l yX3_placeOf wsX3_placeOf ({ frames := 1, cells := 0, slots := 0, locals := 20 }) (roP D cA [.ref h0, .int x] [(h0, .inr (3, [.ref p1, .ref p2, .ref e0, .ref l0, .ref m0])), (l0, .inl (cA, 24, .inl P))]) (QcRead (pPl P x)) 0 0 (fun _ => False) := by
  refine Met.ofW (cc := cX3_placeOf) (maxL := 2) (ret := (some .int)) (by decide) rfl ?_
  intro p e s m args below meth c s₁ B hml hv
  obtain ⟨rfl, hP, hK, hN⟩ := hv
  have hx := B.exec
  have hb := B.bytes
  have hr := B.returns
  have hts := atoms_spec (ws := wsX3_placeOf) B.pre
  have hown : s.vm.findClass RX3 = some m.cls := findClass_of_methodNamed B.named
  have hlocks := B.notSynchronized
  have hl := lv_entry ([.ref h0, .int x]) (n := 2) (Nat.le_of_ble_eq_true rfl)
  rw [lg_entry_eq]
  generalize (lg_sl ([.ref h0, .int x]) ++ List.replicate (2 - (lg_sl ([.ref h0, .int x])).length) Slot.unset).toArray = ls at hl ⊢
  have hl : lv_has ls 2 [(0, .ref h0), (1, .int x)] := hl
  refine lv_iload_n hx hb dX3_placeOf_0 rfl (lv_at hl 1 rfl) ?_
  refine jr_i (va_runS (As := [.int x]) (rest := []) ⟨hx, hb, hml, hown, hts⟩ (c_X3_isAddress l D cA x) (va_cwS 1 hts gX3_placeOf_X3_isAddress rfl rfl rfl hv_X3_isAddress.2 ⟨Nat.le_of_ble_eq_true rfl, Nat.le_of_ble_eq_true rfl⟩) (roP.S (av := [.int x]) (jP_sub (w2 := []) hP [] rfl) hK hN) rfl rfl hl.1 rfl (lv_room (Nat.le_of_ble_eq_true rfl)) dX3_placeOf_1 ⟨Nat.le_of_ble_eq_true rfl, Nat.le_of_ble_eq_true rfl⟩) ?_
  refine lv_if_eq (tgt := 16) hx hb dX3_placeOf_4 (by decide) (fun c_4 => ?_) (fun c_4 => ?_)
  · replace c_4 := jB_z.mp c_4
    refine lv_iconst (v := (-1)) hx hb dX3_placeOf_16 (by decide) ?_
    exact W.iret (v := (-1)) hx hb hr (fun t9 ht9 hW9 => ⟨jk_ret (show (-1) = (pPl P x) from (pPl_no c_4).symm), ht9⟩) (fun q h => absurd h List.not_mem_nil) dX3_placeOf_17
  · replace c_4 := jB_nz.mp c_4
    obtain ⟨j, hj, rfl⟩ := jN_of (n := 24) (by decide) c_4
    refine lv_aload_n hx hb dX3_placeOf_7 rfl (lv_at hl 0 rfl) ?_
    refine va_get (D := D) (ci := 3) (v := .ref l0) (C := RX3) (T := TX3) (N := 5) hx hb hts iw_X3_placeOf_X3 hown hK hP 0 rfl rfl 3 (by decide) (hts (.fieldLink RX3 28 "JumpGuard" "places" "[I") (List.mem_of_getElem? (l := wsX3_placeOf) (i := 1) rfl)) (fun _ h9 => h9) rfl dX3_placeOf_8 ?_
    refine lv_iload_n hx hb dX3_placeOf_11 rfl (lv_at hl 1 rfl) ?_
    refine jk_ald hx hb hK hP 1 0 rfl rfl (k := j) rfl (by omega) (by omega) dX3_placeOf_12 ?_
    refine lv_goto (tgt := 17) hx hb dX3_placeOf_13 (by decide) ?_
    exact W.iret (v := (P j)) hx hb hr (fun t9 ht9 hW9 => ⟨jk_ret (show (P j) = (pPl P (nI j)) from (pPl_n hj).symm), ht9⟩) (fun q h => absurd h List.not_mem_nil) dX3_placeOf_17
set_option maxHeartbeats 4000000 in
set_option maxRecDepth 100000 in
theorem c_X3_setPlaces (l : Launch) (D : va_G) (cA : ClassId) (sz : Nat) (h0 : Nat) (p1 : Nat) (p2 : Nat) (e0 : Nat) (l0 : Nat) (m0 : Nat) (b1 : Nat) (k1 : Nat) (t0 : Nat) (n0 : Nat) (j0 : Nat) (ec : Nat) (f1 : Nat → Int32) (tn : Nat → Int32) (P : Nat → Int32) (hk1 : k1 ≤ 24) : Met l yX3_setPlaces wsX3_setPlaces ({ frames := 2, cells := 0, slots := 0, locals := 43 }) (rwP D cA [.ref h0] sz [(h0, .inr (3, [.ref p1, .ref p2, .ref e0, .ref l0, .ref m0])), (p1, .inr (2, [.ref b1, .int (nI 24), .int (nI k1)])), (b1, .inl (cA, 72, .inl f1)), (e0, .inr (0, [.ref t0, .ref n0, .ref j0, .int (nI ec)])), (n0, .inl (cA, 24, .inl tn)), (l0, .inl (cA, 24, .inl P))]) (rwV D (va_A [(h0, .inr (3, [.ref p1, .ref p2, .ref e0, .ref l0, .ref m0])), (p1, .inr (2, [.ref b1, .int (nI 24), .int (nI k1)])), (b1, .inl (cA, 72, .inl f1)), (e0, .inr (0, [.ref t0, .ref n0, .ref j0, .int (nI ec)])), (n0, .inl (cA, 24, .inl tn)), (l0, .inl (cA, 24, .inl P))] sz) [(h0, .inr (3, [.ref p1, .ref p2, .ref e0, .ref l0, .ref m0])), (p1, .inr (2, [.ref b1, .int (nI 24), .int (nI k1)])), (b1, .inl (cA, 72, .inl f1)), (e0, .inr (0, [.ref t0, .ref n0, .ref j0, .int (nI ec)])), (n0, .inl (cA, 24, .inl tn)), (l0, .inl (cA, 24, .inl (plP f1 tn P k1)))]) 0 0 (va_A [(h0, .inr (3, [.ref p1, .ref p2, .ref e0, .ref l0, .ref m0])), (p1, .inr (2, [.ref b1, .int (nI 24), .int (nI k1)])), (b1, .inl (cA, 72, .inl f1)), (e0, .inr (0, [.ref t0, .ref n0, .ref j0, .int (nI ec)])), (n0, .inl (cA, 24, .inl tn)), (l0, .inl (cA, 24, .inl P))] sz) := by
  refine Met.ofW (cc := cX3_setPlaces) (maxL := 3) (ret := none) (by decide) rfl ?_
  intro p e s m args below meth c s₁ B hml hv
  obtain ⟨rfl, hsz, hP, hK, hN, hD0⟩ := hv
  have hx := B.exec
  have hb := B.bytes
  have hr := B.returns
  have hts := atoms_spec (ws := wsX3_setPlaces) B.pre
  have hown : s.vm.findClass RX3 = some m.cls := findClass_of_methodNamed B.named
  have hlocks := B.notSynchronized
  subst hsz
  have hD := hD0.self (sz := s.heap.size)
  generalize hAe : va_A [(h0, .inr (3, [.ref p1, .ref p2, .ref e0, .ref l0, .ref m0])), (p1, .inr (2, [.ref b1, .int (nI 24), .int (nI k1)])), (b1, .inl (cA, 72, .inl f1)), (e0, .inr (0, [.ref t0, .ref n0, .ref j0, .int (nI ec)])), (n0, .inl (cA, 24, .inl tn)), (l0, .inl (cA, 24, .inl P))] s.heap.size = A at hD ⊢
  have hA : ∀ q : Nat, s.heap.size ≤ q → A q := fun q h => by rw [← hAe]; exact Or.inr h
  have hS : va_S A s.heap s.heap [] := va_S.rf
  have hl := lv_entry ([.ref h0]) (n := 3) (Nat.le_of_ble_eq_true rfl)
  rw [lg_entry_eq]
  generalize (lg_sl ([.ref h0]) ++ List.replicate (3 - (lg_sl ([.ref h0])).length) Slot.unset).toArray = ls at hl ⊢
  have hl : lv_has ls 3 [(0, .ref h0)] := hl
  refine lv_iconst (v := 0) hx hb dX3_setPlaces_0 (by decide) ?_
  refine lv_istore_n (lv' := [(1, .int 0), (0, .ref h0)]) hx hb dX3_setPlaces_1 rfl hl (by decide) rfl (fun ls hl => ?_)
  refine lv_iconst (v := 0) hx hb dX3_setPlaces_2 (by decide) ?_
  refine lv_istore_n (lv' := [(2, .int 0), (1, .int 0), (0, .ref h0)]) hx hb dX3_setPlaces_3 rfl hl (by decide) rfl (fun ls hl => ?_)
  have loop4 : ∀ (n : Nat) (i : Nat) (nx : Nat) (F : Nat → Int32), (i ≤ k1) → (k1 + 1 ≤ i + n) → (nx = plN f1 tn i) → (F = plP f1 tn P i) → ∀ (H : Heap) (locs : List Loc), va_P D vwCl [(h0, .inr (3, [.ref p1, .ref p2, .ref e0, .ref l0, .ref m0])), (p1, .inr (2, [.ref b1, .int (nI 24), .int (nI k1)])), (b1, .inl (cA, 72, .inl f1)), (e0, .inr (0, [.ref t0, .ref n0, .ref j0, .int (nI ec)])), (n0, .inl (cA, 24, .inl tn)), (l0, .inl (cA, 24, .inl F))] H → va_D A [(h0, .inr (3, [.ref p1, .ref p2, .ref e0, .ref l0, .ref m0])), (p1, .inr (2, [.ref b1, .int (nI 24), .int (nI k1)])), (b1, .inl (cA, 72, .inl f1)), (e0, .inr (0, [.ref t0, .ref n0, .ref j0, .int (nI ec)])), (n0, .inl (cA, 24, .inl tn)), (l0, .inl (cA, 24, .inl F))] → va_S A s.heap H locs → ∀ (ls : Array Slot), lv_has ls 3 [(0, .ref h0), (1, .int (nI nx)), (2, .int (nI i))] → W p l e (headSpec wsX3_setPlaces ({ frames := 2, cells := 0, slots := 0, locals := 43 })).room s m ([.ref h0] : List Value).toArray below meth c H locs 0 0 (MQ below (rwV D A [(h0, .inr (3, [.ref p1, .ref p2, .ref e0, .ref l0, .ref m0])), (p1, .inr (2, [.ref b1, .int (nI 24), .int (nI k1)])), (b1, .inl (cA, 72, .inl f1)), (e0, .inr (0, [.ref t0, .ref n0, .ref j0, .int (nI ec)])), (n0, .inl (cA, 24, .inl tn)), (l0, .inl (cA, 24, .inl (plP f1 tn P k1)))]) ([.ref h0] : List Value).toArray s 0 0 A) (F0 m 4 ls []) := by
    intro n
    induction n with
    | zero => intro i nx F hi hfu hnx hF; exact absurd hfu (by omega)
    | succ n ih4 =>
      intro i nx F hi hfu hnx hF H locs hP hD hS ls hl
      refine lv_iload_n hx hb dX3_setPlaces_4 rfl (lv_at hl 2 rfl) ?_
      refine lv_aload_n hx hb dX3_setPlaces_5 rfl (lv_at hl 0 rfl) ?_
      refine va_get (D := D) (ci := 3) (v := .ref p1) (C := RX3) (T := TX3) (N := 5) hx hb hts iw_X3_setPlaces_X3 hown hK hP 0 rfl rfl 0 (by decide) (hts (.fieldLink RX3 14 "JumpGuard" "sourceProgram" "LJumpGuard$Program;") (List.mem_of_getElem? (l := wsX3_setPlaces) (i := 1) rfl)) (fun _ h9 => h9) rfl dX3_setPlaces_6 ?_
      refine jr_i (va_runV (As := []) (rest := [.int (nI i)]) ⟨hx, hb, hml, hown, hts⟩ (c_X2_length l D cA p1 b1 24 k1) (cwV 0 hts gX3_setPlaces_X2_length rfl rfl rfl hv_X2_length ⟨Nat.le_of_ble_eq_true rfl, Nat.le_of_ble_eq_true rfl⟩) (roP.V (va_recv hK hP (ci := 2) (q0 := 1) rfl rfl) (jP_sub (w2 := [(p1, .inr (2, [.ref b1, .int (nI 24), .int (nI k1)]))]) hP [1] rfl) hK hN) rfl rfl hl.1 rfl (lv_room (Nat.le_of_ble_eq_true rfl)) dX3_setPlaces_9 ⟨Nat.le_of_ble_eq_true rfl, Nat.le_of_ble_eq_true rfl⟩) ?_
      refine lv_icmp_ge (tgt := 71) hx hb dX3_setPlaces_12 (by decide) (fun c_12 => ?_) (fun c_12 => ?_)
      · have hi2 : i = k1 := by
          rcases Nat.lt_or_ge i k1 with q | q
          · exact absurd c_12 (nI_ge q (by omega))
          · omega
        subst hi2
        obtain ⟨hP9, hD9⟩ := jk_end (w2 := [(h0, .inr (3, [.ref p1, .ref p2, .ref e0, .ref l0, .ref m0])), (p1, .inr (2, [.ref b1, .int (nI 24), .int (nI i)])), (b1, .inl (cA, 72, .inl f1)), (e0, .inr (0, [.ref t0, .ref n0, .ref j0, .int (nI ec)])), (n0, .inl (cA, 24, .inl tn)), (l0, .inl (cA, 24, .inl F))]) hP hD [0, 1, 2, 3, 4, 5] (by decide) rfl
        have e9 : ([(h0, .inr (3, [.ref p1, .ref p2, .ref e0, .ref l0, .ref m0])), (p1, .inr (2, [.ref b1, .int (nI 24), .int (nI i)])), (b1, .inl (cA, 72, .inl f1)), (e0, .inr (0, [.ref t0, .ref n0, .ref j0, .int (nI ec)])), (n0, .inl (cA, 24, .inl tn)), (l0, .inl (cA, 24, .inl F))] : va_W) = [(h0, .inr (3, [.ref p1, .ref p2, .ref e0, .ref l0, .ref m0])), (p1, .inr (2, [.ref b1, .int (nI 24), .int (nI i)])), (b1, .inl (cA, 72, .inl f1)), (e0, .inr (0, [.ref t0, .ref n0, .ref j0, .int (nI ec)])), (n0, .inl (cA, 24, .inl tn)), (l0, .inl (cA, 24, .inl (plP f1 tn P i)))] := (by rw [hF])
        rw [e9] at hP9 hD9
        exact W.vret hx hb hr (fun t9 ht9 hW9 => ⟨⟨(), rfl, trivial, by rw [ht9]; exact hP9, hD9⟩, hS.F ht9⟩) hS.2.2 dX3_setPlaces_71
      · have hi2 : i < k1 := by
          rcases Nat.lt_or_ge i k1 with q | q
          · exact q
          · exact absurd (nI_le q (by omega)) c_12
        refine lv_iload_n hx hb dX3_setPlaces_15 rfl (lv_at hl 2 rfl) ?_
        refine lv_aload_n hx hb dX3_setPlaces_16 rfl (lv_at hl 0 rfl) ?_
        refine va_get (D := D) (ci := 3) (v := .ref l0) (C := RX3) (T := TX3) (N := 5) hx hb hts iw_X3_setPlaces_X3 hown hK hP 0 rfl rfl 3 (by decide) (hts (.fieldLink RX3 28 "JumpGuard" "places" "[I") (List.mem_of_getElem? (l := wsX3_setPlaces) (i := 2) rfl)) (fun _ h9 => h9) rfl dX3_setPlaces_17 ?_
        refine va_alen (v := nI 24) hx hb hK hP 5 0 rfl rfl rfl dX3_setPlaces_20 ?_
        refine lv_icmp_ge (tgt := 71) hx hb dX3_setPlaces_21 (by decide) (fun c_21 => ?_) (fun c_21 => ?_)
        · exact absurd c_21 (nI_ge (show i < 24 by omega) (by decide))
        · refine lv_aload_n hx hb dX3_setPlaces_24 rfl (lv_at hl 0 rfl) ?_
          refine va_get (D := D) (ci := 3) (v := .ref l0) (C := RX3) (T := TX3) (N := 5) hx hb hts iw_X3_setPlaces_X3 hown hK hP 0 rfl rfl 3 (by decide) (hts (.fieldLink RX3 28 "JumpGuard" "places" "[I") (List.mem_of_getElem? (l := wsX3_setPlaces) (i := 2) rfl)) (fun _ h9 => h9) rfl dX3_setPlaces_25 ?_
          refine lv_iload_n hx hb dX3_setPlaces_28 rfl (lv_at hl 2 rfl) ?_
          refine lv_iload_n hx hb dX3_setPlaces_29 rfl (lv_at hl 1 rfl) ?_
          refine jk_ast hx hb hK hP hD hS 5 0 rfl rfl (k := i) rfl (by omega) (by omega) dX3_setPlaces_30 (fun H locs hP hD hS => ?_)
          have hP : va_P D vwCl [(h0, .inr (3, [.ref p1, .ref p2, .ref e0, .ref l0, .ref m0])), (p1, .inr (2, [.ref b1, .int (nI 24), .int (nI k1)])), (b1, .inl (cA, 72, .inl f1)), (e0, .inr (0, [.ref t0, .ref n0, .ref j0, .int (nI ec)])), (n0, .inl (cA, 24, .inl tn)), (l0, .inl (cA, 24, .inl (upd F i (nI nx))))] H := hP
          have hD : va_D A [(h0, .inr (3, [.ref p1, .ref p2, .ref e0, .ref l0, .ref m0])), (p1, .inr (2, [.ref b1, .int (nI 24), .int (nI k1)])), (b1, .inl (cA, 72, .inl f1)), (e0, .inr (0, [.ref t0, .ref n0, .ref j0, .int (nI ec)])), (n0, .inl (cA, 24, .inl tn)), (l0, .inl (cA, 24, .inl (upd F i (nI nx))))] := hD
          refine lv_iinc (v := (nI (nx + 1))) (lv' := [(1, .int (nI (nx + 1))), (0, .ref h0), (2, .int (nI i))]) hx hb dX3_setPlaces_31 hl (k := 1) rfl (jn_a1 _) (by decide) rfl (fun ls hl => ?_)
          refine lv_aload_n hx hb dX3_setPlaces_34 rfl (lv_at hl 1 rfl) ?_
          refine va_get (D := D) (ci := 3) (v := .ref e0) (C := RX3) (T := TX3) (N := 5) hx hb hts iw_X3_setPlaces_X3 hown hK hP 0 rfl rfl 2 (by decide) (hts (.fieldLink RX3 24 "JumpGuard" "edges" "LJumpGuard$Edges;") (List.mem_of_getElem? (l := wsX3_setPlaces) (i := 3) rfl)) (fun _ h9 => h9) rfl dX3_setPlaces_35 ?_
          refine lv_iload_n hx hb dX3_setPlaces_38 rfl (lv_at hl 2 rfl) ?_
          refine jr_i (va_runV (As := [.int (nI i)]) (rest := []) ⟨hx, hb, hml, hown, hts⟩ (c_X0_numberOfTarget l D cA e0 t0 n0 j0 ec tn (nI i)) (cwV 1 hts gX3_setPlaces_X0_numberOfTarget rfl rfl rfl hv_X0_numberOfTarget ⟨Nat.le_of_ble_eq_true rfl, Nat.le_of_ble_eq_true rfl⟩) (roP.V (va_recv hK hP (ci := 0) (q0 := 3) rfl rfl) (jP_sub (w2 := [(e0, .inr (0, [.ref t0, .ref n0, .ref j0, .int (nI ec)])), (n0, .inl (cA, 24, .inl tn))]) hP [3, 4] rfl) hK hN) rfl rfl hl.1 rfl (lv_room (Nat.le_of_ble_eq_true rfl)) dX3_setPlaces_39 ⟨Nat.le_of_ble_eq_true rfl, Nat.le_of_ble_eq_true rfl⟩) ?_
          refine jk_top (show (jAt tn 24 (nI i)) = (tn i) from jAt_n (n := 24) (by omega) (by decide)) ?_
          refine lv_if_eq (tgt := 48) hx hb dX3_setPlaces_42 (by decide) (fun c_42 => ?_) (fun c_42 => ?_)
          · refine lv_aload_n hx hb dX3_setPlaces_48 rfl (lv_at hl 1 rfl) ?_
            refine va_get (D := D) (ci := 3) (v := .ref p1) (C := RX3) (T := TX3) (N := 5) hx hb hts iw_X3_setPlaces_X3 hown hK hP 0 rfl rfl 0 (by decide) (hts (.fieldLink RX3 14 "JumpGuard" "sourceProgram" "LJumpGuard$Program;") (List.mem_of_getElem? (l := wsX3_setPlaces) (i := 1) rfl)) (fun _ h9 => h9) rfl dX3_setPlaces_49 ?_
            refine lv_iload_n hx hb dX3_setPlaces_52 rfl (lv_at hl 2 rfl) ?_
            refine lv_iconst (v := 0) hx hb dX3_setPlaces_53 (by decide) ?_
            refine jr_i (va_runV (As := [.int (nI i), .int 0]) (rest := []) ⟨hx, hb, hml, hown, hts⟩ (c_X2_get l D cA p1 b1 24 k1 72 f1 (nI i) 0 (by omega) (by omega)) (cwV 2 hts gX3_setPlaces_X2_get rfl rfl rfl hv_X2_get ⟨Nat.le_of_ble_eq_true rfl, Nat.le_of_ble_eq_true rfl⟩) (roP.V (va_recv hK hP (ci := 2) (q0 := 1) rfl rfl) (jP_sub (w2 := [(p1, .inr (2, [.ref b1, .int (nI 24), .int (nI k1)])), (b1, .inl (cA, 72, .inl f1))]) hP [1, 2] rfl) hK hN) rfl rfl hl.1 rfl (lv_room (Nat.le_of_ble_eq_true rfl)) dX3_setPlaces_54 ⟨Nat.le_of_ble_eq_true rfl, Nat.le_of_ble_eq_true rfl⟩) ?_
            refine jk_top (show (pGet f1 k1 (nI i) 0) = (f1 (i * 3)) from pGet_at (q := 0) hi2 (by decide) (by omega)) ?_
            refine lv_bipush (v := 8) hx hb dX3_setPlaces_57 (by decide) ?_
            refine lv_icmp_ne (tgt := 65) hx hb dX3_setPlaces_59 (by decide) (fun c_59 => ?_) (fun c_59 => ?_)
            · refine lv_iinc (v := (nI (i + 1))) (lv' := [(2, .int (nI (i + 1))), (1, .int (nI (nx + 1))), (0, .ref h0)]) hx hb dX3_setPlaces_65 hl (k := 2) rfl (jn_a1 _) (by decide) rfl (fun ls hl => ?_)
              refine lv_goto (tgt := 4) hx hb dX3_setPlaces_68 (by decide) ?_
              exact ih4 (i + 1) (nx + 1) (upd F i (nI nx)) (by omega) (by omega) (by subst hnx; show _ = plN f1 tn i + 1 + (if tn i = 0 then 0 else 1) + (if f1 (i * 3) = 8 then 1 else 0); rw [if_pos c_42, if_neg c_59]) (by subst hF; subst hnx; exact plP_s f1 tn P i) _ _ (jP_sub (w2 := [(h0, .inr (3, [.ref p1, .ref p2, .ref e0, .ref l0, .ref m0])), (p1, .inr (2, [.ref b1, .int (nI 24), .int (nI k1)])), (b1, .inl (cA, 72, .inl f1)), (e0, .inr (0, [.ref t0, .ref n0, .ref j0, .int (nI ec)])), (n0, .inl (cA, 24, .inl tn)), (l0, .inl (cA, 24, .inl (upd F i (nI nx))))]) hP [0, 1, 2, 3, 4, 5] rfl) (hD.sub (ws' := [(h0, .inr (3, [.ref p1, .ref p2, .ref e0, .ref l0, .ref m0])), (p1, .inr (2, [.ref b1, .int (nI 24), .int (nI k1)])), (b1, .inl (cA, 72, .inl f1)), (e0, .inr (0, [.ref t0, .ref n0, .ref j0, .int (nI ec)])), (n0, .inl (cA, 24, .inl tn)), (l0, .inl (cA, 24, .inl (upd F i (nI nx))))]) [0, 1, 2, 3, 4, 5] (by decide) rfl) hS ls (lv_sub hl [2, 1, 0] rfl)
            · refine lv_iinc (v := (nI ((nx + 1) + 1))) (lv' := [(1, .int (nI ((nx + 1) + 1))), (0, .ref h0), (2, .int (nI i))]) hx hb dX3_setPlaces_62 hl (k := 0) rfl (jn_a1 _) (by decide) rfl (fun ls hl => ?_)
              refine lv_iinc (v := (nI (i + 1))) (lv' := [(2, .int (nI (i + 1))), (1, .int (nI ((nx + 1) + 1))), (0, .ref h0)]) hx hb dX3_setPlaces_65 hl (k := 2) rfl (jn_a1 _) (by decide) rfl (fun ls hl => ?_)
              refine lv_goto (tgt := 4) hx hb dX3_setPlaces_68 (by decide) ?_
              exact ih4 (i + 1) ((nx + 1) + 1) (upd F i (nI nx)) (by omega) (by omega) (by subst hnx; show _ = plN f1 tn i + 1 + (if tn i = 0 then 0 else 1) + (if f1 (i * 3) = 8 then 1 else 0); rw [if_pos c_42, if_pos c_59]) (by subst hF; subst hnx; exact plP_s f1 tn P i) _ _ (jP_sub (w2 := [(h0, .inr (3, [.ref p1, .ref p2, .ref e0, .ref l0, .ref m0])), (p1, .inr (2, [.ref b1, .int (nI 24), .int (nI k1)])), (b1, .inl (cA, 72, .inl f1)), (e0, .inr (0, [.ref t0, .ref n0, .ref j0, .int (nI ec)])), (n0, .inl (cA, 24, .inl tn)), (l0, .inl (cA, 24, .inl (upd F i (nI nx))))]) hP [0, 1, 2, 3, 4, 5] rfl) (hD.sub (ws' := [(h0, .inr (3, [.ref p1, .ref p2, .ref e0, .ref l0, .ref m0])), (p1, .inr (2, [.ref b1, .int (nI 24), .int (nI k1)])), (b1, .inl (cA, 72, .inl f1)), (e0, .inr (0, [.ref t0, .ref n0, .ref j0, .int (nI ec)])), (n0, .inl (cA, 24, .inl tn)), (l0, .inl (cA, 24, .inl (upd F i (nI nx))))]) [0, 1, 2, 3, 4, 5] (by decide) rfl) hS ls (lv_sub hl [2, 1, 0] rfl)
          · refine lv_iinc (v := (nI ((nx + 1) + 1))) (lv' := [(1, .int (nI ((nx + 1) + 1))), (0, .ref h0), (2, .int (nI i))]) hx hb dX3_setPlaces_45 hl (k := 0) rfl (jn_a1 _) (by decide) rfl (fun ls hl => ?_)
            refine lv_aload_n hx hb dX3_setPlaces_48 rfl (lv_at hl 1 rfl) ?_
            refine va_get (D := D) (ci := 3) (v := .ref p1) (C := RX3) (T := TX3) (N := 5) hx hb hts iw_X3_setPlaces_X3 hown hK hP 0 rfl rfl 0 (by decide) (hts (.fieldLink RX3 14 "JumpGuard" "sourceProgram" "LJumpGuard$Program;") (List.mem_of_getElem? (l := wsX3_setPlaces) (i := 1) rfl)) (fun _ h9 => h9) rfl dX3_setPlaces_49 ?_
            refine lv_iload_n hx hb dX3_setPlaces_52 rfl (lv_at hl 2 rfl) ?_
            refine lv_iconst (v := 0) hx hb dX3_setPlaces_53 (by decide) ?_
            refine jr_i (va_runV (As := [.int (nI i), .int 0]) (rest := []) ⟨hx, hb, hml, hown, hts⟩ (c_X2_get l D cA p1 b1 24 k1 72 f1 (nI i) 0 (by omega) (by omega)) (cwV 2 hts gX3_setPlaces_X2_get rfl rfl rfl hv_X2_get ⟨Nat.le_of_ble_eq_true rfl, Nat.le_of_ble_eq_true rfl⟩) (roP.V (va_recv hK hP (ci := 2) (q0 := 1) rfl rfl) (jP_sub (w2 := [(p1, .inr (2, [.ref b1, .int (nI 24), .int (nI k1)])), (b1, .inl (cA, 72, .inl f1))]) hP [1, 2] rfl) hK hN) rfl rfl hl.1 rfl (lv_room (Nat.le_of_ble_eq_true rfl)) dX3_setPlaces_54 ⟨Nat.le_of_ble_eq_true rfl, Nat.le_of_ble_eq_true rfl⟩) ?_
            refine jk_top (show (pGet f1 k1 (nI i) 0) = (f1 (i * 3)) from pGet_at (q := 0) hi2 (by decide) (by omega)) ?_
            refine lv_bipush (v := 8) hx hb dX3_setPlaces_57 (by decide) ?_
            refine lv_icmp_ne (tgt := 65) hx hb dX3_setPlaces_59 (by decide) (fun c_59 => ?_) (fun c_59 => ?_)
            · refine lv_iinc (v := (nI (i + 1))) (lv' := [(2, .int (nI (i + 1))), (1, .int (nI ((nx + 1) + 1))), (0, .ref h0)]) hx hb dX3_setPlaces_65 hl (k := 2) rfl (jn_a1 _) (by decide) rfl (fun ls hl => ?_)
              refine lv_goto (tgt := 4) hx hb dX3_setPlaces_68 (by decide) ?_
              exact ih4 (i + 1) ((nx + 1) + 1) (upd F i (nI nx)) (by omega) (by omega) (by subst hnx; show _ = plN f1 tn i + 1 + (if tn i = 0 then 0 else 1) + (if f1 (i * 3) = 8 then 1 else 0); rw [if_neg c_42, if_neg c_59]) (by subst hF; subst hnx; exact plP_s f1 tn P i) _ _ (jP_sub (w2 := [(h0, .inr (3, [.ref p1, .ref p2, .ref e0, .ref l0, .ref m0])), (p1, .inr (2, [.ref b1, .int (nI 24), .int (nI k1)])), (b1, .inl (cA, 72, .inl f1)), (e0, .inr (0, [.ref t0, .ref n0, .ref j0, .int (nI ec)])), (n0, .inl (cA, 24, .inl tn)), (l0, .inl (cA, 24, .inl (upd F i (nI nx))))]) hP [0, 1, 2, 3, 4, 5] rfl) (hD.sub (ws' := [(h0, .inr (3, [.ref p1, .ref p2, .ref e0, .ref l0, .ref m0])), (p1, .inr (2, [.ref b1, .int (nI 24), .int (nI k1)])), (b1, .inl (cA, 72, .inl f1)), (e0, .inr (0, [.ref t0, .ref n0, .ref j0, .int (nI ec)])), (n0, .inl (cA, 24, .inl tn)), (l0, .inl (cA, 24, .inl (upd F i (nI nx))))]) [0, 1, 2, 3, 4, 5] (by decide) rfl) hS ls (lv_sub hl [2, 1, 0] rfl)
            · refine lv_iinc (v := (nI (((nx + 1) + 1) + 1))) (lv' := [(1, .int (nI (((nx + 1) + 1) + 1))), (0, .ref h0), (2, .int (nI i))]) hx hb dX3_setPlaces_62 hl (k := 0) rfl (jn_a1 _) (by decide) rfl (fun ls hl => ?_)
              refine lv_iinc (v := (nI (i + 1))) (lv' := [(2, .int (nI (i + 1))), (1, .int (nI (((nx + 1) + 1) + 1))), (0, .ref h0)]) hx hb dX3_setPlaces_65 hl (k := 2) rfl (jn_a1 _) (by decide) rfl (fun ls hl => ?_)
              refine lv_goto (tgt := 4) hx hb dX3_setPlaces_68 (by decide) ?_
              exact ih4 (i + 1) (((nx + 1) + 1) + 1) (upd F i (nI nx)) (by omega) (by omega) (by subst hnx; show _ = plN f1 tn i + 1 + (if tn i = 0 then 0 else 1) + (if f1 (i * 3) = 8 then 1 else 0); rw [if_neg c_42, if_pos c_59]) (by subst hF; subst hnx; exact plP_s f1 tn P i) _ _ (jP_sub (w2 := [(h0, .inr (3, [.ref p1, .ref p2, .ref e0, .ref l0, .ref m0])), (p1, .inr (2, [.ref b1, .int (nI 24), .int (nI k1)])), (b1, .inl (cA, 72, .inl f1)), (e0, .inr (0, [.ref t0, .ref n0, .ref j0, .int (nI ec)])), (n0, .inl (cA, 24, .inl tn)), (l0, .inl (cA, 24, .inl (upd F i (nI nx))))]) hP [0, 1, 2, 3, 4, 5] rfl) (hD.sub (ws' := [(h0, .inr (3, [.ref p1, .ref p2, .ref e0, .ref l0, .ref m0])), (p1, .inr (2, [.ref b1, .int (nI 24), .int (nI k1)])), (b1, .inl (cA, 72, .inl f1)), (e0, .inr (0, [.ref t0, .ref n0, .ref j0, .int (nI ec)])), (n0, .inl (cA, 24, .inl tn)), (l0, .inl (cA, 24, .inl (upd F i (nI nx))))]) [0, 1, 2, 3, 4, 5] (by decide) rfl) hS ls (lv_sub hl [2, 1, 0] rfl)
  exact loop4 (k1 + 1) 0 0 P (by omega) (by omega) rfl (plP_0 f1 tn P) _ _ (jP_sub (w2 := [(h0, .inr (3, [.ref p1, .ref p2, .ref e0, .ref l0, .ref m0])), (p1, .inr (2, [.ref b1, .int (nI 24), .int (nI k1)])), (b1, .inl (cA, 72, .inl f1)), (e0, .inr (0, [.ref t0, .ref n0, .ref j0, .int (nI ec)])), (n0, .inl (cA, 24, .inl tn)), (l0, .inl (cA, 24, .inl P))]) hP [0, 1, 2, 3, 4, 5] rfl) (hD.sub (ws' := [(h0, .inr (3, [.ref p1, .ref p2, .ref e0, .ref l0, .ref m0])), (p1, .inr (2, [.ref b1, .int (nI 24), .int (nI k1)])), (b1, .inl (cA, 72, .inl f1)), (e0, .inr (0, [.ref t0, .ref n0, .ref j0, .int (nI ec)])), (n0, .inl (cA, 24, .inl tn)), (l0, .inl (cA, 24, .inl P))]) [0, 1, 2, 3, 4, 5] (by decide) rfl) hS ls (lv_sub hl [2, 1, 0] rfl)
set_option maxHeartbeats 4000000 in
set_option maxRecDepth 100000 in
theorem c_X3_appendGuarded (l : Launch) (D : va_G) (cA : ClassId) (sz : Nat) (h0 : Nat) (p1 : Nat) (p2 : Nat) (e0 : Nat) (l0 : Nat) (m0 : Nat) (b1 : Nat) (k1 : Nat) (b2 : Nat) (k2 : Nat) (t0 : Nat) (n0 : Nat) (j0 : Nat) (ec : Nat) (f1 : Nat → Int32) (f2 : Nat → Int32) (tn : Nat → Int32) (jn : Nat → Int32) (P : Nat → Int32) (i : Nat) (hk1 : k1 ≤ 24) (hi : i < k1) (hg : k2 + 3 ≤ 72) : Met l yX3_appendGuarded wsX3_appendGuarded ({ frames := 2, cells := 0, slots := 0, locals := 43 }) (rwP D cA [.ref h0, .int (nI i)] sz [(h0, .inr (3, [.ref p1, .ref p2, .ref e0, .ref l0, .ref m0])), (p1, .inr (2, [.ref b1, .int (nI 24), .int (nI k1)])), (b1, .inl (cA, 72, .inl f1)), (p2, .inr (2, [.ref b2, .int (nI 72), .int (nI k2)])), (b2, .inl (cA, 216, .inl f2)), (e0, .inr (0, [.ref t0, .ref n0, .ref j0, .int (nI ec)])), (n0, .inl (cA, 24, .inl tn)), (j0, .inl (cA, 24, .inl jn)), (l0, .inl (cA, 24, .inl P))]) (rwV D (va_A [(h0, .inr (3, [.ref p1, .ref p2, .ref e0, .ref l0, .ref m0])), (p1, .inr (2, [.ref b1, .int (nI 24), .int (nI k1)])), (b1, .inl (cA, 72, .inl f1)), (p2, .inr (2, [.ref b2, .int (nI 72), .int (nI k2)])), (b2, .inl (cA, 216, .inl f2)), (e0, .inr (0, [.ref t0, .ref n0, .ref j0, .int (nI ec)])), (n0, .inl (cA, 24, .inl tn)), (j0, .inl (cA, 24, .inl jn)), (l0, .inl (cA, 24, .inl P))] sz) [(h0, .inr (3, [.ref p1, .ref p2, .ref e0, .ref l0, .ref m0])), (p1, .inr (2, [.ref b1, .int (nI 24), .int (nI k1)])), (b1, .inl (cA, 72, .inl f1)), (p2, .inr (2, [.ref b2, .int (nI 72), .int (nI (gA f1 tn jn P i (k2, f2)).1)])), (b2, .inl (cA, 216, .inl ((gA f1 tn jn P i (k2, f2)).2))), (e0, .inr (0, [.ref t0, .ref n0, .ref j0, .int (nI ec)])), (n0, .inl (cA, 24, .inl tn)), (j0, .inl (cA, 24, .inl jn)), (l0, .inl (cA, 24, .inl P))]) 0 0 (va_A [(h0, .inr (3, [.ref p1, .ref p2, .ref e0, .ref l0, .ref m0])), (p1, .inr (2, [.ref b1, .int (nI 24), .int (nI k1)])), (b1, .inl (cA, 72, .inl f1)), (p2, .inr (2, [.ref b2, .int (nI 72), .int (nI k2)])), (b2, .inl (cA, 216, .inl f2)), (e0, .inr (0, [.ref t0, .ref n0, .ref j0, .int (nI ec)])), (n0, .inl (cA, 24, .inl tn)), (j0, .inl (cA, 24, .inl jn)), (l0, .inl (cA, 24, .inl P))] sz) := by
  refine Met.ofW (cc := cX3_appendGuarded) (maxL := 6) (ret := none) (by decide) rfl ?_
  intro p e s m args below meth c s₁ B hml hv
  obtain ⟨rfl, hsz, hP, hK, hN, hD0⟩ := hv
  have hx := B.exec
  have hb := B.bytes
  have hr := B.returns
  have hts := atoms_spec (ws := wsX3_appendGuarded) B.pre
  have hown : s.vm.findClass RX3 = some m.cls := findClass_of_methodNamed B.named
  have hlocks := B.notSynchronized
  subst hsz
  have hD := hD0.self (sz := s.heap.size)
  generalize hAe : va_A [(h0, .inr (3, [.ref p1, .ref p2, .ref e0, .ref l0, .ref m0])), (p1, .inr (2, [.ref b1, .int (nI 24), .int (nI k1)])), (b1, .inl (cA, 72, .inl f1)), (p2, .inr (2, [.ref b2, .int (nI 72), .int (nI k2)])), (b2, .inl (cA, 216, .inl f2)), (e0, .inr (0, [.ref t0, .ref n0, .ref j0, .int (nI ec)])), (n0, .inl (cA, 24, .inl tn)), (j0, .inl (cA, 24, .inl jn)), (l0, .inl (cA, 24, .inl P))] s.heap.size = A at hD ⊢
  have hA : ∀ q : Nat, s.heap.size ≤ q → A q := fun q h => by rw [← hAe]; exact Or.inr h
  have hS : va_S A s.heap s.heap [] := va_S.rf
  have hl := lv_entry ([.ref h0, .int (nI i)]) (n := 6) (Nat.le_of_ble_eq_true rfl)
  rw [lg_entry_eq]
  generalize (lg_sl ([.ref h0, .int (nI i)]) ++ List.replicate (6 - (lg_sl ([.ref h0, .int (nI i)])).length) Slot.unset).toArray = ls at hl ⊢
  have hl : lv_has ls 6 [(0, .ref h0), (1, .int (nI i))] := hl
  refine lv_aload_n hx hb dX3_appendGuarded_0 rfl (lv_at hl 0 rfl) ?_
  refine va_get (D := D) (ci := 3) (v := .ref p1) (C := RX3) (T := TX3) (N := 5) hx hb hts iw_X3_appendGuarded_X3 hown hK hP 0 rfl rfl 0 (by decide) (hts (.fieldLink RX3 14 "JumpGuard" "sourceProgram" "LJumpGuard$Program;") (List.mem_of_getElem? (l := wsX3_appendGuarded) (i := 1) rfl)) (fun _ h9 => h9) rfl dX3_appendGuarded_1 ?_
  refine lv_iload_n hx hb dX3_appendGuarded_4 rfl (lv_at hl 1 rfl) ?_
  refine lv_iconst (v := 0) hx hb dX3_appendGuarded_5 (by decide) ?_
  refine jr_i (va_runV (As := [.int (nI i), .int 0]) (rest := []) ⟨hx, hb, hml, hown, hts⟩ (c_X2_get l D cA p1 b1 24 k1 72 f1 (nI i) 0 (by omega) (by omega)) (cwV 2 hts gX3_appendGuarded_X2_get rfl rfl rfl hv_X2_get ⟨Nat.le_of_ble_eq_true rfl, Nat.le_of_ble_eq_true rfl⟩) (roP.V (va_recv hK hP (ci := 2) (q0 := 1) rfl rfl) (jP_sub (w2 := [(p1, .inr (2, [.ref b1, .int (nI 24), .int (nI k1)])), (b1, .inl (cA, 72, .inl f1))]) hP [1, 2] rfl) hK hN) rfl rfl hl.1 rfl (lv_room (Nat.le_of_ble_eq_true rfl)) dX3_appendGuarded_6 ⟨Nat.le_of_ble_eq_true rfl, Nat.le_of_ble_eq_true rfl⟩) ?_
  refine jk_top (show (pGet f1 k1 (nI i) 0) = (f1 (i * 3)) from pGet_at (q := 0) hi (by decide) (by omega)) ?_
  refine lv_istore_n (lv' := [(2, .int (f1 (i * 3))), (0, .ref h0), (1, .int (nI i))]) hx hb dX3_appendGuarded_9 rfl hl (by decide) rfl (fun ls hl => ?_)
  refine lv_aload_n hx hb dX3_appendGuarded_10 rfl (lv_at hl 1 rfl) ?_
  refine va_get (D := D) (ci := 3) (v := .ref p1) (C := RX3) (T := TX3) (N := 5) hx hb hts iw_X3_appendGuarded_X3 hown hK hP 0 rfl rfl 0 (by decide) (hts (.fieldLink RX3 14 "JumpGuard" "sourceProgram" "LJumpGuard$Program;") (List.mem_of_getElem? (l := wsX3_appendGuarded) (i := 1) rfl)) (fun _ h9 => h9) rfl dX3_appendGuarded_11 ?_
  refine lv_iload_n hx hb dX3_appendGuarded_14 rfl (lv_at hl 2 rfl) ?_
  refine lv_iconst (v := 1) hx hb dX3_appendGuarded_15 (by decide) ?_
  refine jr_i (va_runV (As := [.int (nI i), .int 1]) (rest := []) ⟨hx, hb, hml, hown, hts⟩ (c_X2_get l D cA p1 b1 24 k1 72 f1 (nI i) 1 (by omega) (by omega)) (cwV 2 hts gX3_appendGuarded_X2_get rfl rfl rfl hv_X2_get ⟨Nat.le_of_ble_eq_true rfl, Nat.le_of_ble_eq_true rfl⟩) (roP.V (va_recv hK hP (ci := 2) (q0 := 1) rfl rfl) (jP_sub (w2 := [(p1, .inr (2, [.ref b1, .int (nI 24), .int (nI k1)])), (b1, .inl (cA, 72, .inl f1))]) hP [1, 2] rfl) hK hN) rfl rfl hl.1 rfl (lv_room (Nat.le_of_ble_eq_true rfl)) dX3_appendGuarded_16 ⟨Nat.le_of_ble_eq_true rfl, Nat.le_of_ble_eq_true rfl⟩) ?_
  refine jk_top (show (pGet f1 k1 (nI i) 1) = (f1 (i * 3 + 1)) from pGet_at (q := 1) hi (by decide) (by omega)) ?_
  refine lv_istore_n (lv' := [(3, .int (f1 (i * 3 + 1))), (2, .int (f1 (i * 3))), (0, .ref h0), (1, .int (nI i))]) hx hb dX3_appendGuarded_19 rfl hl (by decide) rfl (fun ls hl => ?_)
  refine lv_aload_n hx hb dX3_appendGuarded_20 rfl (lv_at hl 2 rfl) ?_
  refine va_get (D := D) (ci := 3) (v := .ref p1) (C := RX3) (T := TX3) (N := 5) hx hb hts iw_X3_appendGuarded_X3 hown hK hP 0 rfl rfl 0 (by decide) (hts (.fieldLink RX3 14 "JumpGuard" "sourceProgram" "LJumpGuard$Program;") (List.mem_of_getElem? (l := wsX3_appendGuarded) (i := 1) rfl)) (fun _ h9 => h9) rfl dX3_appendGuarded_21 ?_
  refine lv_iload_n hx hb dX3_appendGuarded_24 rfl (lv_at hl 3 rfl) ?_
  refine lv_iconst (v := 2) hx hb dX3_appendGuarded_25 (by decide) ?_
  refine jr_i (va_runV (As := [.int (nI i), .int 2]) (rest := []) ⟨hx, hb, hml, hown, hts⟩ (c_X2_get l D cA p1 b1 24 k1 72 f1 (nI i) 2 (by omega) (by omega)) (cwV 2 hts gX3_appendGuarded_X2_get rfl rfl rfl hv_X2_get ⟨Nat.le_of_ble_eq_true rfl, Nat.le_of_ble_eq_true rfl⟩) (roP.V (va_recv hK hP (ci := 2) (q0 := 1) rfl rfl) (jP_sub (w2 := [(p1, .inr (2, [.ref b1, .int (nI 24), .int (nI k1)])), (b1, .inl (cA, 72, .inl f1))]) hP [1, 2] rfl) hK hN) rfl rfl hl.1 rfl (lv_room (Nat.le_of_ble_eq_true rfl)) dX3_appendGuarded_26 ⟨Nat.le_of_ble_eq_true rfl, Nat.le_of_ble_eq_true rfl⟩) ?_
  refine jk_top (show (pGet f1 k1 (nI i) 2) = (f1 (i * 3 + 2)) from pGet_at (q := 2) hi (by decide) (by omega)) ?_
  refine lv_istore (lv' := [(4, .int (f1 (i * 3 + 2))), (3, .int (f1 (i * 3 + 1))), (2, .int (f1 (i * 3))), (0, .ref h0), (1, .int (nI i))]) hx hb dX3_appendGuarded_29 hl (by decide) rfl (fun ls hl => ?_)
  refine lv_aload_n hx hb dX3_appendGuarded_31 rfl (lv_at hl 3 rfl) ?_
  refine va_get (D := D) (ci := 3) (v := .ref e0) (C := RX3) (T := TX3) (N := 5) hx hb hts iw_X3_appendGuarded_X3 hown hK hP 0 rfl rfl 2 (by decide) (hts (.fieldLink RX3 24 "JumpGuard" "edges" "LJumpGuard$Edges;") (List.mem_of_getElem? (l := wsX3_appendGuarded) (i := 2) rfl)) (fun _ h9 => h9) rfl dX3_appendGuarded_32 ?_
  refine lv_iload_n hx hb dX3_appendGuarded_35 rfl (lv_at hl 4 rfl) ?_
  refine jr_i (va_runV (As := [.int (nI i)]) (rest := []) ⟨hx, hb, hml, hown, hts⟩ (c_X0_numberOfTarget l D cA e0 t0 n0 j0 ec tn (nI i)) (cwV 1 hts gX3_appendGuarded_X0_numberOfTarget rfl rfl rfl hv_X0_numberOfTarget ⟨Nat.le_of_ble_eq_true rfl, Nat.le_of_ble_eq_true rfl⟩) (roP.V (va_recv hK hP (ci := 0) (q0 := 5) rfl rfl) (jP_sub (w2 := [(e0, .inr (0, [.ref t0, .ref n0, .ref j0, .int (nI ec)])), (n0, .inl (cA, 24, .inl tn))]) hP [5, 6] rfl) hK hN) rfl rfl hl.1 rfl (lv_room (Nat.le_of_ble_eq_true rfl)) dX3_appendGuarded_36 ⟨Nat.le_of_ble_eq_true rfl, Nat.le_of_ble_eq_true rfl⟩) ?_
  refine jk_top (show (jAt tn 24 (nI i)) = (tn i) from jAt_n (n := 24) (by omega) (by decide)) ?_
  refine lv_istore (lv' := [(5, .int (tn i)), (4, .int (f1 (i * 3 + 2))), (3, .int (f1 (i * 3 + 1))), (2, .int (f1 (i * 3))), (0, .ref h0), (1, .int (nI i))]) hx hb dX3_appendGuarded_39 hl (by decide) rfl (fun ls hl => ?_)
  refine lv_iload hx hb dX3_appendGuarded_41 (lv_at hl 0 rfl) ?_
  refine lv_if_eq (tgt := 58) hx hb dX3_appendGuarded_43 (by decide) (fun c_43 => ?_) (fun c_43 => ?_)
  · refine lv_iload_n hx hb dX3_appendGuarded_58 rfl (lv_at hl 3 rfl) ?_
    refine lv_bipush (v := 8) hx hb dX3_appendGuarded_59 (by decide) ?_
    refine lv_icmp_ne (tgt := 82) hx hb dX3_appendGuarded_61 (by decide) (fun c_61 => ?_) (fun c_61 => ?_)
    · refine lv_aload_n hx hb dX3_appendGuarded_82 rfl (lv_at hl 4 rfl) ?_
      refine va_get (D := D) (ci := 3) (v := .ref p2) (C := RX3) (T := TX3) (N := 5) hx hb hts iw_X3_appendGuarded_X3 hown hK hP 0 rfl rfl 1 (by decide) (hts (.fieldLink RX3 18 "JumpGuard" "guardedProgram" "LJumpGuard$Program;") (List.mem_of_getElem? (l := wsX3_appendGuarded) (i := 3) rfl)) (fun _ h9 => h9) rfl dX3_appendGuarded_83 ?_
      refine lv_iload_n hx hb dX3_appendGuarded_86 rfl (lv_at hl 3 rfl) ?_
      refine lv_iload_n hx hb dX3_appendGuarded_87 rfl (lv_at hl 3 rfl) ?_
      refine lv_bipush (v := 6) hx hb dX3_appendGuarded_88 (by decide) ?_
      refine lv_icmp_ne (tgt := 101) hx hb dX3_appendGuarded_90 (by decide) (fun c_90 => ?_) (fun c_90 => ?_)
      · refine lv_iload_n hx hb dX3_appendGuarded_101 rfl (lv_at hl 2 rfl) ?_
        refine lv_iload_n hx hb dX3_appendGuarded_102 rfl (lv_at hl 3 rfl) ?_
        refine jr_i (va_runS (As := [.int (f1 (i * 3))]) (rest := [.int (f1 (i * 3 + 1)), .int (f1 (i * 3)), .ref p2]) ⟨hx, hb, hml, hown, hts⟩ (c_X3_holdsAddressInB l D cA (f1 (i * 3))) (va_cwS 1 hts gX3_appendGuarded_X3_holdsAddressInB rfl rfl rfl hv_X3_holdsAddressInB.2 ⟨Nat.le_of_ble_eq_true rfl, Nat.le_of_ble_eq_true rfl⟩) (roP.S (av := [.int (f1 (i * 3))]) (jP_sub (w2 := []) hP [] rfl) hK hN) rfl rfl hl.1 rfl (lv_room (Nat.le_of_ble_eq_true rfl)) dX3_appendGuarded_103 ⟨Nat.le_of_ble_eq_true rfl, Nat.le_of_ble_eq_true rfl⟩) ?_
        refine lv_if_eq (tgt := 118) hx hb dX3_appendGuarded_106 (by decide) (fun c_106 => ?_) (fun c_106 => ?_)
        · replace c_106 := jB_z.mp c_106
          refine lv_iload hx hb dX3_appendGuarded_118 (lv_at hl 1 rfl) ?_
          refine jw_v (va_runV (As := [.int (f1 (i * 3)), .int (f1 (i * 3 + 1)), .int (f1 (i * 3 + 2))]) (rest := []) ⟨hx, hb, hml, hown, hts⟩ (c_X2_append l D cA s.heap.size p2 b2 72 k2 216 f2 (f1 (i * 3)) (f1 (i * 3 + 1)) (f1 (i * 3 + 2)) (by omega) (by first | assumption | omega) (by omega)) (cwV 3 hts gX3_appendGuarded_X2_append rfl rfl rfl hv_X2_append ⟨Nat.le_of_ble_eq_true rfl, Nat.le_of_ble_eq_true rfl⟩) (rwP.V (wc := [(p2, .inr (2, [.ref b2, .int (nI 72), .int (nI k2)])), (b2, .inl (cA, 216, .inl f2))]) (va_recv hK hP (ci := 2) (q0 := 3) rfl rfl) hP hD hK hN [3, 4] (by decide) rfl) rfl rfl hl.1 rfl (lv_room (Nat.le_of_ble_eq_true rfl)) dX3_appendGuarded_120 ⟨Nat.le_of_ble_eq_true rfl, Nat.le_of_ble_eq_true rfl⟩) hP hD hS hA [3, 4] [0, 1, 2, 5, 6, 7, 8] [0, 1, 2, 7, 8, 3, 4, 5, 6] (wr := [(h0, .inr (3, [.ref p1, .ref p2, .ref e0, .ref l0, .ref m0])), (p1, .inr (2, [.ref b1, .int (nI 24), .int (nI k1)])), (b1, .inl (cA, 72, .inl f1)), (e0, .inr (0, [.ref t0, .ref n0, .ref j0, .int (nI ec)])), (n0, .inl (cA, 24, .inl tn)), (j0, .inl (cA, 24, .inl jn)), (l0, .inl (cA, 24, .inl P))]) (w2 := [(h0, .inr (3, [.ref p1, .ref p2, .ref e0, .ref l0, .ref m0])), (p1, .inr (2, [.ref b1, .int (nI 24), .int (nI k1)])), (b1, .inl (cA, 72, .inl f1)), (p2, .inr (2, [.ref b2, .int (nI 72), .int (nI (k2 + 1))])), (b2, .inl (cA, 216, .inl (pApp f2 k2 (f1 (i * 3)) (f1 (i * 3 + 1)) (f1 (i * 3 + 2))))), (e0, .inr (0, [.ref t0, .ref n0, .ref j0, .int (nI ec)])), (n0, .inl (cA, 24, .inl tn)), (j0, .inl (cA, 24, .inl jn)), (l0, .inl (cA, 24, .inl P))]) rfl rfl (by decide) (by decide) (by decide) rfl (fun H locs hP hD hS => ?_)
          obtain ⟨hP9, hD9⟩ := jk_end (w2 := [(h0, .inr (3, [.ref p1, .ref p2, .ref e0, .ref l0, .ref m0])), (p1, .inr (2, [.ref b1, .int (nI 24), .int (nI k1)])), (b1, .inl (cA, 72, .inl f1)), (p2, .inr (2, [.ref b2, .int (nI 72), .int (nI (k2 + 1))])), (b2, .inl (cA, 216, .inl (pApp f2 k2 (f1 (i * 3)) (f1 (i * 3 + 1)) (f1 (i * 3 + 2))))), (e0, .inr (0, [.ref t0, .ref n0, .ref j0, .int (nI ec)])), (n0, .inl (cA, 24, .inl tn)), (j0, .inl (cA, 24, .inl jn)), (l0, .inl (cA, 24, .inl P))]) hP hD [0, 1, 2, 3, 4, 5, 6, 7, 8] (by decide) rfl
          have e9 : ([(h0, .inr (3, [.ref p1, .ref p2, .ref e0, .ref l0, .ref m0])), (p1, .inr (2, [.ref b1, .int (nI 24), .int (nI k1)])), (b1, .inl (cA, 72, .inl f1)), (p2, .inr (2, [.ref b2, .int (nI 72), .int (nI (k2 + 1))])), (b2, .inl (cA, 216, .inl (pApp f2 k2 (f1 (i * 3)) (f1 (i * 3 + 1)) (f1 (i * 3 + 2))))), (e0, .inr (0, [.ref t0, .ref n0, .ref j0, .int (nI ec)])), (n0, .inl (cA, 24, .inl tn)), (j0, .inl (cA, 24, .inl jn)), (l0, .inl (cA, 24, .inl P))] : va_W) = [(h0, .inr (3, [.ref p1, .ref p2, .ref e0, .ref l0, .ref m0])), (p1, .inr (2, [.ref b1, .int (nI 24), .int (nI k1)])), (b1, .inl (cA, 72, .inl f1)), (p2, .inr (2, [.ref b2, .int (nI 72), .int (nI (gA f1 tn jn P i (k2, f2)).1)])), (b2, .inl (cA, 216, .inl ((gA f1 tn jn P i (k2, f2)).2))), (e0, .inr (0, [.ref t0, .ref n0, .ref j0, .int (nI ec)])), (n0, .inl (cA, 24, .inl tn)), (j0, .inl (cA, 24, .inl jn)), (l0, .inl (cA, 24, .inl P))] := (by unfold gA gA3 gA2 gA1 gX gY; simp only [if_pos c_43, if_neg c_61, if_neg c_90, if_neg c_106])
          rw [e9] at hP9 hD9
          exact W.vret hx hb hr (fun t9 ht9 hW9 => ⟨⟨(), rfl, trivial, by rw [ht9]; exact hP9, hD9⟩, hS.F ht9⟩) hS.2.2 dX3_appendGuarded_123
        · replace c_106 := jB_nz.mp c_106
          refine lv_aload_n hx hb dX3_appendGuarded_109 rfl (lv_at hl 4 rfl) ?_
          refine lv_iload hx hb dX3_appendGuarded_110 (lv_at hl 1 rfl) ?_
          refine jr_i (va_runV (As := [.int (f1 (i * 3 + 2))]) (rest := [.int (f1 (i * 3 + 1)), .int (f1 (i * 3)), .ref p2]) ⟨hx, hb, hml, hown, hts⟩ (c_X3_placeOf l D cA h0 p1 p2 e0 l0 m0 P (f1 (i * 3 + 2))) (cwV 1 hts gX3_appendGuarded_X3_placeOf rfl rfl rfl hv_X3_placeOf ⟨Nat.le_of_ble_eq_true rfl, Nat.le_of_ble_eq_true rfl⟩) (roP.V (va_recv hK hP (ci := 3) (q0 := 0) rfl rfl) (jP_sub (w2 := [(h0, .inr (3, [.ref p1, .ref p2, .ref e0, .ref l0, .ref m0])), (l0, .inl (cA, 24, .inl P))]) hP [0, 8] rfl) hK hN) rfl rfl hl.1 rfl (lv_room (Nat.le_of_ble_eq_true rfl)) dX3_appendGuarded_112 ⟨Nat.le_of_ble_eq_true rfl, Nat.le_of_ble_eq_true rfl⟩) ?_
          refine lv_goto (tgt := 120) hx hb dX3_appendGuarded_115 (by decide) ?_
          refine jw_v (va_runV (As := [.int (f1 (i * 3)), .int (f1 (i * 3 + 1)), .int (pPl P (f1 (i * 3 + 2)))]) (rest := []) ⟨hx, hb, hml, hown, hts⟩ (c_X2_append l D cA s.heap.size p2 b2 72 k2 216 f2 (f1 (i * 3)) (f1 (i * 3 + 1)) (pPl P (f1 (i * 3 + 2))) (by omega) (by first | assumption | omega) (by omega)) (cwV 3 hts gX3_appendGuarded_X2_append rfl rfl rfl hv_X2_append ⟨Nat.le_of_ble_eq_true rfl, Nat.le_of_ble_eq_true rfl⟩) (rwP.V (wc := [(p2, .inr (2, [.ref b2, .int (nI 72), .int (nI k2)])), (b2, .inl (cA, 216, .inl f2))]) (va_recv hK hP (ci := 2) (q0 := 3) rfl rfl) hP hD hK hN [3, 4] (by decide) rfl) rfl rfl hl.1 rfl (lv_room (Nat.le_of_ble_eq_true rfl)) dX3_appendGuarded_120 ⟨Nat.le_of_ble_eq_true rfl, Nat.le_of_ble_eq_true rfl⟩) hP hD hS hA [3, 4] [0, 1, 2, 5, 6, 7, 8] [0, 1, 2, 7, 8, 3, 4, 5, 6] (wr := [(h0, .inr (3, [.ref p1, .ref p2, .ref e0, .ref l0, .ref m0])), (p1, .inr (2, [.ref b1, .int (nI 24), .int (nI k1)])), (b1, .inl (cA, 72, .inl f1)), (e0, .inr (0, [.ref t0, .ref n0, .ref j0, .int (nI ec)])), (n0, .inl (cA, 24, .inl tn)), (j0, .inl (cA, 24, .inl jn)), (l0, .inl (cA, 24, .inl P))]) (w2 := [(h0, .inr (3, [.ref p1, .ref p2, .ref e0, .ref l0, .ref m0])), (p1, .inr (2, [.ref b1, .int (nI 24), .int (nI k1)])), (b1, .inl (cA, 72, .inl f1)), (p2, .inr (2, [.ref b2, .int (nI 72), .int (nI (k2 + 1))])), (b2, .inl (cA, 216, .inl (pApp f2 k2 (f1 (i * 3)) (f1 (i * 3 + 1)) (pPl P (f1 (i * 3 + 2)))))), (e0, .inr (0, [.ref t0, .ref n0, .ref j0, .int (nI ec)])), (n0, .inl (cA, 24, .inl tn)), (j0, .inl (cA, 24, .inl jn)), (l0, .inl (cA, 24, .inl P))]) rfl rfl (by decide) (by decide) (by decide) rfl (fun H locs hP hD hS => ?_)
          obtain ⟨hP9, hD9⟩ := jk_end (w2 := [(h0, .inr (3, [.ref p1, .ref p2, .ref e0, .ref l0, .ref m0])), (p1, .inr (2, [.ref b1, .int (nI 24), .int (nI k1)])), (b1, .inl (cA, 72, .inl f1)), (p2, .inr (2, [.ref b2, .int (nI 72), .int (nI (k2 + 1))])), (b2, .inl (cA, 216, .inl (pApp f2 k2 (f1 (i * 3)) (f1 (i * 3 + 1)) (pPl P (f1 (i * 3 + 2)))))), (e0, .inr (0, [.ref t0, .ref n0, .ref j0, .int (nI ec)])), (n0, .inl (cA, 24, .inl tn)), (j0, .inl (cA, 24, .inl jn)), (l0, .inl (cA, 24, .inl P))]) hP hD [0, 1, 2, 3, 4, 5, 6, 7, 8] (by decide) rfl
          have e9 : ([(h0, .inr (3, [.ref p1, .ref p2, .ref e0, .ref l0, .ref m0])), (p1, .inr (2, [.ref b1, .int (nI 24), .int (nI k1)])), (b1, .inl (cA, 72, .inl f1)), (p2, .inr (2, [.ref b2, .int (nI 72), .int (nI (k2 + 1))])), (b2, .inl (cA, 216, .inl (pApp f2 k2 (f1 (i * 3)) (f1 (i * 3 + 1)) (pPl P (f1 (i * 3 + 2)))))), (e0, .inr (0, [.ref t0, .ref n0, .ref j0, .int (nI ec)])), (n0, .inl (cA, 24, .inl tn)), (j0, .inl (cA, 24, .inl jn)), (l0, .inl (cA, 24, .inl P))] : va_W) = [(h0, .inr (3, [.ref p1, .ref p2, .ref e0, .ref l0, .ref m0])), (p1, .inr (2, [.ref b1, .int (nI 24), .int (nI k1)])), (b1, .inl (cA, 72, .inl f1)), (p2, .inr (2, [.ref b2, .int (nI 72), .int (nI (gA f1 tn jn P i (k2, f2)).1)])), (b2, .inl (cA, 216, .inl ((gA f1 tn jn P i (k2, f2)).2))), (e0, .inr (0, [.ref t0, .ref n0, .ref j0, .int (nI ec)])), (n0, .inl (cA, 24, .inl tn)), (j0, .inl (cA, 24, .inl jn)), (l0, .inl (cA, 24, .inl P))] := (by unfold gA gA3 gA2 gA1 gX gY; simp only [if_pos c_43, if_neg c_61, if_neg c_90, if_pos c_106])
          rw [e9] at hP9 hD9
          exact W.vret hx hb hr (fun t9 ht9 hW9 => ⟨⟨(), rfl, trivial, by rw [ht9]; exact hP9, hD9⟩, hS.F ht9⟩) hS.2.2 dX3_appendGuarded_123
      · refine lv_aload_n hx hb dX3_appendGuarded_93 rfl (lv_at hl 4 rfl) ?_
        refine lv_iload_n hx hb dX3_appendGuarded_94 rfl (lv_at hl 2 rfl) ?_
        refine jr_i (va_runV (As := [.int (f1 (i * 3 + 1))]) (rest := [.int (f1 (i * 3)), .ref p2]) ⟨hx, hb, hml, hown, hts⟩ (c_X3_placeOf l D cA h0 p1 p2 e0 l0 m0 P (f1 (i * 3 + 1))) (cwV 1 hts gX3_appendGuarded_X3_placeOf rfl rfl rfl hv_X3_placeOf ⟨Nat.le_of_ble_eq_true rfl, Nat.le_of_ble_eq_true rfl⟩) (roP.V (va_recv hK hP (ci := 3) (q0 := 0) rfl rfl) (jP_sub (w2 := [(h0, .inr (3, [.ref p1, .ref p2, .ref e0, .ref l0, .ref m0])), (l0, .inl (cA, 24, .inl P))]) hP [0, 8] rfl) hK hN) rfl rfl hl.1 rfl (lv_room (Nat.le_of_ble_eq_true rfl)) dX3_appendGuarded_95 ⟨Nat.le_of_ble_eq_true rfl, Nat.le_of_ble_eq_true rfl⟩) ?_
        refine lv_goto (tgt := 102) hx hb dX3_appendGuarded_98 (by decide) ?_
        refine lv_iload_n hx hb dX3_appendGuarded_102 rfl (lv_at hl 3 rfl) ?_
        refine jr_i (va_runS (As := [.int (f1 (i * 3))]) (rest := [.int (pPl P (f1 (i * 3 + 1))), .int (f1 (i * 3)), .ref p2]) ⟨hx, hb, hml, hown, hts⟩ (c_X3_holdsAddressInB l D cA (f1 (i * 3))) (va_cwS 1 hts gX3_appendGuarded_X3_holdsAddressInB rfl rfl rfl hv_X3_holdsAddressInB.2 ⟨Nat.le_of_ble_eq_true rfl, Nat.le_of_ble_eq_true rfl⟩) (roP.S (av := [.int (f1 (i * 3))]) (jP_sub (w2 := []) hP [] rfl) hK hN) rfl rfl hl.1 rfl (lv_room (Nat.le_of_ble_eq_true rfl)) dX3_appendGuarded_103 ⟨Nat.le_of_ble_eq_true rfl, Nat.le_of_ble_eq_true rfl⟩) ?_
        refine lv_if_eq (tgt := 118) hx hb dX3_appendGuarded_106 (by decide) (fun c_106 => ?_) (fun c_106 => ?_)
        · replace c_106 := jB_z.mp c_106
          refine lv_iload hx hb dX3_appendGuarded_118 (lv_at hl 1 rfl) ?_
          refine jw_v (va_runV (As := [.int (f1 (i * 3)), .int (pPl P (f1 (i * 3 + 1))), .int (f1 (i * 3 + 2))]) (rest := []) ⟨hx, hb, hml, hown, hts⟩ (c_X2_append l D cA s.heap.size p2 b2 72 k2 216 f2 (f1 (i * 3)) (pPl P (f1 (i * 3 + 1))) (f1 (i * 3 + 2)) (by omega) (by first | assumption | omega) (by omega)) (cwV 3 hts gX3_appendGuarded_X2_append rfl rfl rfl hv_X2_append ⟨Nat.le_of_ble_eq_true rfl, Nat.le_of_ble_eq_true rfl⟩) (rwP.V (wc := [(p2, .inr (2, [.ref b2, .int (nI 72), .int (nI k2)])), (b2, .inl (cA, 216, .inl f2))]) (va_recv hK hP (ci := 2) (q0 := 3) rfl rfl) hP hD hK hN [3, 4] (by decide) rfl) rfl rfl hl.1 rfl (lv_room (Nat.le_of_ble_eq_true rfl)) dX3_appendGuarded_120 ⟨Nat.le_of_ble_eq_true rfl, Nat.le_of_ble_eq_true rfl⟩) hP hD hS hA [3, 4] [0, 1, 2, 5, 6, 7, 8] [0, 1, 2, 7, 8, 3, 4, 5, 6] (wr := [(h0, .inr (3, [.ref p1, .ref p2, .ref e0, .ref l0, .ref m0])), (p1, .inr (2, [.ref b1, .int (nI 24), .int (nI k1)])), (b1, .inl (cA, 72, .inl f1)), (e0, .inr (0, [.ref t0, .ref n0, .ref j0, .int (nI ec)])), (n0, .inl (cA, 24, .inl tn)), (j0, .inl (cA, 24, .inl jn)), (l0, .inl (cA, 24, .inl P))]) (w2 := [(h0, .inr (3, [.ref p1, .ref p2, .ref e0, .ref l0, .ref m0])), (p1, .inr (2, [.ref b1, .int (nI 24), .int (nI k1)])), (b1, .inl (cA, 72, .inl f1)), (p2, .inr (2, [.ref b2, .int (nI 72), .int (nI (k2 + 1))])), (b2, .inl (cA, 216, .inl (pApp f2 k2 (f1 (i * 3)) (pPl P (f1 (i * 3 + 1))) (f1 (i * 3 + 2))))), (e0, .inr (0, [.ref t0, .ref n0, .ref j0, .int (nI ec)])), (n0, .inl (cA, 24, .inl tn)), (j0, .inl (cA, 24, .inl jn)), (l0, .inl (cA, 24, .inl P))]) rfl rfl (by decide) (by decide) (by decide) rfl (fun H locs hP hD hS => ?_)
          obtain ⟨hP9, hD9⟩ := jk_end (w2 := [(h0, .inr (3, [.ref p1, .ref p2, .ref e0, .ref l0, .ref m0])), (p1, .inr (2, [.ref b1, .int (nI 24), .int (nI k1)])), (b1, .inl (cA, 72, .inl f1)), (p2, .inr (2, [.ref b2, .int (nI 72), .int (nI (k2 + 1))])), (b2, .inl (cA, 216, .inl (pApp f2 k2 (f1 (i * 3)) (pPl P (f1 (i * 3 + 1))) (f1 (i * 3 + 2))))), (e0, .inr (0, [.ref t0, .ref n0, .ref j0, .int (nI ec)])), (n0, .inl (cA, 24, .inl tn)), (j0, .inl (cA, 24, .inl jn)), (l0, .inl (cA, 24, .inl P))]) hP hD [0, 1, 2, 3, 4, 5, 6, 7, 8] (by decide) rfl
          have e9 : ([(h0, .inr (3, [.ref p1, .ref p2, .ref e0, .ref l0, .ref m0])), (p1, .inr (2, [.ref b1, .int (nI 24), .int (nI k1)])), (b1, .inl (cA, 72, .inl f1)), (p2, .inr (2, [.ref b2, .int (nI 72), .int (nI (k2 + 1))])), (b2, .inl (cA, 216, .inl (pApp f2 k2 (f1 (i * 3)) (pPl P (f1 (i * 3 + 1))) (f1 (i * 3 + 2))))), (e0, .inr (0, [.ref t0, .ref n0, .ref j0, .int (nI ec)])), (n0, .inl (cA, 24, .inl tn)), (j0, .inl (cA, 24, .inl jn)), (l0, .inl (cA, 24, .inl P))] : va_W) = [(h0, .inr (3, [.ref p1, .ref p2, .ref e0, .ref l0, .ref m0])), (p1, .inr (2, [.ref b1, .int (nI 24), .int (nI k1)])), (b1, .inl (cA, 72, .inl f1)), (p2, .inr (2, [.ref b2, .int (nI 72), .int (nI (gA f1 tn jn P i (k2, f2)).1)])), (b2, .inl (cA, 216, .inl ((gA f1 tn jn P i (k2, f2)).2))), (e0, .inr (0, [.ref t0, .ref n0, .ref j0, .int (nI ec)])), (n0, .inl (cA, 24, .inl tn)), (j0, .inl (cA, 24, .inl jn)), (l0, .inl (cA, 24, .inl P))] := (by unfold gA gA3 gA2 gA1 gX gY; simp only [if_pos c_43, if_neg c_61, if_pos c_90, if_neg c_106])
          rw [e9] at hP9 hD9
          exact W.vret hx hb hr (fun t9 ht9 hW9 => ⟨⟨(), rfl, trivial, by rw [ht9]; exact hP9, hD9⟩, hS.F ht9⟩) hS.2.2 dX3_appendGuarded_123
        · replace c_106 := jB_nz.mp c_106
          refine lv_aload_n hx hb dX3_appendGuarded_109 rfl (lv_at hl 4 rfl) ?_
          refine lv_iload hx hb dX3_appendGuarded_110 (lv_at hl 1 rfl) ?_
          refine jr_i (va_runV (As := [.int (f1 (i * 3 + 2))]) (rest := [.int (pPl P (f1 (i * 3 + 1))), .int (f1 (i * 3)), .ref p2]) ⟨hx, hb, hml, hown, hts⟩ (c_X3_placeOf l D cA h0 p1 p2 e0 l0 m0 P (f1 (i * 3 + 2))) (cwV 1 hts gX3_appendGuarded_X3_placeOf rfl rfl rfl hv_X3_placeOf ⟨Nat.le_of_ble_eq_true rfl, Nat.le_of_ble_eq_true rfl⟩) (roP.V (va_recv hK hP (ci := 3) (q0 := 0) rfl rfl) (jP_sub (w2 := [(h0, .inr (3, [.ref p1, .ref p2, .ref e0, .ref l0, .ref m0])), (l0, .inl (cA, 24, .inl P))]) hP [0, 8] rfl) hK hN) rfl rfl hl.1 rfl (lv_room (Nat.le_of_ble_eq_true rfl)) dX3_appendGuarded_112 ⟨Nat.le_of_ble_eq_true rfl, Nat.le_of_ble_eq_true rfl⟩) ?_
          refine lv_goto (tgt := 120) hx hb dX3_appendGuarded_115 (by decide) ?_
          refine jw_v (va_runV (As := [.int (f1 (i * 3)), .int (pPl P (f1 (i * 3 + 1))), .int (pPl P (f1 (i * 3 + 2)))]) (rest := []) ⟨hx, hb, hml, hown, hts⟩ (c_X2_append l D cA s.heap.size p2 b2 72 k2 216 f2 (f1 (i * 3)) (pPl P (f1 (i * 3 + 1))) (pPl P (f1 (i * 3 + 2))) (by omega) (by first | assumption | omega) (by omega)) (cwV 3 hts gX3_appendGuarded_X2_append rfl rfl rfl hv_X2_append ⟨Nat.le_of_ble_eq_true rfl, Nat.le_of_ble_eq_true rfl⟩) (rwP.V (wc := [(p2, .inr (2, [.ref b2, .int (nI 72), .int (nI k2)])), (b2, .inl (cA, 216, .inl f2))]) (va_recv hK hP (ci := 2) (q0 := 3) rfl rfl) hP hD hK hN [3, 4] (by decide) rfl) rfl rfl hl.1 rfl (lv_room (Nat.le_of_ble_eq_true rfl)) dX3_appendGuarded_120 ⟨Nat.le_of_ble_eq_true rfl, Nat.le_of_ble_eq_true rfl⟩) hP hD hS hA [3, 4] [0, 1, 2, 5, 6, 7, 8] [0, 1, 2, 7, 8, 3, 4, 5, 6] (wr := [(h0, .inr (3, [.ref p1, .ref p2, .ref e0, .ref l0, .ref m0])), (p1, .inr (2, [.ref b1, .int (nI 24), .int (nI k1)])), (b1, .inl (cA, 72, .inl f1)), (e0, .inr (0, [.ref t0, .ref n0, .ref j0, .int (nI ec)])), (n0, .inl (cA, 24, .inl tn)), (j0, .inl (cA, 24, .inl jn)), (l0, .inl (cA, 24, .inl P))]) (w2 := [(h0, .inr (3, [.ref p1, .ref p2, .ref e0, .ref l0, .ref m0])), (p1, .inr (2, [.ref b1, .int (nI 24), .int (nI k1)])), (b1, .inl (cA, 72, .inl f1)), (p2, .inr (2, [.ref b2, .int (nI 72), .int (nI (k2 + 1))])), (b2, .inl (cA, 216, .inl (pApp f2 k2 (f1 (i * 3)) (pPl P (f1 (i * 3 + 1))) (pPl P (f1 (i * 3 + 2)))))), (e0, .inr (0, [.ref t0, .ref n0, .ref j0, .int (nI ec)])), (n0, .inl (cA, 24, .inl tn)), (j0, .inl (cA, 24, .inl jn)), (l0, .inl (cA, 24, .inl P))]) rfl rfl (by decide) (by decide) (by decide) rfl (fun H locs hP hD hS => ?_)
          obtain ⟨hP9, hD9⟩ := jk_end (w2 := [(h0, .inr (3, [.ref p1, .ref p2, .ref e0, .ref l0, .ref m0])), (p1, .inr (2, [.ref b1, .int (nI 24), .int (nI k1)])), (b1, .inl (cA, 72, .inl f1)), (p2, .inr (2, [.ref b2, .int (nI 72), .int (nI (k2 + 1))])), (b2, .inl (cA, 216, .inl (pApp f2 k2 (f1 (i * 3)) (pPl P (f1 (i * 3 + 1))) (pPl P (f1 (i * 3 + 2)))))), (e0, .inr (0, [.ref t0, .ref n0, .ref j0, .int (nI ec)])), (n0, .inl (cA, 24, .inl tn)), (j0, .inl (cA, 24, .inl jn)), (l0, .inl (cA, 24, .inl P))]) hP hD [0, 1, 2, 3, 4, 5, 6, 7, 8] (by decide) rfl
          have e9 : ([(h0, .inr (3, [.ref p1, .ref p2, .ref e0, .ref l0, .ref m0])), (p1, .inr (2, [.ref b1, .int (nI 24), .int (nI k1)])), (b1, .inl (cA, 72, .inl f1)), (p2, .inr (2, [.ref b2, .int (nI 72), .int (nI (k2 + 1))])), (b2, .inl (cA, 216, .inl (pApp f2 k2 (f1 (i * 3)) (pPl P (f1 (i * 3 + 1))) (pPl P (f1 (i * 3 + 2)))))), (e0, .inr (0, [.ref t0, .ref n0, .ref j0, .int (nI ec)])), (n0, .inl (cA, 24, .inl tn)), (j0, .inl (cA, 24, .inl jn)), (l0, .inl (cA, 24, .inl P))] : va_W) = [(h0, .inr (3, [.ref p1, .ref p2, .ref e0, .ref l0, .ref m0])), (p1, .inr (2, [.ref b1, .int (nI 24), .int (nI k1)])), (b1, .inl (cA, 72, .inl f1)), (p2, .inr (2, [.ref b2, .int (nI 72), .int (nI (gA f1 tn jn P i (k2, f2)).1)])), (b2, .inl (cA, 216, .inl ((gA f1 tn jn P i (k2, f2)).2))), (e0, .inr (0, [.ref t0, .ref n0, .ref j0, .int (nI ec)])), (n0, .inl (cA, 24, .inl tn)), (j0, .inl (cA, 24, .inl jn)), (l0, .inl (cA, 24, .inl P))] := (by unfold gA gA3 gA2 gA1 gX gY; simp only [if_pos c_43, if_neg c_61, if_pos c_90, if_pos c_106])
          rw [e9] at hP9 hD9
          exact W.vret hx hb hr (fun t9 ht9 hW9 => ⟨⟨(), rfl, trivial, by rw [ht9]; exact hP9, hD9⟩, hS.F ht9⟩) hS.2.2 dX3_appendGuarded_123
    · refine lv_aload_n hx hb dX3_appendGuarded_64 rfl (lv_at hl 4 rfl) ?_
      refine va_get (D := D) (ci := 3) (v := .ref p2) (C := RX3) (T := TX3) (N := 5) hx hb hts iw_X3_appendGuarded_X3 hown hK hP 0 rfl rfl 1 (by decide) (hts (.fieldLink RX3 18 "JumpGuard" "guardedProgram" "LJumpGuard$Program;") (List.mem_of_getElem? (l := wsX3_appendGuarded) (i := 3) rfl)) (fun _ h9 => h9) rfl dX3_appendGuarded_65 ?_
      refine lv_bipush (v := 11) hx hb dX3_appendGuarded_68 (by decide) ?_
      refine lv_iload_n hx hb dX3_appendGuarded_70 rfl (lv_at hl 2 rfl) ?_
      refine lv_aload_n hx hb dX3_appendGuarded_71 rfl (lv_at hl 4 rfl) ?_
      refine va_get (D := D) (ci := 3) (v := .ref e0) (C := RX3) (T := TX3) (N := 5) hx hb hts iw_X3_appendGuarded_X3 hown hK hP 0 rfl rfl 2 (by decide) (hts (.fieldLink RX3 24 "JumpGuard" "edges" "LJumpGuard$Edges;") (List.mem_of_getElem? (l := wsX3_appendGuarded) (i := 2) rfl)) (fun _ h9 => h9) rfl dX3_appendGuarded_72 ?_
      refine lv_iload_n hx hb dX3_appendGuarded_75 rfl (lv_at hl 5 rfl) ?_
      refine jr_i (va_runV (As := [.int (nI i)]) (rest := [.int (f1 (i * 3 + 1)), .int 11, .ref p2]) ⟨hx, hb, hml, hown, hts⟩ (c_X0_numberOfJump l D cA e0 t0 n0 j0 ec jn (nI i)) (cwV 1 hts gX3_appendGuarded_X0_numberOfJump rfl rfl rfl hv_X0_numberOfJump ⟨Nat.le_of_ble_eq_true rfl, Nat.le_of_ble_eq_true rfl⟩) (roP.V (va_recv hK hP (ci := 0) (q0 := 5) rfl rfl) (jP_sub (w2 := [(e0, .inr (0, [.ref t0, .ref n0, .ref j0, .int (nI ec)])), (j0, .inl (cA, 24, .inl jn))]) hP [5, 7] rfl) hK hN) rfl rfl hl.1 rfl (lv_room (Nat.le_of_ble_eq_true rfl)) dX3_appendGuarded_76 ⟨Nat.le_of_ble_eq_true rfl, Nat.le_of_ble_eq_true rfl⟩) ?_
      refine jk_top (show (jAt jn 24 (nI i)) = (jn i) from jAt_n (n := 24) (by omega) (by decide)) ?_
      refine jw_v (va_runV (As := [.int 11, .int (f1 (i * 3 + 1)), .int (jn i)]) (rest := []) ⟨hx, hb, hml, hown, hts⟩ (c_X2_append l D cA s.heap.size p2 b2 72 k2 216 f2 11 (f1 (i * 3 + 1)) (jn i) (by omega) (by first | assumption | omega) (by omega)) (cwV 3 hts gX3_appendGuarded_X2_append rfl rfl rfl hv_X2_append ⟨Nat.le_of_ble_eq_true rfl, Nat.le_of_ble_eq_true rfl⟩) (rwP.V (wc := [(p2, .inr (2, [.ref b2, .int (nI 72), .int (nI k2)])), (b2, .inl (cA, 216, .inl f2))]) (va_recv hK hP (ci := 2) (q0 := 3) rfl rfl) hP hD hK hN [3, 4] (by decide) rfl) rfl rfl hl.1 rfl (lv_room (Nat.le_of_ble_eq_true rfl)) dX3_appendGuarded_79 ⟨Nat.le_of_ble_eq_true rfl, Nat.le_of_ble_eq_true rfl⟩) hP hD hS hA [3, 4] [0, 1, 2, 5, 6, 7, 8] [0, 1, 2, 7, 8, 3, 4, 5, 6] (wr := [(h0, .inr (3, [.ref p1, .ref p2, .ref e0, .ref l0, .ref m0])), (p1, .inr (2, [.ref b1, .int (nI 24), .int (nI k1)])), (b1, .inl (cA, 72, .inl f1)), (e0, .inr (0, [.ref t0, .ref n0, .ref j0, .int (nI ec)])), (n0, .inl (cA, 24, .inl tn)), (j0, .inl (cA, 24, .inl jn)), (l0, .inl (cA, 24, .inl P))]) (w2 := [(h0, .inr (3, [.ref p1, .ref p2, .ref e0, .ref l0, .ref m0])), (p1, .inr (2, [.ref b1, .int (nI 24), .int (nI k1)])), (b1, .inl (cA, 72, .inl f1)), (p2, .inr (2, [.ref b2, .int (nI 72), .int (nI (k2 + 1))])), (b2, .inl (cA, 216, .inl (pApp f2 k2 11 (f1 (i * 3 + 1)) (jn i)))), (e0, .inr (0, [.ref t0, .ref n0, .ref j0, .int (nI ec)])), (n0, .inl (cA, 24, .inl tn)), (j0, .inl (cA, 24, .inl jn)), (l0, .inl (cA, 24, .inl P))]) rfl rfl (by decide) (by decide) (by decide) rfl (fun H locs hP hD hS => ?_)
      refine lv_aload_n hx hb dX3_appendGuarded_82 rfl (lv_at hl 4 rfl) ?_
      refine va_get (D := D) (ci := 3) (v := .ref p2) (C := RX3) (T := TX3) (N := 5) hx hb hts iw_X3_appendGuarded_X3 hown hK hP 0 rfl rfl 1 (by decide) (hts (.fieldLink RX3 18 "JumpGuard" "guardedProgram" "LJumpGuard$Program;") (List.mem_of_getElem? (l := wsX3_appendGuarded) (i := 3) rfl)) (fun _ h9 => h9) rfl dX3_appendGuarded_83 ?_
      refine lv_iload_n hx hb dX3_appendGuarded_86 rfl (lv_at hl 3 rfl) ?_
      refine lv_iload_n hx hb dX3_appendGuarded_87 rfl (lv_at hl 3 rfl) ?_
      refine lv_bipush (v := 6) hx hb dX3_appendGuarded_88 (by decide) ?_
      refine lv_icmp_ne (tgt := 101) hx hb dX3_appendGuarded_90 (by decide) (fun c_90 => ?_) (fun c_90 => ?_)
      · refine lv_iload_n hx hb dX3_appendGuarded_101 rfl (lv_at hl 2 rfl) ?_
        refine lv_iload_n hx hb dX3_appendGuarded_102 rfl (lv_at hl 3 rfl) ?_
        refine jr_i (va_runS (As := [.int (f1 (i * 3))]) (rest := [.int (f1 (i * 3 + 1)), .int (f1 (i * 3)), .ref p2]) ⟨hx, hb, hml, hown, hts⟩ (c_X3_holdsAddressInB l D cA (f1 (i * 3))) (va_cwS 1 hts gX3_appendGuarded_X3_holdsAddressInB rfl rfl rfl hv_X3_holdsAddressInB.2 ⟨Nat.le_of_ble_eq_true rfl, Nat.le_of_ble_eq_true rfl⟩) (roP.S (av := [.int (f1 (i * 3))]) (jP_sub (w2 := []) hP [] rfl) hK hN) rfl rfl hl.1 rfl (lv_room (Nat.le_of_ble_eq_true rfl)) dX3_appendGuarded_103 ⟨Nat.le_of_ble_eq_true rfl, Nat.le_of_ble_eq_true rfl⟩) ?_
        refine lv_if_eq (tgt := 118) hx hb dX3_appendGuarded_106 (by decide) (fun c_106 => ?_) (fun c_106 => ?_)
        · replace c_106 := jB_z.mp c_106
          refine lv_iload hx hb dX3_appendGuarded_118 (lv_at hl 1 rfl) ?_
          refine jw_v (va_runV (As := [.int (f1 (i * 3)), .int (f1 (i * 3 + 1)), .int (f1 (i * 3 + 2))]) (rest := []) ⟨hx, hb, hml, hown, hts⟩ (c_X2_append l D cA H.size p2 b2 72 (k2 + 1) 216 (pApp f2 k2 11 (f1 (i * 3 + 1)) (jn i)) (f1 (i * 3)) (f1 (i * 3 + 1)) (f1 (i * 3 + 2)) (by omega) (by first | assumption | omega) (by omega)) (cwV 3 hts gX3_appendGuarded_X2_append rfl rfl rfl hv_X2_append ⟨Nat.le_of_ble_eq_true rfl, Nat.le_of_ble_eq_true rfl⟩) (rwP.V (wc := [(p2, .inr (2, [.ref b2, .int (nI 72), .int (nI (k2 + 1))])), (b2, .inl (cA, 216, .inl (pApp f2 k2 11 (f1 (i * 3 + 1)) (jn i))))]) (va_recv hK hP (ci := 2) (q0 := 3) rfl rfl) hP hD hK hN [3, 4] (by decide) rfl) rfl rfl hl.1 rfl (lv_room (Nat.le_of_ble_eq_true rfl)) dX3_appendGuarded_120 ⟨Nat.le_of_ble_eq_true rfl, Nat.le_of_ble_eq_true rfl⟩) hP hD hS hA [3, 4] [0, 1, 2, 5, 6, 7, 8] [0, 1, 2, 7, 8, 3, 4, 5, 6] (wr := [(h0, .inr (3, [.ref p1, .ref p2, .ref e0, .ref l0, .ref m0])), (p1, .inr (2, [.ref b1, .int (nI 24), .int (nI k1)])), (b1, .inl (cA, 72, .inl f1)), (e0, .inr (0, [.ref t0, .ref n0, .ref j0, .int (nI ec)])), (n0, .inl (cA, 24, .inl tn)), (j0, .inl (cA, 24, .inl jn)), (l0, .inl (cA, 24, .inl P))]) (w2 := [(h0, .inr (3, [.ref p1, .ref p2, .ref e0, .ref l0, .ref m0])), (p1, .inr (2, [.ref b1, .int (nI 24), .int (nI k1)])), (b1, .inl (cA, 72, .inl f1)), (p2, .inr (2, [.ref b2, .int (nI 72), .int (nI ((k2 + 1) + 1))])), (b2, .inl (cA, 216, .inl (pApp (pApp f2 k2 11 (f1 (i * 3 + 1)) (jn i)) (k2 + 1) (f1 (i * 3)) (f1 (i * 3 + 1)) (f1 (i * 3 + 2))))), (e0, .inr (0, [.ref t0, .ref n0, .ref j0, .int (nI ec)])), (n0, .inl (cA, 24, .inl tn)), (j0, .inl (cA, 24, .inl jn)), (l0, .inl (cA, 24, .inl P))]) rfl rfl (by decide) (by decide) (by decide) rfl (fun H locs hP hD hS => ?_)
          obtain ⟨hP9, hD9⟩ := jk_end (w2 := [(h0, .inr (3, [.ref p1, .ref p2, .ref e0, .ref l0, .ref m0])), (p1, .inr (2, [.ref b1, .int (nI 24), .int (nI k1)])), (b1, .inl (cA, 72, .inl f1)), (p2, .inr (2, [.ref b2, .int (nI 72), .int (nI ((k2 + 1) + 1))])), (b2, .inl (cA, 216, .inl (pApp (pApp f2 k2 11 (f1 (i * 3 + 1)) (jn i)) (k2 + 1) (f1 (i * 3)) (f1 (i * 3 + 1)) (f1 (i * 3 + 2))))), (e0, .inr (0, [.ref t0, .ref n0, .ref j0, .int (nI ec)])), (n0, .inl (cA, 24, .inl tn)), (j0, .inl (cA, 24, .inl jn)), (l0, .inl (cA, 24, .inl P))]) hP hD [0, 1, 2, 3, 4, 5, 6, 7, 8] (by decide) rfl
          have e9 : ([(h0, .inr (3, [.ref p1, .ref p2, .ref e0, .ref l0, .ref m0])), (p1, .inr (2, [.ref b1, .int (nI 24), .int (nI k1)])), (b1, .inl (cA, 72, .inl f1)), (p2, .inr (2, [.ref b2, .int (nI 72), .int (nI ((k2 + 1) + 1))])), (b2, .inl (cA, 216, .inl (pApp (pApp f2 k2 11 (f1 (i * 3 + 1)) (jn i)) (k2 + 1) (f1 (i * 3)) (f1 (i * 3 + 1)) (f1 (i * 3 + 2))))), (e0, .inr (0, [.ref t0, .ref n0, .ref j0, .int (nI ec)])), (n0, .inl (cA, 24, .inl tn)), (j0, .inl (cA, 24, .inl jn)), (l0, .inl (cA, 24, .inl P))] : va_W) = [(h0, .inr (3, [.ref p1, .ref p2, .ref e0, .ref l0, .ref m0])), (p1, .inr (2, [.ref b1, .int (nI 24), .int (nI k1)])), (b1, .inl (cA, 72, .inl f1)), (p2, .inr (2, [.ref b2, .int (nI 72), .int (nI (gA f1 tn jn P i (k2, f2)).1)])), (b2, .inl (cA, 216, .inl ((gA f1 tn jn P i (k2, f2)).2))), (e0, .inr (0, [.ref t0, .ref n0, .ref j0, .int (nI ec)])), (n0, .inl (cA, 24, .inl tn)), (j0, .inl (cA, 24, .inl jn)), (l0, .inl (cA, 24, .inl P))] := (by unfold gA gA3 gA2 gA1 gX gY; simp only [if_pos c_43, if_pos c_61, if_neg c_90, if_neg c_106])
          rw [e9] at hP9 hD9
          exact W.vret hx hb hr (fun t9 ht9 hW9 => ⟨⟨(), rfl, trivial, by rw [ht9]; exact hP9, hD9⟩, hS.F ht9⟩) hS.2.2 dX3_appendGuarded_123
        · replace c_106 := jB_nz.mp c_106
          refine lv_aload_n hx hb dX3_appendGuarded_109 rfl (lv_at hl 4 rfl) ?_
          refine lv_iload hx hb dX3_appendGuarded_110 (lv_at hl 1 rfl) ?_
          refine jr_i (va_runV (As := [.int (f1 (i * 3 + 2))]) (rest := [.int (f1 (i * 3 + 1)), .int (f1 (i * 3)), .ref p2]) ⟨hx, hb, hml, hown, hts⟩ (c_X3_placeOf l D cA h0 p1 p2 e0 l0 m0 P (f1 (i * 3 + 2))) (cwV 1 hts gX3_appendGuarded_X3_placeOf rfl rfl rfl hv_X3_placeOf ⟨Nat.le_of_ble_eq_true rfl, Nat.le_of_ble_eq_true rfl⟩) (roP.V (va_recv hK hP (ci := 3) (q0 := 0) rfl rfl) (jP_sub (w2 := [(h0, .inr (3, [.ref p1, .ref p2, .ref e0, .ref l0, .ref m0])), (l0, .inl (cA, 24, .inl P))]) hP [0, 8] rfl) hK hN) rfl rfl hl.1 rfl (lv_room (Nat.le_of_ble_eq_true rfl)) dX3_appendGuarded_112 ⟨Nat.le_of_ble_eq_true rfl, Nat.le_of_ble_eq_true rfl⟩) ?_
          refine lv_goto (tgt := 120) hx hb dX3_appendGuarded_115 (by decide) ?_
          refine jw_v (va_runV (As := [.int (f1 (i * 3)), .int (f1 (i * 3 + 1)), .int (pPl P (f1 (i * 3 + 2)))]) (rest := []) ⟨hx, hb, hml, hown, hts⟩ (c_X2_append l D cA H.size p2 b2 72 (k2 + 1) 216 (pApp f2 k2 11 (f1 (i * 3 + 1)) (jn i)) (f1 (i * 3)) (f1 (i * 3 + 1)) (pPl P (f1 (i * 3 + 2))) (by omega) (by first | assumption | omega) (by omega)) (cwV 3 hts gX3_appendGuarded_X2_append rfl rfl rfl hv_X2_append ⟨Nat.le_of_ble_eq_true rfl, Nat.le_of_ble_eq_true rfl⟩) (rwP.V (wc := [(p2, .inr (2, [.ref b2, .int (nI 72), .int (nI (k2 + 1))])), (b2, .inl (cA, 216, .inl (pApp f2 k2 11 (f1 (i * 3 + 1)) (jn i))))]) (va_recv hK hP (ci := 2) (q0 := 3) rfl rfl) hP hD hK hN [3, 4] (by decide) rfl) rfl rfl hl.1 rfl (lv_room (Nat.le_of_ble_eq_true rfl)) dX3_appendGuarded_120 ⟨Nat.le_of_ble_eq_true rfl, Nat.le_of_ble_eq_true rfl⟩) hP hD hS hA [3, 4] [0, 1, 2, 5, 6, 7, 8] [0, 1, 2, 7, 8, 3, 4, 5, 6] (wr := [(h0, .inr (3, [.ref p1, .ref p2, .ref e0, .ref l0, .ref m0])), (p1, .inr (2, [.ref b1, .int (nI 24), .int (nI k1)])), (b1, .inl (cA, 72, .inl f1)), (e0, .inr (0, [.ref t0, .ref n0, .ref j0, .int (nI ec)])), (n0, .inl (cA, 24, .inl tn)), (j0, .inl (cA, 24, .inl jn)), (l0, .inl (cA, 24, .inl P))]) (w2 := [(h0, .inr (3, [.ref p1, .ref p2, .ref e0, .ref l0, .ref m0])), (p1, .inr (2, [.ref b1, .int (nI 24), .int (nI k1)])), (b1, .inl (cA, 72, .inl f1)), (p2, .inr (2, [.ref b2, .int (nI 72), .int (nI ((k2 + 1) + 1))])), (b2, .inl (cA, 216, .inl (pApp (pApp f2 k2 11 (f1 (i * 3 + 1)) (jn i)) (k2 + 1) (f1 (i * 3)) (f1 (i * 3 + 1)) (pPl P (f1 (i * 3 + 2)))))), (e0, .inr (0, [.ref t0, .ref n0, .ref j0, .int (nI ec)])), (n0, .inl (cA, 24, .inl tn)), (j0, .inl (cA, 24, .inl jn)), (l0, .inl (cA, 24, .inl P))]) rfl rfl (by decide) (by decide) (by decide) rfl (fun H locs hP hD hS => ?_)
          obtain ⟨hP9, hD9⟩ := jk_end (w2 := [(h0, .inr (3, [.ref p1, .ref p2, .ref e0, .ref l0, .ref m0])), (p1, .inr (2, [.ref b1, .int (nI 24), .int (nI k1)])), (b1, .inl (cA, 72, .inl f1)), (p2, .inr (2, [.ref b2, .int (nI 72), .int (nI ((k2 + 1) + 1))])), (b2, .inl (cA, 216, .inl (pApp (pApp f2 k2 11 (f1 (i * 3 + 1)) (jn i)) (k2 + 1) (f1 (i * 3)) (f1 (i * 3 + 1)) (pPl P (f1 (i * 3 + 2)))))), (e0, .inr (0, [.ref t0, .ref n0, .ref j0, .int (nI ec)])), (n0, .inl (cA, 24, .inl tn)), (j0, .inl (cA, 24, .inl jn)), (l0, .inl (cA, 24, .inl P))]) hP hD [0, 1, 2, 3, 4, 5, 6, 7, 8] (by decide) rfl
          have e9 : ([(h0, .inr (3, [.ref p1, .ref p2, .ref e0, .ref l0, .ref m0])), (p1, .inr (2, [.ref b1, .int (nI 24), .int (nI k1)])), (b1, .inl (cA, 72, .inl f1)), (p2, .inr (2, [.ref b2, .int (nI 72), .int (nI ((k2 + 1) + 1))])), (b2, .inl (cA, 216, .inl (pApp (pApp f2 k2 11 (f1 (i * 3 + 1)) (jn i)) (k2 + 1) (f1 (i * 3)) (f1 (i * 3 + 1)) (pPl P (f1 (i * 3 + 2)))))), (e0, .inr (0, [.ref t0, .ref n0, .ref j0, .int (nI ec)])), (n0, .inl (cA, 24, .inl tn)), (j0, .inl (cA, 24, .inl jn)), (l0, .inl (cA, 24, .inl P))] : va_W) = [(h0, .inr (3, [.ref p1, .ref p2, .ref e0, .ref l0, .ref m0])), (p1, .inr (2, [.ref b1, .int (nI 24), .int (nI k1)])), (b1, .inl (cA, 72, .inl f1)), (p2, .inr (2, [.ref b2, .int (nI 72), .int (nI (gA f1 tn jn P i (k2, f2)).1)])), (b2, .inl (cA, 216, .inl ((gA f1 tn jn P i (k2, f2)).2))), (e0, .inr (0, [.ref t0, .ref n0, .ref j0, .int (nI ec)])), (n0, .inl (cA, 24, .inl tn)), (j0, .inl (cA, 24, .inl jn)), (l0, .inl (cA, 24, .inl P))] := (by unfold gA gA3 gA2 gA1 gX gY; simp only [if_pos c_43, if_pos c_61, if_neg c_90, if_pos c_106])
          rw [e9] at hP9 hD9
          exact W.vret hx hb hr (fun t9 ht9 hW9 => ⟨⟨(), rfl, trivial, by rw [ht9]; exact hP9, hD9⟩, hS.F ht9⟩) hS.2.2 dX3_appendGuarded_123
      · refine lv_aload_n hx hb dX3_appendGuarded_93 rfl (lv_at hl 4 rfl) ?_
        refine lv_iload_n hx hb dX3_appendGuarded_94 rfl (lv_at hl 2 rfl) ?_
        refine jr_i (va_runV (As := [.int (f1 (i * 3 + 1))]) (rest := [.int (f1 (i * 3)), .ref p2]) ⟨hx, hb, hml, hown, hts⟩ (c_X3_placeOf l D cA h0 p1 p2 e0 l0 m0 P (f1 (i * 3 + 1))) (cwV 1 hts gX3_appendGuarded_X3_placeOf rfl rfl rfl hv_X3_placeOf ⟨Nat.le_of_ble_eq_true rfl, Nat.le_of_ble_eq_true rfl⟩) (roP.V (va_recv hK hP (ci := 3) (q0 := 0) rfl rfl) (jP_sub (w2 := [(h0, .inr (3, [.ref p1, .ref p2, .ref e0, .ref l0, .ref m0])), (l0, .inl (cA, 24, .inl P))]) hP [0, 8] rfl) hK hN) rfl rfl hl.1 rfl (lv_room (Nat.le_of_ble_eq_true rfl)) dX3_appendGuarded_95 ⟨Nat.le_of_ble_eq_true rfl, Nat.le_of_ble_eq_true rfl⟩) ?_
        refine lv_goto (tgt := 102) hx hb dX3_appendGuarded_98 (by decide) ?_
        refine lv_iload_n hx hb dX3_appendGuarded_102 rfl (lv_at hl 3 rfl) ?_
        refine jr_i (va_runS (As := [.int (f1 (i * 3))]) (rest := [.int (pPl P (f1 (i * 3 + 1))), .int (f1 (i * 3)), .ref p2]) ⟨hx, hb, hml, hown, hts⟩ (c_X3_holdsAddressInB l D cA (f1 (i * 3))) (va_cwS 1 hts gX3_appendGuarded_X3_holdsAddressInB rfl rfl rfl hv_X3_holdsAddressInB.2 ⟨Nat.le_of_ble_eq_true rfl, Nat.le_of_ble_eq_true rfl⟩) (roP.S (av := [.int (f1 (i * 3))]) (jP_sub (w2 := []) hP [] rfl) hK hN) rfl rfl hl.1 rfl (lv_room (Nat.le_of_ble_eq_true rfl)) dX3_appendGuarded_103 ⟨Nat.le_of_ble_eq_true rfl, Nat.le_of_ble_eq_true rfl⟩) ?_
        refine lv_if_eq (tgt := 118) hx hb dX3_appendGuarded_106 (by decide) (fun c_106 => ?_) (fun c_106 => ?_)
        · replace c_106 := jB_z.mp c_106
          refine lv_iload hx hb dX3_appendGuarded_118 (lv_at hl 1 rfl) ?_
          refine jw_v (va_runV (As := [.int (f1 (i * 3)), .int (pPl P (f1 (i * 3 + 1))), .int (f1 (i * 3 + 2))]) (rest := []) ⟨hx, hb, hml, hown, hts⟩ (c_X2_append l D cA H.size p2 b2 72 (k2 + 1) 216 (pApp f2 k2 11 (f1 (i * 3 + 1)) (jn i)) (f1 (i * 3)) (pPl P (f1 (i * 3 + 1))) (f1 (i * 3 + 2)) (by omega) (by first | assumption | omega) (by omega)) (cwV 3 hts gX3_appendGuarded_X2_append rfl rfl rfl hv_X2_append ⟨Nat.le_of_ble_eq_true rfl, Nat.le_of_ble_eq_true rfl⟩) (rwP.V (wc := [(p2, .inr (2, [.ref b2, .int (nI 72), .int (nI (k2 + 1))])), (b2, .inl (cA, 216, .inl (pApp f2 k2 11 (f1 (i * 3 + 1)) (jn i))))]) (va_recv hK hP (ci := 2) (q0 := 3) rfl rfl) hP hD hK hN [3, 4] (by decide) rfl) rfl rfl hl.1 rfl (lv_room (Nat.le_of_ble_eq_true rfl)) dX3_appendGuarded_120 ⟨Nat.le_of_ble_eq_true rfl, Nat.le_of_ble_eq_true rfl⟩) hP hD hS hA [3, 4] [0, 1, 2, 5, 6, 7, 8] [0, 1, 2, 7, 8, 3, 4, 5, 6] (wr := [(h0, .inr (3, [.ref p1, .ref p2, .ref e0, .ref l0, .ref m0])), (p1, .inr (2, [.ref b1, .int (nI 24), .int (nI k1)])), (b1, .inl (cA, 72, .inl f1)), (e0, .inr (0, [.ref t0, .ref n0, .ref j0, .int (nI ec)])), (n0, .inl (cA, 24, .inl tn)), (j0, .inl (cA, 24, .inl jn)), (l0, .inl (cA, 24, .inl P))]) (w2 := [(h0, .inr (3, [.ref p1, .ref p2, .ref e0, .ref l0, .ref m0])), (p1, .inr (2, [.ref b1, .int (nI 24), .int (nI k1)])), (b1, .inl (cA, 72, .inl f1)), (p2, .inr (2, [.ref b2, .int (nI 72), .int (nI ((k2 + 1) + 1))])), (b2, .inl (cA, 216, .inl (pApp (pApp f2 k2 11 (f1 (i * 3 + 1)) (jn i)) (k2 + 1) (f1 (i * 3)) (pPl P (f1 (i * 3 + 1))) (f1 (i * 3 + 2))))), (e0, .inr (0, [.ref t0, .ref n0, .ref j0, .int (nI ec)])), (n0, .inl (cA, 24, .inl tn)), (j0, .inl (cA, 24, .inl jn)), (l0, .inl (cA, 24, .inl P))]) rfl rfl (by decide) (by decide) (by decide) rfl (fun H locs hP hD hS => ?_)
          obtain ⟨hP9, hD9⟩ := jk_end (w2 := [(h0, .inr (3, [.ref p1, .ref p2, .ref e0, .ref l0, .ref m0])), (p1, .inr (2, [.ref b1, .int (nI 24), .int (nI k1)])), (b1, .inl (cA, 72, .inl f1)), (p2, .inr (2, [.ref b2, .int (nI 72), .int (nI ((k2 + 1) + 1))])), (b2, .inl (cA, 216, .inl (pApp (pApp f2 k2 11 (f1 (i * 3 + 1)) (jn i)) (k2 + 1) (f1 (i * 3)) (pPl P (f1 (i * 3 + 1))) (f1 (i * 3 + 2))))), (e0, .inr (0, [.ref t0, .ref n0, .ref j0, .int (nI ec)])), (n0, .inl (cA, 24, .inl tn)), (j0, .inl (cA, 24, .inl jn)), (l0, .inl (cA, 24, .inl P))]) hP hD [0, 1, 2, 3, 4, 5, 6, 7, 8] (by decide) rfl
          have e9 : ([(h0, .inr (3, [.ref p1, .ref p2, .ref e0, .ref l0, .ref m0])), (p1, .inr (2, [.ref b1, .int (nI 24), .int (nI k1)])), (b1, .inl (cA, 72, .inl f1)), (p2, .inr (2, [.ref b2, .int (nI 72), .int (nI ((k2 + 1) + 1))])), (b2, .inl (cA, 216, .inl (pApp (pApp f2 k2 11 (f1 (i * 3 + 1)) (jn i)) (k2 + 1) (f1 (i * 3)) (pPl P (f1 (i * 3 + 1))) (f1 (i * 3 + 2))))), (e0, .inr (0, [.ref t0, .ref n0, .ref j0, .int (nI ec)])), (n0, .inl (cA, 24, .inl tn)), (j0, .inl (cA, 24, .inl jn)), (l0, .inl (cA, 24, .inl P))] : va_W) = [(h0, .inr (3, [.ref p1, .ref p2, .ref e0, .ref l0, .ref m0])), (p1, .inr (2, [.ref b1, .int (nI 24), .int (nI k1)])), (b1, .inl (cA, 72, .inl f1)), (p2, .inr (2, [.ref b2, .int (nI 72), .int (nI (gA f1 tn jn P i (k2, f2)).1)])), (b2, .inl (cA, 216, .inl ((gA f1 tn jn P i (k2, f2)).2))), (e0, .inr (0, [.ref t0, .ref n0, .ref j0, .int (nI ec)])), (n0, .inl (cA, 24, .inl tn)), (j0, .inl (cA, 24, .inl jn)), (l0, .inl (cA, 24, .inl P))] := (by unfold gA gA3 gA2 gA1 gX gY; simp only [if_pos c_43, if_pos c_61, if_pos c_90, if_neg c_106])
          rw [e9] at hP9 hD9
          exact W.vret hx hb hr (fun t9 ht9 hW9 => ⟨⟨(), rfl, trivial, by rw [ht9]; exact hP9, hD9⟩, hS.F ht9⟩) hS.2.2 dX3_appendGuarded_123
        · replace c_106 := jB_nz.mp c_106
          refine lv_aload_n hx hb dX3_appendGuarded_109 rfl (lv_at hl 4 rfl) ?_
          refine lv_iload hx hb dX3_appendGuarded_110 (lv_at hl 1 rfl) ?_
          refine jr_i (va_runV (As := [.int (f1 (i * 3 + 2))]) (rest := [.int (pPl P (f1 (i * 3 + 1))), .int (f1 (i * 3)), .ref p2]) ⟨hx, hb, hml, hown, hts⟩ (c_X3_placeOf l D cA h0 p1 p2 e0 l0 m0 P (f1 (i * 3 + 2))) (cwV 1 hts gX3_appendGuarded_X3_placeOf rfl rfl rfl hv_X3_placeOf ⟨Nat.le_of_ble_eq_true rfl, Nat.le_of_ble_eq_true rfl⟩) (roP.V (va_recv hK hP (ci := 3) (q0 := 0) rfl rfl) (jP_sub (w2 := [(h0, .inr (3, [.ref p1, .ref p2, .ref e0, .ref l0, .ref m0])), (l0, .inl (cA, 24, .inl P))]) hP [0, 8] rfl) hK hN) rfl rfl hl.1 rfl (lv_room (Nat.le_of_ble_eq_true rfl)) dX3_appendGuarded_112 ⟨Nat.le_of_ble_eq_true rfl, Nat.le_of_ble_eq_true rfl⟩) ?_
          refine lv_goto (tgt := 120) hx hb dX3_appendGuarded_115 (by decide) ?_
          refine jw_v (va_runV (As := [.int (f1 (i * 3)), .int (pPl P (f1 (i * 3 + 1))), .int (pPl P (f1 (i * 3 + 2)))]) (rest := []) ⟨hx, hb, hml, hown, hts⟩ (c_X2_append l D cA H.size p2 b2 72 (k2 + 1) 216 (pApp f2 k2 11 (f1 (i * 3 + 1)) (jn i)) (f1 (i * 3)) (pPl P (f1 (i * 3 + 1))) (pPl P (f1 (i * 3 + 2))) (by omega) (by first | assumption | omega) (by omega)) (cwV 3 hts gX3_appendGuarded_X2_append rfl rfl rfl hv_X2_append ⟨Nat.le_of_ble_eq_true rfl, Nat.le_of_ble_eq_true rfl⟩) (rwP.V (wc := [(p2, .inr (2, [.ref b2, .int (nI 72), .int (nI (k2 + 1))])), (b2, .inl (cA, 216, .inl (pApp f2 k2 11 (f1 (i * 3 + 1)) (jn i))))]) (va_recv hK hP (ci := 2) (q0 := 3) rfl rfl) hP hD hK hN [3, 4] (by decide) rfl) rfl rfl hl.1 rfl (lv_room (Nat.le_of_ble_eq_true rfl)) dX3_appendGuarded_120 ⟨Nat.le_of_ble_eq_true rfl, Nat.le_of_ble_eq_true rfl⟩) hP hD hS hA [3, 4] [0, 1, 2, 5, 6, 7, 8] [0, 1, 2, 7, 8, 3, 4, 5, 6] (wr := [(h0, .inr (3, [.ref p1, .ref p2, .ref e0, .ref l0, .ref m0])), (p1, .inr (2, [.ref b1, .int (nI 24), .int (nI k1)])), (b1, .inl (cA, 72, .inl f1)), (e0, .inr (0, [.ref t0, .ref n0, .ref j0, .int (nI ec)])), (n0, .inl (cA, 24, .inl tn)), (j0, .inl (cA, 24, .inl jn)), (l0, .inl (cA, 24, .inl P))]) (w2 := [(h0, .inr (3, [.ref p1, .ref p2, .ref e0, .ref l0, .ref m0])), (p1, .inr (2, [.ref b1, .int (nI 24), .int (nI k1)])), (b1, .inl (cA, 72, .inl f1)), (p2, .inr (2, [.ref b2, .int (nI 72), .int (nI ((k2 + 1) + 1))])), (b2, .inl (cA, 216, .inl (pApp (pApp f2 k2 11 (f1 (i * 3 + 1)) (jn i)) (k2 + 1) (f1 (i * 3)) (pPl P (f1 (i * 3 + 1))) (pPl P (f1 (i * 3 + 2)))))), (e0, .inr (0, [.ref t0, .ref n0, .ref j0, .int (nI ec)])), (n0, .inl (cA, 24, .inl tn)), (j0, .inl (cA, 24, .inl jn)), (l0, .inl (cA, 24, .inl P))]) rfl rfl (by decide) (by decide) (by decide) rfl (fun H locs hP hD hS => ?_)
          obtain ⟨hP9, hD9⟩ := jk_end (w2 := [(h0, .inr (3, [.ref p1, .ref p2, .ref e0, .ref l0, .ref m0])), (p1, .inr (2, [.ref b1, .int (nI 24), .int (nI k1)])), (b1, .inl (cA, 72, .inl f1)), (p2, .inr (2, [.ref b2, .int (nI 72), .int (nI ((k2 + 1) + 1))])), (b2, .inl (cA, 216, .inl (pApp (pApp f2 k2 11 (f1 (i * 3 + 1)) (jn i)) (k2 + 1) (f1 (i * 3)) (pPl P (f1 (i * 3 + 1))) (pPl P (f1 (i * 3 + 2)))))), (e0, .inr (0, [.ref t0, .ref n0, .ref j0, .int (nI ec)])), (n0, .inl (cA, 24, .inl tn)), (j0, .inl (cA, 24, .inl jn)), (l0, .inl (cA, 24, .inl P))]) hP hD [0, 1, 2, 3, 4, 5, 6, 7, 8] (by decide) rfl
          have e9 : ([(h0, .inr (3, [.ref p1, .ref p2, .ref e0, .ref l0, .ref m0])), (p1, .inr (2, [.ref b1, .int (nI 24), .int (nI k1)])), (b1, .inl (cA, 72, .inl f1)), (p2, .inr (2, [.ref b2, .int (nI 72), .int (nI ((k2 + 1) + 1))])), (b2, .inl (cA, 216, .inl (pApp (pApp f2 k2 11 (f1 (i * 3 + 1)) (jn i)) (k2 + 1) (f1 (i * 3)) (pPl P (f1 (i * 3 + 1))) (pPl P (f1 (i * 3 + 2)))))), (e0, .inr (0, [.ref t0, .ref n0, .ref j0, .int (nI ec)])), (n0, .inl (cA, 24, .inl tn)), (j0, .inl (cA, 24, .inl jn)), (l0, .inl (cA, 24, .inl P))] : va_W) = [(h0, .inr (3, [.ref p1, .ref p2, .ref e0, .ref l0, .ref m0])), (p1, .inr (2, [.ref b1, .int (nI 24), .int (nI k1)])), (b1, .inl (cA, 72, .inl f1)), (p2, .inr (2, [.ref b2, .int (nI 72), .int (nI (gA f1 tn jn P i (k2, f2)).1)])), (b2, .inl (cA, 216, .inl ((gA f1 tn jn P i (k2, f2)).2))), (e0, .inr (0, [.ref t0, .ref n0, .ref j0, .int (nI ec)])), (n0, .inl (cA, 24, .inl tn)), (j0, .inl (cA, 24, .inl jn)), (l0, .inl (cA, 24, .inl P))] := (by unfold gA gA3 gA2 gA1 gX gY; simp only [if_pos c_43, if_pos c_61, if_pos c_90, if_pos c_106])
          rw [e9] at hP9 hD9
          exact W.vret hx hb hr (fun t9 ht9 hW9 => ⟨⟨(), rfl, trivial, by rw [ht9]; exact hP9, hD9⟩, hS.F ht9⟩) hS.2.2 dX3_appendGuarded_123
  · refine lv_aload_n hx hb dX3_appendGuarded_46 rfl (lv_at hl 4 rfl) ?_
    refine va_get (D := D) (ci := 3) (v := .ref p2) (C := RX3) (T := TX3) (N := 5) hx hb hts iw_X3_appendGuarded_X3 hown hK hP 0 rfl rfl 1 (by decide) (hts (.fieldLink RX3 18 "JumpGuard" "guardedProgram" "LJumpGuard$Program;") (List.mem_of_getElem? (l := wsX3_appendGuarded) (i := 3) rfl)) (fun _ h9 => h9) rfl dX3_appendGuarded_47 ?_
    refine lv_bipush (v := 10) hx hb dX3_appendGuarded_50 (by decide) ?_
    refine lv_iload hx hb dX3_appendGuarded_52 (lv_at hl 0 rfl) ?_
    refine lv_iconst (v := 0) hx hb dX3_appendGuarded_54 (by decide) ?_
    refine jw_v (va_runV (As := [.int 10, .int (tn i), .int 0]) (rest := []) ⟨hx, hb, hml, hown, hts⟩ (c_X2_append l D cA s.heap.size p2 b2 72 k2 216 f2 10 (tn i) 0 (by omega) (by first | assumption | omega) (by omega)) (cwV 3 hts gX3_appendGuarded_X2_append rfl rfl rfl hv_X2_append ⟨Nat.le_of_ble_eq_true rfl, Nat.le_of_ble_eq_true rfl⟩) (rwP.V (wc := [(p2, .inr (2, [.ref b2, .int (nI 72), .int (nI k2)])), (b2, .inl (cA, 216, .inl f2))]) (va_recv hK hP (ci := 2) (q0 := 3) rfl rfl) hP hD hK hN [3, 4] (by decide) rfl) rfl rfl hl.1 rfl (lv_room (Nat.le_of_ble_eq_true rfl)) dX3_appendGuarded_55 ⟨Nat.le_of_ble_eq_true rfl, Nat.le_of_ble_eq_true rfl⟩) hP hD hS hA [3, 4] [0, 1, 2, 5, 6, 7, 8] [0, 1, 2, 7, 8, 3, 4, 5, 6] (wr := [(h0, .inr (3, [.ref p1, .ref p2, .ref e0, .ref l0, .ref m0])), (p1, .inr (2, [.ref b1, .int (nI 24), .int (nI k1)])), (b1, .inl (cA, 72, .inl f1)), (e0, .inr (0, [.ref t0, .ref n0, .ref j0, .int (nI ec)])), (n0, .inl (cA, 24, .inl tn)), (j0, .inl (cA, 24, .inl jn)), (l0, .inl (cA, 24, .inl P))]) (w2 := [(h0, .inr (3, [.ref p1, .ref p2, .ref e0, .ref l0, .ref m0])), (p1, .inr (2, [.ref b1, .int (nI 24), .int (nI k1)])), (b1, .inl (cA, 72, .inl f1)), (p2, .inr (2, [.ref b2, .int (nI 72), .int (nI (k2 + 1))])), (b2, .inl (cA, 216, .inl (pApp f2 k2 10 (tn i) 0))), (e0, .inr (0, [.ref t0, .ref n0, .ref j0, .int (nI ec)])), (n0, .inl (cA, 24, .inl tn)), (j0, .inl (cA, 24, .inl jn)), (l0, .inl (cA, 24, .inl P))]) rfl rfl (by decide) (by decide) (by decide) rfl (fun H locs hP hD hS => ?_)
    refine lv_iload_n hx hb dX3_appendGuarded_58 rfl (lv_at hl 3 rfl) ?_
    refine lv_bipush (v := 8) hx hb dX3_appendGuarded_59 (by decide) ?_
    refine lv_icmp_ne (tgt := 82) hx hb dX3_appendGuarded_61 (by decide) (fun c_61 => ?_) (fun c_61 => ?_)
    · refine lv_aload_n hx hb dX3_appendGuarded_82 rfl (lv_at hl 4 rfl) ?_
      refine va_get (D := D) (ci := 3) (v := .ref p2) (C := RX3) (T := TX3) (N := 5) hx hb hts iw_X3_appendGuarded_X3 hown hK hP 0 rfl rfl 1 (by decide) (hts (.fieldLink RX3 18 "JumpGuard" "guardedProgram" "LJumpGuard$Program;") (List.mem_of_getElem? (l := wsX3_appendGuarded) (i := 3) rfl)) (fun _ h9 => h9) rfl dX3_appendGuarded_83 ?_
      refine lv_iload_n hx hb dX3_appendGuarded_86 rfl (lv_at hl 3 rfl) ?_
      refine lv_iload_n hx hb dX3_appendGuarded_87 rfl (lv_at hl 3 rfl) ?_
      refine lv_bipush (v := 6) hx hb dX3_appendGuarded_88 (by decide) ?_
      refine lv_icmp_ne (tgt := 101) hx hb dX3_appendGuarded_90 (by decide) (fun c_90 => ?_) (fun c_90 => ?_)
      · refine lv_iload_n hx hb dX3_appendGuarded_101 rfl (lv_at hl 2 rfl) ?_
        refine lv_iload_n hx hb dX3_appendGuarded_102 rfl (lv_at hl 3 rfl) ?_
        refine jr_i (va_runS (As := [.int (f1 (i * 3))]) (rest := [.int (f1 (i * 3 + 1)), .int (f1 (i * 3)), .ref p2]) ⟨hx, hb, hml, hown, hts⟩ (c_X3_holdsAddressInB l D cA (f1 (i * 3))) (va_cwS 1 hts gX3_appendGuarded_X3_holdsAddressInB rfl rfl rfl hv_X3_holdsAddressInB.2 ⟨Nat.le_of_ble_eq_true rfl, Nat.le_of_ble_eq_true rfl⟩) (roP.S (av := [.int (f1 (i * 3))]) (jP_sub (w2 := []) hP [] rfl) hK hN) rfl rfl hl.1 rfl (lv_room (Nat.le_of_ble_eq_true rfl)) dX3_appendGuarded_103 ⟨Nat.le_of_ble_eq_true rfl, Nat.le_of_ble_eq_true rfl⟩) ?_
        refine lv_if_eq (tgt := 118) hx hb dX3_appendGuarded_106 (by decide) (fun c_106 => ?_) (fun c_106 => ?_)
        · replace c_106 := jB_z.mp c_106
          refine lv_iload hx hb dX3_appendGuarded_118 (lv_at hl 1 rfl) ?_
          refine jw_v (va_runV (As := [.int (f1 (i * 3)), .int (f1 (i * 3 + 1)), .int (f1 (i * 3 + 2))]) (rest := []) ⟨hx, hb, hml, hown, hts⟩ (c_X2_append l D cA H.size p2 b2 72 (k2 + 1) 216 (pApp f2 k2 10 (tn i) 0) (f1 (i * 3)) (f1 (i * 3 + 1)) (f1 (i * 3 + 2)) (by omega) (by first | assumption | omega) (by omega)) (cwV 3 hts gX3_appendGuarded_X2_append rfl rfl rfl hv_X2_append ⟨Nat.le_of_ble_eq_true rfl, Nat.le_of_ble_eq_true rfl⟩) (rwP.V (wc := [(p2, .inr (2, [.ref b2, .int (nI 72), .int (nI (k2 + 1))])), (b2, .inl (cA, 216, .inl (pApp f2 k2 10 (tn i) 0)))]) (va_recv hK hP (ci := 2) (q0 := 3) rfl rfl) hP hD hK hN [3, 4] (by decide) rfl) rfl rfl hl.1 rfl (lv_room (Nat.le_of_ble_eq_true rfl)) dX3_appendGuarded_120 ⟨Nat.le_of_ble_eq_true rfl, Nat.le_of_ble_eq_true rfl⟩) hP hD hS hA [3, 4] [0, 1, 2, 5, 6, 7, 8] [0, 1, 2, 7, 8, 3, 4, 5, 6] (wr := [(h0, .inr (3, [.ref p1, .ref p2, .ref e0, .ref l0, .ref m0])), (p1, .inr (2, [.ref b1, .int (nI 24), .int (nI k1)])), (b1, .inl (cA, 72, .inl f1)), (e0, .inr (0, [.ref t0, .ref n0, .ref j0, .int (nI ec)])), (n0, .inl (cA, 24, .inl tn)), (j0, .inl (cA, 24, .inl jn)), (l0, .inl (cA, 24, .inl P))]) (w2 := [(h0, .inr (3, [.ref p1, .ref p2, .ref e0, .ref l0, .ref m0])), (p1, .inr (2, [.ref b1, .int (nI 24), .int (nI k1)])), (b1, .inl (cA, 72, .inl f1)), (p2, .inr (2, [.ref b2, .int (nI 72), .int (nI ((k2 + 1) + 1))])), (b2, .inl (cA, 216, .inl (pApp (pApp f2 k2 10 (tn i) 0) (k2 + 1) (f1 (i * 3)) (f1 (i * 3 + 1)) (f1 (i * 3 + 2))))), (e0, .inr (0, [.ref t0, .ref n0, .ref j0, .int (nI ec)])), (n0, .inl (cA, 24, .inl tn)), (j0, .inl (cA, 24, .inl jn)), (l0, .inl (cA, 24, .inl P))]) rfl rfl (by decide) (by decide) (by decide) rfl (fun H locs hP hD hS => ?_)
          obtain ⟨hP9, hD9⟩ := jk_end (w2 := [(h0, .inr (3, [.ref p1, .ref p2, .ref e0, .ref l0, .ref m0])), (p1, .inr (2, [.ref b1, .int (nI 24), .int (nI k1)])), (b1, .inl (cA, 72, .inl f1)), (p2, .inr (2, [.ref b2, .int (nI 72), .int (nI ((k2 + 1) + 1))])), (b2, .inl (cA, 216, .inl (pApp (pApp f2 k2 10 (tn i) 0) (k2 + 1) (f1 (i * 3)) (f1 (i * 3 + 1)) (f1 (i * 3 + 2))))), (e0, .inr (0, [.ref t0, .ref n0, .ref j0, .int (nI ec)])), (n0, .inl (cA, 24, .inl tn)), (j0, .inl (cA, 24, .inl jn)), (l0, .inl (cA, 24, .inl P))]) hP hD [0, 1, 2, 3, 4, 5, 6, 7, 8] (by decide) rfl
          have e9 : ([(h0, .inr (3, [.ref p1, .ref p2, .ref e0, .ref l0, .ref m0])), (p1, .inr (2, [.ref b1, .int (nI 24), .int (nI k1)])), (b1, .inl (cA, 72, .inl f1)), (p2, .inr (2, [.ref b2, .int (nI 72), .int (nI ((k2 + 1) + 1))])), (b2, .inl (cA, 216, .inl (pApp (pApp f2 k2 10 (tn i) 0) (k2 + 1) (f1 (i * 3)) (f1 (i * 3 + 1)) (f1 (i * 3 + 2))))), (e0, .inr (0, [.ref t0, .ref n0, .ref j0, .int (nI ec)])), (n0, .inl (cA, 24, .inl tn)), (j0, .inl (cA, 24, .inl jn)), (l0, .inl (cA, 24, .inl P))] : va_W) = [(h0, .inr (3, [.ref p1, .ref p2, .ref e0, .ref l0, .ref m0])), (p1, .inr (2, [.ref b1, .int (nI 24), .int (nI k1)])), (b1, .inl (cA, 72, .inl f1)), (p2, .inr (2, [.ref b2, .int (nI 72), .int (nI (gA f1 tn jn P i (k2, f2)).1)])), (b2, .inl (cA, 216, .inl ((gA f1 tn jn P i (k2, f2)).2))), (e0, .inr (0, [.ref t0, .ref n0, .ref j0, .int (nI ec)])), (n0, .inl (cA, 24, .inl tn)), (j0, .inl (cA, 24, .inl jn)), (l0, .inl (cA, 24, .inl P))] := (by unfold gA gA3 gA2 gA1 gX gY; simp only [if_neg c_43, if_neg c_61, if_neg c_90, if_neg c_106])
          rw [e9] at hP9 hD9
          exact W.vret hx hb hr (fun t9 ht9 hW9 => ⟨⟨(), rfl, trivial, by rw [ht9]; exact hP9, hD9⟩, hS.F ht9⟩) hS.2.2 dX3_appendGuarded_123
        · replace c_106 := jB_nz.mp c_106
          refine lv_aload_n hx hb dX3_appendGuarded_109 rfl (lv_at hl 4 rfl) ?_
          refine lv_iload hx hb dX3_appendGuarded_110 (lv_at hl 1 rfl) ?_
          refine jr_i (va_runV (As := [.int (f1 (i * 3 + 2))]) (rest := [.int (f1 (i * 3 + 1)), .int (f1 (i * 3)), .ref p2]) ⟨hx, hb, hml, hown, hts⟩ (c_X3_placeOf l D cA h0 p1 p2 e0 l0 m0 P (f1 (i * 3 + 2))) (cwV 1 hts gX3_appendGuarded_X3_placeOf rfl rfl rfl hv_X3_placeOf ⟨Nat.le_of_ble_eq_true rfl, Nat.le_of_ble_eq_true rfl⟩) (roP.V (va_recv hK hP (ci := 3) (q0 := 0) rfl rfl) (jP_sub (w2 := [(h0, .inr (3, [.ref p1, .ref p2, .ref e0, .ref l0, .ref m0])), (l0, .inl (cA, 24, .inl P))]) hP [0, 8] rfl) hK hN) rfl rfl hl.1 rfl (lv_room (Nat.le_of_ble_eq_true rfl)) dX3_appendGuarded_112 ⟨Nat.le_of_ble_eq_true rfl, Nat.le_of_ble_eq_true rfl⟩) ?_
          refine lv_goto (tgt := 120) hx hb dX3_appendGuarded_115 (by decide) ?_
          refine jw_v (va_runV (As := [.int (f1 (i * 3)), .int (f1 (i * 3 + 1)), .int (pPl P (f1 (i * 3 + 2)))]) (rest := []) ⟨hx, hb, hml, hown, hts⟩ (c_X2_append l D cA H.size p2 b2 72 (k2 + 1) 216 (pApp f2 k2 10 (tn i) 0) (f1 (i * 3)) (f1 (i * 3 + 1)) (pPl P (f1 (i * 3 + 2))) (by omega) (by first | assumption | omega) (by omega)) (cwV 3 hts gX3_appendGuarded_X2_append rfl rfl rfl hv_X2_append ⟨Nat.le_of_ble_eq_true rfl, Nat.le_of_ble_eq_true rfl⟩) (rwP.V (wc := [(p2, .inr (2, [.ref b2, .int (nI 72), .int (nI (k2 + 1))])), (b2, .inl (cA, 216, .inl (pApp f2 k2 10 (tn i) 0)))]) (va_recv hK hP (ci := 2) (q0 := 3) rfl rfl) hP hD hK hN [3, 4] (by decide) rfl) rfl rfl hl.1 rfl (lv_room (Nat.le_of_ble_eq_true rfl)) dX3_appendGuarded_120 ⟨Nat.le_of_ble_eq_true rfl, Nat.le_of_ble_eq_true rfl⟩) hP hD hS hA [3, 4] [0, 1, 2, 5, 6, 7, 8] [0, 1, 2, 7, 8, 3, 4, 5, 6] (wr := [(h0, .inr (3, [.ref p1, .ref p2, .ref e0, .ref l0, .ref m0])), (p1, .inr (2, [.ref b1, .int (nI 24), .int (nI k1)])), (b1, .inl (cA, 72, .inl f1)), (e0, .inr (0, [.ref t0, .ref n0, .ref j0, .int (nI ec)])), (n0, .inl (cA, 24, .inl tn)), (j0, .inl (cA, 24, .inl jn)), (l0, .inl (cA, 24, .inl P))]) (w2 := [(h0, .inr (3, [.ref p1, .ref p2, .ref e0, .ref l0, .ref m0])), (p1, .inr (2, [.ref b1, .int (nI 24), .int (nI k1)])), (b1, .inl (cA, 72, .inl f1)), (p2, .inr (2, [.ref b2, .int (nI 72), .int (nI ((k2 + 1) + 1))])), (b2, .inl (cA, 216, .inl (pApp (pApp f2 k2 10 (tn i) 0) (k2 + 1) (f1 (i * 3)) (f1 (i * 3 + 1)) (pPl P (f1 (i * 3 + 2)))))), (e0, .inr (0, [.ref t0, .ref n0, .ref j0, .int (nI ec)])), (n0, .inl (cA, 24, .inl tn)), (j0, .inl (cA, 24, .inl jn)), (l0, .inl (cA, 24, .inl P))]) rfl rfl (by decide) (by decide) (by decide) rfl (fun H locs hP hD hS => ?_)
          obtain ⟨hP9, hD9⟩ := jk_end (w2 := [(h0, .inr (3, [.ref p1, .ref p2, .ref e0, .ref l0, .ref m0])), (p1, .inr (2, [.ref b1, .int (nI 24), .int (nI k1)])), (b1, .inl (cA, 72, .inl f1)), (p2, .inr (2, [.ref b2, .int (nI 72), .int (nI ((k2 + 1) + 1))])), (b2, .inl (cA, 216, .inl (pApp (pApp f2 k2 10 (tn i) 0) (k2 + 1) (f1 (i * 3)) (f1 (i * 3 + 1)) (pPl P (f1 (i * 3 + 2)))))), (e0, .inr (0, [.ref t0, .ref n0, .ref j0, .int (nI ec)])), (n0, .inl (cA, 24, .inl tn)), (j0, .inl (cA, 24, .inl jn)), (l0, .inl (cA, 24, .inl P))]) hP hD [0, 1, 2, 3, 4, 5, 6, 7, 8] (by decide) rfl
          have e9 : ([(h0, .inr (3, [.ref p1, .ref p2, .ref e0, .ref l0, .ref m0])), (p1, .inr (2, [.ref b1, .int (nI 24), .int (nI k1)])), (b1, .inl (cA, 72, .inl f1)), (p2, .inr (2, [.ref b2, .int (nI 72), .int (nI ((k2 + 1) + 1))])), (b2, .inl (cA, 216, .inl (pApp (pApp f2 k2 10 (tn i) 0) (k2 + 1) (f1 (i * 3)) (f1 (i * 3 + 1)) (pPl P (f1 (i * 3 + 2)))))), (e0, .inr (0, [.ref t0, .ref n0, .ref j0, .int (nI ec)])), (n0, .inl (cA, 24, .inl tn)), (j0, .inl (cA, 24, .inl jn)), (l0, .inl (cA, 24, .inl P))] : va_W) = [(h0, .inr (3, [.ref p1, .ref p2, .ref e0, .ref l0, .ref m0])), (p1, .inr (2, [.ref b1, .int (nI 24), .int (nI k1)])), (b1, .inl (cA, 72, .inl f1)), (p2, .inr (2, [.ref b2, .int (nI 72), .int (nI (gA f1 tn jn P i (k2, f2)).1)])), (b2, .inl (cA, 216, .inl ((gA f1 tn jn P i (k2, f2)).2))), (e0, .inr (0, [.ref t0, .ref n0, .ref j0, .int (nI ec)])), (n0, .inl (cA, 24, .inl tn)), (j0, .inl (cA, 24, .inl jn)), (l0, .inl (cA, 24, .inl P))] := (by unfold gA gA3 gA2 gA1 gX gY; simp only [if_neg c_43, if_neg c_61, if_neg c_90, if_pos c_106])
          rw [e9] at hP9 hD9
          exact W.vret hx hb hr (fun t9 ht9 hW9 => ⟨⟨(), rfl, trivial, by rw [ht9]; exact hP9, hD9⟩, hS.F ht9⟩) hS.2.2 dX3_appendGuarded_123
      · refine lv_aload_n hx hb dX3_appendGuarded_93 rfl (lv_at hl 4 rfl) ?_
        refine lv_iload_n hx hb dX3_appendGuarded_94 rfl (lv_at hl 2 rfl) ?_
        refine jr_i (va_runV (As := [.int (f1 (i * 3 + 1))]) (rest := [.int (f1 (i * 3)), .ref p2]) ⟨hx, hb, hml, hown, hts⟩ (c_X3_placeOf l D cA h0 p1 p2 e0 l0 m0 P (f1 (i * 3 + 1))) (cwV 1 hts gX3_appendGuarded_X3_placeOf rfl rfl rfl hv_X3_placeOf ⟨Nat.le_of_ble_eq_true rfl, Nat.le_of_ble_eq_true rfl⟩) (roP.V (va_recv hK hP (ci := 3) (q0 := 0) rfl rfl) (jP_sub (w2 := [(h0, .inr (3, [.ref p1, .ref p2, .ref e0, .ref l0, .ref m0])), (l0, .inl (cA, 24, .inl P))]) hP [0, 8] rfl) hK hN) rfl rfl hl.1 rfl (lv_room (Nat.le_of_ble_eq_true rfl)) dX3_appendGuarded_95 ⟨Nat.le_of_ble_eq_true rfl, Nat.le_of_ble_eq_true rfl⟩) ?_
        refine lv_goto (tgt := 102) hx hb dX3_appendGuarded_98 (by decide) ?_
        refine lv_iload_n hx hb dX3_appendGuarded_102 rfl (lv_at hl 3 rfl) ?_
        refine jr_i (va_runS (As := [.int (f1 (i * 3))]) (rest := [.int (pPl P (f1 (i * 3 + 1))), .int (f1 (i * 3)), .ref p2]) ⟨hx, hb, hml, hown, hts⟩ (c_X3_holdsAddressInB l D cA (f1 (i * 3))) (va_cwS 1 hts gX3_appendGuarded_X3_holdsAddressInB rfl rfl rfl hv_X3_holdsAddressInB.2 ⟨Nat.le_of_ble_eq_true rfl, Nat.le_of_ble_eq_true rfl⟩) (roP.S (av := [.int (f1 (i * 3))]) (jP_sub (w2 := []) hP [] rfl) hK hN) rfl rfl hl.1 rfl (lv_room (Nat.le_of_ble_eq_true rfl)) dX3_appendGuarded_103 ⟨Nat.le_of_ble_eq_true rfl, Nat.le_of_ble_eq_true rfl⟩) ?_
        refine lv_if_eq (tgt := 118) hx hb dX3_appendGuarded_106 (by decide) (fun c_106 => ?_) (fun c_106 => ?_)
        · replace c_106 := jB_z.mp c_106
          refine lv_iload hx hb dX3_appendGuarded_118 (lv_at hl 1 rfl) ?_
          refine jw_v (va_runV (As := [.int (f1 (i * 3)), .int (pPl P (f1 (i * 3 + 1))), .int (f1 (i * 3 + 2))]) (rest := []) ⟨hx, hb, hml, hown, hts⟩ (c_X2_append l D cA H.size p2 b2 72 (k2 + 1) 216 (pApp f2 k2 10 (tn i) 0) (f1 (i * 3)) (pPl P (f1 (i * 3 + 1))) (f1 (i * 3 + 2)) (by omega) (by first | assumption | omega) (by omega)) (cwV 3 hts gX3_appendGuarded_X2_append rfl rfl rfl hv_X2_append ⟨Nat.le_of_ble_eq_true rfl, Nat.le_of_ble_eq_true rfl⟩) (rwP.V (wc := [(p2, .inr (2, [.ref b2, .int (nI 72), .int (nI (k2 + 1))])), (b2, .inl (cA, 216, .inl (pApp f2 k2 10 (tn i) 0)))]) (va_recv hK hP (ci := 2) (q0 := 3) rfl rfl) hP hD hK hN [3, 4] (by decide) rfl) rfl rfl hl.1 rfl (lv_room (Nat.le_of_ble_eq_true rfl)) dX3_appendGuarded_120 ⟨Nat.le_of_ble_eq_true rfl, Nat.le_of_ble_eq_true rfl⟩) hP hD hS hA [3, 4] [0, 1, 2, 5, 6, 7, 8] [0, 1, 2, 7, 8, 3, 4, 5, 6] (wr := [(h0, .inr (3, [.ref p1, .ref p2, .ref e0, .ref l0, .ref m0])), (p1, .inr (2, [.ref b1, .int (nI 24), .int (nI k1)])), (b1, .inl (cA, 72, .inl f1)), (e0, .inr (0, [.ref t0, .ref n0, .ref j0, .int (nI ec)])), (n0, .inl (cA, 24, .inl tn)), (j0, .inl (cA, 24, .inl jn)), (l0, .inl (cA, 24, .inl P))]) (w2 := [(h0, .inr (3, [.ref p1, .ref p2, .ref e0, .ref l0, .ref m0])), (p1, .inr (2, [.ref b1, .int (nI 24), .int (nI k1)])), (b1, .inl (cA, 72, .inl f1)), (p2, .inr (2, [.ref b2, .int (nI 72), .int (nI ((k2 + 1) + 1))])), (b2, .inl (cA, 216, .inl (pApp (pApp f2 k2 10 (tn i) 0) (k2 + 1) (f1 (i * 3)) (pPl P (f1 (i * 3 + 1))) (f1 (i * 3 + 2))))), (e0, .inr (0, [.ref t0, .ref n0, .ref j0, .int (nI ec)])), (n0, .inl (cA, 24, .inl tn)), (j0, .inl (cA, 24, .inl jn)), (l0, .inl (cA, 24, .inl P))]) rfl rfl (by decide) (by decide) (by decide) rfl (fun H locs hP hD hS => ?_)
          obtain ⟨hP9, hD9⟩ := jk_end (w2 := [(h0, .inr (3, [.ref p1, .ref p2, .ref e0, .ref l0, .ref m0])), (p1, .inr (2, [.ref b1, .int (nI 24), .int (nI k1)])), (b1, .inl (cA, 72, .inl f1)), (p2, .inr (2, [.ref b2, .int (nI 72), .int (nI ((k2 + 1) + 1))])), (b2, .inl (cA, 216, .inl (pApp (pApp f2 k2 10 (tn i) 0) (k2 + 1) (f1 (i * 3)) (pPl P (f1 (i * 3 + 1))) (f1 (i * 3 + 2))))), (e0, .inr (0, [.ref t0, .ref n0, .ref j0, .int (nI ec)])), (n0, .inl (cA, 24, .inl tn)), (j0, .inl (cA, 24, .inl jn)), (l0, .inl (cA, 24, .inl P))]) hP hD [0, 1, 2, 3, 4, 5, 6, 7, 8] (by decide) rfl
          have e9 : ([(h0, .inr (3, [.ref p1, .ref p2, .ref e0, .ref l0, .ref m0])), (p1, .inr (2, [.ref b1, .int (nI 24), .int (nI k1)])), (b1, .inl (cA, 72, .inl f1)), (p2, .inr (2, [.ref b2, .int (nI 72), .int (nI ((k2 + 1) + 1))])), (b2, .inl (cA, 216, .inl (pApp (pApp f2 k2 10 (tn i) 0) (k2 + 1) (f1 (i * 3)) (pPl P (f1 (i * 3 + 1))) (f1 (i * 3 + 2))))), (e0, .inr (0, [.ref t0, .ref n0, .ref j0, .int (nI ec)])), (n0, .inl (cA, 24, .inl tn)), (j0, .inl (cA, 24, .inl jn)), (l0, .inl (cA, 24, .inl P))] : va_W) = [(h0, .inr (3, [.ref p1, .ref p2, .ref e0, .ref l0, .ref m0])), (p1, .inr (2, [.ref b1, .int (nI 24), .int (nI k1)])), (b1, .inl (cA, 72, .inl f1)), (p2, .inr (2, [.ref b2, .int (nI 72), .int (nI (gA f1 tn jn P i (k2, f2)).1)])), (b2, .inl (cA, 216, .inl ((gA f1 tn jn P i (k2, f2)).2))), (e0, .inr (0, [.ref t0, .ref n0, .ref j0, .int (nI ec)])), (n0, .inl (cA, 24, .inl tn)), (j0, .inl (cA, 24, .inl jn)), (l0, .inl (cA, 24, .inl P))] := (by unfold gA gA3 gA2 gA1 gX gY; simp only [if_neg c_43, if_neg c_61, if_pos c_90, if_neg c_106])
          rw [e9] at hP9 hD9
          exact W.vret hx hb hr (fun t9 ht9 hW9 => ⟨⟨(), rfl, trivial, by rw [ht9]; exact hP9, hD9⟩, hS.F ht9⟩) hS.2.2 dX3_appendGuarded_123
        · replace c_106 := jB_nz.mp c_106
          refine lv_aload_n hx hb dX3_appendGuarded_109 rfl (lv_at hl 4 rfl) ?_
          refine lv_iload hx hb dX3_appendGuarded_110 (lv_at hl 1 rfl) ?_
          refine jr_i (va_runV (As := [.int (f1 (i * 3 + 2))]) (rest := [.int (pPl P (f1 (i * 3 + 1))), .int (f1 (i * 3)), .ref p2]) ⟨hx, hb, hml, hown, hts⟩ (c_X3_placeOf l D cA h0 p1 p2 e0 l0 m0 P (f1 (i * 3 + 2))) (cwV 1 hts gX3_appendGuarded_X3_placeOf rfl rfl rfl hv_X3_placeOf ⟨Nat.le_of_ble_eq_true rfl, Nat.le_of_ble_eq_true rfl⟩) (roP.V (va_recv hK hP (ci := 3) (q0 := 0) rfl rfl) (jP_sub (w2 := [(h0, .inr (3, [.ref p1, .ref p2, .ref e0, .ref l0, .ref m0])), (l0, .inl (cA, 24, .inl P))]) hP [0, 8] rfl) hK hN) rfl rfl hl.1 rfl (lv_room (Nat.le_of_ble_eq_true rfl)) dX3_appendGuarded_112 ⟨Nat.le_of_ble_eq_true rfl, Nat.le_of_ble_eq_true rfl⟩) ?_
          refine lv_goto (tgt := 120) hx hb dX3_appendGuarded_115 (by decide) ?_
          refine jw_v (va_runV (As := [.int (f1 (i * 3)), .int (pPl P (f1 (i * 3 + 1))), .int (pPl P (f1 (i * 3 + 2)))]) (rest := []) ⟨hx, hb, hml, hown, hts⟩ (c_X2_append l D cA H.size p2 b2 72 (k2 + 1) 216 (pApp f2 k2 10 (tn i) 0) (f1 (i * 3)) (pPl P (f1 (i * 3 + 1))) (pPl P (f1 (i * 3 + 2))) (by omega) (by first | assumption | omega) (by omega)) (cwV 3 hts gX3_appendGuarded_X2_append rfl rfl rfl hv_X2_append ⟨Nat.le_of_ble_eq_true rfl, Nat.le_of_ble_eq_true rfl⟩) (rwP.V (wc := [(p2, .inr (2, [.ref b2, .int (nI 72), .int (nI (k2 + 1))])), (b2, .inl (cA, 216, .inl (pApp f2 k2 10 (tn i) 0)))]) (va_recv hK hP (ci := 2) (q0 := 3) rfl rfl) hP hD hK hN [3, 4] (by decide) rfl) rfl rfl hl.1 rfl (lv_room (Nat.le_of_ble_eq_true rfl)) dX3_appendGuarded_120 ⟨Nat.le_of_ble_eq_true rfl, Nat.le_of_ble_eq_true rfl⟩) hP hD hS hA [3, 4] [0, 1, 2, 5, 6, 7, 8] [0, 1, 2, 7, 8, 3, 4, 5, 6] (wr := [(h0, .inr (3, [.ref p1, .ref p2, .ref e0, .ref l0, .ref m0])), (p1, .inr (2, [.ref b1, .int (nI 24), .int (nI k1)])), (b1, .inl (cA, 72, .inl f1)), (e0, .inr (0, [.ref t0, .ref n0, .ref j0, .int (nI ec)])), (n0, .inl (cA, 24, .inl tn)), (j0, .inl (cA, 24, .inl jn)), (l0, .inl (cA, 24, .inl P))]) (w2 := [(h0, .inr (3, [.ref p1, .ref p2, .ref e0, .ref l0, .ref m0])), (p1, .inr (2, [.ref b1, .int (nI 24), .int (nI k1)])), (b1, .inl (cA, 72, .inl f1)), (p2, .inr (2, [.ref b2, .int (nI 72), .int (nI ((k2 + 1) + 1))])), (b2, .inl (cA, 216, .inl (pApp (pApp f2 k2 10 (tn i) 0) (k2 + 1) (f1 (i * 3)) (pPl P (f1 (i * 3 + 1))) (pPl P (f1 (i * 3 + 2)))))), (e0, .inr (0, [.ref t0, .ref n0, .ref j0, .int (nI ec)])), (n0, .inl (cA, 24, .inl tn)), (j0, .inl (cA, 24, .inl jn)), (l0, .inl (cA, 24, .inl P))]) rfl rfl (by decide) (by decide) (by decide) rfl (fun H locs hP hD hS => ?_)
          obtain ⟨hP9, hD9⟩ := jk_end (w2 := [(h0, .inr (3, [.ref p1, .ref p2, .ref e0, .ref l0, .ref m0])), (p1, .inr (2, [.ref b1, .int (nI 24), .int (nI k1)])), (b1, .inl (cA, 72, .inl f1)), (p2, .inr (2, [.ref b2, .int (nI 72), .int (nI ((k2 + 1) + 1))])), (b2, .inl (cA, 216, .inl (pApp (pApp f2 k2 10 (tn i) 0) (k2 + 1) (f1 (i * 3)) (pPl P (f1 (i * 3 + 1))) (pPl P (f1 (i * 3 + 2)))))), (e0, .inr (0, [.ref t0, .ref n0, .ref j0, .int (nI ec)])), (n0, .inl (cA, 24, .inl tn)), (j0, .inl (cA, 24, .inl jn)), (l0, .inl (cA, 24, .inl P))]) hP hD [0, 1, 2, 3, 4, 5, 6, 7, 8] (by decide) rfl
          have e9 : ([(h0, .inr (3, [.ref p1, .ref p2, .ref e0, .ref l0, .ref m0])), (p1, .inr (2, [.ref b1, .int (nI 24), .int (nI k1)])), (b1, .inl (cA, 72, .inl f1)), (p2, .inr (2, [.ref b2, .int (nI 72), .int (nI ((k2 + 1) + 1))])), (b2, .inl (cA, 216, .inl (pApp (pApp f2 k2 10 (tn i) 0) (k2 + 1) (f1 (i * 3)) (pPl P (f1 (i * 3 + 1))) (pPl P (f1 (i * 3 + 2)))))), (e0, .inr (0, [.ref t0, .ref n0, .ref j0, .int (nI ec)])), (n0, .inl (cA, 24, .inl tn)), (j0, .inl (cA, 24, .inl jn)), (l0, .inl (cA, 24, .inl P))] : va_W) = [(h0, .inr (3, [.ref p1, .ref p2, .ref e0, .ref l0, .ref m0])), (p1, .inr (2, [.ref b1, .int (nI 24), .int (nI k1)])), (b1, .inl (cA, 72, .inl f1)), (p2, .inr (2, [.ref b2, .int (nI 72), .int (nI (gA f1 tn jn P i (k2, f2)).1)])), (b2, .inl (cA, 216, .inl ((gA f1 tn jn P i (k2, f2)).2))), (e0, .inr (0, [.ref t0, .ref n0, .ref j0, .int (nI ec)])), (n0, .inl (cA, 24, .inl tn)), (j0, .inl (cA, 24, .inl jn)), (l0, .inl (cA, 24, .inl P))] := (by unfold gA gA3 gA2 gA1 gX gY; simp only [if_neg c_43, if_neg c_61, if_pos c_90, if_pos c_106])
          rw [e9] at hP9 hD9
          exact W.vret hx hb hr (fun t9 ht9 hW9 => ⟨⟨(), rfl, trivial, by rw [ht9]; exact hP9, hD9⟩, hS.F ht9⟩) hS.2.2 dX3_appendGuarded_123
    · refine lv_aload_n hx hb dX3_appendGuarded_64 rfl (lv_at hl 4 rfl) ?_
      refine va_get (D := D) (ci := 3) (v := .ref p2) (C := RX3) (T := TX3) (N := 5) hx hb hts iw_X3_appendGuarded_X3 hown hK hP 0 rfl rfl 1 (by decide) (hts (.fieldLink RX3 18 "JumpGuard" "guardedProgram" "LJumpGuard$Program;") (List.mem_of_getElem? (l := wsX3_appendGuarded) (i := 3) rfl)) (fun _ h9 => h9) rfl dX3_appendGuarded_65 ?_
      refine lv_bipush (v := 11) hx hb dX3_appendGuarded_68 (by decide) ?_
      refine lv_iload_n hx hb dX3_appendGuarded_70 rfl (lv_at hl 2 rfl) ?_
      refine lv_aload_n hx hb dX3_appendGuarded_71 rfl (lv_at hl 4 rfl) ?_
      refine va_get (D := D) (ci := 3) (v := .ref e0) (C := RX3) (T := TX3) (N := 5) hx hb hts iw_X3_appendGuarded_X3 hown hK hP 0 rfl rfl 2 (by decide) (hts (.fieldLink RX3 24 "JumpGuard" "edges" "LJumpGuard$Edges;") (List.mem_of_getElem? (l := wsX3_appendGuarded) (i := 2) rfl)) (fun _ h9 => h9) rfl dX3_appendGuarded_72 ?_
      refine lv_iload_n hx hb dX3_appendGuarded_75 rfl (lv_at hl 5 rfl) ?_
      refine jr_i (va_runV (As := [.int (nI i)]) (rest := [.int (f1 (i * 3 + 1)), .int 11, .ref p2]) ⟨hx, hb, hml, hown, hts⟩ (c_X0_numberOfJump l D cA e0 t0 n0 j0 ec jn (nI i)) (cwV 1 hts gX3_appendGuarded_X0_numberOfJump rfl rfl rfl hv_X0_numberOfJump ⟨Nat.le_of_ble_eq_true rfl, Nat.le_of_ble_eq_true rfl⟩) (roP.V (va_recv hK hP (ci := 0) (q0 := 5) rfl rfl) (jP_sub (w2 := [(e0, .inr (0, [.ref t0, .ref n0, .ref j0, .int (nI ec)])), (j0, .inl (cA, 24, .inl jn))]) hP [5, 7] rfl) hK hN) rfl rfl hl.1 rfl (lv_room (Nat.le_of_ble_eq_true rfl)) dX3_appendGuarded_76 ⟨Nat.le_of_ble_eq_true rfl, Nat.le_of_ble_eq_true rfl⟩) ?_
      refine jk_top (show (jAt jn 24 (nI i)) = (jn i) from jAt_n (n := 24) (by omega) (by decide)) ?_
      refine jw_v (va_runV (As := [.int 11, .int (f1 (i * 3 + 1)), .int (jn i)]) (rest := []) ⟨hx, hb, hml, hown, hts⟩ (c_X2_append l D cA H.size p2 b2 72 (k2 + 1) 216 (pApp f2 k2 10 (tn i) 0) 11 (f1 (i * 3 + 1)) (jn i) (by omega) (by first | assumption | omega) (by omega)) (cwV 3 hts gX3_appendGuarded_X2_append rfl rfl rfl hv_X2_append ⟨Nat.le_of_ble_eq_true rfl, Nat.le_of_ble_eq_true rfl⟩) (rwP.V (wc := [(p2, .inr (2, [.ref b2, .int (nI 72), .int (nI (k2 + 1))])), (b2, .inl (cA, 216, .inl (pApp f2 k2 10 (tn i) 0)))]) (va_recv hK hP (ci := 2) (q0 := 3) rfl rfl) hP hD hK hN [3, 4] (by decide) rfl) rfl rfl hl.1 rfl (lv_room (Nat.le_of_ble_eq_true rfl)) dX3_appendGuarded_79 ⟨Nat.le_of_ble_eq_true rfl, Nat.le_of_ble_eq_true rfl⟩) hP hD hS hA [3, 4] [0, 1, 2, 5, 6, 7, 8] [0, 1, 2, 7, 8, 3, 4, 5, 6] (wr := [(h0, .inr (3, [.ref p1, .ref p2, .ref e0, .ref l0, .ref m0])), (p1, .inr (2, [.ref b1, .int (nI 24), .int (nI k1)])), (b1, .inl (cA, 72, .inl f1)), (e0, .inr (0, [.ref t0, .ref n0, .ref j0, .int (nI ec)])), (n0, .inl (cA, 24, .inl tn)), (j0, .inl (cA, 24, .inl jn)), (l0, .inl (cA, 24, .inl P))]) (w2 := [(h0, .inr (3, [.ref p1, .ref p2, .ref e0, .ref l0, .ref m0])), (p1, .inr (2, [.ref b1, .int (nI 24), .int (nI k1)])), (b1, .inl (cA, 72, .inl f1)), (p2, .inr (2, [.ref b2, .int (nI 72), .int (nI ((k2 + 1) + 1))])), (b2, .inl (cA, 216, .inl (pApp (pApp f2 k2 10 (tn i) 0) (k2 + 1) 11 (f1 (i * 3 + 1)) (jn i)))), (e0, .inr (0, [.ref t0, .ref n0, .ref j0, .int (nI ec)])), (n0, .inl (cA, 24, .inl tn)), (j0, .inl (cA, 24, .inl jn)), (l0, .inl (cA, 24, .inl P))]) rfl rfl (by decide) (by decide) (by decide) rfl (fun H locs hP hD hS => ?_)
      refine lv_aload_n hx hb dX3_appendGuarded_82 rfl (lv_at hl 4 rfl) ?_
      refine va_get (D := D) (ci := 3) (v := .ref p2) (C := RX3) (T := TX3) (N := 5) hx hb hts iw_X3_appendGuarded_X3 hown hK hP 0 rfl rfl 1 (by decide) (hts (.fieldLink RX3 18 "JumpGuard" "guardedProgram" "LJumpGuard$Program;") (List.mem_of_getElem? (l := wsX3_appendGuarded) (i := 3) rfl)) (fun _ h9 => h9) rfl dX3_appendGuarded_83 ?_
      refine lv_iload_n hx hb dX3_appendGuarded_86 rfl (lv_at hl 3 rfl) ?_
      refine lv_iload_n hx hb dX3_appendGuarded_87 rfl (lv_at hl 3 rfl) ?_
      refine lv_bipush (v := 6) hx hb dX3_appendGuarded_88 (by decide) ?_
      refine lv_icmp_ne (tgt := 101) hx hb dX3_appendGuarded_90 (by decide) (fun c_90 => ?_) (fun c_90 => ?_)
      · refine lv_iload_n hx hb dX3_appendGuarded_101 rfl (lv_at hl 2 rfl) ?_
        refine lv_iload_n hx hb dX3_appendGuarded_102 rfl (lv_at hl 3 rfl) ?_
        refine jr_i (va_runS (As := [.int (f1 (i * 3))]) (rest := [.int (f1 (i * 3 + 1)), .int (f1 (i * 3)), .ref p2]) ⟨hx, hb, hml, hown, hts⟩ (c_X3_holdsAddressInB l D cA (f1 (i * 3))) (va_cwS 1 hts gX3_appendGuarded_X3_holdsAddressInB rfl rfl rfl hv_X3_holdsAddressInB.2 ⟨Nat.le_of_ble_eq_true rfl, Nat.le_of_ble_eq_true rfl⟩) (roP.S (av := [.int (f1 (i * 3))]) (jP_sub (w2 := []) hP [] rfl) hK hN) rfl rfl hl.1 rfl (lv_room (Nat.le_of_ble_eq_true rfl)) dX3_appendGuarded_103 ⟨Nat.le_of_ble_eq_true rfl, Nat.le_of_ble_eq_true rfl⟩) ?_
        refine lv_if_eq (tgt := 118) hx hb dX3_appendGuarded_106 (by decide) (fun c_106 => ?_) (fun c_106 => ?_)
        · replace c_106 := jB_z.mp c_106
          refine lv_iload hx hb dX3_appendGuarded_118 (lv_at hl 1 rfl) ?_
          refine jw_v (va_runV (As := [.int (f1 (i * 3)), .int (f1 (i * 3 + 1)), .int (f1 (i * 3 + 2))]) (rest := []) ⟨hx, hb, hml, hown, hts⟩ (c_X2_append l D cA H.size p2 b2 72 ((k2 + 1) + 1) 216 (pApp (pApp f2 k2 10 (tn i) 0) (k2 + 1) 11 (f1 (i * 3 + 1)) (jn i)) (f1 (i * 3)) (f1 (i * 3 + 1)) (f1 (i * 3 + 2)) (by omega) (by first | assumption | omega) (by omega)) (cwV 3 hts gX3_appendGuarded_X2_append rfl rfl rfl hv_X2_append ⟨Nat.le_of_ble_eq_true rfl, Nat.le_of_ble_eq_true rfl⟩) (rwP.V (wc := [(p2, .inr (2, [.ref b2, .int (nI 72), .int (nI ((k2 + 1) + 1))])), (b2, .inl (cA, 216, .inl (pApp (pApp f2 k2 10 (tn i) 0) (k2 + 1) 11 (f1 (i * 3 + 1)) (jn i))))]) (va_recv hK hP (ci := 2) (q0 := 3) rfl rfl) hP hD hK hN [3, 4] (by decide) rfl) rfl rfl hl.1 rfl (lv_room (Nat.le_of_ble_eq_true rfl)) dX3_appendGuarded_120 ⟨Nat.le_of_ble_eq_true rfl, Nat.le_of_ble_eq_true rfl⟩) hP hD hS hA [3, 4] [0, 1, 2, 5, 6, 7, 8] [0, 1, 2, 7, 8, 3, 4, 5, 6] (wr := [(h0, .inr (3, [.ref p1, .ref p2, .ref e0, .ref l0, .ref m0])), (p1, .inr (2, [.ref b1, .int (nI 24), .int (nI k1)])), (b1, .inl (cA, 72, .inl f1)), (e0, .inr (0, [.ref t0, .ref n0, .ref j0, .int (nI ec)])), (n0, .inl (cA, 24, .inl tn)), (j0, .inl (cA, 24, .inl jn)), (l0, .inl (cA, 24, .inl P))]) (w2 := [(h0, .inr (3, [.ref p1, .ref p2, .ref e0, .ref l0, .ref m0])), (p1, .inr (2, [.ref b1, .int (nI 24), .int (nI k1)])), (b1, .inl (cA, 72, .inl f1)), (p2, .inr (2, [.ref b2, .int (nI 72), .int (nI (((k2 + 1) + 1) + 1))])), (b2, .inl (cA, 216, .inl (pApp (pApp (pApp f2 k2 10 (tn i) 0) (k2 + 1) 11 (f1 (i * 3 + 1)) (jn i)) ((k2 + 1) + 1) (f1 (i * 3)) (f1 (i * 3 + 1)) (f1 (i * 3 + 2))))), (e0, .inr (0, [.ref t0, .ref n0, .ref j0, .int (nI ec)])), (n0, .inl (cA, 24, .inl tn)), (j0, .inl (cA, 24, .inl jn)), (l0, .inl (cA, 24, .inl P))]) rfl rfl (by decide) (by decide) (by decide) rfl (fun H locs hP hD hS => ?_)
          obtain ⟨hP9, hD9⟩ := jk_end (w2 := [(h0, .inr (3, [.ref p1, .ref p2, .ref e0, .ref l0, .ref m0])), (p1, .inr (2, [.ref b1, .int (nI 24), .int (nI k1)])), (b1, .inl (cA, 72, .inl f1)), (p2, .inr (2, [.ref b2, .int (nI 72), .int (nI (((k2 + 1) + 1) + 1))])), (b2, .inl (cA, 216, .inl (pApp (pApp (pApp f2 k2 10 (tn i) 0) (k2 + 1) 11 (f1 (i * 3 + 1)) (jn i)) ((k2 + 1) + 1) (f1 (i * 3)) (f1 (i * 3 + 1)) (f1 (i * 3 + 2))))), (e0, .inr (0, [.ref t0, .ref n0, .ref j0, .int (nI ec)])), (n0, .inl (cA, 24, .inl tn)), (j0, .inl (cA, 24, .inl jn)), (l0, .inl (cA, 24, .inl P))]) hP hD [0, 1, 2, 3, 4, 5, 6, 7, 8] (by decide) rfl
          have e9 : ([(h0, .inr (3, [.ref p1, .ref p2, .ref e0, .ref l0, .ref m0])), (p1, .inr (2, [.ref b1, .int (nI 24), .int (nI k1)])), (b1, .inl (cA, 72, .inl f1)), (p2, .inr (2, [.ref b2, .int (nI 72), .int (nI (((k2 + 1) + 1) + 1))])), (b2, .inl (cA, 216, .inl (pApp (pApp (pApp f2 k2 10 (tn i) 0) (k2 + 1) 11 (f1 (i * 3 + 1)) (jn i)) ((k2 + 1) + 1) (f1 (i * 3)) (f1 (i * 3 + 1)) (f1 (i * 3 + 2))))), (e0, .inr (0, [.ref t0, .ref n0, .ref j0, .int (nI ec)])), (n0, .inl (cA, 24, .inl tn)), (j0, .inl (cA, 24, .inl jn)), (l0, .inl (cA, 24, .inl P))] : va_W) = [(h0, .inr (3, [.ref p1, .ref p2, .ref e0, .ref l0, .ref m0])), (p1, .inr (2, [.ref b1, .int (nI 24), .int (nI k1)])), (b1, .inl (cA, 72, .inl f1)), (p2, .inr (2, [.ref b2, .int (nI 72), .int (nI (gA f1 tn jn P i (k2, f2)).1)])), (b2, .inl (cA, 216, .inl ((gA f1 tn jn P i (k2, f2)).2))), (e0, .inr (0, [.ref t0, .ref n0, .ref j0, .int (nI ec)])), (n0, .inl (cA, 24, .inl tn)), (j0, .inl (cA, 24, .inl jn)), (l0, .inl (cA, 24, .inl P))] := (by unfold gA gA3 gA2 gA1 gX gY; simp only [if_neg c_43, if_pos c_61, if_neg c_90, if_neg c_106])
          rw [e9] at hP9 hD9
          exact W.vret hx hb hr (fun t9 ht9 hW9 => ⟨⟨(), rfl, trivial, by rw [ht9]; exact hP9, hD9⟩, hS.F ht9⟩) hS.2.2 dX3_appendGuarded_123
        · replace c_106 := jB_nz.mp c_106
          refine lv_aload_n hx hb dX3_appendGuarded_109 rfl (lv_at hl 4 rfl) ?_
          refine lv_iload hx hb dX3_appendGuarded_110 (lv_at hl 1 rfl) ?_
          refine jr_i (va_runV (As := [.int (f1 (i * 3 + 2))]) (rest := [.int (f1 (i * 3 + 1)), .int (f1 (i * 3)), .ref p2]) ⟨hx, hb, hml, hown, hts⟩ (c_X3_placeOf l D cA h0 p1 p2 e0 l0 m0 P (f1 (i * 3 + 2))) (cwV 1 hts gX3_appendGuarded_X3_placeOf rfl rfl rfl hv_X3_placeOf ⟨Nat.le_of_ble_eq_true rfl, Nat.le_of_ble_eq_true rfl⟩) (roP.V (va_recv hK hP (ci := 3) (q0 := 0) rfl rfl) (jP_sub (w2 := [(h0, .inr (3, [.ref p1, .ref p2, .ref e0, .ref l0, .ref m0])), (l0, .inl (cA, 24, .inl P))]) hP [0, 8] rfl) hK hN) rfl rfl hl.1 rfl (lv_room (Nat.le_of_ble_eq_true rfl)) dX3_appendGuarded_112 ⟨Nat.le_of_ble_eq_true rfl, Nat.le_of_ble_eq_true rfl⟩) ?_
          refine lv_goto (tgt := 120) hx hb dX3_appendGuarded_115 (by decide) ?_
          refine jw_v (va_runV (As := [.int (f1 (i * 3)), .int (f1 (i * 3 + 1)), .int (pPl P (f1 (i * 3 + 2)))]) (rest := []) ⟨hx, hb, hml, hown, hts⟩ (c_X2_append l D cA H.size p2 b2 72 ((k2 + 1) + 1) 216 (pApp (pApp f2 k2 10 (tn i) 0) (k2 + 1) 11 (f1 (i * 3 + 1)) (jn i)) (f1 (i * 3)) (f1 (i * 3 + 1)) (pPl P (f1 (i * 3 + 2))) (by omega) (by first | assumption | omega) (by omega)) (cwV 3 hts gX3_appendGuarded_X2_append rfl rfl rfl hv_X2_append ⟨Nat.le_of_ble_eq_true rfl, Nat.le_of_ble_eq_true rfl⟩) (rwP.V (wc := [(p2, .inr (2, [.ref b2, .int (nI 72), .int (nI ((k2 + 1) + 1))])), (b2, .inl (cA, 216, .inl (pApp (pApp f2 k2 10 (tn i) 0) (k2 + 1) 11 (f1 (i * 3 + 1)) (jn i))))]) (va_recv hK hP (ci := 2) (q0 := 3) rfl rfl) hP hD hK hN [3, 4] (by decide) rfl) rfl rfl hl.1 rfl (lv_room (Nat.le_of_ble_eq_true rfl)) dX3_appendGuarded_120 ⟨Nat.le_of_ble_eq_true rfl, Nat.le_of_ble_eq_true rfl⟩) hP hD hS hA [3, 4] [0, 1, 2, 5, 6, 7, 8] [0, 1, 2, 7, 8, 3, 4, 5, 6] (wr := [(h0, .inr (3, [.ref p1, .ref p2, .ref e0, .ref l0, .ref m0])), (p1, .inr (2, [.ref b1, .int (nI 24), .int (nI k1)])), (b1, .inl (cA, 72, .inl f1)), (e0, .inr (0, [.ref t0, .ref n0, .ref j0, .int (nI ec)])), (n0, .inl (cA, 24, .inl tn)), (j0, .inl (cA, 24, .inl jn)), (l0, .inl (cA, 24, .inl P))]) (w2 := [(h0, .inr (3, [.ref p1, .ref p2, .ref e0, .ref l0, .ref m0])), (p1, .inr (2, [.ref b1, .int (nI 24), .int (nI k1)])), (b1, .inl (cA, 72, .inl f1)), (p2, .inr (2, [.ref b2, .int (nI 72), .int (nI (((k2 + 1) + 1) + 1))])), (b2, .inl (cA, 216, .inl (pApp (pApp (pApp f2 k2 10 (tn i) 0) (k2 + 1) 11 (f1 (i * 3 + 1)) (jn i)) ((k2 + 1) + 1) (f1 (i * 3)) (f1 (i * 3 + 1)) (pPl P (f1 (i * 3 + 2)))))), (e0, .inr (0, [.ref t0, .ref n0, .ref j0, .int (nI ec)])), (n0, .inl (cA, 24, .inl tn)), (j0, .inl (cA, 24, .inl jn)), (l0, .inl (cA, 24, .inl P))]) rfl rfl (by decide) (by decide) (by decide) rfl (fun H locs hP hD hS => ?_)
          obtain ⟨hP9, hD9⟩ := jk_end (w2 := [(h0, .inr (3, [.ref p1, .ref p2, .ref e0, .ref l0, .ref m0])), (p1, .inr (2, [.ref b1, .int (nI 24), .int (nI k1)])), (b1, .inl (cA, 72, .inl f1)), (p2, .inr (2, [.ref b2, .int (nI 72), .int (nI (((k2 + 1) + 1) + 1))])), (b2, .inl (cA, 216, .inl (pApp (pApp (pApp f2 k2 10 (tn i) 0) (k2 + 1) 11 (f1 (i * 3 + 1)) (jn i)) ((k2 + 1) + 1) (f1 (i * 3)) (f1 (i * 3 + 1)) (pPl P (f1 (i * 3 + 2)))))), (e0, .inr (0, [.ref t0, .ref n0, .ref j0, .int (nI ec)])), (n0, .inl (cA, 24, .inl tn)), (j0, .inl (cA, 24, .inl jn)), (l0, .inl (cA, 24, .inl P))]) hP hD [0, 1, 2, 3, 4, 5, 6, 7, 8] (by decide) rfl
          have e9 : ([(h0, .inr (3, [.ref p1, .ref p2, .ref e0, .ref l0, .ref m0])), (p1, .inr (2, [.ref b1, .int (nI 24), .int (nI k1)])), (b1, .inl (cA, 72, .inl f1)), (p2, .inr (2, [.ref b2, .int (nI 72), .int (nI (((k2 + 1) + 1) + 1))])), (b2, .inl (cA, 216, .inl (pApp (pApp (pApp f2 k2 10 (tn i) 0) (k2 + 1) 11 (f1 (i * 3 + 1)) (jn i)) ((k2 + 1) + 1) (f1 (i * 3)) (f1 (i * 3 + 1)) (pPl P (f1 (i * 3 + 2)))))), (e0, .inr (0, [.ref t0, .ref n0, .ref j0, .int (nI ec)])), (n0, .inl (cA, 24, .inl tn)), (j0, .inl (cA, 24, .inl jn)), (l0, .inl (cA, 24, .inl P))] : va_W) = [(h0, .inr (3, [.ref p1, .ref p2, .ref e0, .ref l0, .ref m0])), (p1, .inr (2, [.ref b1, .int (nI 24), .int (nI k1)])), (b1, .inl (cA, 72, .inl f1)), (p2, .inr (2, [.ref b2, .int (nI 72), .int (nI (gA f1 tn jn P i (k2, f2)).1)])), (b2, .inl (cA, 216, .inl ((gA f1 tn jn P i (k2, f2)).2))), (e0, .inr (0, [.ref t0, .ref n0, .ref j0, .int (nI ec)])), (n0, .inl (cA, 24, .inl tn)), (j0, .inl (cA, 24, .inl jn)), (l0, .inl (cA, 24, .inl P))] := (by unfold gA gA3 gA2 gA1 gX gY; simp only [if_neg c_43, if_pos c_61, if_neg c_90, if_pos c_106])
          rw [e9] at hP9 hD9
          exact W.vret hx hb hr (fun t9 ht9 hW9 => ⟨⟨(), rfl, trivial, by rw [ht9]; exact hP9, hD9⟩, hS.F ht9⟩) hS.2.2 dX3_appendGuarded_123
      · refine lv_aload_n hx hb dX3_appendGuarded_93 rfl (lv_at hl 4 rfl) ?_
        refine lv_iload_n hx hb dX3_appendGuarded_94 rfl (lv_at hl 2 rfl) ?_
        refine jr_i (va_runV (As := [.int (f1 (i * 3 + 1))]) (rest := [.int (f1 (i * 3)), .ref p2]) ⟨hx, hb, hml, hown, hts⟩ (c_X3_placeOf l D cA h0 p1 p2 e0 l0 m0 P (f1 (i * 3 + 1))) (cwV 1 hts gX3_appendGuarded_X3_placeOf rfl rfl rfl hv_X3_placeOf ⟨Nat.le_of_ble_eq_true rfl, Nat.le_of_ble_eq_true rfl⟩) (roP.V (va_recv hK hP (ci := 3) (q0 := 0) rfl rfl) (jP_sub (w2 := [(h0, .inr (3, [.ref p1, .ref p2, .ref e0, .ref l0, .ref m0])), (l0, .inl (cA, 24, .inl P))]) hP [0, 8] rfl) hK hN) rfl rfl hl.1 rfl (lv_room (Nat.le_of_ble_eq_true rfl)) dX3_appendGuarded_95 ⟨Nat.le_of_ble_eq_true rfl, Nat.le_of_ble_eq_true rfl⟩) ?_
        refine lv_goto (tgt := 102) hx hb dX3_appendGuarded_98 (by decide) ?_
        refine lv_iload_n hx hb dX3_appendGuarded_102 rfl (lv_at hl 3 rfl) ?_
        refine jr_i (va_runS (As := [.int (f1 (i * 3))]) (rest := [.int (pPl P (f1 (i * 3 + 1))), .int (f1 (i * 3)), .ref p2]) ⟨hx, hb, hml, hown, hts⟩ (c_X3_holdsAddressInB l D cA (f1 (i * 3))) (va_cwS 1 hts gX3_appendGuarded_X3_holdsAddressInB rfl rfl rfl hv_X3_holdsAddressInB.2 ⟨Nat.le_of_ble_eq_true rfl, Nat.le_of_ble_eq_true rfl⟩) (roP.S (av := [.int (f1 (i * 3))]) (jP_sub (w2 := []) hP [] rfl) hK hN) rfl rfl hl.1 rfl (lv_room (Nat.le_of_ble_eq_true rfl)) dX3_appendGuarded_103 ⟨Nat.le_of_ble_eq_true rfl, Nat.le_of_ble_eq_true rfl⟩) ?_
        refine lv_if_eq (tgt := 118) hx hb dX3_appendGuarded_106 (by decide) (fun c_106 => ?_) (fun c_106 => ?_)
        · replace c_106 := jB_z.mp c_106
          refine lv_iload hx hb dX3_appendGuarded_118 (lv_at hl 1 rfl) ?_
          refine jw_v (va_runV (As := [.int (f1 (i * 3)), .int (pPl P (f1 (i * 3 + 1))), .int (f1 (i * 3 + 2))]) (rest := []) ⟨hx, hb, hml, hown, hts⟩ (c_X2_append l D cA H.size p2 b2 72 ((k2 + 1) + 1) 216 (pApp (pApp f2 k2 10 (tn i) 0) (k2 + 1) 11 (f1 (i * 3 + 1)) (jn i)) (f1 (i * 3)) (pPl P (f1 (i * 3 + 1))) (f1 (i * 3 + 2)) (by omega) (by first | assumption | omega) (by omega)) (cwV 3 hts gX3_appendGuarded_X2_append rfl rfl rfl hv_X2_append ⟨Nat.le_of_ble_eq_true rfl, Nat.le_of_ble_eq_true rfl⟩) (rwP.V (wc := [(p2, .inr (2, [.ref b2, .int (nI 72), .int (nI ((k2 + 1) + 1))])), (b2, .inl (cA, 216, .inl (pApp (pApp f2 k2 10 (tn i) 0) (k2 + 1) 11 (f1 (i * 3 + 1)) (jn i))))]) (va_recv hK hP (ci := 2) (q0 := 3) rfl rfl) hP hD hK hN [3, 4] (by decide) rfl) rfl rfl hl.1 rfl (lv_room (Nat.le_of_ble_eq_true rfl)) dX3_appendGuarded_120 ⟨Nat.le_of_ble_eq_true rfl, Nat.le_of_ble_eq_true rfl⟩) hP hD hS hA [3, 4] [0, 1, 2, 5, 6, 7, 8] [0, 1, 2, 7, 8, 3, 4, 5, 6] (wr := [(h0, .inr (3, [.ref p1, .ref p2, .ref e0, .ref l0, .ref m0])), (p1, .inr (2, [.ref b1, .int (nI 24), .int (nI k1)])), (b1, .inl (cA, 72, .inl f1)), (e0, .inr (0, [.ref t0, .ref n0, .ref j0, .int (nI ec)])), (n0, .inl (cA, 24, .inl tn)), (j0, .inl (cA, 24, .inl jn)), (l0, .inl (cA, 24, .inl P))]) (w2 := [(h0, .inr (3, [.ref p1, .ref p2, .ref e0, .ref l0, .ref m0])), (p1, .inr (2, [.ref b1, .int (nI 24), .int (nI k1)])), (b1, .inl (cA, 72, .inl f1)), (p2, .inr (2, [.ref b2, .int (nI 72), .int (nI (((k2 + 1) + 1) + 1))])), (b2, .inl (cA, 216, .inl (pApp (pApp (pApp f2 k2 10 (tn i) 0) (k2 + 1) 11 (f1 (i * 3 + 1)) (jn i)) ((k2 + 1) + 1) (f1 (i * 3)) (pPl P (f1 (i * 3 + 1))) (f1 (i * 3 + 2))))), (e0, .inr (0, [.ref t0, .ref n0, .ref j0, .int (nI ec)])), (n0, .inl (cA, 24, .inl tn)), (j0, .inl (cA, 24, .inl jn)), (l0, .inl (cA, 24, .inl P))]) rfl rfl (by decide) (by decide) (by decide) rfl (fun H locs hP hD hS => ?_)
          obtain ⟨hP9, hD9⟩ := jk_end (w2 := [(h0, .inr (3, [.ref p1, .ref p2, .ref e0, .ref l0, .ref m0])), (p1, .inr (2, [.ref b1, .int (nI 24), .int (nI k1)])), (b1, .inl (cA, 72, .inl f1)), (p2, .inr (2, [.ref b2, .int (nI 72), .int (nI (((k2 + 1) + 1) + 1))])), (b2, .inl (cA, 216, .inl (pApp (pApp (pApp f2 k2 10 (tn i) 0) (k2 + 1) 11 (f1 (i * 3 + 1)) (jn i)) ((k2 + 1) + 1) (f1 (i * 3)) (pPl P (f1 (i * 3 + 1))) (f1 (i * 3 + 2))))), (e0, .inr (0, [.ref t0, .ref n0, .ref j0, .int (nI ec)])), (n0, .inl (cA, 24, .inl tn)), (j0, .inl (cA, 24, .inl jn)), (l0, .inl (cA, 24, .inl P))]) hP hD [0, 1, 2, 3, 4, 5, 6, 7, 8] (by decide) rfl
          have e9 : ([(h0, .inr (3, [.ref p1, .ref p2, .ref e0, .ref l0, .ref m0])), (p1, .inr (2, [.ref b1, .int (nI 24), .int (nI k1)])), (b1, .inl (cA, 72, .inl f1)), (p2, .inr (2, [.ref b2, .int (nI 72), .int (nI (((k2 + 1) + 1) + 1))])), (b2, .inl (cA, 216, .inl (pApp (pApp (pApp f2 k2 10 (tn i) 0) (k2 + 1) 11 (f1 (i * 3 + 1)) (jn i)) ((k2 + 1) + 1) (f1 (i * 3)) (pPl P (f1 (i * 3 + 1))) (f1 (i * 3 + 2))))), (e0, .inr (0, [.ref t0, .ref n0, .ref j0, .int (nI ec)])), (n0, .inl (cA, 24, .inl tn)), (j0, .inl (cA, 24, .inl jn)), (l0, .inl (cA, 24, .inl P))] : va_W) = [(h0, .inr (3, [.ref p1, .ref p2, .ref e0, .ref l0, .ref m0])), (p1, .inr (2, [.ref b1, .int (nI 24), .int (nI k1)])), (b1, .inl (cA, 72, .inl f1)), (p2, .inr (2, [.ref b2, .int (nI 72), .int (nI (gA f1 tn jn P i (k2, f2)).1)])), (b2, .inl (cA, 216, .inl ((gA f1 tn jn P i (k2, f2)).2))), (e0, .inr (0, [.ref t0, .ref n0, .ref j0, .int (nI ec)])), (n0, .inl (cA, 24, .inl tn)), (j0, .inl (cA, 24, .inl jn)), (l0, .inl (cA, 24, .inl P))] := (by unfold gA gA3 gA2 gA1 gX gY; simp only [if_neg c_43, if_pos c_61, if_pos c_90, if_neg c_106])
          rw [e9] at hP9 hD9
          exact W.vret hx hb hr (fun t9 ht9 hW9 => ⟨⟨(), rfl, trivial, by rw [ht9]; exact hP9, hD9⟩, hS.F ht9⟩) hS.2.2 dX3_appendGuarded_123
        · replace c_106 := jB_nz.mp c_106
          refine lv_aload_n hx hb dX3_appendGuarded_109 rfl (lv_at hl 4 rfl) ?_
          refine lv_iload hx hb dX3_appendGuarded_110 (lv_at hl 1 rfl) ?_
          refine jr_i (va_runV (As := [.int (f1 (i * 3 + 2))]) (rest := [.int (pPl P (f1 (i * 3 + 1))), .int (f1 (i * 3)), .ref p2]) ⟨hx, hb, hml, hown, hts⟩ (c_X3_placeOf l D cA h0 p1 p2 e0 l0 m0 P (f1 (i * 3 + 2))) (cwV 1 hts gX3_appendGuarded_X3_placeOf rfl rfl rfl hv_X3_placeOf ⟨Nat.le_of_ble_eq_true rfl, Nat.le_of_ble_eq_true rfl⟩) (roP.V (va_recv hK hP (ci := 3) (q0 := 0) rfl rfl) (jP_sub (w2 := [(h0, .inr (3, [.ref p1, .ref p2, .ref e0, .ref l0, .ref m0])), (l0, .inl (cA, 24, .inl P))]) hP [0, 8] rfl) hK hN) rfl rfl hl.1 rfl (lv_room (Nat.le_of_ble_eq_true rfl)) dX3_appendGuarded_112 ⟨Nat.le_of_ble_eq_true rfl, Nat.le_of_ble_eq_true rfl⟩) ?_
          refine lv_goto (tgt := 120) hx hb dX3_appendGuarded_115 (by decide) ?_
          refine jw_v (va_runV (As := [.int (f1 (i * 3)), .int (pPl P (f1 (i * 3 + 1))), .int (pPl P (f1 (i * 3 + 2)))]) (rest := []) ⟨hx, hb, hml, hown, hts⟩ (c_X2_append l D cA H.size p2 b2 72 ((k2 + 1) + 1) 216 (pApp (pApp f2 k2 10 (tn i) 0) (k2 + 1) 11 (f1 (i * 3 + 1)) (jn i)) (f1 (i * 3)) (pPl P (f1 (i * 3 + 1))) (pPl P (f1 (i * 3 + 2))) (by omega) (by first | assumption | omega) (by omega)) (cwV 3 hts gX3_appendGuarded_X2_append rfl rfl rfl hv_X2_append ⟨Nat.le_of_ble_eq_true rfl, Nat.le_of_ble_eq_true rfl⟩) (rwP.V (wc := [(p2, .inr (2, [.ref b2, .int (nI 72), .int (nI ((k2 + 1) + 1))])), (b2, .inl (cA, 216, .inl (pApp (pApp f2 k2 10 (tn i) 0) (k2 + 1) 11 (f1 (i * 3 + 1)) (jn i))))]) (va_recv hK hP (ci := 2) (q0 := 3) rfl rfl) hP hD hK hN [3, 4] (by decide) rfl) rfl rfl hl.1 rfl (lv_room (Nat.le_of_ble_eq_true rfl)) dX3_appendGuarded_120 ⟨Nat.le_of_ble_eq_true rfl, Nat.le_of_ble_eq_true rfl⟩) hP hD hS hA [3, 4] [0, 1, 2, 5, 6, 7, 8] [0, 1, 2, 7, 8, 3, 4, 5, 6] (wr := [(h0, .inr (3, [.ref p1, .ref p2, .ref e0, .ref l0, .ref m0])), (p1, .inr (2, [.ref b1, .int (nI 24), .int (nI k1)])), (b1, .inl (cA, 72, .inl f1)), (e0, .inr (0, [.ref t0, .ref n0, .ref j0, .int (nI ec)])), (n0, .inl (cA, 24, .inl tn)), (j0, .inl (cA, 24, .inl jn)), (l0, .inl (cA, 24, .inl P))]) (w2 := [(h0, .inr (3, [.ref p1, .ref p2, .ref e0, .ref l0, .ref m0])), (p1, .inr (2, [.ref b1, .int (nI 24), .int (nI k1)])), (b1, .inl (cA, 72, .inl f1)), (p2, .inr (2, [.ref b2, .int (nI 72), .int (nI (((k2 + 1) + 1) + 1))])), (b2, .inl (cA, 216, .inl (pApp (pApp (pApp f2 k2 10 (tn i) 0) (k2 + 1) 11 (f1 (i * 3 + 1)) (jn i)) ((k2 + 1) + 1) (f1 (i * 3)) (pPl P (f1 (i * 3 + 1))) (pPl P (f1 (i * 3 + 2)))))), (e0, .inr (0, [.ref t0, .ref n0, .ref j0, .int (nI ec)])), (n0, .inl (cA, 24, .inl tn)), (j0, .inl (cA, 24, .inl jn)), (l0, .inl (cA, 24, .inl P))]) rfl rfl (by decide) (by decide) (by decide) rfl (fun H locs hP hD hS => ?_)
          obtain ⟨hP9, hD9⟩ := jk_end (w2 := [(h0, .inr (3, [.ref p1, .ref p2, .ref e0, .ref l0, .ref m0])), (p1, .inr (2, [.ref b1, .int (nI 24), .int (nI k1)])), (b1, .inl (cA, 72, .inl f1)), (p2, .inr (2, [.ref b2, .int (nI 72), .int (nI (((k2 + 1) + 1) + 1))])), (b2, .inl (cA, 216, .inl (pApp (pApp (pApp f2 k2 10 (tn i) 0) (k2 + 1) 11 (f1 (i * 3 + 1)) (jn i)) ((k2 + 1) + 1) (f1 (i * 3)) (pPl P (f1 (i * 3 + 1))) (pPl P (f1 (i * 3 + 2)))))), (e0, .inr (0, [.ref t0, .ref n0, .ref j0, .int (nI ec)])), (n0, .inl (cA, 24, .inl tn)), (j0, .inl (cA, 24, .inl jn)), (l0, .inl (cA, 24, .inl P))]) hP hD [0, 1, 2, 3, 4, 5, 6, 7, 8] (by decide) rfl
          have e9 : ([(h0, .inr (3, [.ref p1, .ref p2, .ref e0, .ref l0, .ref m0])), (p1, .inr (2, [.ref b1, .int (nI 24), .int (nI k1)])), (b1, .inl (cA, 72, .inl f1)), (p2, .inr (2, [.ref b2, .int (nI 72), .int (nI (((k2 + 1) + 1) + 1))])), (b2, .inl (cA, 216, .inl (pApp (pApp (pApp f2 k2 10 (tn i) 0) (k2 + 1) 11 (f1 (i * 3 + 1)) (jn i)) ((k2 + 1) + 1) (f1 (i * 3)) (pPl P (f1 (i * 3 + 1))) (pPl P (f1 (i * 3 + 2)))))), (e0, .inr (0, [.ref t0, .ref n0, .ref j0, .int (nI ec)])), (n0, .inl (cA, 24, .inl tn)), (j0, .inl (cA, 24, .inl jn)), (l0, .inl (cA, 24, .inl P))] : va_W) = [(h0, .inr (3, [.ref p1, .ref p2, .ref e0, .ref l0, .ref m0])), (p1, .inr (2, [.ref b1, .int (nI 24), .int (nI k1)])), (b1, .inl (cA, 72, .inl f1)), (p2, .inr (2, [.ref b2, .int (nI 72), .int (nI (gA f1 tn jn P i (k2, f2)).1)])), (b2, .inl (cA, 216, .inl ((gA f1 tn jn P i (k2, f2)).2))), (e0, .inr (0, [.ref t0, .ref n0, .ref j0, .int (nI ec)])), (n0, .inl (cA, 24, .inl tn)), (j0, .inl (cA, 24, .inl jn)), (l0, .inl (cA, 24, .inl P))] := (by unfold gA gA3 gA2 gA1 gX gY; simp only [if_neg c_43, if_pos c_61, if_pos c_90, if_pos c_106])
          rw [e9] at hP9 hD9
          exact W.vret hx hb hr (fun t9 ht9 hW9 => ⟨⟨(), rfl, trivial, by rw [ht9]; exact hP9, hD9⟩, hS.F ht9⟩) hS.2.2 dX3_appendGuarded_123
end
section
/-! ===== JumpGuard: add, allow, protect ===== -/
abbrev aOk (k1 : Nat) (x y z : Int32) : Prop := sI x y z ∧ k1 < 24
abbrev aAl (f1 : Nat → Int32) (k1 : Nat) (tg : Nat → Int32) (ec : Nat) (x y : Int32) : Prop := pGet f1 k1 x 0 = 8 ∧ jIn y (nI k1) ∧ eOk tg ec x.toNatClampNeg y.toNatClampNeg
theorem pGet_in {f : Nat → Int32} {k : Nat} {x y v : Int32} (hv : ¬ v = -9) (h : pGet f k x y = v) : jIn x (nI k) := by
  by_cases q : jIn x (nI k) ∧ jIn y 3
  · exact q.1
  · rw [pGet_no q] at h; exact absurd h.symm hv
theorem iw_X3_add_X3 : ∀ w ∈ wsX30, w ∈ wsX3_add := by decide +kernel
theorem iw_X3_allow_X3 : ∀ w ∈ wsX30, w ∈ wsX3_allow := by decide +kernel
theorem iw_X3_protect_X3 : ∀ w ∈ wsX30, w ∈ wsX3_protect := by decide +kernel
theorem hv_X0_connect : yX0_connect.cls = RX0 ∧ yX0_connect.cls ≠ "java/lang/invoke/MethodHandle" ∧ yX0_connect.cls ≠ "java/lang/invoke/VarHandle" ∧ (parseMethodDescriptor yX0_connect.desc).map (fun d => d.parameters.length) = some 2 := by decide +kernel
theorem hv_X3_appendGuarded : yX3_appendGuarded.cls = RX3 ∧ yX3_appendGuarded.cls ≠ "java/lang/invoke/MethodHandle" ∧ yX3_appendGuarded.cls ≠ "java/lang/invoke/VarHandle" ∧ (parseMethodDescriptor yX3_appendGuarded.desc).map (fun d => d.parameters.length) = some 1 := by decide +kernel
theorem hv_X3_dropGuarded : yX3_dropGuarded.cls = RX3 ∧ yX3_dropGuarded.cls ≠ "java/lang/invoke/MethodHandle" ∧ yX3_dropGuarded.cls ≠ "java/lang/invoke/VarHandle" ∧ (parseMethodDescriptor yX3_dropGuarded.desc).map (fun d => d.parameters.length) = some 0 := by decide +kernel
theorem hv_X3_isClosed : yX3_isClosed.cls = RX3 ∧ yX3_isClosed.cls ≠ "java/lang/invoke/MethodHandle" ∧ yX3_isClosed.cls ≠ "java/lang/invoke/VarHandle" ∧ (parseMethodDescriptor yX3_isClosed.desc).map (fun d => d.parameters.length) = some 0 := by decide +kernel
theorem hv_X3_isSourceInstruction : yX3_isSourceInstruction.cls = RX3 ∧ yX3_isSourceInstruction.cls ≠ "java/lang/invoke/MethodHandle" ∧ yX3_isSourceInstruction.cls ≠ "java/lang/invoke/VarHandle" ∧ (parseMethodDescriptor yX3_isSourceInstruction.desc).map (fun d => d.parameters.length) = some 3 := by decide +kernel
theorem hv_X3_setPlaces : yX3_setPlaces.cls = RX3 ∧ yX3_setPlaces.cls ≠ "java/lang/invoke/MethodHandle" ∧ yX3_setPlaces.cls ≠ "java/lang/invoke/VarHandle" ∧ (parseMethodDescriptor yX3_setPlaces.desc).map (fun d => d.parameters.length) = some 0 := by decide +kernel
set_option maxHeartbeats 4000000 in
set_option maxRecDepth 100000 in
theorem c_X3_add (l : Launch) (D : va_G) (cA : ClassId) (sz : Nat) (h0 : Nat) (p1 : Nat) (p2 : Nat) (e0 : Nat) (l0 : Nat) (m0 : Nat) (b1 : Nat) (k1 : Nat) (b2 : Nat) (k2 : Nat) (r0 : Nat) (c0 : Nat) (s0 : Nat) (p0 : Nat) (pc : Int32) (st : Int32) (w : Nat) (f1 : Nat → Int32) (x : Int32) (y : Int32) (z : Int32) (hk1 : k1 ≤ 24) : Met l yX3_add wsX3_add ({ frames := 2, cells := 0, slots := 0, locals := 43 }) (rwP D cA [.ref h0, .int x, .int y, .int z] sz [(h0, .inr (3, [.ref p1, .ref p2, .ref e0, .ref l0, .ref m0])), (p1, .inr (2, [.ref b1, .int (nI 24), .int (nI k1)])), (b1, .inl (cA, 72, .inl f1)), (p2, .inr (2, [.ref b2, .int (nI 72), .int (nI k2)])), (m0, .inr (1, [.ref r0, .ref c0, .ref s0, .ref p0, .int pc, .int st, .int (nI w)]))]) (rwI D (va_A [(h0, .inr (3, [.ref p1, .ref p2, .ref e0, .ref l0, .ref m0])), (p1, .inr (2, [.ref b1, .int (nI 24), .int (nI k1)])), (b1, .inl (cA, 72, .inl f1)), (p2, .inr (2, [.ref b2, .int (nI 72), .int (nI k2)])), (m0, .inr (1, [.ref r0, .ref c0, .ref s0, .ref p0, .int pc, .int st, .int (nI w)]))] sz) (if sI x y z then (if k1 < 24 then nI k1 else -2) else -1) [(h0, .inr (3, [.ref p1, .ref p2, .ref e0, .ref l0, .ref m0])), (p1, .inr (2, [.ref b1, .int (nI 24), .int (nI (if aOk k1 x y z then k1 + 1 else k1))])), (b1, .inl (cA, 72, .inl (if aOk k1 x y z then pApp f1 k1 x y z else f1))), (p2, .inr (2, [.ref b2, .int (nI 72), .int (nI (if aOk k1 x y z then 0 else k2))])), (m0, .inr (1, [.ref r0, .ref c0, .ref s0, .ref p0, .int pc, .int (if aOk k1 x y z then (-1) else st), .int (nI w)]))]) 0 0 (va_A [(h0, .inr (3, [.ref p1, .ref p2, .ref e0, .ref l0, .ref m0])), (p1, .inr (2, [.ref b1, .int (nI 24), .int (nI k1)])), (b1, .inl (cA, 72, .inl f1)), (p2, .inr (2, [.ref b2, .int (nI 72), .int (nI k2)])), (m0, .inr (1, [.ref r0, .ref c0, .ref s0, .ref p0, .int pc, .int st, .int (nI w)]))] sz) := by
  refine Met.ofW (cc := cX3_add) (maxL := 5) (ret := (some .int)) (by decide) rfl ?_
  intro p e s m args below meth c s₁ B hml hv
  obtain ⟨rfl, hsz, hP, hK, hN, hD0⟩ := hv
  have hx := B.exec
  have hb := B.bytes
  have hr := B.returns
  have hts := atoms_spec (ws := wsX3_add) B.pre
  have hown : s.vm.findClass RX3 = some m.cls := findClass_of_methodNamed B.named
  have hlocks := B.notSynchronized
  subst hsz
  have hD := hD0.self (sz := s.heap.size)
  generalize hAe : va_A [(h0, .inr (3, [.ref p1, .ref p2, .ref e0, .ref l0, .ref m0])), (p1, .inr (2, [.ref b1, .int (nI 24), .int (nI k1)])), (b1, .inl (cA, 72, .inl f1)), (p2, .inr (2, [.ref b2, .int (nI 72), .int (nI k2)])), (m0, .inr (1, [.ref r0, .ref c0, .ref s0, .ref p0, .int pc, .int st, .int (nI w)]))] s.heap.size = A at hD ⊢
  have hA : ∀ q : Nat, s.heap.size ≤ q → A q := fun q h => by rw [← hAe]; exact Or.inr h
  have hS : va_S A s.heap s.heap [] := va_S.rf
  have hl := lv_entry ([.ref h0, .int x, .int y, .int z]) (n := 5) (Nat.le_of_ble_eq_true rfl)
  rw [lg_entry_eq]
  generalize (lg_sl ([.ref h0, .int x, .int y, .int z]) ++ List.replicate (5 - (lg_sl ([.ref h0, .int x, .int y, .int z])).length) Slot.unset).toArray = ls at hl ⊢
  have hl : lv_has ls 5 [(0, .ref h0), (1, .int x), (2, .int y), (3, .int z)] := hl
  refine lv_iload_n hx hb dX3_add_0 rfl (lv_at hl 1 rfl) ?_
  refine lv_iload_n hx hb dX3_add_1 rfl (lv_at hl 2 rfl) ?_
  refine lv_iload_n hx hb dX3_add_2 rfl (lv_at hl 3 rfl) ?_
  refine jr_i (va_runS (As := [.int x, .int y, .int z]) (rest := []) ⟨hx, hb, hml, hown, hts⟩ (c_X3_isSourceInstruction l D cA x y z) (va_cwS 3 hts gX3_add_X3_isSourceInstruction rfl rfl rfl hv_X3_isSourceInstruction.2 ⟨Nat.le_of_ble_eq_true rfl, Nat.le_of_ble_eq_true rfl⟩) (roP.S (av := [.int x, .int y, .int z]) (jP_sub (w2 := []) hP [] rfl) hK hN) rfl rfl hl.1 rfl (lv_room (Nat.le_of_ble_eq_true rfl)) dX3_add_3 ⟨Nat.le_of_ble_eq_true rfl, Nat.le_of_ble_eq_true rfl⟩) ?_
  refine lv_if_ne (tgt := 11) hx hb dX3_add_6 (by decide) (fun c_6 => ?_) (fun c_6 => ?_)
  · replace c_6 := jB_nz.mp c_6
    refine lv_aload_n hx hb dX3_add_11 rfl (lv_at hl 0 rfl) ?_
    refine va_get (D := D) (ci := 3) (v := .ref p1) (C := RX3) (T := TX3) (N := 5) hx hb hts iw_X3_add_X3 hown hK hP 0 rfl rfl 0 (by decide) (hts (.fieldLink RX3 14 "JumpGuard" "sourceProgram" "LJumpGuard$Program;") (List.mem_of_getElem? (l := wsX3_add) (i := 1) rfl)) (fun _ h9 => h9) rfl dX3_add_12 ?_
    refine jr_i (va_runV (As := []) (rest := []) ⟨hx, hb, hml, hown, hts⟩ (c_X2_isFull l D cA p1 b1 24 k1) (cwV 0 hts gX3_add_X2_isFull rfl rfl rfl hv_X2_isFull ⟨Nat.le_of_ble_eq_true rfl, Nat.le_of_ble_eq_true rfl⟩) (roP.V (va_recv hK hP (ci := 2) (q0 := 1) rfl rfl) (jP_sub (w2 := [(p1, .inr (2, [.ref b1, .int (nI 24), .int (nI k1)]))]) hP [1] rfl) hK hN) rfl rfl hl.1 rfl (lv_room (Nat.le_of_ble_eq_true rfl)) dX3_add_15 ⟨Nat.le_of_ble_eq_true rfl, Nat.le_of_ble_eq_true rfl⟩) ?_
    refine lv_if_eq (tgt := 24) hx hb dX3_add_18 (by decide) (fun c_18 => ?_) (fun c_18 => ?_)
    · replace c_18 := jB_z.mp c_18
      have hlt : k1 < 24 := by
        rcases Nat.lt_or_ge k1 24 with q | q
        · exact q
        · exact absurd (nI_le q (by omega)) c_18
      have hyes : aOk k1 x y z := ⟨c_6, hlt⟩
      refine lv_aload_n hx hb dX3_add_24 rfl (lv_at hl 0 rfl) ?_
      refine va_get (D := D) (ci := 3) (v := .ref p1) (C := RX3) (T := TX3) (N := 5) hx hb hts iw_X3_add_X3 hown hK hP 0 rfl rfl 0 (by decide) (hts (.fieldLink RX3 14 "JumpGuard" "sourceProgram" "LJumpGuard$Program;") (List.mem_of_getElem? (l := wsX3_add) (i := 1) rfl)) (fun _ h9 => h9) rfl dX3_add_25 ?_
      refine jr_i (va_runV (As := []) (rest := []) ⟨hx, hb, hml, hown, hts⟩ (c_X2_length l D cA p1 b1 24 k1) (cwV 0 hts gX3_add_X2_length rfl rfl rfl hv_X2_length ⟨Nat.le_of_ble_eq_true rfl, Nat.le_of_ble_eq_true rfl⟩) (roP.V (va_recv hK hP (ci := 2) (q0 := 1) rfl rfl) (jP_sub (w2 := [(p1, .inr (2, [.ref b1, .int (nI 24), .int (nI k1)]))]) hP [1] rfl) hK hN) rfl rfl hl.1 rfl (lv_room (Nat.le_of_ble_eq_true rfl)) dX3_add_28 ⟨Nat.le_of_ble_eq_true rfl, Nat.le_of_ble_eq_true rfl⟩) ?_
      refine lv_istore (lv' := [(4, .int (nI k1)), (0, .ref h0), (1, .int x), (2, .int y), (3, .int z)]) hx hb dX3_add_31 hl (by decide) rfl (fun ls hl => ?_)
      refine lv_aload_n hx hb dX3_add_33 rfl (lv_at hl 1 rfl) ?_
      refine va_get (D := D) (ci := 3) (v := .ref p1) (C := RX3) (T := TX3) (N := 5) hx hb hts iw_X3_add_X3 hown hK hP 0 rfl rfl 0 (by decide) (hts (.fieldLink RX3 14 "JumpGuard" "sourceProgram" "LJumpGuard$Program;") (List.mem_of_getElem? (l := wsX3_add) (i := 1) rfl)) (fun _ h9 => h9) rfl dX3_add_34 ?_
      refine lv_iload_n hx hb dX3_add_37 rfl (lv_at hl 2 rfl) ?_
      refine lv_iload_n hx hb dX3_add_38 rfl (lv_at hl 3 rfl) ?_
      refine lv_iload_n hx hb dX3_add_39 rfl (lv_at hl 4 rfl) ?_
      refine jw_v (va_runV (As := [.int x, .int y, .int z]) (rest := []) ⟨hx, hb, hml, hown, hts⟩ (c_X2_append l D cA s.heap.size p1 b1 24 k1 72 f1 x y z hlt (by omega) (by omega)) (cwV 3 hts gX3_add_X2_append rfl rfl rfl hv_X2_append ⟨Nat.le_of_ble_eq_true rfl, Nat.le_of_ble_eq_true rfl⟩) (rwP.V (wc := [(p1, .inr (2, [.ref b1, .int (nI 24), .int (nI k1)])), (b1, .inl (cA, 72, .inl f1))]) (va_recv hK hP (ci := 2) (q0 := 1) rfl rfl) hP hD hK hN [1, 2] (by decide) rfl) rfl rfl hl.1 rfl (lv_room (Nat.le_of_ble_eq_true rfl)) dX3_add_40 ⟨Nat.le_of_ble_eq_true rfl, Nat.le_of_ble_eq_true rfl⟩) hP hD hS hA [1, 2] [0, 3, 4] [0, 3, 4, 1, 2] (wr := [(h0, .inr (3, [.ref p1, .ref p2, .ref e0, .ref l0, .ref m0])), (p2, .inr (2, [.ref b2, .int (nI 72), .int (nI k2)])), (m0, .inr (1, [.ref r0, .ref c0, .ref s0, .ref p0, .int pc, .int st, .int (nI w)]))]) (w2 := [(h0, .inr (3, [.ref p1, .ref p2, .ref e0, .ref l0, .ref m0])), (p1, .inr (2, [.ref b1, .int (nI 24), .int (nI (k1 + 1))])), (b1, .inl (cA, 72, .inl (pApp f1 k1 x y z))), (p2, .inr (2, [.ref b2, .int (nI 72), .int (nI k2)])), (m0, .inr (1, [.ref r0, .ref c0, .ref s0, .ref p0, .int pc, .int st, .int (nI w)]))]) rfl rfl (by decide) (by decide) (by decide) rfl (fun H locs hP hD hS => ?_)
      refine lv_aload_n hx hb dX3_add_43 rfl (lv_at hl 1 rfl) ?_
      refine jw_v (va_runV (As := []) (rest := []) ⟨hx, hb, hml, hown, hts⟩ (c_X3_dropGuarded l D cA H.size h0 p1 p2 e0 l0 m0 b2 k2 r0 c0 s0 p0 pc st w) (cwV 0 hts gX3_add_X3_dropGuarded rfl rfl rfl hv_X3_dropGuarded ⟨Nat.le_of_ble_eq_true rfl, Nat.le_of_ble_eq_true rfl⟩) (rwP.V (wc := [(h0, .inr (3, [.ref p1, .ref p2, .ref e0, .ref l0, .ref m0])), (p2, .inr (2, [.ref b2, .int (nI 72), .int (nI k2)])), (m0, .inr (1, [.ref r0, .ref c0, .ref s0, .ref p0, .int pc, .int st, .int (nI w)]))]) (va_recv hK hP (ci := 3) (q0 := 0) rfl rfl) hP hD hK hN [0, 3, 4] (by decide) rfl) rfl rfl hl.1 rfl (lv_room (Nat.le_of_ble_eq_true rfl)) dX3_add_44 ⟨Nat.le_of_ble_eq_true rfl, Nat.le_of_ble_eq_true rfl⟩) hP hD hS hA [0, 3, 4] [1, 2] [2, 0, 1, 3, 4] (wr := [(p1, .inr (2, [.ref b1, .int (nI 24), .int (nI (k1 + 1))])), (b1, .inl (cA, 72, .inl (pApp f1 k1 x y z)))]) (w2 := [(h0, .inr (3, [.ref p1, .ref p2, .ref e0, .ref l0, .ref m0])), (p1, .inr (2, [.ref b1, .int (nI 24), .int (nI (k1 + 1))])), (b1, .inl (cA, 72, .inl (pApp f1 k1 x y z))), (p2, .inr (2, [.ref b2, .int (nI 72), .int (nI 0)])), (m0, .inr (1, [.ref r0, .ref c0, .ref s0, .ref p0, .int pc, .int (-1), .int (nI w)]))]) rfl rfl (by decide) (by decide) (by decide) rfl (fun H locs hP hD hS => ?_)
      refine lv_iload hx hb dX3_add_47 (lv_at hl 0 rfl) ?_
      obtain ⟨hP9, hD9⟩ := jk_end (w2 := [(h0, .inr (3, [.ref p1, .ref p2, .ref e0, .ref l0, .ref m0])), (p1, .inr (2, [.ref b1, .int (nI 24), .int (nI (k1 + 1))])), (b1, .inl (cA, 72, .inl (pApp f1 k1 x y z))), (p2, .inr (2, [.ref b2, .int (nI 72), .int (nI 0)])), (m0, .inr (1, [.ref r0, .ref c0, .ref s0, .ref p0, .int pc, .int (-1), .int (nI w)]))]) hP hD [0, 1, 2, 3, 4] (by decide) rfl
      have e9 : ([(h0, .inr (3, [.ref p1, .ref p2, .ref e0, .ref l0, .ref m0])), (p1, .inr (2, [.ref b1, .int (nI 24), .int (nI (k1 + 1))])), (b1, .inl (cA, 72, .inl (pApp f1 k1 x y z))), (p2, .inr (2, [.ref b2, .int (nI 72), .int (nI 0)])), (m0, .inr (1, [.ref r0, .ref c0, .ref s0, .ref p0, .int pc, .int (-1), .int (nI w)]))] : va_W) = [(h0, .inr (3, [.ref p1, .ref p2, .ref e0, .ref l0, .ref m0])), (p1, .inr (2, [.ref b1, .int (nI 24), .int (nI (if aOk k1 x y z then k1 + 1 else k1))])), (b1, .inl (cA, 72, .inl (if aOk k1 x y z then pApp f1 k1 x y z else f1))), (p2, .inr (2, [.ref b2, .int (nI 72), .int (nI (if aOk k1 x y z then 0 else k2))])), (m0, .inr (1, [.ref r0, .ref c0, .ref s0, .ref p0, .int pc, .int (if aOk k1 x y z then (-1) else st), .int (nI w)]))] := (by simp only [if_pos hyes])
      rw [e9] at hP9 hD9
      exact W.iret (v := (nI k1)) hx hb hr (fun t9 ht9 hW9 => ⟨⟨_, (), rfl, (show (nI k1) = (if sI x y z then (if k1 < 24 then nI k1 else -2) else -1) from (by rw [if_pos c_6, if_pos hlt])), by rw [ht9]; exact hP9, hD9⟩, hS.F ht9⟩) hS.2.2 dX3_add_49
    · replace c_18 := jB_nz.mp c_18
      have hge : ¬ k1 < 24 := fun h => absurd c_18 (nI_ge h (by decide))
      have hno : ¬ aOk k1 x y z := fun h => hge h.2
      refine lv_bipush (v := (-2)) hx hb dX3_add_21 (by decide) ?_
      obtain ⟨hP9, hD9⟩ := jk_end (w2 := [(h0, .inr (3, [.ref p1, .ref p2, .ref e0, .ref l0, .ref m0])), (p1, .inr (2, [.ref b1, .int (nI 24), .int (nI k1)])), (b1, .inl (cA, 72, .inl f1)), (p2, .inr (2, [.ref b2, .int (nI 72), .int (nI k2)])), (m0, .inr (1, [.ref r0, .ref c0, .ref s0, .ref p0, .int pc, .int st, .int (nI w)]))]) hP hD [0, 1, 2, 3, 4] (by decide) rfl
      have e9 : ([(h0, .inr (3, [.ref p1, .ref p2, .ref e0, .ref l0, .ref m0])), (p1, .inr (2, [.ref b1, .int (nI 24), .int (nI k1)])), (b1, .inl (cA, 72, .inl f1)), (p2, .inr (2, [.ref b2, .int (nI 72), .int (nI k2)])), (m0, .inr (1, [.ref r0, .ref c0, .ref s0, .ref p0, .int pc, .int st, .int (nI w)]))] : va_W) = [(h0, .inr (3, [.ref p1, .ref p2, .ref e0, .ref l0, .ref m0])), (p1, .inr (2, [.ref b1, .int (nI 24), .int (nI (if aOk k1 x y z then k1 + 1 else k1))])), (b1, .inl (cA, 72, .inl (if aOk k1 x y z then pApp f1 k1 x y z else f1))), (p2, .inr (2, [.ref b2, .int (nI 72), .int (nI (if aOk k1 x y z then 0 else k2))])), (m0, .inr (1, [.ref r0, .ref c0, .ref s0, .ref p0, .int pc, .int (if aOk k1 x y z then (-1) else st), .int (nI w)]))] := (by simp only [if_neg hno])
      rw [e9] at hP9 hD9
      exact W.iret (v := (-2)) hx hb hr (fun t9 ht9 hW9 => ⟨⟨_, (), rfl, (show (-2) = (if sI x y z then (if k1 < 24 then nI k1 else -2) else -1) from (by rw [if_pos c_6, if_neg hge])), by rw [ht9]; exact hP9, hD9⟩, hS.F ht9⟩) hS.2.2 dX3_add_23
  · replace c_6 := jB_z.mp c_6
    have hno : ¬ aOk k1 x y z := fun h => c_6 h.1
    refine lv_iconst (v := (-1)) hx hb dX3_add_9 (by decide) ?_
    obtain ⟨hP9, hD9⟩ := jk_end (w2 := [(h0, .inr (3, [.ref p1, .ref p2, .ref e0, .ref l0, .ref m0])), (p1, .inr (2, [.ref b1, .int (nI 24), .int (nI k1)])), (b1, .inl (cA, 72, .inl f1)), (p2, .inr (2, [.ref b2, .int (nI 72), .int (nI k2)])), (m0, .inr (1, [.ref r0, .ref c0, .ref s0, .ref p0, .int pc, .int st, .int (nI w)]))]) hP hD [0, 1, 2, 3, 4] (by decide) rfl
    have e9 : ([(h0, .inr (3, [.ref p1, .ref p2, .ref e0, .ref l0, .ref m0])), (p1, .inr (2, [.ref b1, .int (nI 24), .int (nI k1)])), (b1, .inl (cA, 72, .inl f1)), (p2, .inr (2, [.ref b2, .int (nI 72), .int (nI k2)])), (m0, .inr (1, [.ref r0, .ref c0, .ref s0, .ref p0, .int pc, .int st, .int (nI w)]))] : va_W) = [(h0, .inr (3, [.ref p1, .ref p2, .ref e0, .ref l0, .ref m0])), (p1, .inr (2, [.ref b1, .int (nI 24), .int (nI (if aOk k1 x y z then k1 + 1 else k1))])), (b1, .inl (cA, 72, .inl (if aOk k1 x y z then pApp f1 k1 x y z else f1))), (p2, .inr (2, [.ref b2, .int (nI 72), .int (nI (if aOk k1 x y z then 0 else k2))])), (m0, .inr (1, [.ref r0, .ref c0, .ref s0, .ref p0, .int pc, .int (if aOk k1 x y z then (-1) else st), .int (nI w)]))] := (by simp only [if_neg hno])
    rw [e9] at hP9 hD9
    exact W.iret (v := (-1)) hx hb hr (fun t9 ht9 hW9 => ⟨⟨_, (), rfl, (show (-1) = (if sI x y z then (if k1 < 24 then nI k1 else -2) else -1) from (if_neg c_6).symm), by rw [ht9]; exact hP9, hD9⟩, hS.F ht9⟩) hS.2.2 dX3_add_10
set_option maxHeartbeats 4000000 in
set_option maxRecDepth 100000 in
theorem c_X3_allow (l : Launch) (D : va_G) (cA : ClassId) (sz : Nat) (h0 : Nat) (p1 : Nat) (p2 : Nat) (e0 : Nat) (l0 : Nat) (m0 : Nat) (b1 : Nat) (k1 : Nat) (b2 : Nat) (k2 : Nat) (t0 : Nat) (n0 : Nat) (j0 : Nat) (ec : Nat) (r0 : Nat) (c0 : Nat) (s0 : Nat) (p0 : Nat) (pc : Int32) (st : Int32) (w : Nat) (f1 : Nat → Int32) (tg : Nat → Int32) (tn : Nat → Int32) (jn : Nat → Int32) (x : Int32) (y : Int32) (hk1 : k1 ≤ 24) (hec : ec ≤ 48) : Met l yX3_allow wsX3_allow ({ frames := 4, cells := 0, slots := 0, locals := 90 }) (rwP D cA [.ref h0, .int x, .int y] sz [(h0, .inr (3, [.ref p1, .ref p2, .ref e0, .ref l0, .ref m0])), (p1, .inr (2, [.ref b1, .int (nI 24), .int (nI k1)])), (b1, .inl (cA, 72, .inl f1)), (p2, .inr (2, [.ref b2, .int (nI 72), .int (nI k2)])), (e0, .inr (0, [.ref t0, .ref n0, .ref j0, .int (nI ec)])), (t0, .inl (cA, 24, .inl tg)), (n0, .inl (cA, 24, .inl tn)), (j0, .inl (cA, 24, .inl jn)), (m0, .inr (1, [.ref r0, .ref c0, .ref s0, .ref p0, .int pc, .int st, .int (nI w)]))]) (rwI D (va_A [(h0, .inr (3, [.ref p1, .ref p2, .ref e0, .ref l0, .ref m0])), (p1, .inr (2, [.ref b1, .int (nI 24), .int (nI k1)])), (b1, .inl (cA, 72, .inl f1)), (p2, .inr (2, [.ref b2, .int (nI 72), .int (nI k2)])), (e0, .inr (0, [.ref t0, .ref n0, .ref j0, .int (nI ec)])), (t0, .inl (cA, 24, .inl tg)), (n0, .inl (cA, 24, .inl tn)), (j0, .inl (cA, 24, .inl jn)), (m0, .inr (1, [.ref r0, .ref c0, .ref s0, .ref p0, .int pc, .int st, .int (nI w)]))] sz) (jB (aAl f1 k1 tg ec x y)) [(h0, .inr (3, [.ref p1, .ref p2, .ref e0, .ref l0, .ref m0])), (p1, .inr (2, [.ref b1, .int (nI 24), .int (nI k1)])), (b1, .inl (cA, 72, .inl f1)), (p2, .inr (2, [.ref b2, .int (nI 72), .int (nI (if aAl f1 k1 tg ec x y then 0 else k2))])), (e0, .inr (0, [.ref t0, .ref n0, .ref j0, .int (nI (if aAl f1 k1 tg ec x y then ec + 1 else ec))])), (t0, .inl (cA, 24, .inl (if aAl f1 k1 tg ec x y then upd tg x.toNatClampNeg (tg x.toNatClampNeg ||| eBit y.toNatClampNeg) else tg))), (n0, .inl (cA, 24, .inl (if aAl f1 k1 tg ec x y then eTn (eT1 tn y.toNatClampNeg) jn x.toNatClampNeg y.toNatClampNeg else tn))), (j0, .inl (cA, 24, .inl (if aAl f1 k1 tg ec x y then eJn (eT1 tn y.toNatClampNeg) jn x.toNatClampNeg y.toNatClampNeg else jn))), (m0, .inr (1, [.ref r0, .ref c0, .ref s0, .ref p0, .int pc, .int (if aAl f1 k1 tg ec x y then (-1) else st), .int (nI w)]))]) 0 0 (va_A [(h0, .inr (3, [.ref p1, .ref p2, .ref e0, .ref l0, .ref m0])), (p1, .inr (2, [.ref b1, .int (nI 24), .int (nI k1)])), (b1, .inl (cA, 72, .inl f1)), (p2, .inr (2, [.ref b2, .int (nI 72), .int (nI k2)])), (e0, .inr (0, [.ref t0, .ref n0, .ref j0, .int (nI ec)])), (t0, .inl (cA, 24, .inl tg)), (n0, .inl (cA, 24, .inl tn)), (j0, .inl (cA, 24, .inl jn)), (m0, .inr (1, [.ref r0, .ref c0, .ref s0, .ref p0, .int pc, .int st, .int (nI w)]))] sz) := by
  refine Met.ofW (cc := cX3_allow) (maxL := 3) (ret := (some .boolean)) (by decide) rfl ?_
  intro p e s m args below meth c s₁ B hml hv
  obtain ⟨rfl, hsz, hP, hK, hN, hD0⟩ := hv
  have hx := B.exec
  have hb := B.bytes
  have hr := B.returns
  have hts := atoms_spec (ws := wsX3_allow) B.pre
  have hown : s.vm.findClass RX3 = some m.cls := findClass_of_methodNamed B.named
  have hlocks := B.notSynchronized
  subst hsz
  have hD := hD0.self (sz := s.heap.size)
  generalize hAe : va_A [(h0, .inr (3, [.ref p1, .ref p2, .ref e0, .ref l0, .ref m0])), (p1, .inr (2, [.ref b1, .int (nI 24), .int (nI k1)])), (b1, .inl (cA, 72, .inl f1)), (p2, .inr (2, [.ref b2, .int (nI 72), .int (nI k2)])), (e0, .inr (0, [.ref t0, .ref n0, .ref j0, .int (nI ec)])), (t0, .inl (cA, 24, .inl tg)), (n0, .inl (cA, 24, .inl tn)), (j0, .inl (cA, 24, .inl jn)), (m0, .inr (1, [.ref r0, .ref c0, .ref s0, .ref p0, .int pc, .int st, .int (nI w)]))] s.heap.size = A at hD ⊢
  have hA : ∀ q : Nat, s.heap.size ≤ q → A q := fun q h => by rw [← hAe]; exact Or.inr h
  have hS : va_S A s.heap s.heap [] := va_S.rf
  have hl := lv_entry ([.ref h0, .int x, .int y]) (n := 3) (Nat.le_of_ble_eq_true rfl)
  rw [lg_entry_eq]
  generalize (lg_sl ([.ref h0, .int x, .int y]) ++ List.replicate (3 - (lg_sl ([.ref h0, .int x, .int y])).length) Slot.unset).toArray = ls at hl ⊢
  have hl : lv_has ls 3 [(0, .ref h0), (1, .int x), (2, .int y)] := hl
  refine lv_aload_n hx hb dX3_allow_0 rfl (lv_at hl 0 rfl) ?_
  refine va_get (D := D) (ci := 3) (v := .ref p1) (C := RX3) (T := TX3) (N := 5) hx hb hts iw_X3_allow_X3 hown hK hP 0 rfl rfl 0 (by decide) (hts (.fieldLink RX3 14 "JumpGuard" "sourceProgram" "LJumpGuard$Program;") (List.mem_of_getElem? (l := wsX3_allow) (i := 1) rfl)) (fun _ h9 => h9) rfl dX3_allow_1 ?_
  refine lv_iload_n hx hb dX3_allow_4 rfl (lv_at hl 1 rfl) ?_
  refine lv_iconst (v := 0) hx hb dX3_allow_5 (by decide) ?_
  refine jr_i (va_runV (As := [.int x, .int 0]) (rest := []) ⟨hx, hb, hml, hown, hts⟩ (c_X2_get l D cA p1 b1 24 k1 72 f1 x 0 (by omega) (by omega)) (cwV 2 hts gX3_allow_X2_get rfl rfl rfl hv_X2_get ⟨Nat.le_of_ble_eq_true rfl, Nat.le_of_ble_eq_true rfl⟩) (roP.V (va_recv hK hP (ci := 2) (q0 := 1) rfl rfl) (jP_sub (w2 := [(p1, .inr (2, [.ref b1, .int (nI 24), .int (nI k1)])), (b1, .inl (cA, 72, .inl f1))]) hP [1, 2] rfl) hK hN) rfl rfl hl.1 rfl (lv_room (Nat.le_of_ble_eq_true rfl)) dX3_allow_6 ⟨Nat.le_of_ble_eq_true rfl, Nat.le_of_ble_eq_true rfl⟩) ?_
  refine lv_bipush (v := 8) hx hb dX3_allow_9 (by decide) ?_
  refine lv_icmp_ne (tgt := 25) hx hb dX3_allow_11 (by decide) (fun c_11 => ?_) (fun c_11 => ?_)
  · have hno : ¬ aAl f1 k1 tg ec x y := fun h => c_11 h.1
    refine lv_iconst (v := 0) hx hb dX3_allow_25 (by decide) ?_
    obtain ⟨hP9, hD9⟩ := jk_end (w2 := [(h0, .inr (3, [.ref p1, .ref p2, .ref e0, .ref l0, .ref m0])), (p1, .inr (2, [.ref b1, .int (nI 24), .int (nI k1)])), (b1, .inl (cA, 72, .inl f1)), (p2, .inr (2, [.ref b2, .int (nI 72), .int (nI k2)])), (e0, .inr (0, [.ref t0, .ref n0, .ref j0, .int (nI ec)])), (t0, .inl (cA, 24, .inl tg)), (n0, .inl (cA, 24, .inl tn)), (j0, .inl (cA, 24, .inl jn)), (m0, .inr (1, [.ref r0, .ref c0, .ref s0, .ref p0, .int pc, .int st, .int (nI w)]))]) hP hD [0, 1, 2, 3, 4, 5, 6, 7, 8] (by decide) rfl
    have e9 : ([(h0, .inr (3, [.ref p1, .ref p2, .ref e0, .ref l0, .ref m0])), (p1, .inr (2, [.ref b1, .int (nI 24), .int (nI k1)])), (b1, .inl (cA, 72, .inl f1)), (p2, .inr (2, [.ref b2, .int (nI 72), .int (nI k2)])), (e0, .inr (0, [.ref t0, .ref n0, .ref j0, .int (nI ec)])), (t0, .inl (cA, 24, .inl tg)), (n0, .inl (cA, 24, .inl tn)), (j0, .inl (cA, 24, .inl jn)), (m0, .inr (1, [.ref r0, .ref c0, .ref s0, .ref p0, .int pc, .int st, .int (nI w)]))] : va_W) = [(h0, .inr (3, [.ref p1, .ref p2, .ref e0, .ref l0, .ref m0])), (p1, .inr (2, [.ref b1, .int (nI 24), .int (nI k1)])), (b1, .inl (cA, 72, .inl f1)), (p2, .inr (2, [.ref b2, .int (nI 72), .int (nI (if aAl f1 k1 tg ec x y then 0 else k2))])), (e0, .inr (0, [.ref t0, .ref n0, .ref j0, .int (nI (if aAl f1 k1 tg ec x y then ec + 1 else ec))])), (t0, .inl (cA, 24, .inl (if aAl f1 k1 tg ec x y then upd tg x.toNatClampNeg (tg x.toNatClampNeg ||| eBit y.toNatClampNeg) else tg))), (n0, .inl (cA, 24, .inl (if aAl f1 k1 tg ec x y then eTn (eT1 tn y.toNatClampNeg) jn x.toNatClampNeg y.toNatClampNeg else tn))), (j0, .inl (cA, 24, .inl (if aAl f1 k1 tg ec x y then eJn (eT1 tn y.toNatClampNeg) jn x.toNatClampNeg y.toNatClampNeg else jn))), (m0, .inr (1, [.ref r0, .ref c0, .ref s0, .ref p0, .int pc, .int (if aAl f1 k1 tg ec x y then (-1) else st), .int (nI w)]))] := (by simp only [if_neg hno])
    rw [e9] at hP9 hD9
    exact W.zret (ty := .boolean) (v := 0) hx hb hr rfl (fun t9 ht9 hW9 => ⟨⟨_, (), rfl, (show 0 = (jB (aAl f1 k1 tg ec x y)) from (jB_f hno).symm), by rw [ht9]; exact hP9, hD9⟩, hS.F ht9⟩) hS.2.2 dX3_allow_26
  · refine lv_aload_n hx hb dX3_allow_14 rfl (lv_at hl 0 rfl) ?_
    refine va_get (D := D) (ci := 3) (v := .ref p1) (C := RX3) (T := TX3) (N := 5) hx hb hts iw_X3_allow_X3 hown hK hP 0 rfl rfl 0 (by decide) (hts (.fieldLink RX3 14 "JumpGuard" "sourceProgram" "LJumpGuard$Program;") (List.mem_of_getElem? (l := wsX3_allow) (i := 1) rfl)) (fun _ h9 => h9) rfl dX3_allow_15 ?_
    refine lv_iload_n hx hb dX3_allow_18 rfl (lv_at hl 2 rfl) ?_
    refine jr_i (va_runV (As := [.int y]) (rest := []) ⟨hx, hb, hml, hown, hts⟩ (c_X2_has l D cA p1 b1 24 k1 y) (cwV 1 hts gX3_allow_X2_has rfl rfl rfl hv_X2_has ⟨Nat.le_of_ble_eq_true rfl, Nat.le_of_ble_eq_true rfl⟩) (roP.V (va_recv hK hP (ci := 2) (q0 := 1) rfl rfl) (jP_sub (w2 := [(p1, .inr (2, [.ref b1, .int (nI 24), .int (nI k1)]))]) hP [1] rfl) hK hN) rfl rfl hl.1 rfl (lv_room (Nat.le_of_ble_eq_true rfl)) dX3_allow_19 ⟨Nat.le_of_ble_eq_true rfl, Nat.le_of_ble_eq_true rfl⟩) ?_
    refine lv_if_ne (tgt := 27) hx hb dX3_allow_22 (by decide) (fun c_22 => ?_) (fun c_22 => ?_)
    · replace c_22 := jB_nz.mp c_22
      obtain ⟨j, hj, rfl⟩ := jN_of (n := k1) (by omega) (pGet_in (show ¬ (8 : Int32) = -9 by decide) c_11)
      obtain ⟨t, ht, rfl⟩ := jN_of (n := k1) (by omega) c_22
      have ej : (nI j).toNatClampNeg = j := nI_clamp (by omega)
      have et : (nI t).toNatClampNeg = t := nI_clamp (by omega)
      refine lv_aload_n hx hb dX3_allow_27 rfl (lv_at hl 0 rfl) ?_
      refine va_get (D := D) (ci := 3) (v := .ref e0) (C := RX3) (T := TX3) (N := 5) hx hb hts iw_X3_allow_X3 hown hK hP 0 rfl rfl 2 (by decide) (hts (.fieldLink RX3 24 "JumpGuard" "edges" "LJumpGuard$Edges;") (List.mem_of_getElem? (l := wsX3_allow) (i := 2) rfl)) (fun _ h9 => h9) rfl dX3_allow_28 ?_
      refine lv_iload_n hx hb dX3_allow_31 rfl (lv_at hl 1 rfl) ?_
      refine lv_iload_n hx hb dX3_allow_32 rfl (lv_at hl 2 rfl) ?_
      refine jw_i (va_runV (As := [.int (nI j), .int (nI t)]) (rest := []) ⟨hx, hb, hml, hown, hts⟩ (c_X0_connect l D cA s.heap.size e0 t0 n0 j0 ec tg tn jn j t (by omega) (by omega) hec) (cwV 2 hts gX3_allow_X0_connect rfl rfl rfl hv_X0_connect ⟨Nat.le_of_ble_eq_true rfl, Nat.le_of_ble_eq_true rfl⟩) (rwP.V (wc := [(e0, .inr (0, [.ref t0, .ref n0, .ref j0, .int (nI ec)])), (t0, .inl (cA, 24, .inl tg)), (n0, .inl (cA, 24, .inl tn)), (j0, .inl (cA, 24, .inl jn))]) (va_recv hK hP (ci := 0) (q0 := 4) rfl rfl) hP hD hK hN [4, 5, 6, 7] (by decide) rfl) rfl rfl hl.1 rfl (lv_room (Nat.le_of_ble_eq_true rfl)) dX3_allow_33 ⟨Nat.le_of_ble_eq_true rfl, Nat.le_of_ble_eq_true rfl⟩) hP hD hS hA [4, 5, 6, 7] [0, 1, 2, 3, 8] [0, 1, 2, 3, 5, 6, 7, 8, 4] (wr := [(h0, .inr (3, [.ref p1, .ref p2, .ref e0, .ref l0, .ref m0])), (p1, .inr (2, [.ref b1, .int (nI 24), .int (nI k1)])), (b1, .inl (cA, 72, .inl f1)), (p2, .inr (2, [.ref b2, .int (nI 72), .int (nI k2)])), (m0, .inr (1, [.ref r0, .ref c0, .ref s0, .ref p0, .int pc, .int st, .int (nI w)]))]) (w2 := [(h0, .inr (3, [.ref p1, .ref p2, .ref e0, .ref l0, .ref m0])), (p1, .inr (2, [.ref b1, .int (nI 24), .int (nI k1)])), (b1, .inl (cA, 72, .inl f1)), (p2, .inr (2, [.ref b2, .int (nI 72), .int (nI k2)])), (e0, .inr (0, [.ref t0, .ref n0, .ref j0, .int (nI (if eOk tg ec j t then ec + 1 else ec))])), (t0, .inl (cA, 24, .inl (if eOk tg ec j t then upd tg j (tg j ||| eBit t) else tg))), (n0, .inl (cA, 24, .inl (if eOk tg ec j t then eTn (eT1 tn t) jn j t else tn))), (j0, .inl (cA, 24, .inl (if eOk tg ec j t then eJn (eT1 tn t) jn j t else jn))), (m0, .inr (1, [.ref r0, .ref c0, .ref s0, .ref p0, .int pc, .int st, .int (nI w)]))]) rfl rfl (by decide) (by decide) (by decide) rfl (fun H locs hP hD hS => ?_)
      refine lv_if_ne (tgt := 41) hx hb dX3_allow_36 (by decide) (fun c_36 => ?_) (fun c_36 => ?_)
      · replace c_36 := jB_nz.mp c_36
        have hE : eOk tg ec j t := c_36
        have hyes : aAl f1 k1 tg ec (nI j) (nI t) := ⟨c_11, c_22, by rw [ej, et]; exact hE⟩
        refine lv_aload_n hx hb dX3_allow_41 rfl (lv_at hl 0 rfl) ?_
        refine jw_v (va_runV (As := []) (rest := []) ⟨hx, hb, hml, hown, hts⟩ (c_X3_dropGuarded l D cA H.size h0 p1 p2 e0 l0 m0 b2 k2 r0 c0 s0 p0 pc st w) (cwV 0 hts gX3_allow_X3_dropGuarded rfl rfl rfl hv_X3_dropGuarded ⟨Nat.le_of_ble_eq_true rfl, Nat.le_of_ble_eq_true rfl⟩) (rwP.V (wc := [(h0, .inr (3, [.ref p1, .ref p2, .ref e0, .ref l0, .ref m0])), (p2, .inr (2, [.ref b2, .int (nI 72), .int (nI k2)])), (m0, .inr (1, [.ref r0, .ref c0, .ref s0, .ref p0, .int pc, .int st, .int (nI w)]))]) (va_recv hK hP (ci := 3) (q0 := 0) rfl rfl) hP hD hK hN [0, 3, 8] (by decide) rfl) rfl rfl hl.1 rfl (lv_room (Nat.le_of_ble_eq_true rfl)) dX3_allow_42 ⟨Nat.le_of_ble_eq_true rfl, Nat.le_of_ble_eq_true rfl⟩) hP hD hS hA [0, 3, 8] [1, 2, 4, 5, 6, 7] [6, 0, 1, 7, 2, 3, 4, 5, 8] (wr := [(p1, .inr (2, [.ref b1, .int (nI 24), .int (nI k1)])), (b1, .inl (cA, 72, .inl f1)), (e0, .inr (0, [.ref t0, .ref n0, .ref j0, .int (nI (if eOk tg ec j t then ec + 1 else ec))])), (t0, .inl (cA, 24, .inl (if eOk tg ec j t then upd tg j (tg j ||| eBit t) else tg))), (n0, .inl (cA, 24, .inl (if eOk tg ec j t then eTn (eT1 tn t) jn j t else tn))), (j0, .inl (cA, 24, .inl (if eOk tg ec j t then eJn (eT1 tn t) jn j t else jn)))]) (w2 := [(h0, .inr (3, [.ref p1, .ref p2, .ref e0, .ref l0, .ref m0])), (p1, .inr (2, [.ref b1, .int (nI 24), .int (nI k1)])), (b1, .inl (cA, 72, .inl f1)), (p2, .inr (2, [.ref b2, .int (nI 72), .int (nI 0)])), (e0, .inr (0, [.ref t0, .ref n0, .ref j0, .int (nI (if eOk tg ec j t then ec + 1 else ec))])), (t0, .inl (cA, 24, .inl (if eOk tg ec j t then upd tg j (tg j ||| eBit t) else tg))), (n0, .inl (cA, 24, .inl (if eOk tg ec j t then eTn (eT1 tn t) jn j t else tn))), (j0, .inl (cA, 24, .inl (if eOk tg ec j t then eJn (eT1 tn t) jn j t else jn))), (m0, .inr (1, [.ref r0, .ref c0, .ref s0, .ref p0, .int pc, .int (-1), .int (nI w)]))]) rfl rfl (by decide) (by decide) (by decide) rfl (fun H locs hP hD hS => ?_)
        refine lv_iconst (v := 1) hx hb dX3_allow_45 (by decide) ?_
        obtain ⟨hP9, hD9⟩ := jk_end (w2 := [(h0, .inr (3, [.ref p1, .ref p2, .ref e0, .ref l0, .ref m0])), (p1, .inr (2, [.ref b1, .int (nI 24), .int (nI k1)])), (b1, .inl (cA, 72, .inl f1)), (p2, .inr (2, [.ref b2, .int (nI 72), .int (nI 0)])), (e0, .inr (0, [.ref t0, .ref n0, .ref j0, .int (nI (if eOk tg ec j t then ec + 1 else ec))])), (t0, .inl (cA, 24, .inl (if eOk tg ec j t then upd tg j (tg j ||| eBit t) else tg))), (n0, .inl (cA, 24, .inl (if eOk tg ec j t then eTn (eT1 tn t) jn j t else tn))), (j0, .inl (cA, 24, .inl (if eOk tg ec j t then eJn (eT1 tn t) jn j t else jn))), (m0, .inr (1, [.ref r0, .ref c0, .ref s0, .ref p0, .int pc, .int (-1), .int (nI w)]))]) hP hD [0, 1, 2, 3, 4, 5, 6, 7, 8] (by decide) rfl
        have e9 : ([(h0, .inr (3, [.ref p1, .ref p2, .ref e0, .ref l0, .ref m0])), (p1, .inr (2, [.ref b1, .int (nI 24), .int (nI k1)])), (b1, .inl (cA, 72, .inl f1)), (p2, .inr (2, [.ref b2, .int (nI 72), .int (nI 0)])), (e0, .inr (0, [.ref t0, .ref n0, .ref j0, .int (nI (if eOk tg ec j t then ec + 1 else ec))])), (t0, .inl (cA, 24, .inl (if eOk tg ec j t then upd tg j (tg j ||| eBit t) else tg))), (n0, .inl (cA, 24, .inl (if eOk tg ec j t then eTn (eT1 tn t) jn j t else tn))), (j0, .inl (cA, 24, .inl (if eOk tg ec j t then eJn (eT1 tn t) jn j t else jn))), (m0, .inr (1, [.ref r0, .ref c0, .ref s0, .ref p0, .int pc, .int (-1), .int (nI w)]))] : va_W) = [(h0, .inr (3, [.ref p1, .ref p2, .ref e0, .ref l0, .ref m0])), (p1, .inr (2, [.ref b1, .int (nI 24), .int (nI k1)])), (b1, .inl (cA, 72, .inl f1)), (p2, .inr (2, [.ref b2, .int (nI 72), .int (nI (if aAl f1 k1 tg ec (nI j) (nI t) then 0 else k2))])), (e0, .inr (0, [.ref t0, .ref n0, .ref j0, .int (nI (if aAl f1 k1 tg ec (nI j) (nI t) then ec + 1 else ec))])), (t0, .inl (cA, 24, .inl (if aAl f1 k1 tg ec (nI j) (nI t) then upd tg (nI j).toNatClampNeg (tg (nI j).toNatClampNeg ||| eBit (nI t).toNatClampNeg) else tg))), (n0, .inl (cA, 24, .inl (if aAl f1 k1 tg ec (nI j) (nI t) then eTn (eT1 tn (nI t).toNatClampNeg) jn (nI j).toNatClampNeg (nI t).toNatClampNeg else tn))), (j0, .inl (cA, 24, .inl (if aAl f1 k1 tg ec (nI j) (nI t) then eJn (eT1 tn (nI t).toNatClampNeg) jn (nI j).toNatClampNeg (nI t).toNatClampNeg else jn))), (m0, .inr (1, [.ref r0, .ref c0, .ref s0, .ref p0, .int pc, .int (if aAl f1 k1 tg ec (nI j) (nI t) then (-1) else st), .int (nI w)]))] := (by simp only [if_pos hyes, if_pos hE, ej, et])
        rw [e9] at hP9 hD9
        exact W.zret (ty := .boolean) (v := 1) hx hb hr rfl (fun t9 ht9 hW9 => ⟨⟨_, (), rfl, (show 1 = (jB (aAl f1 k1 tg ec (nI j) (nI t))) from (jB_t hyes).symm), by rw [ht9]; exact hP9, hD9⟩, hS.F ht9⟩) hS.2.2 dX3_allow_46
      · replace c_36 := jB_z.mp c_36
        have hE : ¬ eOk tg ec j t := c_36
        have hno : ¬ aAl f1 k1 tg ec (nI j) (nI t) := fun h => hE (by have h2 := h.2.2; rw [ej, et] at h2; exact h2)
        refine lv_iconst (v := 0) hx hb dX3_allow_39 (by decide) ?_
        obtain ⟨hP9, hD9⟩ := jk_end (w2 := [(h0, .inr (3, [.ref p1, .ref p2, .ref e0, .ref l0, .ref m0])), (p1, .inr (2, [.ref b1, .int (nI 24), .int (nI k1)])), (b1, .inl (cA, 72, .inl f1)), (p2, .inr (2, [.ref b2, .int (nI 72), .int (nI k2)])), (e0, .inr (0, [.ref t0, .ref n0, .ref j0, .int (nI (if eOk tg ec j t then ec + 1 else ec))])), (t0, .inl (cA, 24, .inl (if eOk tg ec j t then upd tg j (tg j ||| eBit t) else tg))), (n0, .inl (cA, 24, .inl (if eOk tg ec j t then eTn (eT1 tn t) jn j t else tn))), (j0, .inl (cA, 24, .inl (if eOk tg ec j t then eJn (eT1 tn t) jn j t else jn))), (m0, .inr (1, [.ref r0, .ref c0, .ref s0, .ref p0, .int pc, .int st, .int (nI w)]))]) hP hD [0, 1, 2, 3, 4, 5, 6, 7, 8] (by decide) rfl
        have e9 : ([(h0, .inr (3, [.ref p1, .ref p2, .ref e0, .ref l0, .ref m0])), (p1, .inr (2, [.ref b1, .int (nI 24), .int (nI k1)])), (b1, .inl (cA, 72, .inl f1)), (p2, .inr (2, [.ref b2, .int (nI 72), .int (nI k2)])), (e0, .inr (0, [.ref t0, .ref n0, .ref j0, .int (nI (if eOk tg ec j t then ec + 1 else ec))])), (t0, .inl (cA, 24, .inl (if eOk tg ec j t then upd tg j (tg j ||| eBit t) else tg))), (n0, .inl (cA, 24, .inl (if eOk tg ec j t then eTn (eT1 tn t) jn j t else tn))), (j0, .inl (cA, 24, .inl (if eOk tg ec j t then eJn (eT1 tn t) jn j t else jn))), (m0, .inr (1, [.ref r0, .ref c0, .ref s0, .ref p0, .int pc, .int st, .int (nI w)]))] : va_W) = [(h0, .inr (3, [.ref p1, .ref p2, .ref e0, .ref l0, .ref m0])), (p1, .inr (2, [.ref b1, .int (nI 24), .int (nI k1)])), (b1, .inl (cA, 72, .inl f1)), (p2, .inr (2, [.ref b2, .int (nI 72), .int (nI (if aAl f1 k1 tg ec (nI j) (nI t) then 0 else k2))])), (e0, .inr (0, [.ref t0, .ref n0, .ref j0, .int (nI (if aAl f1 k1 tg ec (nI j) (nI t) then ec + 1 else ec))])), (t0, .inl (cA, 24, .inl (if aAl f1 k1 tg ec (nI j) (nI t) then upd tg (nI j).toNatClampNeg (tg (nI j).toNatClampNeg ||| eBit (nI t).toNatClampNeg) else tg))), (n0, .inl (cA, 24, .inl (if aAl f1 k1 tg ec (nI j) (nI t) then eTn (eT1 tn (nI t).toNatClampNeg) jn (nI j).toNatClampNeg (nI t).toNatClampNeg else tn))), (j0, .inl (cA, 24, .inl (if aAl f1 k1 tg ec (nI j) (nI t) then eJn (eT1 tn (nI t).toNatClampNeg) jn (nI j).toNatClampNeg (nI t).toNatClampNeg else jn))), (m0, .inr (1, [.ref r0, .ref c0, .ref s0, .ref p0, .int pc, .int (if aAl f1 k1 tg ec (nI j) (nI t) then (-1) else st), .int (nI w)]))] := (by simp only [if_neg hno, if_neg hE])
        rw [e9] at hP9 hD9
        exact W.zret (ty := .boolean) (v := 0) hx hb hr rfl (fun t9 ht9 hW9 => ⟨⟨_, (), rfl, (show 0 = (jB (aAl f1 k1 tg ec (nI j) (nI t))) from (jB_f hno).symm), by rw [ht9]; exact hP9, hD9⟩, hS.F ht9⟩) hS.2.2 dX3_allow_40
    · replace c_22 := jB_z.mp c_22
      have hno : ¬ aAl f1 k1 tg ec x y := fun h => c_22 h.2.1
      refine lv_iconst (v := 0) hx hb dX3_allow_25 (by decide) ?_
      obtain ⟨hP9, hD9⟩ := jk_end (w2 := [(h0, .inr (3, [.ref p1, .ref p2, .ref e0, .ref l0, .ref m0])), (p1, .inr (2, [.ref b1, .int (nI 24), .int (nI k1)])), (b1, .inl (cA, 72, .inl f1)), (p2, .inr (2, [.ref b2, .int (nI 72), .int (nI k2)])), (e0, .inr (0, [.ref t0, .ref n0, .ref j0, .int (nI ec)])), (t0, .inl (cA, 24, .inl tg)), (n0, .inl (cA, 24, .inl tn)), (j0, .inl (cA, 24, .inl jn)), (m0, .inr (1, [.ref r0, .ref c0, .ref s0, .ref p0, .int pc, .int st, .int (nI w)]))]) hP hD [0, 1, 2, 3, 4, 5, 6, 7, 8] (by decide) rfl
      have e9 : ([(h0, .inr (3, [.ref p1, .ref p2, .ref e0, .ref l0, .ref m0])), (p1, .inr (2, [.ref b1, .int (nI 24), .int (nI k1)])), (b1, .inl (cA, 72, .inl f1)), (p2, .inr (2, [.ref b2, .int (nI 72), .int (nI k2)])), (e0, .inr (0, [.ref t0, .ref n0, .ref j0, .int (nI ec)])), (t0, .inl (cA, 24, .inl tg)), (n0, .inl (cA, 24, .inl tn)), (j0, .inl (cA, 24, .inl jn)), (m0, .inr (1, [.ref r0, .ref c0, .ref s0, .ref p0, .int pc, .int st, .int (nI w)]))] : va_W) = [(h0, .inr (3, [.ref p1, .ref p2, .ref e0, .ref l0, .ref m0])), (p1, .inr (2, [.ref b1, .int (nI 24), .int (nI k1)])), (b1, .inl (cA, 72, .inl f1)), (p2, .inr (2, [.ref b2, .int (nI 72), .int (nI (if aAl f1 k1 tg ec x y then 0 else k2))])), (e0, .inr (0, [.ref t0, .ref n0, .ref j0, .int (nI (if aAl f1 k1 tg ec x y then ec + 1 else ec))])), (t0, .inl (cA, 24, .inl (if aAl f1 k1 tg ec x y then upd tg x.toNatClampNeg (tg x.toNatClampNeg ||| eBit y.toNatClampNeg) else tg))), (n0, .inl (cA, 24, .inl (if aAl f1 k1 tg ec x y then eTn (eT1 tn y.toNatClampNeg) jn x.toNatClampNeg y.toNatClampNeg else tn))), (j0, .inl (cA, 24, .inl (if aAl f1 k1 tg ec x y then eJn (eT1 tn y.toNatClampNeg) jn x.toNatClampNeg y.toNatClampNeg else jn))), (m0, .inr (1, [.ref r0, .ref c0, .ref s0, .ref p0, .int pc, .int (if aAl f1 k1 tg ec x y then (-1) else st), .int (nI w)]))] := (by simp only [if_neg hno])
      rw [e9] at hP9 hD9
      exact W.zret (ty := .boolean) (v := 0) hx hb hr rfl (fun t9 ht9 hW9 => ⟨⟨_, (), rfl, (show 0 = (jB (aAl f1 k1 tg ec x y)) from (jB_f hno).symm), by rw [ht9]; exact hP9, hD9⟩, hS.F ht9⟩) hS.2.2 dX3_allow_26
set_option maxHeartbeats 4000000 in
set_option maxRecDepth 100000 in
theorem c_X3_protect (l : Launch) (D : va_G) (cA : ClassId) (sz : Nat) (h0 : Nat) (p1 : Nat) (p2 : Nat) (e0 : Nat) (l0 : Nat) (m0 : Nat) (b1 : Nat) (k1 : Nat) (b2 : Nat) (k2 : Nat) (t0 : Nat) (n0 : Nat) (j0 : Nat) (ec : Nat) (r0 : Nat) (c0 : Nat) (s0 : Nat) (p0 : Nat) (pc : Int32) (st : Int32) (w : Nat) (f1 : Nat → Int32) (f2 : Nat → Int32) (tn : Nat → Int32) (jn : Nat → Int32) (P : Nat → Int32) (hk1 : k1 ≤ 24) : Met l yX3_protect wsX3_protect ({ frames := 4, cells := 0, slots := 0, locals := 87 }) (rwP D cA [.ref h0] sz [(h0, .inr (3, [.ref p1, .ref p2, .ref e0, .ref l0, .ref m0])), (p1, .inr (2, [.ref b1, .int (nI 24), .int (nI k1)])), (b1, .inl (cA, 72, .inl f1)), (p2, .inr (2, [.ref b2, .int (nI 72), .int (nI k2)])), (b2, .inl (cA, 216, .inl f2)), (e0, .inr (0, [.ref t0, .ref n0, .ref j0, .int (nI ec)])), (n0, .inl (cA, 24, .inl tn)), (j0, .inl (cA, 24, .inl jn)), (l0, .inl (cA, 24, .inl P)), (m0, .inr (1, [.ref r0, .ref c0, .ref s0, .ref p0, .int pc, .int st, .int (nI w)]))]) (rwI D (va_A [(h0, .inr (3, [.ref p1, .ref p2, .ref e0, .ref l0, .ref m0])), (p1, .inr (2, [.ref b1, .int (nI 24), .int (nI k1)])), (b1, .inl (cA, 72, .inl f1)), (p2, .inr (2, [.ref b2, .int (nI 72), .int (nI k2)])), (b2, .inl (cA, 216, .inl f2)), (e0, .inr (0, [.ref t0, .ref n0, .ref j0, .int (nI ec)])), (n0, .inl (cA, 24, .inl tn)), (j0, .inl (cA, 24, .inl jn)), (l0, .inl (cA, 24, .inl P)), (m0, .inr (1, [.ref r0, .ref c0, .ref s0, .ref p0, .int pc, .int st, .int (nI w)]))] sz) (if clO f1 k1 then nI (gN f1 tn jn (plP f1 tn P k1) f2 k1).1 else -1) [(h0, .inr (3, [.ref p1, .ref p2, .ref e0, .ref l0, .ref m0])), (p1, .inr (2, [.ref b1, .int (nI 24), .int (nI k1)])), (b1, .inl (cA, 72, .inl f1)), (p2, .inr (2, [.ref b2, .int (nI 72), .int (nI (if clO f1 k1 then (gN f1 tn jn (plP f1 tn P k1) f2 k1).1 else 0))])), (b2, .inl (cA, 216, .inl (if clO f1 k1 then (gN f1 tn jn (plP f1 tn P k1) f2 k1).2 else f2))), (e0, .inr (0, [.ref t0, .ref n0, .ref j0, .int (nI ec)])), (n0, .inl (cA, 24, .inl tn)), (j0, .inl (cA, 24, .inl jn)), (l0, .inl (cA, 24, .inl (if clO f1 k1 then plP f1 tn P k1 else P))), (m0, .inr (1, [.ref r0, .ref c0, .ref s0, .ref p0, .int pc, .int (-1), .int (nI w)]))]) 0 0 (va_A [(h0, .inr (3, [.ref p1, .ref p2, .ref e0, .ref l0, .ref m0])), (p1, .inr (2, [.ref b1, .int (nI 24), .int (nI k1)])), (b1, .inl (cA, 72, .inl f1)), (p2, .inr (2, [.ref b2, .int (nI 72), .int (nI k2)])), (b2, .inl (cA, 216, .inl f2)), (e0, .inr (0, [.ref t0, .ref n0, .ref j0, .int (nI ec)])), (n0, .inl (cA, 24, .inl tn)), (j0, .inl (cA, 24, .inl jn)), (l0, .inl (cA, 24, .inl P)), (m0, .inr (1, [.ref r0, .ref c0, .ref s0, .ref p0, .int pc, .int st, .int (nI w)]))] sz) := by
  refine Met.ofW (cc := cX3_protect) (maxL := 2) (ret := (some .int)) (by decide) rfl ?_
  intro p e s m args below meth c s₁ B hml hv
  obtain ⟨rfl, hsz, hP, hK, hN, hD0⟩ := hv
  have hx := B.exec
  have hb := B.bytes
  have hr := B.returns
  have hts := atoms_spec (ws := wsX3_protect) B.pre
  have hown : s.vm.findClass RX3 = some m.cls := findClass_of_methodNamed B.named
  have hlocks := B.notSynchronized
  subst hsz
  have hD := hD0.self (sz := s.heap.size)
  generalize hAe : va_A [(h0, .inr (3, [.ref p1, .ref p2, .ref e0, .ref l0, .ref m0])), (p1, .inr (2, [.ref b1, .int (nI 24), .int (nI k1)])), (b1, .inl (cA, 72, .inl f1)), (p2, .inr (2, [.ref b2, .int (nI 72), .int (nI k2)])), (b2, .inl (cA, 216, .inl f2)), (e0, .inr (0, [.ref t0, .ref n0, .ref j0, .int (nI ec)])), (n0, .inl (cA, 24, .inl tn)), (j0, .inl (cA, 24, .inl jn)), (l0, .inl (cA, 24, .inl P)), (m0, .inr (1, [.ref r0, .ref c0, .ref s0, .ref p0, .int pc, .int st, .int (nI w)]))] s.heap.size = A at hD ⊢
  have hA : ∀ q : Nat, s.heap.size ≤ q → A q := fun q h => by rw [← hAe]; exact Or.inr h
  have hS : va_S A s.heap s.heap [] := va_S.rf
  have hl := lv_entry ([.ref h0]) (n := 2) (Nat.le_of_ble_eq_true rfl)
  rw [lg_entry_eq]
  generalize (lg_sl ([.ref h0]) ++ List.replicate (2 - (lg_sl ([.ref h0])).length) Slot.unset).toArray = ls at hl ⊢
  have hl : lv_has ls 2 [(0, .ref h0)] := hl
  refine lv_aload_n hx hb dX3_protect_0 rfl (lv_at hl 0 rfl) ?_
  refine jw_v (va_runV (As := []) (rest := []) ⟨hx, hb, hml, hown, hts⟩ (c_X3_dropGuarded l D cA s.heap.size h0 p1 p2 e0 l0 m0 b2 k2 r0 c0 s0 p0 pc st w) (cwV 0 hts gX3_protect_X3_dropGuarded rfl rfl rfl hv_X3_dropGuarded ⟨Nat.le_of_ble_eq_true rfl, Nat.le_of_ble_eq_true rfl⟩) (rwP.V (wc := [(h0, .inr (3, [.ref p1, .ref p2, .ref e0, .ref l0, .ref m0])), (p2, .inr (2, [.ref b2, .int (nI 72), .int (nI k2)])), (m0, .inr (1, [.ref r0, .ref c0, .ref s0, .ref p0, .int pc, .int st, .int (nI w)]))]) (va_recv hK hP (ci := 3) (q0 := 0) rfl rfl) hP hD hK hN [0, 3, 9] (by decide) rfl) rfl rfl hl.1 rfl (lv_room (Nat.le_of_ble_eq_true rfl)) dX3_protect_1 ⟨Nat.le_of_ble_eq_true rfl, Nat.le_of_ble_eq_true rfl⟩) hP hD hS hA [0, 3, 9] [1, 2, 4, 5, 6, 7, 8] [7, 0, 1, 8, 2, 3, 4, 5, 6, 9] (wr := [(p1, .inr (2, [.ref b1, .int (nI 24), .int (nI k1)])), (b1, .inl (cA, 72, .inl f1)), (b2, .inl (cA, 216, .inl f2)), (e0, .inr (0, [.ref t0, .ref n0, .ref j0, .int (nI ec)])), (n0, .inl (cA, 24, .inl tn)), (j0, .inl (cA, 24, .inl jn)), (l0, .inl (cA, 24, .inl P))]) (w2 := [(h0, .inr (3, [.ref p1, .ref p2, .ref e0, .ref l0, .ref m0])), (p1, .inr (2, [.ref b1, .int (nI 24), .int (nI k1)])), (b1, .inl (cA, 72, .inl f1)), (p2, .inr (2, [.ref b2, .int (nI 72), .int (nI 0)])), (b2, .inl (cA, 216, .inl f2)), (e0, .inr (0, [.ref t0, .ref n0, .ref j0, .int (nI ec)])), (n0, .inl (cA, 24, .inl tn)), (j0, .inl (cA, 24, .inl jn)), (l0, .inl (cA, 24, .inl P)), (m0, .inr (1, [.ref r0, .ref c0, .ref s0, .ref p0, .int pc, .int (-1), .int (nI w)]))]) rfl rfl (by decide) (by decide) (by decide) rfl (fun H locs hP hD hS => ?_)
  refine lv_aload_n hx hb dX3_protect_4 rfl (lv_at hl 0 rfl) ?_
  refine jr_i (va_runV (As := []) (rest := []) ⟨hx, hb, hml, hown, hts⟩ (c_X3_isClosed l D cA h0 p1 p2 e0 l0 m0 b1 k1 f1 (by first | assumption | omega)) (cwV 0 hts gX3_protect_X3_isClosed rfl rfl rfl hv_X3_isClosed ⟨Nat.le_of_ble_eq_true rfl, Nat.le_of_ble_eq_true rfl⟩) (roP.V (va_recv hK hP (ci := 3) (q0 := 0) rfl rfl) (jP_sub (w2 := [(h0, .inr (3, [.ref p1, .ref p2, .ref e0, .ref l0, .ref m0])), (p1, .inr (2, [.ref b1, .int (nI 24), .int (nI k1)])), (b1, .inl (cA, 72, .inl f1))]) hP [0, 1, 2] rfl) hK hN) rfl rfl hl.1 rfl (lv_room (Nat.le_of_ble_eq_true rfl)) dX3_protect_5 ⟨Nat.le_of_ble_eq_true rfl, Nat.le_of_ble_eq_true rfl⟩) ?_
  refine lv_if_ne (tgt := 13) hx hb dX3_protect_8 (by decide) (fun c_8 => ?_) (fun c_8 => ?_)
  · replace c_8 := jB_nz.mp c_8
    refine lv_aload_n hx hb dX3_protect_13 rfl (lv_at hl 0 rfl) ?_
    refine jw_v (va_runV (As := []) (rest := []) ⟨hx, hb, hml, hown, hts⟩ (c_X3_setPlaces l D cA H.size h0 p1 p2 e0 l0 m0 b1 k1 t0 n0 j0 ec f1 tn P (by first | assumption | omega)) (cwV 0 hts gX3_protect_X3_setPlaces rfl rfl rfl hv_X3_setPlaces ⟨Nat.le_of_ble_eq_true rfl, Nat.le_of_ble_eq_true rfl⟩) (rwP.V (wc := [(h0, .inr (3, [.ref p1, .ref p2, .ref e0, .ref l0, .ref m0])), (p1, .inr (2, [.ref b1, .int (nI 24), .int (nI k1)])), (b1, .inl (cA, 72, .inl f1)), (e0, .inr (0, [.ref t0, .ref n0, .ref j0, .int (nI ec)])), (n0, .inl (cA, 24, .inl tn)), (l0, .inl (cA, 24, .inl P))]) (va_recv hK hP (ci := 3) (q0 := 0) rfl rfl) hP hD hK hN [0, 1, 2, 5, 6, 8] (by decide) rfl) rfl rfl hl.1 rfl (lv_room (Nat.le_of_ble_eq_true rfl)) dX3_protect_14 ⟨Nat.le_of_ble_eq_true rfl, Nat.le_of_ble_eq_true rfl⟩) hP hD hS hA [0, 1, 2, 5, 6, 8] [3, 4, 7, 9] [4, 5, 6, 0, 1, 7, 8, 2, 9, 3] (wr := [(p2, .inr (2, [.ref b2, .int (nI 72), .int (nI 0)])), (b2, .inl (cA, 216, .inl f2)), (j0, .inl (cA, 24, .inl jn)), (m0, .inr (1, [.ref r0, .ref c0, .ref s0, .ref p0, .int pc, .int (-1), .int (nI w)]))]) (w2 := [(h0, .inr (3, [.ref p1, .ref p2, .ref e0, .ref l0, .ref m0])), (p1, .inr (2, [.ref b1, .int (nI 24), .int (nI k1)])), (b1, .inl (cA, 72, .inl f1)), (p2, .inr (2, [.ref b2, .int (nI 72), .int (nI 0)])), (b2, .inl (cA, 216, .inl f2)), (e0, .inr (0, [.ref t0, .ref n0, .ref j0, .int (nI ec)])), (n0, .inl (cA, 24, .inl tn)), (j0, .inl (cA, 24, .inl jn)), (l0, .inl (cA, 24, .inl (plP f1 tn P k1))), (m0, .inr (1, [.ref r0, .ref c0, .ref s0, .ref p0, .int pc, .int (-1), .int (nI w)]))]) rfl rfl (by decide) (by decide) (by decide) rfl (fun H locs hP hD hS => ?_)
    refine lv_iconst (v := 0) hx hb dX3_protect_17 (by decide) ?_
    refine lv_istore_n (lv' := [(1, .int 0), (0, .ref h0)]) hx hb dX3_protect_18 rfl hl (by decide) rfl (fun ls hl => ?_)
    have loop19 : ∀ (n : Nat) (i : Nat) (g : GS), (i ≤ k1) → (k1 + 1 ≤ i + n) → (g = gN f1 tn jn (plP f1 tn P k1) f2 i) → ∀ (H : Heap) (locs : List Loc), va_P D vwCl [(h0, .inr (3, [.ref p1, .ref p2, .ref e0, .ref l0, .ref m0])), (p1, .inr (2, [.ref b1, .int (nI 24), .int (nI k1)])), (b1, .inl (cA, 72, .inl f1)), (p2, .inr (2, [.ref b2, .int (nI 72), .int (nI g.1)])), (b2, .inl (cA, 216, .inl g.2)), (e0, .inr (0, [.ref t0, .ref n0, .ref j0, .int (nI ec)])), (n0, .inl (cA, 24, .inl tn)), (j0, .inl (cA, 24, .inl jn)), (l0, .inl (cA, 24, .inl (plP f1 tn P k1))), (m0, .inr (1, [.ref r0, .ref c0, .ref s0, .ref p0, .int pc, .int (-1), .int (nI w)]))] H → va_D A [(h0, .inr (3, [.ref p1, .ref p2, .ref e0, .ref l0, .ref m0])), (p1, .inr (2, [.ref b1, .int (nI 24), .int (nI k1)])), (b1, .inl (cA, 72, .inl f1)), (p2, .inr (2, [.ref b2, .int (nI 72), .int (nI g.1)])), (b2, .inl (cA, 216, .inl g.2)), (e0, .inr (0, [.ref t0, .ref n0, .ref j0, .int (nI ec)])), (n0, .inl (cA, 24, .inl tn)), (j0, .inl (cA, 24, .inl jn)), (l0, .inl (cA, 24, .inl (plP f1 tn P k1))), (m0, .inr (1, [.ref r0, .ref c0, .ref s0, .ref p0, .int pc, .int (-1), .int (nI w)]))] → va_S A s.heap H locs → ∀ (ls : Array Slot), lv_has ls 2 [(0, .ref h0), (1, .int (nI i))] → W p l e (headSpec wsX3_protect ({ frames := 4, cells := 0, slots := 0, locals := 87 })).room s m ([.ref h0] : List Value).toArray below meth c H locs 0 0 (MQ below (rwI D A (if clO f1 k1 then nI (gN f1 tn jn (plP f1 tn P k1) f2 k1).1 else -1) [(h0, .inr (3, [.ref p1, .ref p2, .ref e0, .ref l0, .ref m0])), (p1, .inr (2, [.ref b1, .int (nI 24), .int (nI k1)])), (b1, .inl (cA, 72, .inl f1)), (p2, .inr (2, [.ref b2, .int (nI 72), .int (nI (if clO f1 k1 then (gN f1 tn jn (plP f1 tn P k1) f2 k1).1 else 0))])), (b2, .inl (cA, 216, .inl (if clO f1 k1 then (gN f1 tn jn (plP f1 tn P k1) f2 k1).2 else f2))), (e0, .inr (0, [.ref t0, .ref n0, .ref j0, .int (nI ec)])), (n0, .inl (cA, 24, .inl tn)), (j0, .inl (cA, 24, .inl jn)), (l0, .inl (cA, 24, .inl (if clO f1 k1 then plP f1 tn P k1 else P))), (m0, .inr (1, [.ref r0, .ref c0, .ref s0, .ref p0, .int pc, .int (-1), .int (nI w)]))]) ([.ref h0] : List Value).toArray s 0 0 A) (F0 m 19 ls []) := by
      intro n
      induction n with
      | zero => intro i g hi hfu hg; exact absurd hfu (by omega)
      | succ n ih19 =>
        intro i g hi hfu hg H locs hP hD hS ls hl
        refine lv_iload_n hx hb dX3_protect_19 rfl (lv_at hl 1 rfl) ?_
        refine lv_aload_n hx hb dX3_protect_20 rfl (lv_at hl 0 rfl) ?_
        refine va_get (D := D) (ci := 3) (v := .ref p1) (C := RX3) (T := TX3) (N := 5) hx hb hts iw_X3_protect_X3 hown hK hP 0 rfl rfl 0 (by decide) (hts (.fieldLink RX3 14 "JumpGuard" "sourceProgram" "LJumpGuard$Program;") (List.mem_of_getElem? (l := wsX3_protect) (i := 1) rfl)) (fun _ h9 => h9) rfl dX3_protect_21 ?_
        refine jr_i (va_runV (As := []) (rest := [.int (nI i)]) ⟨hx, hb, hml, hown, hts⟩ (c_X2_length l D cA p1 b1 24 k1) (cwV 0 hts gX3_protect_X2_length rfl rfl rfl hv_X2_length ⟨Nat.le_of_ble_eq_true rfl, Nat.le_of_ble_eq_true rfl⟩) (roP.V (va_recv hK hP (ci := 2) (q0 := 1) rfl rfl) (jP_sub (w2 := [(p1, .inr (2, [.ref b1, .int (nI 24), .int (nI k1)]))]) hP [1] rfl) hK hN) rfl rfl hl.1 rfl (lv_room (Nat.le_of_ble_eq_true rfl)) dX3_protect_24 ⟨Nat.le_of_ble_eq_true rfl, Nat.le_of_ble_eq_true rfl⟩) ?_
        refine lv_icmp_ge (tgt := 41) hx hb dX3_protect_27 (by decide) (fun c_27 => ?_) (fun c_27 => ?_)
        · have hi2 : i = k1 := by
            rcases Nat.lt_or_ge i k1 with q | q
            · exact absurd c_27 (nI_ge q (by omega))
            · omega
          subst hi2
          refine lv_aload_n hx hb dX3_protect_41 rfl (lv_at hl 0 rfl) ?_
          refine va_get (D := D) (ci := 3) (v := .ref p2) (C := RX3) (T := TX3) (N := 5) hx hb hts iw_X3_protect_X3 hown hK hP 0 rfl rfl 1 (by decide) (hts (.fieldLink RX3 18 "JumpGuard" "guardedProgram" "LJumpGuard$Program;") (List.mem_of_getElem? (l := wsX3_protect) (i := 2) rfl)) (fun _ h9 => h9) rfl dX3_protect_42 ?_
          refine jr_i (va_runV (As := []) (rest := []) ⟨hx, hb, hml, hown, hts⟩ (c_X2_length l D cA p2 b2 72 g.1) (cwV 0 hts gX3_protect_X2_length rfl rfl rfl hv_X2_length ⟨Nat.le_of_ble_eq_true rfl, Nat.le_of_ble_eq_true rfl⟩) (roP.V (va_recv hK hP (ci := 2) (q0 := 3) rfl rfl) (jP_sub (w2 := [(p2, .inr (2, [.ref b2, .int (nI 72), .int (nI g.1)]))]) hP [3] rfl) hK hN) rfl rfl hl.1 rfl (lv_room (Nat.le_of_ble_eq_true rfl)) dX3_protect_45 ⟨Nat.le_of_ble_eq_true rfl, Nat.le_of_ble_eq_true rfl⟩) ?_
          obtain ⟨hP9, hD9⟩ := jk_end (w2 := [(h0, .inr (3, [.ref p1, .ref p2, .ref e0, .ref l0, .ref m0])), (p1, .inr (2, [.ref b1, .int (nI 24), .int (nI i)])), (b1, .inl (cA, 72, .inl f1)), (p2, .inr (2, [.ref b2, .int (nI 72), .int (nI g.1)])), (b2, .inl (cA, 216, .inl g.2)), (e0, .inr (0, [.ref t0, .ref n0, .ref j0, .int (nI ec)])), (n0, .inl (cA, 24, .inl tn)), (j0, .inl (cA, 24, .inl jn)), (l0, .inl (cA, 24, .inl (plP f1 tn P i))), (m0, .inr (1, [.ref r0, .ref c0, .ref s0, .ref p0, .int pc, .int (-1), .int (nI w)]))]) hP hD [0, 1, 2, 3, 4, 5, 6, 7, 8, 9] (by decide) rfl
          have e9 : ([(h0, .inr (3, [.ref p1, .ref p2, .ref e0, .ref l0, .ref m0])), (p1, .inr (2, [.ref b1, .int (nI 24), .int (nI i)])), (b1, .inl (cA, 72, .inl f1)), (p2, .inr (2, [.ref b2, .int (nI 72), .int (nI g.1)])), (b2, .inl (cA, 216, .inl g.2)), (e0, .inr (0, [.ref t0, .ref n0, .ref j0, .int (nI ec)])), (n0, .inl (cA, 24, .inl tn)), (j0, .inl (cA, 24, .inl jn)), (l0, .inl (cA, 24, .inl (plP f1 tn P i))), (m0, .inr (1, [.ref r0, .ref c0, .ref s0, .ref p0, .int pc, .int (-1), .int (nI w)]))] : va_W) = [(h0, .inr (3, [.ref p1, .ref p2, .ref e0, .ref l0, .ref m0])), (p1, .inr (2, [.ref b1, .int (nI 24), .int (nI i)])), (b1, .inl (cA, 72, .inl f1)), (p2, .inr (2, [.ref b2, .int (nI 72), .int (nI (if clO f1 i then (gN f1 tn jn (plP f1 tn P i) f2 i).1 else 0))])), (b2, .inl (cA, 216, .inl (if clO f1 i then (gN f1 tn jn (plP f1 tn P i) f2 i).2 else f2))), (e0, .inr (0, [.ref t0, .ref n0, .ref j0, .int (nI ec)])), (n0, .inl (cA, 24, .inl tn)), (j0, .inl (cA, 24, .inl jn)), (l0, .inl (cA, 24, .inl (if clO f1 i then plP f1 tn P i else P))), (m0, .inr (1, [.ref r0, .ref c0, .ref s0, .ref p0, .int pc, .int (-1), .int (nI w)]))] := (by simp only [if_pos c_8]; rw [hg])
          rw [e9] at hP9 hD9
          exact W.iret (v := (nI g.1)) hx hb hr (fun t9 ht9 hW9 => ⟨⟨_, (), rfl, (show (nI g.1) = (if clO f1 i then nI (gN f1 tn jn (plP f1 tn P i) f2 i).1 else -1) from (by rw [if_pos c_8, hg])), by rw [ht9]; exact hP9, hD9⟩, hS.F ht9⟩) hS.2.2 dX3_protect_48
        · have hi2 : i < k1 := by
            rcases Nat.lt_or_ge i k1 with q | q
            · exact q
            · exact absurd (nI_le q (by omega)) c_27
          have hg1 : g.1 ≤ 3 * i := by rw [hg, gN_1]; exact plN_le f1 tn i
          refine lv_aload_n hx hb dX3_protect_30 rfl (lv_at hl 0 rfl) ?_
          refine lv_iload_n hx hb dX3_protect_31 rfl (lv_at hl 1 rfl) ?_
          refine jw_v (va_runV (As := [.int (nI i)]) (rest := []) ⟨hx, hb, hml, hown, hts⟩ (c_X3_appendGuarded l D cA H.size h0 p1 p2 e0 l0 m0 b1 k1 b2 g.1 t0 n0 j0 ec f1 g.2 tn jn (plP f1 tn P k1) i (by first | assumption | omega) (by first | assumption | omega) (by first | assumption | omega)) (cwV 1 hts gX3_protect_X3_appendGuarded rfl rfl rfl hv_X3_appendGuarded ⟨Nat.le_of_ble_eq_true rfl, Nat.le_of_ble_eq_true rfl⟩) (rwP.V (wc := [(h0, .inr (3, [.ref p1, .ref p2, .ref e0, .ref l0, .ref m0])), (p1, .inr (2, [.ref b1, .int (nI 24), .int (nI k1)])), (b1, .inl (cA, 72, .inl f1)), (p2, .inr (2, [.ref b2, .int (nI 72), .int (nI g.1)])), (b2, .inl (cA, 216, .inl g.2)), (e0, .inr (0, [.ref t0, .ref n0, .ref j0, .int (nI ec)])), (n0, .inl (cA, 24, .inl tn)), (j0, .inl (cA, 24, .inl jn)), (l0, .inl (cA, 24, .inl (plP f1 tn P k1)))]) (va_recv hK hP (ci := 3) (q0 := 0) rfl rfl) hP hD hK hN [0, 1, 2, 3, 4, 5, 6, 7, 8] (by decide) rfl) rfl rfl hl.1 rfl (lv_room (Nat.le_of_ble_eq_true rfl)) dX3_protect_32 ⟨Nat.le_of_ble_eq_true rfl, Nat.le_of_ble_eq_true rfl⟩) hP hD hS hA [0, 1, 2, 3, 4, 5, 6, 7, 8] [9] [1, 2, 3, 4, 5, 6, 7, 8, 9, 0] (wr := [(m0, .inr (1, [.ref r0, .ref c0, .ref s0, .ref p0, .int pc, .int (-1), .int (nI w)]))]) (w2 := [(h0, .inr (3, [.ref p1, .ref p2, .ref e0, .ref l0, .ref m0])), (p1, .inr (2, [.ref b1, .int (nI 24), .int (nI k1)])), (b1, .inl (cA, 72, .inl f1)), (p2, .inr (2, [.ref b2, .int (nI 72), .int (nI (gA f1 tn jn (plP f1 tn P k1) i (g.1, g.2)).1)])), (b2, .inl (cA, 216, .inl ((gA f1 tn jn (plP f1 tn P k1) i (g.1, g.2)).2))), (e0, .inr (0, [.ref t0, .ref n0, .ref j0, .int (nI ec)])), (n0, .inl (cA, 24, .inl tn)), (j0, .inl (cA, 24, .inl jn)), (l0, .inl (cA, 24, .inl (plP f1 tn P k1))), (m0, .inr (1, [.ref r0, .ref c0, .ref s0, .ref p0, .int pc, .int (-1), .int (nI w)]))]) rfl rfl (by decide) (by decide) (by decide) rfl (fun H locs hP hD hS => ?_)
          refine lv_iinc (v := (nI (i + 1))) (lv' := [(1, .int (nI (i + 1))), (0, .ref h0)]) hx hb dX3_protect_35 hl (k := 1) rfl (jn_a1 _) (by decide) rfl (fun ls hl => ?_)
          refine lv_goto (tgt := 19) hx hb dX3_protect_38 (by decide) ?_
          exact ih19 (i + 1) (gA f1 tn jn (plP f1 tn P k1) i g) (by omega) (by omega) (by subst hg; rfl) _ _ (jP_sub (w2 := [(h0, .inr (3, [.ref p1, .ref p2, .ref e0, .ref l0, .ref m0])), (p1, .inr (2, [.ref b1, .int (nI 24), .int (nI k1)])), (b1, .inl (cA, 72, .inl f1)), (p2, .inr (2, [.ref b2, .int (nI 72), .int (nI (gA f1 tn jn (plP f1 tn P k1) i g).1)])), (b2, .inl (cA, 216, .inl ((gA f1 tn jn (plP f1 tn P k1) i g).2))), (e0, .inr (0, [.ref t0, .ref n0, .ref j0, .int (nI ec)])), (n0, .inl (cA, 24, .inl tn)), (j0, .inl (cA, 24, .inl jn)), (l0, .inl (cA, 24, .inl (plP f1 tn P k1))), (m0, .inr (1, [.ref r0, .ref c0, .ref s0, .ref p0, .int pc, .int (-1), .int (nI w)]))]) hP [0, 1, 2, 3, 4, 5, 6, 7, 8, 9] rfl) (hD.sub (ws' := [(h0, .inr (3, [.ref p1, .ref p2, .ref e0, .ref l0, .ref m0])), (p1, .inr (2, [.ref b1, .int (nI 24), .int (nI k1)])), (b1, .inl (cA, 72, .inl f1)), (p2, .inr (2, [.ref b2, .int (nI 72), .int (nI (gA f1 tn jn (plP f1 tn P k1) i g).1)])), (b2, .inl (cA, 216, .inl ((gA f1 tn jn (plP f1 tn P k1) i g).2))), (e0, .inr (0, [.ref t0, .ref n0, .ref j0, .int (nI ec)])), (n0, .inl (cA, 24, .inl tn)), (j0, .inl (cA, 24, .inl jn)), (l0, .inl (cA, 24, .inl (plP f1 tn P k1))), (m0, .inr (1, [.ref r0, .ref c0, .ref s0, .ref p0, .int pc, .int (-1), .int (nI w)]))]) [0, 1, 2, 3, 4, 5, 6, 7, 8, 9] (by decide) rfl) hS ls (lv_sub hl [1, 0] rfl)
    exact loop19 (k1 + 1) 0 (0, f2) (by omega) (by omega) rfl _ _ (jP_sub (w2 := [(h0, .inr (3, [.ref p1, .ref p2, .ref e0, .ref l0, .ref m0])), (p1, .inr (2, [.ref b1, .int (nI 24), .int (nI k1)])), (b1, .inl (cA, 72, .inl f1)), (p2, .inr (2, [.ref b2, .int (nI 72), .int (nI (0, f2).1)])), (b2, .inl (cA, 216, .inl ((0, f2).2))), (e0, .inr (0, [.ref t0, .ref n0, .ref j0, .int (nI ec)])), (n0, .inl (cA, 24, .inl tn)), (j0, .inl (cA, 24, .inl jn)), (l0, .inl (cA, 24, .inl (plP f1 tn P k1))), (m0, .inr (1, [.ref r0, .ref c0, .ref s0, .ref p0, .int pc, .int (-1), .int (nI w)]))]) hP [0, 1, 2, 3, 4, 5, 6, 7, 8, 9] rfl) (hD.sub (ws' := [(h0, .inr (3, [.ref p1, .ref p2, .ref e0, .ref l0, .ref m0])), (p1, .inr (2, [.ref b1, .int (nI 24), .int (nI k1)])), (b1, .inl (cA, 72, .inl f1)), (p2, .inr (2, [.ref b2, .int (nI 72), .int (nI (0, f2).1)])), (b2, .inl (cA, 216, .inl ((0, f2).2))), (e0, .inr (0, [.ref t0, .ref n0, .ref j0, .int (nI ec)])), (n0, .inl (cA, 24, .inl tn)), (j0, .inl (cA, 24, .inl jn)), (l0, .inl (cA, 24, .inl (plP f1 tn P k1))), (m0, .inr (1, [.ref r0, .ref c0, .ref s0, .ref p0, .int pc, .int (-1), .int (nI w)]))]) [0, 1, 2, 3, 4, 5, 6, 7, 8, 9] (by decide) rfl) hS ls (lv_sub hl [1, 0] rfl)
  · replace c_8 := jB_z.mp c_8
    refine lv_iconst (v := (-1)) hx hb dX3_protect_11 (by decide) ?_
    obtain ⟨hP9, hD9⟩ := jk_end (w2 := [(h0, .inr (3, [.ref p1, .ref p2, .ref e0, .ref l0, .ref m0])), (p1, .inr (2, [.ref b1, .int (nI 24), .int (nI k1)])), (b1, .inl (cA, 72, .inl f1)), (p2, .inr (2, [.ref b2, .int (nI 72), .int (nI 0)])), (b2, .inl (cA, 216, .inl f2)), (e0, .inr (0, [.ref t0, .ref n0, .ref j0, .int (nI ec)])), (n0, .inl (cA, 24, .inl tn)), (j0, .inl (cA, 24, .inl jn)), (l0, .inl (cA, 24, .inl P)), (m0, .inr (1, [.ref r0, .ref c0, .ref s0, .ref p0, .int pc, .int (-1), .int (nI w)]))]) hP hD [0, 1, 2, 3, 4, 5, 6, 7, 8, 9] (by decide) rfl
    have e9 : ([(h0, .inr (3, [.ref p1, .ref p2, .ref e0, .ref l0, .ref m0])), (p1, .inr (2, [.ref b1, .int (nI 24), .int (nI k1)])), (b1, .inl (cA, 72, .inl f1)), (p2, .inr (2, [.ref b2, .int (nI 72), .int (nI 0)])), (b2, .inl (cA, 216, .inl f2)), (e0, .inr (0, [.ref t0, .ref n0, .ref j0, .int (nI ec)])), (n0, .inl (cA, 24, .inl tn)), (j0, .inl (cA, 24, .inl jn)), (l0, .inl (cA, 24, .inl P)), (m0, .inr (1, [.ref r0, .ref c0, .ref s0, .ref p0, .int pc, .int (-1), .int (nI w)]))] : va_W) = [(h0, .inr (3, [.ref p1, .ref p2, .ref e0, .ref l0, .ref m0])), (p1, .inr (2, [.ref b1, .int (nI 24), .int (nI k1)])), (b1, .inl (cA, 72, .inl f1)), (p2, .inr (2, [.ref b2, .int (nI 72), .int (nI (if clO f1 k1 then (gN f1 tn jn (plP f1 tn P k1) f2 k1).1 else 0))])), (b2, .inl (cA, 216, .inl (if clO f1 k1 then (gN f1 tn jn (plP f1 tn P k1) f2 k1).2 else f2))), (e0, .inr (0, [.ref t0, .ref n0, .ref j0, .int (nI ec)])), (n0, .inl (cA, 24, .inl tn)), (j0, .inl (cA, 24, .inl jn)), (l0, .inl (cA, 24, .inl (if clO f1 k1 then plP f1 tn P k1 else P))), (m0, .inr (1, [.ref r0, .ref c0, .ref s0, .ref p0, .int pc, .int (-1), .int (nI w)]))] := (by simp only [if_neg c_8])
    rw [e9] at hP9 hD9
    exact W.iret (v := (-1)) hx hb hr (fun t9 ht9 hW9 => ⟨⟨_, (), rfl, (show (-1) = (if clO f1 k1 then nI (gN f1 tn jn (plP f1 tn P k1) f2 k1).1 else -1) from (if_neg c_8).symm), by rw [ht9]; exact hP9, hD9⟩, hS.F ht9⟩) hS.2.2 dX3_protect_12
end
section
/-! ===== JumpGuard: questions and the running ===== -/
def rCnt (n : Int32) : Nat := if ¬ n < 0 ∧ ¬ 1000 < n then n.toNatClampNeg else 0
theorem rCnt_in {n : Int32} (h1 : ¬ n < 0) (h2 : ¬ 1000 < n) : jIn n (nI 1001) := by
  refine ⟨h1, fun h => ?_⟩
  have a := Int32.le_iff_toInt_le.mp h
  have b := Int32.le_iff_toInt_le.mp (Int32.not_lt.mp h2)
  rw [nI_toInt (by decide)] at a
  have e : (1000 : Int32).toInt = 1000 := rfl
  rw [e] at b
  omega
theorem rCnt_n {k : Nat} (h : k ≤ 1000) : rCnt (nI k) = k := by
  unfold rCnt
  rw [if_pos ⟨nI_pos (by omega), nI_nlt (a := 1000) (b := k) h (by decide)⟩, nI_clamp (by omega)]
theorem iw_X1_begin_X1 : ∀ w ∈ wsX10, w ∈ wsX1_begin := by decide +kernel
theorem iw_X3_guarded_X3 : ∀ w ∈ wsX30, w ∈ wsX3_guarded := by decide +kernel
theorem iw_X3_label_X3 : ∀ w ∈ wsX30, w ∈ wsX3_label := by decide +kernel
theorem iw_X3_memory_X3 : ∀ w ∈ wsX30, w ∈ wsX3_memory := by decide +kernel
theorem iw_X3_overwrite_X3 : ∀ w ∈ wsX30, w ∈ wsX3_overwrite := by decide +kernel
theorem iw_X3_pc_X1 : ∀ w ∈ wsX10, w ∈ wsX3_pc := by decide +kernel
theorem iw_X3_pc_X3 : ∀ w ∈ wsX30, w ∈ wsX3_pc := by decide +kernel
theorem iw_X3_place_X3 : ∀ w ∈ wsX30, w ∈ wsX3_place := by decide +kernel
theorem iw_X3_register_X3 : ∀ w ∈ wsX30, w ∈ wsX3_register := by decide +kernel
theorem iw_X3_run_X3 : ∀ w ∈ wsX30, w ∈ wsX3_run := by decide +kernel
theorem iw_X3_shown_X3 : ∀ w ∈ wsX30, w ∈ wsX3_shown := by decide +kernel
theorem iw_X3_shows_X1 : ∀ w ∈ wsX10, w ∈ wsX3_shows := by decide +kernel
theorem iw_X3_shows_X3 : ∀ w ∈ wsX30, w ∈ wsX3_shows := by decide +kernel
theorem iw_X3_source_X3 : ∀ w ∈ wsX30, w ∈ wsX3_source := by decide +kernel
theorem iw_X3_start_X3 : ∀ w ∈ wsX30, w ∈ wsX3_start := by decide +kernel
theorem iw_X3_state_X1 : ∀ w ∈ wsX10, w ∈ wsX3_state := by decide +kernel
theorem iw_X3_state_X3 : ∀ w ∈ wsX30, w ∈ wsX3_state := by decide +kernel
theorem hv_J7_fill_53178 : yJ7_fill_53178.cls = RJ7 ∧ yJ7_fill_53178.cls ≠ "java/lang/invoke/MethodHandle" ∧ yJ7_fill_53178.cls ≠ "java/lang/invoke/VarHandle" ∧ (parseMethodDescriptor yJ7_fill_53178.desc).map (fun d => d.parameters.length) = some 2 := by decide +kernel
theorem hv_X1_begin : yX1_begin.cls = RX1 ∧ yX1_begin.cls ≠ "java/lang/invoke/MethodHandle" ∧ yX1_begin.cls ≠ "java/lang/invoke/VarHandle" ∧ (parseMethodDescriptor yX1_begin.desc).map (fun d => d.parameters.length) = some 1 := by decide +kernel
theorem hv_X1_isIdle : yX1_isIdle.cls = RX1 ∧ yX1_isIdle.cls ≠ "java/lang/invoke/MethodHandle" ∧ yX1_isIdle.cls ≠ "java/lang/invoke/VarHandle" ∧ (parseMethodDescriptor yX1_isIdle.desc).map (fun d => d.parameters.length) = some 0 := by decide +kernel
theorem hv_X1_makeSteps : yX1_makeSteps.cls = RX1 ∧ yX1_makeSteps.cls ≠ "java/lang/invoke/MethodHandle" ∧ yX1_makeSteps.cls ≠ "java/lang/invoke/VarHandle" ∧ (parseMethodDescriptor yX1_makeSteps.desc).map (fun d => d.parameters.length) = some 1 := by decide +kernel
theorem hv_X1_shownBefore : yX1_shownBefore.cls = RX1 ∧ yX1_shownBefore.cls ≠ "java/lang/invoke/MethodHandle" ∧ yX1_shownBefore.cls ≠ "java/lang/invoke/VarHandle" ∧ (parseMethodDescriptor yX1_shownBefore.desc).map (fun d => d.parameters.length) = some 1 := by decide +kernel
theorem hv_X3_isGuarded : yX3_isGuarded.cls = RX3 ∧ yX3_isGuarded.cls ≠ "java/lang/invoke/MethodHandle" ∧ yX3_isGuarded.cls ≠ "java/lang/invoke/VarHandle" ∧ (parseMethodDescriptor yX3_isGuarded.desc).map (fun d => d.parameters.length) = some 0 := by decide +kernel
set_option maxHeartbeats 4000000 in
set_option maxRecDepth 100000 in
theorem c_X3_source (l : Launch) (D : va_G) (cA : ClassId) (h0 : Nat) (p1 : Nat) (p2 : Nat) (e0 : Nat) (l0 : Nat) (m0 : Nat) (b1 : Nat) (k1 : Nat) (f1 : Nat → Int32) (x : Int32) (y : Int32) (hk1 : k1 ≤ 24) : Met l yX3_source wsX3_source ({ frames := 2, cells := 0, slots := 0, locals := 43 }) (roP D cA [.ref h0, .int x, .int y] [(h0, .inr (3, [.ref p1, .ref p2, .ref e0, .ref l0, .ref m0])), (p1, .inr (2, [.ref b1, .int (nI 24), .int (nI k1)])), (b1, .inl (cA, 72, .inl f1))]) (QcRead (pGet f1 k1 x y)) 0 0 (fun _ => False) := by
  refine Met.ofW (cc := cX3_source) (maxL := 3) (ret := (some .int)) (by decide) rfl ?_
  intro p e s m args below meth c s₁ B hml hv
  obtain ⟨rfl, hP, hK, hN⟩ := hv
  have hx := B.exec
  have hb := B.bytes
  have hr := B.returns
  have hts := atoms_spec (ws := wsX3_source) B.pre
  have hown : s.vm.findClass RX3 = some m.cls := findClass_of_methodNamed B.named
  have hlocks := B.notSynchronized
  have hl := lv_entry ([.ref h0, .int x, .int y]) (n := 3) (Nat.le_of_ble_eq_true rfl)
  rw [lg_entry_eq]
  generalize (lg_sl ([.ref h0, .int x, .int y]) ++ List.replicate (3 - (lg_sl ([.ref h0, .int x, .int y])).length) Slot.unset).toArray = ls at hl ⊢
  have hl : lv_has ls 3 [(0, .ref h0), (1, .int x), (2, .int y)] := hl
  refine lv_aload_n hx hb dX3_source_0 rfl (lv_at hl 0 rfl) ?_
  refine va_get (D := D) (ci := 3) (v := .ref p1) (C := RX3) (T := TX3) (N := 5) hx hb hts iw_X3_source_X3 hown hK hP 0 rfl rfl 0 (by decide) (hts (.fieldLink RX3 14 "JumpGuard" "sourceProgram" "LJumpGuard$Program;") (List.mem_of_getElem? (l := wsX3_source) (i := 1) rfl)) (fun _ h9 => h9) rfl dX3_source_1 ?_
  refine lv_iload_n hx hb dX3_source_4 rfl (lv_at hl 1 rfl) ?_
  refine lv_iload_n hx hb dX3_source_5 rfl (lv_at hl 2 rfl) ?_
  refine jr_i (va_runV (As := [.int x, .int y]) (rest := []) ⟨hx, hb, hml, hown, hts⟩ (c_X2_get l D cA p1 b1 24 k1 72 f1 x y (by omega) (by omega)) (cwV 2 hts gX3_source_X2_get rfl rfl rfl hv_X2_get ⟨Nat.le_of_ble_eq_true rfl, Nat.le_of_ble_eq_true rfl⟩) (roP.V (va_recv hK hP (ci := 2) (q0 := 1) rfl rfl) (jP_sub (w2 := [(p1, .inr (2, [.ref b1, .int (nI 24), .int (nI k1)])), (b1, .inl (cA, 72, .inl f1))]) hP [1, 2] rfl) hK hN) rfl rfl hl.1 rfl (lv_room (Nat.le_of_ble_eq_true rfl)) dX3_source_6 ⟨Nat.le_of_ble_eq_true rfl, Nat.le_of_ble_eq_true rfl⟩) ?_
  exact W.iret (v := (pGet f1 k1 x y)) hx hb hr (fun t9 ht9 hW9 => ⟨jk_ret (show (pGet f1 k1 x y) = (pGet f1 k1 x y) from rfl), ht9⟩) (fun q h => absurd h List.not_mem_nil) dX3_source_9
set_option maxHeartbeats 4000000 in
set_option maxRecDepth 100000 in
theorem c_X3_guarded (l : Launch) (D : va_G) (cA : ClassId) (h0 : Nat) (p1 : Nat) (p2 : Nat) (e0 : Nat) (l0 : Nat) (m0 : Nat) (b2 : Nat) (k2 : Nat) (f2 : Nat → Int32) (x : Int32) (y : Int32) (hk2 : k2 ≤ 72) : Met l yX3_guarded wsX3_guarded ({ frames := 2, cells := 0, slots := 0, locals := 43 }) (roP D cA [.ref h0, .int x, .int y] [(h0, .inr (3, [.ref p1, .ref p2, .ref e0, .ref l0, .ref m0])), (p2, .inr (2, [.ref b2, .int (nI 72), .int (nI k2)])), (b2, .inl (cA, 216, .inl f2))]) (QcRead (pGet f2 k2 x y)) 0 0 (fun _ => False) := by
  refine Met.ofW (cc := cX3_guarded) (maxL := 3) (ret := (some .int)) (by decide) rfl ?_
  intro p e s m args below meth c s₁ B hml hv
  obtain ⟨rfl, hP, hK, hN⟩ := hv
  have hx := B.exec
  have hb := B.bytes
  have hr := B.returns
  have hts := atoms_spec (ws := wsX3_guarded) B.pre
  have hown : s.vm.findClass RX3 = some m.cls := findClass_of_methodNamed B.named
  have hlocks := B.notSynchronized
  have hl := lv_entry ([.ref h0, .int x, .int y]) (n := 3) (Nat.le_of_ble_eq_true rfl)
  rw [lg_entry_eq]
  generalize (lg_sl ([.ref h0, .int x, .int y]) ++ List.replicate (3 - (lg_sl ([.ref h0, .int x, .int y])).length) Slot.unset).toArray = ls at hl ⊢
  have hl : lv_has ls 3 [(0, .ref h0), (1, .int x), (2, .int y)] := hl
  refine lv_aload_n hx hb dX3_guarded_0 rfl (lv_at hl 0 rfl) ?_
  refine va_get (D := D) (ci := 3) (v := .ref p2) (C := RX3) (T := TX3) (N := 5) hx hb hts iw_X3_guarded_X3 hown hK hP 0 rfl rfl 1 (by decide) (hts (.fieldLink RX3 18 "JumpGuard" "guardedProgram" "LJumpGuard$Program;") (List.mem_of_getElem? (l := wsX3_guarded) (i := 1) rfl)) (fun _ h9 => h9) rfl dX3_guarded_1 ?_
  refine lv_iload_n hx hb dX3_guarded_4 rfl (lv_at hl 1 rfl) ?_
  refine lv_iload_n hx hb dX3_guarded_5 rfl (lv_at hl 2 rfl) ?_
  refine jr_i (va_runV (As := [.int x, .int y]) (rest := []) ⟨hx, hb, hml, hown, hts⟩ (c_X2_get l D cA p2 b2 72 k2 216 f2 x y (by omega) (by omega)) (cwV 2 hts gX3_guarded_X2_get rfl rfl rfl hv_X2_get ⟨Nat.le_of_ble_eq_true rfl, Nat.le_of_ble_eq_true rfl⟩) (roP.V (va_recv hK hP (ci := 2) (q0 := 1) rfl rfl) (jP_sub (w2 := [(p2, .inr (2, [.ref b2, .int (nI 72), .int (nI k2)])), (b2, .inl (cA, 216, .inl f2))]) hP [1, 2] rfl) hK hN) rfl rfl hl.1 rfl (lv_room (Nat.le_of_ble_eq_true rfl)) dX3_guarded_6 ⟨Nat.le_of_ble_eq_true rfl, Nat.le_of_ble_eq_true rfl⟩) ?_
  exact W.iret (v := (pGet f2 k2 x y)) hx hb hr (fun t9 ht9 hW9 => ⟨jk_ret (show (pGet f2 k2 x y) = (pGet f2 k2 x y) from rfl), ht9⟩) (fun q h => absurd h List.not_mem_nil) dX3_guarded_9
set_option maxHeartbeats 4000000 in
set_option maxRecDepth 100000 in
theorem c_X3_place (l : Launch) (D : va_G) (cA : ClassId) (h0 : Nat) (p1 : Nat) (p2 : Nat) (e0 : Nat) (l0 : Nat) (m0 : Nat) (b1 : Nat) (k1 : Nat) (b2 : Nat) (k2 : Nat) (P : Nat → Int32) (x : Int32) (hk2 : k2 ≤ 72) : Met l yX3_place wsX3_place ({ frames := 2, cells := 0, slots := 0, locals := 41 }) (roP D cA [.ref h0, .int x] [(h0, .inr (3, [.ref p1, .ref p2, .ref e0, .ref l0, .ref m0])), (p1, .inr (2, [.ref b1, .int (nI 24), .int (nI k1)])), (p2, .inr (2, [.ref b2, .int (nI 72), .int (nI k2)])), (l0, .inl (cA, 24, .inl P))]) (QcRead (if 0 < k2 ∧ jIn x (nI k1) then pPl P x else -1)) 0 0 (fun _ => False) := by
  refine Met.ofW (cc := cX3_place) (maxL := 2) (ret := (some .int)) (by decide) rfl ?_
  intro p e s m args below meth c s₁ B hml hv
  obtain ⟨rfl, hP, hK, hN⟩ := hv
  have hx := B.exec
  have hb := B.bytes
  have hr := B.returns
  have hts := atoms_spec (ws := wsX3_place) B.pre
  have hown : s.vm.findClass RX3 = some m.cls := findClass_of_methodNamed B.named
  have hlocks := B.notSynchronized
  have hl := lv_entry ([.ref h0, .int x]) (n := 2) (Nat.le_of_ble_eq_true rfl)
  rw [lg_entry_eq]
  generalize (lg_sl ([.ref h0, .int x]) ++ List.replicate (2 - (lg_sl ([.ref h0, .int x])).length) Slot.unset).toArray = ls at hl ⊢
  have hl : lv_has ls 2 [(0, .ref h0), (1, .int x)] := hl
  refine lv_aload_n hx hb dX3_place_0 rfl (lv_at hl 0 rfl) ?_
  refine jr_i (va_runV (As := []) (rest := []) ⟨hx, hb, hml, hown, hts⟩ (c_X3_isGuarded l D cA h0 p1 p2 e0 l0 m0 b2 k2 (by first | assumption | omega)) (cwV 0 hts gX3_place_X3_isGuarded rfl rfl rfl hv_X3_isGuarded ⟨Nat.le_of_ble_eq_true rfl, Nat.le_of_ble_eq_true rfl⟩) (roP.V (va_recv hK hP (ci := 3) (q0 := 0) rfl rfl) (jP_sub (w2 := [(h0, .inr (3, [.ref p1, .ref p2, .ref e0, .ref l0, .ref m0])), (p2, .inr (2, [.ref b2, .int (nI 72), .int (nI k2)]))]) hP [0, 2] rfl) hK hN) rfl rfl hl.1 rfl (lv_room (Nat.le_of_ble_eq_true rfl)) dX3_place_1 ⟨Nat.le_of_ble_eq_true rfl, Nat.le_of_ble_eq_true rfl⟩) ?_
  refine lv_if_eq (tgt := 18) hx hb dX3_place_4 (by decide) (fun c_4 => ?_) (fun c_4 => ?_)
  · replace c_4 := jB_z.mp c_4
    refine lv_iconst (v := (-1)) hx hb dX3_place_18 (by decide) ?_
    exact W.iret (v := (-1)) hx hb hr (fun t9 ht9 hW9 => ⟨jk_ret (show (-1) = (if 0 < k2 ∧ jIn x (nI k1) then pPl P x else -1) from (if_neg (by first | exact fun h => c_4 h.1 | exact fun h => c_15 h.2)).symm), ht9⟩) (fun q h => absurd h List.not_mem_nil) dX3_place_19
  · replace c_4 := jB_nz.mp c_4
    refine lv_aload_n hx hb dX3_place_7 rfl (lv_at hl 0 rfl) ?_
    refine va_get (D := D) (ci := 3) (v := .ref p1) (C := RX3) (T := TX3) (N := 5) hx hb hts iw_X3_place_X3 hown hK hP 0 rfl rfl 0 (by decide) (hts (.fieldLink RX3 14 "JumpGuard" "sourceProgram" "LJumpGuard$Program;") (List.mem_of_getElem? (l := wsX3_place) (i := 1) rfl)) (fun _ h9 => h9) rfl dX3_place_8 ?_
    refine lv_iload_n hx hb dX3_place_11 rfl (lv_at hl 1 rfl) ?_
    refine jr_i (va_runV (As := [.int x]) (rest := []) ⟨hx, hb, hml, hown, hts⟩ (c_X2_has l D cA p1 b1 24 k1 x) (cwV 1 hts gX3_place_X2_has rfl rfl rfl hv_X2_has ⟨Nat.le_of_ble_eq_true rfl, Nat.le_of_ble_eq_true rfl⟩) (roP.V (va_recv hK hP (ci := 2) (q0 := 1) rfl rfl) (jP_sub (w2 := [(p1, .inr (2, [.ref b1, .int (nI 24), .int (nI k1)]))]) hP [1] rfl) hK hN) rfl rfl hl.1 rfl (lv_room (Nat.le_of_ble_eq_true rfl)) dX3_place_12 ⟨Nat.le_of_ble_eq_true rfl, Nat.le_of_ble_eq_true rfl⟩) ?_
    refine lv_if_ne (tgt := 20) hx hb dX3_place_15 (by decide) (fun c_15 => ?_) (fun c_15 => ?_)
    · replace c_15 := jB_nz.mp c_15
      refine lv_aload_n hx hb dX3_place_20 rfl (lv_at hl 0 rfl) ?_
      refine lv_iload_n hx hb dX3_place_21 rfl (lv_at hl 1 rfl) ?_
      refine jr_i (va_runV (As := [.int x]) (rest := []) ⟨hx, hb, hml, hown, hts⟩ (c_X3_placeOf l D cA h0 p1 p2 e0 l0 m0 P x) (cwV 1 hts gX3_place_X3_placeOf rfl rfl rfl hv_X3_placeOf ⟨Nat.le_of_ble_eq_true rfl, Nat.le_of_ble_eq_true rfl⟩) (roP.V (va_recv hK hP (ci := 3) (q0 := 0) rfl rfl) (jP_sub (w2 := [(h0, .inr (3, [.ref p1, .ref p2, .ref e0, .ref l0, .ref m0])), (l0, .inl (cA, 24, .inl P))]) hP [0, 3] rfl) hK hN) rfl rfl hl.1 rfl (lv_room (Nat.le_of_ble_eq_true rfl)) dX3_place_22 ⟨Nat.le_of_ble_eq_true rfl, Nat.le_of_ble_eq_true rfl⟩) ?_
      exact W.iret (v := (pPl P x)) hx hb hr (fun t9 ht9 hW9 => ⟨jk_ret (show (pPl P x) = (if 0 < k2 ∧ jIn x (nI k1) then pPl P x else -1) from (if_pos ⟨c_4, c_15⟩).symm), ht9⟩) (fun q h => absurd h List.not_mem_nil) dX3_place_25
    · replace c_15 := jB_z.mp c_15
      refine lv_iconst (v := (-1)) hx hb dX3_place_18 (by decide) ?_
      exact W.iret (v := (-1)) hx hb hr (fun t9 ht9 hW9 => ⟨jk_ret (show (-1) = (if 0 < k2 ∧ jIn x (nI k1) then pPl P x else -1) from (if_neg (by first | exact fun h => c_4 h.1 | exact fun h => c_15 h.2)).symm), ht9⟩) (fun q h => absurd h List.not_mem_nil) dX3_place_19
set_option maxHeartbeats 4000000 in
set_option maxRecDepth 100000 in
theorem c_X3_label (l : Launch) (D : va_G) (cA : ClassId) (h0 : Nat) (p1 : Nat) (p2 : Nat) (e0 : Nat) (l0 : Nat) (m0 : Nat) (b1 : Nat) (k1 : Nat) (t0 : Nat) (n0 : Nat) (j0 : Nat) (ec : Nat) (tn : Nat → Int32) (x : Int32) : Met l yX3_label wsX3_label ({ frames := 2, cells := 0, slots := 0, locals := 41 }) (roP D cA [.ref h0, .int x] [(h0, .inr (3, [.ref p1, .ref p2, .ref e0, .ref l0, .ref m0])), (p1, .inr (2, [.ref b1, .int (nI 24), .int (nI k1)])), (e0, .inr (0, [.ref t0, .ref n0, .ref j0, .int (nI ec)])), (n0, .inl (cA, 24, .inl tn))]) (QcRead (if jIn x (nI k1) then jAt tn 24 x else -1)) 0 0 (fun _ => False) := by
  refine Met.ofW (cc := cX3_label) (maxL := 2) (ret := (some .int)) (by decide) rfl ?_
  intro p e s m args below meth c s₁ B hml hv
  obtain ⟨rfl, hP, hK, hN⟩ := hv
  have hx := B.exec
  have hb := B.bytes
  have hr := B.returns
  have hts := atoms_spec (ws := wsX3_label) B.pre
  have hown : s.vm.findClass RX3 = some m.cls := findClass_of_methodNamed B.named
  have hlocks := B.notSynchronized
  have hl := lv_entry ([.ref h0, .int x]) (n := 2) (Nat.le_of_ble_eq_true rfl)
  rw [lg_entry_eq]
  generalize (lg_sl ([.ref h0, .int x]) ++ List.replicate (2 - (lg_sl ([.ref h0, .int x])).length) Slot.unset).toArray = ls at hl ⊢
  have hl : lv_has ls 2 [(0, .ref h0), (1, .int x)] := hl
  refine lv_aload_n hx hb dX3_label_0 rfl (lv_at hl 0 rfl) ?_
  refine va_get (D := D) (ci := 3) (v := .ref p1) (C := RX3) (T := TX3) (N := 5) hx hb hts iw_X3_label_X3 hown hK hP 0 rfl rfl 0 (by decide) (hts (.fieldLink RX3 14 "JumpGuard" "sourceProgram" "LJumpGuard$Program;") (List.mem_of_getElem? (l := wsX3_label) (i := 1) rfl)) (fun _ h9 => h9) rfl dX3_label_1 ?_
  refine lv_iload_n hx hb dX3_label_4 rfl (lv_at hl 1 rfl) ?_
  refine jr_i (va_runV (As := [.int x]) (rest := []) ⟨hx, hb, hml, hown, hts⟩ (c_X2_has l D cA p1 b1 24 k1 x) (cwV 1 hts gX3_label_X2_has rfl rfl rfl hv_X2_has ⟨Nat.le_of_ble_eq_true rfl, Nat.le_of_ble_eq_true rfl⟩) (roP.V (va_recv hK hP (ci := 2) (q0 := 1) rfl rfl) (jP_sub (w2 := [(p1, .inr (2, [.ref b1, .int (nI 24), .int (nI k1)]))]) hP [1] rfl) hK hN) rfl rfl hl.1 rfl (lv_room (Nat.le_of_ble_eq_true rfl)) dX3_label_5 ⟨Nat.le_of_ble_eq_true rfl, Nat.le_of_ble_eq_true rfl⟩) ?_
  refine lv_if_eq (tgt := 22) hx hb dX3_label_8 (by decide) (fun c_8 => ?_) (fun c_8 => ?_)
  · replace c_8 := jB_z.mp c_8
    refine lv_iconst (v := (-1)) hx hb dX3_label_22 (by decide) ?_
    exact W.iret (v := (-1)) hx hb hr (fun t9 ht9 hW9 => ⟨jk_ret (show (-1) = (if jIn x (nI k1) then jAt tn 24 x else -1) from (if_neg c_8).symm), ht9⟩) (fun q h => absurd h List.not_mem_nil) dX3_label_23
  · replace c_8 := jB_nz.mp c_8
    refine lv_aload_n hx hb dX3_label_11 rfl (lv_at hl 0 rfl) ?_
    refine va_get (D := D) (ci := 3) (v := .ref e0) (C := RX3) (T := TX3) (N := 5) hx hb hts iw_X3_label_X3 hown hK hP 0 rfl rfl 2 (by decide) (hts (.fieldLink RX3 24 "JumpGuard" "edges" "LJumpGuard$Edges;") (List.mem_of_getElem? (l := wsX3_label) (i := 2) rfl)) (fun _ h9 => h9) rfl dX3_label_12 ?_
    refine lv_iload_n hx hb dX3_label_15 rfl (lv_at hl 1 rfl) ?_
    refine jr_i (va_runV (As := [.int x]) (rest := []) ⟨hx, hb, hml, hown, hts⟩ (c_X0_numberOfTarget l D cA e0 t0 n0 j0 ec tn x) (cwV 1 hts gX3_label_X0_numberOfTarget rfl rfl rfl hv_X0_numberOfTarget ⟨Nat.le_of_ble_eq_true rfl, Nat.le_of_ble_eq_true rfl⟩) (roP.V (va_recv hK hP (ci := 0) (q0 := 2) rfl rfl) (jP_sub (w2 := [(e0, .inr (0, [.ref t0, .ref n0, .ref j0, .int (nI ec)])), (n0, .inl (cA, 24, .inl tn))]) hP [2, 3] rfl) hK hN) rfl rfl hl.1 rfl (lv_room (Nat.le_of_ble_eq_true rfl)) dX3_label_16 ⟨Nat.le_of_ble_eq_true rfl, Nat.le_of_ble_eq_true rfl⟩) ?_
    refine lv_goto (tgt := 23) hx hb dX3_label_19 (by decide) ?_
    exact W.iret (v := (jAt tn 24 x)) hx hb hr (fun t9 ht9 hW9 => ⟨jk_ret (show (jAt tn 24 x) = (if jIn x (nI k1) then jAt tn 24 x else -1) from (if_pos c_8).symm), ht9⟩) (fun q h => absurd h List.not_mem_nil) dX3_label_23
set_option maxHeartbeats 4000000 in
set_option maxRecDepth 100000 in
theorem c_X3_state (l : Launch) (D : va_G) (cA : ClassId) (h0 : Nat) (p1 : Nat) (p2 : Nat) (e0 : Nat) (l0 : Nat) (m0 : Nat) (r0 : Nat) (c0 : Nat) (s0 : Nat) (p0 : Nat) (pc : Int32) (st : Int32) (w : Nat) : Met l yX3_state wsX3_state ({ frames := 0, cells := 0, slots := 0, locals := 0 }) (roP D cA [.ref h0] [(h0, .inr (3, [.ref p1, .ref p2, .ref e0, .ref l0, .ref m0])), (m0, .inr (1, [.ref r0, .ref c0, .ref s0, .ref p0, .int pc, .int st, .int (nI w)]))]) (QcRead st) 0 0 (fun _ => False) := by
  refine Met.ofW (cc := cX3_state) (maxL := 1) (ret := (some .int)) (by decide) rfl ?_
  intro p e s m args below meth c s₁ B hml hv
  obtain ⟨rfl, hP, hK, hN⟩ := hv
  have hx := B.exec
  have hb := B.bytes
  have hr := B.returns
  have hts := atoms_spec (ws := wsX3_state) B.pre
  have hown : s.vm.findClass RX3 = some m.cls := findClass_of_methodNamed B.named
  have hlocks := B.notSynchronized
  have hl := lv_entry ([.ref h0]) (n := 1) (Nat.le_of_ble_eq_true rfl)
  rw [lg_entry_eq]
  generalize (lg_sl ([.ref h0]) ++ List.replicate (1 - (lg_sl ([.ref h0])).length) Slot.unset).toArray = ls at hl ⊢
  have hl : lv_has ls 1 [(0, .ref h0)] := hl
  refine lv_aload_n hx hb dX3_state_0 rfl (lv_at hl 0 rfl) ?_
  refine va_get (D := D) (ci := 3) (v := .ref m0) (C := RX3) (T := TX3) (N := 5) hx hb hts iw_X3_state_X3 hown hK hP 0 rfl rfl 4 (by decide) (hts (.fieldLink RX3 35 "JumpGuard" "machine" "LJumpGuard$Machine;") (List.mem_of_getElem? (l := wsX3_state) (i := 1) rfl)) (fun _ h9 => h9) rfl dX3_state_1 ?_
  refine va_getN (D := D) (ci := 1) (v := .int st) (C := RX1) (T := TX1) (N := 7) hx hb hts iw_X3_state_X1 hown hK hP 1 rfl rfl 5 (by decide) (va_Nw.use rfl hN.2.2.2.1) (fun _ h9 => h9) rfl dX3_state_4 ?_
  exact W.iret (v := st) hx hb hr (fun t9 ht9 hW9 => ⟨jk_ret (show st = st from rfl), ht9⟩) (fun q h => absurd h List.not_mem_nil) dX3_state_7
set_option maxHeartbeats 4000000 in
set_option maxRecDepth 100000 in
theorem c_X3_pc (l : Launch) (D : va_G) (cA : ClassId) (h0 : Nat) (p1 : Nat) (p2 : Nat) (e0 : Nat) (l0 : Nat) (m0 : Nat) (r0 : Nat) (c0 : Nat) (s0 : Nat) (p0 : Nat) (pc : Int32) (st : Int32) (w : Nat) : Met l yX3_pc wsX3_pc ({ frames := 1, cells := 0, slots := 0, locals := 20 }) (roP D cA [.ref h0] [(h0, .inr (3, [.ref p1, .ref p2, .ref e0, .ref l0, .ref m0])), (m0, .inr (1, [.ref r0, .ref c0, .ref s0, .ref p0, .int pc, .int st, .int (nI w)]))]) (QcRead (if st = (-1) then (-1) else pc)) 0 0 (fun _ => False) := by
  refine Met.ofW (cc := cX3_pc) (maxL := 1) (ret := (some .int)) (by decide) rfl ?_
  intro p e s m args below meth c s₁ B hml hv
  obtain ⟨rfl, hP, hK, hN⟩ := hv
  have hx := B.exec
  have hb := B.bytes
  have hr := B.returns
  have hts := atoms_spec (ws := wsX3_pc) B.pre
  have hown : s.vm.findClass RX3 = some m.cls := findClass_of_methodNamed B.named
  have hlocks := B.notSynchronized
  have hl := lv_entry ([.ref h0]) (n := 1) (Nat.le_of_ble_eq_true rfl)
  rw [lg_entry_eq]
  generalize (lg_sl ([.ref h0]) ++ List.replicate (1 - (lg_sl ([.ref h0])).length) Slot.unset).toArray = ls at hl ⊢
  have hl : lv_has ls 1 [(0, .ref h0)] := hl
  refine lv_aload_n hx hb dX3_pc_0 rfl (lv_at hl 0 rfl) ?_
  refine va_get (D := D) (ci := 3) (v := .ref m0) (C := RX3) (T := TX3) (N := 5) hx hb hts iw_X3_pc_X3 hown hK hP 0 rfl rfl 4 (by decide) (hts (.fieldLink RX3 35 "JumpGuard" "machine" "LJumpGuard$Machine;") (List.mem_of_getElem? (l := wsX3_pc) (i := 1) rfl)) (fun _ h9 => h9) rfl dX3_pc_1 ?_
  refine jr_i (va_runV (As := []) (rest := []) ⟨hx, hb, hml, hown, hts⟩ (c_X1_isIdle l D cA m0 r0 c0 s0 p0 pc st w) (cwV 0 hts gX3_pc_X1_isIdle rfl rfl rfl hv_X1_isIdle ⟨Nat.le_of_ble_eq_true rfl, Nat.le_of_ble_eq_true rfl⟩) (roP.V (va_recv hK hP (ci := 1) (q0 := 1) rfl rfl) (jP_sub (w2 := [(m0, .inr (1, [.ref r0, .ref c0, .ref s0, .ref p0, .int pc, .int st, .int (nI w)]))]) hP [1] rfl) hK hN) rfl rfl hl.1 rfl (lv_room (Nat.le_of_ble_eq_true rfl)) dX3_pc_4 ⟨Nat.le_of_ble_eq_true rfl, Nat.le_of_ble_eq_true rfl⟩) ?_
  refine lv_if_eq (tgt := 14) hx hb dX3_pc_7 (by decide) (fun c_7 => ?_) (fun c_7 => ?_)
  · replace c_7 := jB_z.mp c_7
    refine lv_aload_n hx hb dX3_pc_14 rfl (lv_at hl 0 rfl) ?_
    refine va_get (D := D) (ci := 3) (v := .ref m0) (C := RX3) (T := TX3) (N := 5) hx hb hts iw_X3_pc_X3 hown hK hP 0 rfl rfl 4 (by decide) (hts (.fieldLink RX3 35 "JumpGuard" "machine" "LJumpGuard$Machine;") (List.mem_of_getElem? (l := wsX3_pc) (i := 1) rfl)) (fun _ h9 => h9) rfl dX3_pc_15 ?_
    refine va_getN (D := D) (ci := 1) (v := .int pc) (C := RX1) (T := TX1) (N := 7) hx hb hts iw_X3_pc_X1 hown hK hP 1 rfl rfl 4 (by decide) (va_Nw.use rfl hN.2.2.1) (fun _ h9 => h9) rfl dX3_pc_18 ?_
    exact W.iret (v := pc) hx hb hr (fun t9 ht9 hW9 => ⟨jk_ret (show pc = (if st = (-1) then (-1) else pc) from (if_neg c_7).symm), ht9⟩) (fun q h => absurd h List.not_mem_nil) dX3_pc_21
  · replace c_7 := jB_nz.mp c_7
    refine lv_iconst (v := (-1)) hx hb dX3_pc_10 (by decide) ?_
    refine lv_goto (tgt := 21) hx hb dX3_pc_11 (by decide) ?_
    exact W.iret (v := (-1)) hx hb hr (fun t9 ht9 hW9 => ⟨jk_ret (show (-1) = (if st = (-1) then (-1) else pc) from (if_pos c_7).symm), ht9⟩) (fun q h => absurd h List.not_mem_nil) dX3_pc_21
set_option maxHeartbeats 4000000 in
set_option maxRecDepth 100000 in
theorem c_X3_shows (l : Launch) (D : va_G) (cA : ClassId) (h0 : Nat) (p1 : Nat) (p2 : Nat) (e0 : Nat) (l0 : Nat) (m0 : Nat) (r0 : Nat) (c0 : Nat) (s0 : Nat) (p0 : Nat) (pc : Int32) (st : Int32) (w : Nat) : Met l yX3_shows wsX3_shows ({ frames := 1, cells := 0, slots := 0, locals := 20 }) (roP D cA [.ref h0] [(h0, .inr (3, [.ref p1, .ref p2, .ref e0, .ref l0, .ref m0])), (m0, .inr (1, [.ref r0, .ref c0, .ref s0, .ref p0, .int pc, .int st, .int (nI w)]))]) (QcRead (if st = (-1) then 0 else nI w)) 0 0 (fun _ => False) := by
  refine Met.ofW (cc := cX3_shows) (maxL := 1) (ret := (some .int)) (by decide) rfl ?_
  intro p e s m args below meth c s₁ B hml hv
  obtain ⟨rfl, hP, hK, hN⟩ := hv
  have hx := B.exec
  have hb := B.bytes
  have hr := B.returns
  have hts := atoms_spec (ws := wsX3_shows) B.pre
  have hown : s.vm.findClass RX3 = some m.cls := findClass_of_methodNamed B.named
  have hlocks := B.notSynchronized
  have hl := lv_entry ([.ref h0]) (n := 1) (Nat.le_of_ble_eq_true rfl)
  rw [lg_entry_eq]
  generalize (lg_sl ([.ref h0]) ++ List.replicate (1 - (lg_sl ([.ref h0])).length) Slot.unset).toArray = ls at hl ⊢
  have hl : lv_has ls 1 [(0, .ref h0)] := hl
  refine lv_aload_n hx hb dX3_shows_0 rfl (lv_at hl 0 rfl) ?_
  refine va_get (D := D) (ci := 3) (v := .ref m0) (C := RX3) (T := TX3) (N := 5) hx hb hts iw_X3_shows_X3 hown hK hP 0 rfl rfl 4 (by decide) (hts (.fieldLink RX3 35 "JumpGuard" "machine" "LJumpGuard$Machine;") (List.mem_of_getElem? (l := wsX3_shows) (i := 1) rfl)) (fun _ h9 => h9) rfl dX3_shows_1 ?_
  refine jr_i (va_runV (As := []) (rest := []) ⟨hx, hb, hml, hown, hts⟩ (c_X1_isIdle l D cA m0 r0 c0 s0 p0 pc st w) (cwV 0 hts gX3_shows_X1_isIdle rfl rfl rfl hv_X1_isIdle ⟨Nat.le_of_ble_eq_true rfl, Nat.le_of_ble_eq_true rfl⟩) (roP.V (va_recv hK hP (ci := 1) (q0 := 1) rfl rfl) (jP_sub (w2 := [(m0, .inr (1, [.ref r0, .ref c0, .ref s0, .ref p0, .int pc, .int st, .int (nI w)]))]) hP [1] rfl) hK hN) rfl rfl hl.1 rfl (lv_room (Nat.le_of_ble_eq_true rfl)) dX3_shows_4 ⟨Nat.le_of_ble_eq_true rfl, Nat.le_of_ble_eq_true rfl⟩) ?_
  refine lv_if_eq (tgt := 14) hx hb dX3_shows_7 (by decide) (fun c_7 => ?_) (fun c_7 => ?_)
  · replace c_7 := jB_z.mp c_7
    refine lv_aload_n hx hb dX3_shows_14 rfl (lv_at hl 0 rfl) ?_
    refine va_get (D := D) (ci := 3) (v := .ref m0) (C := RX3) (T := TX3) (N := 5) hx hb hts iw_X3_shows_X3 hown hK hP 0 rfl rfl 4 (by decide) (hts (.fieldLink RX3 35 "JumpGuard" "machine" "LJumpGuard$Machine;") (List.mem_of_getElem? (l := wsX3_shows) (i := 1) rfl)) (fun _ h9 => h9) rfl dX3_shows_15 ?_
    refine va_getN (D := D) (ci := 1) (v := .int (nI w)) (C := RX1) (T := TX1) (N := 7) hx hb hts iw_X3_shows_X1 hown hK hP 1 rfl rfl 6 (by decide) (va_Nw.use rfl hN.2.2.2.2.1) (fun _ h9 => h9) rfl dX3_shows_18 ?_
    exact W.iret (v := (nI w)) hx hb hr (fun t9 ht9 hW9 => ⟨jk_ret (show (nI w) = (if st = (-1) then 0 else nI w) from (if_neg c_7).symm), ht9⟩) (fun q h => absurd h List.not_mem_nil) dX3_shows_21
  · replace c_7 := jB_nz.mp c_7
    refine lv_iconst (v := 0) hx hb dX3_shows_10 (by decide) ?_
    refine lv_goto (tgt := 21) hx hb dX3_shows_11 (by decide) ?_
    exact W.iret (v := 0) hx hb hr (fun t9 ht9 hW9 => ⟨jk_ret (show 0 = (if st = (-1) then 0 else nI w) from (if_pos c_7).symm), ht9⟩) (fun q h => absurd h List.not_mem_nil) dX3_shows_21
set_option maxHeartbeats 4000000 in
set_option maxRecDepth 100000 in
theorem c_X3_memory (l : Launch) (D : va_G) (cA : ClassId) (h0 : Nat) (p1 : Nat) (p2 : Nat) (e0 : Nat) (l0 : Nat) (m0 : Nat) (r0 : Nat) (c0 : Nat) (s0 : Nat) (p0 : Nat) (pc : Int32) (st : Int32) (w : Nat) (Cm : Nat → Int32) (x : Int32) : Met l yX3_memory wsX3_memory ({ frames := 2, cells := 0, slots := 0, locals := 41 }) (roP D cA [.ref h0, .int x] [(h0, .inr (3, [.ref p1, .ref p2, .ref e0, .ref l0, .ref m0])), (m0, .inr (1, [.ref r0, .ref c0, .ref s0, .ref p0, .int pc, .int st, .int (nI w)])), (c0, .inl (cA, 16, .inl Cm))]) (QcRead (if st = (-1) then 0 else jAt Cm 16 x)) 0 0 (fun _ => False) := by
  refine Met.ofW (cc := cX3_memory) (maxL := 2) (ret := (some .int)) (by decide) rfl ?_
  intro p e s m args below meth c s₁ B hml hv
  obtain ⟨rfl, hP, hK, hN⟩ := hv
  have hx := B.exec
  have hb := B.bytes
  have hr := B.returns
  have hts := atoms_spec (ws := wsX3_memory) B.pre
  have hown : s.vm.findClass RX3 = some m.cls := findClass_of_methodNamed B.named
  have hlocks := B.notSynchronized
  have hl := lv_entry ([.ref h0, .int x]) (n := 2) (Nat.le_of_ble_eq_true rfl)
  rw [lg_entry_eq]
  generalize (lg_sl ([.ref h0, .int x]) ++ List.replicate (2 - (lg_sl ([.ref h0, .int x])).length) Slot.unset).toArray = ls at hl ⊢
  have hl : lv_has ls 2 [(0, .ref h0), (1, .int x)] := hl
  refine lv_aload_n hx hb dX3_memory_0 rfl (lv_at hl 0 rfl) ?_
  refine va_get (D := D) (ci := 3) (v := .ref m0) (C := RX3) (T := TX3) (N := 5) hx hb hts iw_X3_memory_X3 hown hK hP 0 rfl rfl 4 (by decide) (hts (.fieldLink RX3 35 "JumpGuard" "machine" "LJumpGuard$Machine;") (List.mem_of_getElem? (l := wsX3_memory) (i := 1) rfl)) (fun _ h9 => h9) rfl dX3_memory_1 ?_
  refine jr_i (va_runV (As := []) (rest := []) ⟨hx, hb, hml, hown, hts⟩ (c_X1_isIdle l D cA m0 r0 c0 s0 p0 pc st w) (cwV 0 hts gX3_memory_X1_isIdle rfl rfl rfl hv_X1_isIdle ⟨Nat.le_of_ble_eq_true rfl, Nat.le_of_ble_eq_true rfl⟩) (roP.V (va_recv hK hP (ci := 1) (q0 := 1) rfl rfl) (jP_sub (w2 := [(m0, .inr (1, [.ref r0, .ref c0, .ref s0, .ref p0, .int pc, .int st, .int (nI w)]))]) hP [1] rfl) hK hN) rfl rfl hl.1 rfl (lv_room (Nat.le_of_ble_eq_true rfl)) dX3_memory_4 ⟨Nat.le_of_ble_eq_true rfl, Nat.le_of_ble_eq_true rfl⟩) ?_
  refine lv_if_eq (tgt := 14) hx hb dX3_memory_7 (by decide) (fun c_7 => ?_) (fun c_7 => ?_)
  · replace c_7 := jB_z.mp c_7
    refine lv_aload_n hx hb dX3_memory_14 rfl (lv_at hl 0 rfl) ?_
    refine va_get (D := D) (ci := 3) (v := .ref m0) (C := RX3) (T := TX3) (N := 5) hx hb hts iw_X3_memory_X3 hown hK hP 0 rfl rfl 4 (by decide) (hts (.fieldLink RX3 35 "JumpGuard" "machine" "LJumpGuard$Machine;") (List.mem_of_getElem? (l := wsX3_memory) (i := 1) rfl)) (fun _ h9 => h9) rfl dX3_memory_15 ?_
    refine lv_iload_n hx hb dX3_memory_18 rfl (lv_at hl 1 rfl) ?_
    refine jr_i (va_runV (As := [.int x]) (rest := []) ⟨hx, hb, hml, hown, hts⟩ (c_X1_cellValue l D cA m0 r0 c0 s0 p0 pc st w Cm x) (cwV 1 hts gX3_memory_X1_cellValue rfl rfl rfl hv_X1_cellValue ⟨Nat.le_of_ble_eq_true rfl, Nat.le_of_ble_eq_true rfl⟩) (roP.V (va_recv hK hP (ci := 1) (q0 := 1) rfl rfl) (jP_sub (w2 := [(m0, .inr (1, [.ref r0, .ref c0, .ref s0, .ref p0, .int pc, .int st, .int (nI w)])), (c0, .inl (cA, 16, .inl Cm))]) hP [1, 2] rfl) hK hN) rfl rfl hl.1 rfl (lv_room (Nat.le_of_ble_eq_true rfl)) dX3_memory_19 ⟨Nat.le_of_ble_eq_true rfl, Nat.le_of_ble_eq_true rfl⟩) ?_
    exact W.iret (v := (jAt Cm 16 x)) hx hb hr (fun t9 ht9 hW9 => ⟨jk_ret (show (jAt Cm 16 x) = (if st = (-1) then 0 else jAt Cm 16 x) from (if_neg c_7).symm), ht9⟩) (fun q h => absurd h List.not_mem_nil) dX3_memory_22
  · replace c_7 := jB_nz.mp c_7
    refine lv_iconst (v := 0) hx hb dX3_memory_10 (by decide) ?_
    refine lv_goto (tgt := 22) hx hb dX3_memory_11 (by decide) ?_
    exact W.iret (v := 0) hx hb hr (fun t9 ht9 hW9 => ⟨jk_ret (show 0 = (if st = (-1) then 0 else jAt Cm 16 x) from (if_pos c_7).symm), ht9⟩) (fun q h => absurd h List.not_mem_nil) dX3_memory_22
set_option maxHeartbeats 4000000 in
set_option maxRecDepth 100000 in
theorem c_X3_register (l : Launch) (D : va_G) (cA : ClassId) (h0 : Nat) (p1 : Nat) (p2 : Nat) (e0 : Nat) (l0 : Nat) (m0 : Nat) (r0 : Nat) (c0 : Nat) (s0 : Nat) (p0 : Nat) (pc : Int32) (st : Int32) (w : Nat) (R : Nat → Int32) (x : Int32) : Met l yX3_register wsX3_register ({ frames := 2, cells := 0, slots := 0, locals := 41 }) (roP D cA [.ref h0, .int x] [(h0, .inr (3, [.ref p1, .ref p2, .ref e0, .ref l0, .ref m0])), (m0, .inr (1, [.ref r0, .ref c0, .ref s0, .ref p0, .int pc, .int st, .int (nI w)])), (r0, .inl (cA, 4, .inl R))]) (QcRead (if st = (-1) then 0 else jAt R 4 x)) 0 0 (fun _ => False) := by
  refine Met.ofW (cc := cX3_register) (maxL := 2) (ret := (some .int)) (by decide) rfl ?_
  intro p e s m args below meth c s₁ B hml hv
  obtain ⟨rfl, hP, hK, hN⟩ := hv
  have hx := B.exec
  have hb := B.bytes
  have hr := B.returns
  have hts := atoms_spec (ws := wsX3_register) B.pre
  have hown : s.vm.findClass RX3 = some m.cls := findClass_of_methodNamed B.named
  have hlocks := B.notSynchronized
  have hl := lv_entry ([.ref h0, .int x]) (n := 2) (Nat.le_of_ble_eq_true rfl)
  rw [lg_entry_eq]
  generalize (lg_sl ([.ref h0, .int x]) ++ List.replicate (2 - (lg_sl ([.ref h0, .int x])).length) Slot.unset).toArray = ls at hl ⊢
  have hl : lv_has ls 2 [(0, .ref h0), (1, .int x)] := hl
  refine lv_aload_n hx hb dX3_register_0 rfl (lv_at hl 0 rfl) ?_
  refine va_get (D := D) (ci := 3) (v := .ref m0) (C := RX3) (T := TX3) (N := 5) hx hb hts iw_X3_register_X3 hown hK hP 0 rfl rfl 4 (by decide) (hts (.fieldLink RX3 35 "JumpGuard" "machine" "LJumpGuard$Machine;") (List.mem_of_getElem? (l := wsX3_register) (i := 1) rfl)) (fun _ h9 => h9) rfl dX3_register_1 ?_
  refine jr_i (va_runV (As := []) (rest := []) ⟨hx, hb, hml, hown, hts⟩ (c_X1_isIdle l D cA m0 r0 c0 s0 p0 pc st w) (cwV 0 hts gX3_register_X1_isIdle rfl rfl rfl hv_X1_isIdle ⟨Nat.le_of_ble_eq_true rfl, Nat.le_of_ble_eq_true rfl⟩) (roP.V (va_recv hK hP (ci := 1) (q0 := 1) rfl rfl) (jP_sub (w2 := [(m0, .inr (1, [.ref r0, .ref c0, .ref s0, .ref p0, .int pc, .int st, .int (nI w)]))]) hP [1] rfl) hK hN) rfl rfl hl.1 rfl (lv_room (Nat.le_of_ble_eq_true rfl)) dX3_register_4 ⟨Nat.le_of_ble_eq_true rfl, Nat.le_of_ble_eq_true rfl⟩) ?_
  refine lv_if_eq (tgt := 14) hx hb dX3_register_7 (by decide) (fun c_7 => ?_) (fun c_7 => ?_)
  · replace c_7 := jB_z.mp c_7
    refine lv_aload_n hx hb dX3_register_14 rfl (lv_at hl 0 rfl) ?_
    refine va_get (D := D) (ci := 3) (v := .ref m0) (C := RX3) (T := TX3) (N := 5) hx hb hts iw_X3_register_X3 hown hK hP 0 rfl rfl 4 (by decide) (hts (.fieldLink RX3 35 "JumpGuard" "machine" "LJumpGuard$Machine;") (List.mem_of_getElem? (l := wsX3_register) (i := 1) rfl)) (fun _ h9 => h9) rfl dX3_register_15 ?_
    refine lv_iload_n hx hb dX3_register_18 rfl (lv_at hl 1 rfl) ?_
    refine jr_i (va_runV (As := [.int x]) (rest := []) ⟨hx, hb, hml, hown, hts⟩ (c_X1_registerValue l D cA m0 r0 c0 s0 p0 pc st w R x) (cwV 1 hts gX3_register_X1_registerValue rfl rfl rfl hv_X1_registerValue ⟨Nat.le_of_ble_eq_true rfl, Nat.le_of_ble_eq_true rfl⟩) (roP.V (va_recv hK hP (ci := 1) (q0 := 1) rfl rfl) (jP_sub (w2 := [(m0, .inr (1, [.ref r0, .ref c0, .ref s0, .ref p0, .int pc, .int st, .int (nI w)])), (r0, .inl (cA, 4, .inl R))]) hP [1, 2] rfl) hK hN) rfl rfl hl.1 rfl (lv_room (Nat.le_of_ble_eq_true rfl)) dX3_register_19 ⟨Nat.le_of_ble_eq_true rfl, Nat.le_of_ble_eq_true rfl⟩) ?_
    exact W.iret (v := (jAt R 4 x)) hx hb hr (fun t9 ht9 hW9 => ⟨jk_ret (show (jAt R 4 x) = (if st = (-1) then 0 else jAt R 4 x) from (if_neg c_7).symm), ht9⟩) (fun q h => absurd h List.not_mem_nil) dX3_register_22
  · replace c_7 := jB_nz.mp c_7
    refine lv_iconst (v := 0) hx hb dX3_register_10 (by decide) ?_
    refine lv_goto (tgt := 22) hx hb dX3_register_11 (by decide) ?_
    exact W.iret (v := 0) hx hb hr (fun t9 ht9 hW9 => ⟨jk_ret (show 0 = (if st = (-1) then 0 else jAt R 4 x) from (if_pos c_7).symm), ht9⟩) (fun q h => absurd h List.not_mem_nil) dX3_register_22
set_option maxHeartbeats 4000000 in
set_option maxRecDepth 100000 in
theorem c_X3_shown (l : Launch) (D : va_G) (cA : ClassId) (h0 : Nat) (p1 : Nat) (p2 : Nat) (e0 : Nat) (l0 : Nat) (m0 : Nat) (r0 : Nat) (c0 : Nat) (s0 : Nat) (p0 : Nat) (pc : Int32) (st : Int32) (w : Nat) (Ls : Nat → Int32) (x : Int32) (hw : w < 1000000) : Met l yX3_shown wsX3_shown ({ frames := 1, cells := 0, slots := 0, locals := 21 }) (roP D cA [.ref h0, .int x] [(h0, .inr (3, [.ref p1, .ref p2, .ref e0, .ref l0, .ref m0])), (m0, .inr (1, [.ref r0, .ref c0, .ref s0, .ref p0, .int pc, .int st, .int (nI w)])), (s0, .inl (cA, 8, .inl Ls))]) (QcRead (if st = (-1) then 0 else mShown Ls w x)) 0 0 (fun _ => False) := by
  refine Met.ofW (cc := cX3_shown) (maxL := 2) (ret := (some .int)) (by decide) rfl ?_
  intro p e s m args below meth c s₁ B hml hv
  obtain ⟨rfl, hP, hK, hN⟩ := hv
  have hx := B.exec
  have hb := B.bytes
  have hr := B.returns
  have hts := atoms_spec (ws := wsX3_shown) B.pre
  have hown : s.vm.findClass RX3 = some m.cls := findClass_of_methodNamed B.named
  have hlocks := B.notSynchronized
  have hl := lv_entry ([.ref h0, .int x]) (n := 2) (Nat.le_of_ble_eq_true rfl)
  rw [lg_entry_eq]
  generalize (lg_sl ([.ref h0, .int x]) ++ List.replicate (2 - (lg_sl ([.ref h0, .int x])).length) Slot.unset).toArray = ls at hl ⊢
  have hl : lv_has ls 2 [(0, .ref h0), (1, .int x)] := hl
  refine lv_aload_n hx hb dX3_shown_0 rfl (lv_at hl 0 rfl) ?_
  refine va_get (D := D) (ci := 3) (v := .ref m0) (C := RX3) (T := TX3) (N := 5) hx hb hts iw_X3_shown_X3 hown hK hP 0 rfl rfl 4 (by decide) (hts (.fieldLink RX3 35 "JumpGuard" "machine" "LJumpGuard$Machine;") (List.mem_of_getElem? (l := wsX3_shown) (i := 1) rfl)) (fun _ h9 => h9) rfl dX3_shown_1 ?_
  refine jr_i (va_runV (As := []) (rest := []) ⟨hx, hb, hml, hown, hts⟩ (c_X1_isIdle l D cA m0 r0 c0 s0 p0 pc st w) (cwV 0 hts gX3_shown_X1_isIdle rfl rfl rfl hv_X1_isIdle ⟨Nat.le_of_ble_eq_true rfl, Nat.le_of_ble_eq_true rfl⟩) (roP.V (va_recv hK hP (ci := 1) (q0 := 1) rfl rfl) (jP_sub (w2 := [(m0, .inr (1, [.ref r0, .ref c0, .ref s0, .ref p0, .int pc, .int st, .int (nI w)]))]) hP [1] rfl) hK hN) rfl rfl hl.1 rfl (lv_room (Nat.le_of_ble_eq_true rfl)) dX3_shown_4 ⟨Nat.le_of_ble_eq_true rfl, Nat.le_of_ble_eq_true rfl⟩) ?_
  refine lv_if_eq (tgt := 14) hx hb dX3_shown_7 (by decide) (fun c_7 => ?_) (fun c_7 => ?_)
  · replace c_7 := jB_z.mp c_7
    refine lv_aload_n hx hb dX3_shown_14 rfl (lv_at hl 0 rfl) ?_
    refine va_get (D := D) (ci := 3) (v := .ref m0) (C := RX3) (T := TX3) (N := 5) hx hb hts iw_X3_shown_X3 hown hK hP 0 rfl rfl 4 (by decide) (hts (.fieldLink RX3 35 "JumpGuard" "machine" "LJumpGuard$Machine;") (List.mem_of_getElem? (l := wsX3_shown) (i := 1) rfl)) (fun _ h9 => h9) rfl dX3_shown_15 ?_
    refine lv_iload_n hx hb dX3_shown_18 rfl (lv_at hl 1 rfl) ?_
    refine jr_i (va_runV (As := [.int x]) (rest := []) ⟨hx, hb, hml, hown, hts⟩ (c_X1_shownBefore l D cA m0 r0 c0 s0 p0 pc st w Ls x (by first | assumption | omega)) (cwV 1 hts gX3_shown_X1_shownBefore rfl rfl rfl hv_X1_shownBefore ⟨Nat.le_of_ble_eq_true rfl, Nat.le_of_ble_eq_true rfl⟩) (roP.V (va_recv hK hP (ci := 1) (q0 := 1) rfl rfl) (jP_sub (w2 := [(m0, .inr (1, [.ref r0, .ref c0, .ref s0, .ref p0, .int pc, .int st, .int (nI w)])), (s0, .inl (cA, 8, .inl Ls))]) hP [1, 2] rfl) hK hN) rfl rfl hl.1 rfl (lv_room (Nat.le_of_ble_eq_true rfl)) dX3_shown_19 ⟨Nat.le_of_ble_eq_true rfl, Nat.le_of_ble_eq_true rfl⟩) ?_
    exact W.iret (v := (mShown Ls w x)) hx hb hr (fun t9 ht9 hW9 => ⟨jk_ret (show (mShown Ls w x) = (if st = (-1) then 0 else mShown Ls w x) from (if_neg c_7).symm), ht9⟩) (fun q h => absurd h List.not_mem_nil) dX3_shown_22
  · replace c_7 := jB_nz.mp c_7
    refine lv_iconst (v := 0) hx hb dX3_shown_10 (by decide) ?_
    refine lv_goto (tgt := 22) hx hb dX3_shown_11 (by decide) ?_
    exact W.iret (v := 0) hx hb hr (fun t9 ht9 hW9 => ⟨jk_ret (show 0 = (if st = (-1) then 0 else mShown Ls w x) from (if_pos c_7).symm), ht9⟩) (fun q h => absurd h List.not_mem_nil) dX3_shown_22
set_option maxHeartbeats 4000000 in
set_option maxRecDepth 100000 in
theorem c_X3_overwrite (l : Launch) (D : va_G) (cA : ClassId) (sz : Nat) (h0 : Nat) (p1 : Nat) (p2 : Nat) (e0 : Nat) (l0 : Nat) (m0 : Nat) (r0 : Nat) (c0 : Nat) (s0 : Nat) (p0 : Nat) (pc : Int32) (st : Int32) (w : Nat) (Cm : Nat → Int32) (x : Int32) (v : Int32) : Met l yX3_overwrite wsX3_overwrite ({ frames := 2, cells := 0, slots := 0, locals := 42 }) (rwP D cA [.ref h0, .int x, .int v] sz [(h0, .inr (3, [.ref p1, .ref p2, .ref e0, .ref l0, .ref m0])), (m0, .inr (1, [.ref r0, .ref c0, .ref s0, .ref p0, .int pc, .int st, .int (nI w)])), (c0, .inl (cA, 16, .inl Cm))]) (rwI D (va_A [(h0, .inr (3, [.ref p1, .ref p2, .ref e0, .ref l0, .ref m0])), (m0, .inr (1, [.ref r0, .ref c0, .ref s0, .ref p0, .int pc, .int st, .int (nI w)])), (c0, .inl (cA, 16, .inl Cm))] sz) (jB (¬ st = (-1) ∧ jIn x 16)) [(h0, .inr (3, [.ref p1, .ref p2, .ref e0, .ref l0, .ref m0])), (m0, .inr (1, [.ref r0, .ref c0, .ref s0, .ref p0, .int pc, .int st, .int (nI w)])), (c0, .inl (cA, 16, .inl (if st = (-1) then Cm else jPut Cm 16 x v)))]) 0 0 (va_A [(h0, .inr (3, [.ref p1, .ref p2, .ref e0, .ref l0, .ref m0])), (m0, .inr (1, [.ref r0, .ref c0, .ref s0, .ref p0, .int pc, .int st, .int (nI w)])), (c0, .inl (cA, 16, .inl Cm))] sz) := by
  refine Met.ofW (cc := cX3_overwrite) (maxL := 3) (ret := (some .boolean)) (by decide) rfl ?_
  intro p e s m args below meth c s₁ B hml hv
  obtain ⟨rfl, hsz, hP, hK, hN, hD0⟩ := hv
  have hx := B.exec
  have hb := B.bytes
  have hr := B.returns
  have hts := atoms_spec (ws := wsX3_overwrite) B.pre
  have hown : s.vm.findClass RX3 = some m.cls := findClass_of_methodNamed B.named
  have hlocks := B.notSynchronized
  subst hsz
  have hD := hD0.self (sz := s.heap.size)
  generalize hAe : va_A [(h0, .inr (3, [.ref p1, .ref p2, .ref e0, .ref l0, .ref m0])), (m0, .inr (1, [.ref r0, .ref c0, .ref s0, .ref p0, .int pc, .int st, .int (nI w)])), (c0, .inl (cA, 16, .inl Cm))] s.heap.size = A at hD ⊢
  have hA : ∀ q : Nat, s.heap.size ≤ q → A q := fun q h => by rw [← hAe]; exact Or.inr h
  have hS : va_S A s.heap s.heap [] := va_S.rf
  have hl := lv_entry ([.ref h0, .int x, .int v]) (n := 3) (Nat.le_of_ble_eq_true rfl)
  rw [lg_entry_eq]
  generalize (lg_sl ([.ref h0, .int x, .int v]) ++ List.replicate (3 - (lg_sl ([.ref h0, .int x, .int v])).length) Slot.unset).toArray = ls at hl ⊢
  have hl : lv_has ls 3 [(0, .ref h0), (1, .int x), (2, .int v)] := hl
  refine lv_aload_n hx hb dX3_overwrite_0 rfl (lv_at hl 0 rfl) ?_
  refine va_get (D := D) (ci := 3) (v := .ref m0) (C := RX3) (T := TX3) (N := 5) hx hb hts iw_X3_overwrite_X3 hown hK hP 0 rfl rfl 4 (by decide) (hts (.fieldLink RX3 35 "JumpGuard" "machine" "LJumpGuard$Machine;") (List.mem_of_getElem? (l := wsX3_overwrite) (i := 1) rfl)) (fun _ h9 => h9) rfl dX3_overwrite_1 ?_
  refine jr_i (va_runV (As := []) (rest := []) ⟨hx, hb, hml, hown, hts⟩ (c_X1_isIdle l D cA m0 r0 c0 s0 p0 pc st w) (cwV 0 hts gX3_overwrite_X1_isIdle rfl rfl rfl hv_X1_isIdle ⟨Nat.le_of_ble_eq_true rfl, Nat.le_of_ble_eq_true rfl⟩) (roP.V (va_recv hK hP (ci := 1) (q0 := 1) rfl rfl) (jP_sub (w2 := [(m0, .inr (1, [.ref r0, .ref c0, .ref s0, .ref p0, .int pc, .int st, .int (nI w)]))]) hP [1] rfl) hK hN) rfl rfl hl.1 rfl (lv_room (Nat.le_of_ble_eq_true rfl)) dX3_overwrite_4 ⟨Nat.le_of_ble_eq_true rfl, Nat.le_of_ble_eq_true rfl⟩) ?_
  refine lv_if_ne (tgt := 17) hx hb dX3_overwrite_7 (by decide) (fun c_7 => ?_) (fun c_7 => ?_)
  · replace c_7 := jB_nz.mp c_7
    refine lv_iconst (v := 0) hx hb dX3_overwrite_17 (by decide) ?_
    obtain ⟨hP9, hD9⟩ := jk_end (w2 := [(h0, .inr (3, [.ref p1, .ref p2, .ref e0, .ref l0, .ref m0])), (m0, .inr (1, [.ref r0, .ref c0, .ref s0, .ref p0, .int pc, .int st, .int (nI w)])), (c0, .inl (cA, 16, .inl Cm))]) hP hD [0, 1, 2] (by decide) rfl
    have e9 : ([(h0, .inr (3, [.ref p1, .ref p2, .ref e0, .ref l0, .ref m0])), (m0, .inr (1, [.ref r0, .ref c0, .ref s0, .ref p0, .int pc, .int st, .int (nI w)])), (c0, .inl (cA, 16, .inl Cm))] : va_W) = [(h0, .inr (3, [.ref p1, .ref p2, .ref e0, .ref l0, .ref m0])), (m0, .inr (1, [.ref r0, .ref c0, .ref s0, .ref p0, .int pc, .int st, .int (nI w)])), (c0, .inl (cA, 16, .inl (if st = (-1) then Cm else jPut Cm 16 x v)))] := (by simp only [if_pos c_7])
    rw [e9] at hP9 hD9
    exact W.zret (ty := .boolean) (v := 0) hx hb hr rfl (fun t9 ht9 hW9 => ⟨⟨_, (), rfl, (show 0 = (jB (¬ st = (-1) ∧ jIn x 16)) from (jB_f (by first | exact fun h => h.1 c_7 | exact fun h => c_14 h.2)).symm), by rw [ht9]; exact hP9, hD9⟩, hS.F ht9⟩) hS.2.2 dX3_overwrite_18
  · replace c_7 := jB_z.mp c_7
    refine lv_iload_n hx hb dX3_overwrite_10 rfl (lv_at hl 1 rfl) ?_
    refine jr_i (va_runS (As := [.int x]) (rest := []) ⟨hx, hb, hml, hown, hts⟩ (c_X3_isCell l D cA x) (va_cwS 1 hts gX3_overwrite_X3_isCell rfl rfl rfl hv_X3_isCell.2 ⟨Nat.le_of_ble_eq_true rfl, Nat.le_of_ble_eq_true rfl⟩) (roP.S (av := [.int x]) (jP_sub (w2 := []) hP [] rfl) hK hN) rfl rfl hl.1 rfl (lv_room (Nat.le_of_ble_eq_true rfl)) dX3_overwrite_11 ⟨Nat.le_of_ble_eq_true rfl, Nat.le_of_ble_eq_true rfl⟩) ?_
    refine lv_if_ne (tgt := 19) hx hb dX3_overwrite_14 (by decide) (fun c_14 => ?_) (fun c_14 => ?_)
    · replace c_14 := jB_nz.mp c_14
      refine lv_aload_n hx hb dX3_overwrite_19 rfl (lv_at hl 0 rfl) ?_
      refine va_get (D := D) (ci := 3) (v := .ref m0) (C := RX3) (T := TX3) (N := 5) hx hb hts iw_X3_overwrite_X3 hown hK hP 0 rfl rfl 4 (by decide) (hts (.fieldLink RX3 35 "JumpGuard" "machine" "LJumpGuard$Machine;") (List.mem_of_getElem? (l := wsX3_overwrite) (i := 1) rfl)) (fun _ h9 => h9) rfl dX3_overwrite_20 ?_
      refine lv_iload_n hx hb dX3_overwrite_23 rfl (lv_at hl 1 rfl) ?_
      refine lv_iload_n hx hb dX3_overwrite_24 rfl (lv_at hl 2 rfl) ?_
      refine jw_v (va_runV (As := [.int x, .int v]) (rest := []) ⟨hx, hb, hml, hown, hts⟩ (c_X1_setCell l D cA s.heap.size m0 r0 c0 s0 p0 pc st w Cm x v) (cwV 2 hts gX3_overwrite_X1_setCell rfl rfl rfl hv_X1_setCell ⟨Nat.le_of_ble_eq_true rfl, Nat.le_of_ble_eq_true rfl⟩) (rwP.V (wc := [(m0, .inr (1, [.ref r0, .ref c0, .ref s0, .ref p0, .int pc, .int st, .int (nI w)])), (c0, .inl (cA, 16, .inl Cm))]) (va_recv hK hP (ci := 1) (q0 := 1) rfl rfl) hP hD hK hN [1, 2] (by decide) rfl) rfl rfl hl.1 rfl (lv_room (Nat.le_of_ble_eq_true rfl)) dX3_overwrite_25 ⟨Nat.le_of_ble_eq_true rfl, Nat.le_of_ble_eq_true rfl⟩) hP hD hS hA [1, 2] [0] [0, 1, 2] (wr := [(h0, .inr (3, [.ref p1, .ref p2, .ref e0, .ref l0, .ref m0]))]) (w2 := [(h0, .inr (3, [.ref p1, .ref p2, .ref e0, .ref l0, .ref m0])), (m0, .inr (1, [.ref r0, .ref c0, .ref s0, .ref p0, .int pc, .int st, .int (nI w)])), (c0, .inl (cA, 16, .inl (jPut Cm 16 x v)))]) rfl rfl (by decide) (by decide) (by decide) rfl (fun H locs hP hD hS => ?_)
      refine lv_iconst (v := 1) hx hb dX3_overwrite_28 (by decide) ?_
      obtain ⟨hP9, hD9⟩ := jk_end (w2 := [(h0, .inr (3, [.ref p1, .ref p2, .ref e0, .ref l0, .ref m0])), (m0, .inr (1, [.ref r0, .ref c0, .ref s0, .ref p0, .int pc, .int st, .int (nI w)])), (c0, .inl (cA, 16, .inl (jPut Cm 16 x v)))]) hP hD [0, 1, 2] (by decide) rfl
      have e9 : ([(h0, .inr (3, [.ref p1, .ref p2, .ref e0, .ref l0, .ref m0])), (m0, .inr (1, [.ref r0, .ref c0, .ref s0, .ref p0, .int pc, .int st, .int (nI w)])), (c0, .inl (cA, 16, .inl (jPut Cm 16 x v)))] : va_W) = [(h0, .inr (3, [.ref p1, .ref p2, .ref e0, .ref l0, .ref m0])), (m0, .inr (1, [.ref r0, .ref c0, .ref s0, .ref p0, .int pc, .int st, .int (nI w)])), (c0, .inl (cA, 16, .inl (if st = (-1) then Cm else jPut Cm 16 x v)))] := (by simp only [if_neg c_7])
      rw [e9] at hP9 hD9
      exact W.zret (ty := .boolean) (v := 1) hx hb hr rfl (fun t9 ht9 hW9 => ⟨⟨_, (), rfl, (show 1 = (jB (¬ st = (-1) ∧ jIn x 16)) from (jB_t ⟨c_7, c_14⟩).symm), by rw [ht9]; exact hP9, hD9⟩, hS.F ht9⟩) hS.2.2 dX3_overwrite_29
    · replace c_14 := jB_z.mp c_14
      refine lv_iconst (v := 0) hx hb dX3_overwrite_17 (by decide) ?_
      obtain ⟨hP9, hD9⟩ := jk_end (w2 := [(h0, .inr (3, [.ref p1, .ref p2, .ref e0, .ref l0, .ref m0])), (m0, .inr (1, [.ref r0, .ref c0, .ref s0, .ref p0, .int pc, .int st, .int (nI w)])), (c0, .inl (cA, 16, .inl Cm))]) hP hD [0, 1, 2] (by decide) rfl
      have e9 : ([(h0, .inr (3, [.ref p1, .ref p2, .ref e0, .ref l0, .ref m0])), (m0, .inr (1, [.ref r0, .ref c0, .ref s0, .ref p0, .int pc, .int st, .int (nI w)])), (c0, .inl (cA, 16, .inl Cm))] : va_W) = [(h0, .inr (3, [.ref p1, .ref p2, .ref e0, .ref l0, .ref m0])), (m0, .inr (1, [.ref r0, .ref c0, .ref s0, .ref p0, .int pc, .int st, .int (nI w)])), (c0, .inl (cA, 16, .inl (if st = (-1) then Cm else jPut Cm 16 x v)))] := (by simp only [if_neg c_7, jPut_no c_14])
      rw [e9] at hP9 hD9
      exact W.zret (ty := .boolean) (v := 0) hx hb hr rfl (fun t9 ht9 hW9 => ⟨⟨_, (), rfl, (show 0 = (jB (¬ st = (-1) ∧ jIn x 16)) from (jB_f (by first | exact fun h => h.1 c_7 | exact fun h => c_14 h.2)).symm), by rw [ht9]; exact hP9, hD9⟩, hS.F ht9⟩) hS.2.2 dX3_overwrite_18
set_option maxHeartbeats 4000000 in
set_option maxRecDepth 100000 in
theorem c_X1_begin (l : Launch) (D : va_G) (cA : ClassId) (sz : Nat) (m0 : Nat) (r0 : Nat) (c0 : Nat) (s0 : Nat) (p0 : Nat) (pc : Int32) (st : Int32) (w : Nat) (R : Nat → Int32) (Cm : Nat → Int32) (p9 : Nat) : Met l yX1_begin wsX1_begin ({ frames := 1, cells := 0, slots := 0, locals := 23 }) (rwP D cA [.ref m0, .ref p9] sz [(m0, .inr (1, [.ref r0, .ref c0, .ref s0, .ref p0, .int pc, .int st, .int (nI w)])), (r0, .inl (cA, 4, .inl R)), (c0, .inl (cA, 16, .inl Cm))]) (rwV D (va_A [(m0, .inr (1, [.ref r0, .ref c0, .ref s0, .ref p0, .int pc, .int st, .int (nI w)])), (r0, .inl (cA, 4, .inl R)), (c0, .inl (cA, 16, .inl Cm))] sz) [(m0, .inr (1, [.ref r0, .ref c0, .ref s0, .ref p9, .int 0, .int 0, .int (nI 0)])), (r0, .inl (cA, 4, .inl (jFill R 0 4))), (c0, .inl (cA, 16, .inl (jFill Cm 0 16)))]) 0 0 (va_A [(m0, .inr (1, [.ref r0, .ref c0, .ref s0, .ref p0, .int pc, .int st, .int (nI w)])), (r0, .inl (cA, 4, .inl R)), (c0, .inl (cA, 16, .inl Cm))] sz) := by
  refine Met.ofW (cc := cX1_begin) (maxL := 2) (ret := none) (by decide) rfl ?_
  intro p e s m args below meth c s₁ B hml hv
  obtain ⟨rfl, hsz, hP, hK, hN, hD0⟩ := hv
  have hx := B.exec
  have hb := B.bytes
  have hr := B.returns
  have hts := atoms_spec (ws := wsX1_begin) B.pre
  have hown : s.vm.findClass RX1 = some m.cls := findClass_of_methodNamed B.named
  have hlocks := B.notSynchronized
  subst hsz
  have hD := hD0.self (sz := s.heap.size)
  generalize hAe : va_A [(m0, .inr (1, [.ref r0, .ref c0, .ref s0, .ref p0, .int pc, .int st, .int (nI w)])), (r0, .inl (cA, 4, .inl R)), (c0, .inl (cA, 16, .inl Cm))] s.heap.size = A at hD ⊢
  have hA : ∀ q : Nat, s.heap.size ≤ q → A q := fun q h => by rw [← hAe]; exact Or.inr h
  have hS : va_S A s.heap s.heap [] := va_S.rf
  have hl := lv_entry ([.ref m0, .ref p9]) (n := 2) (Nat.le_of_ble_eq_true rfl)
  rw [lg_entry_eq]
  generalize (lg_sl ([.ref m0, .ref p9]) ++ List.replicate (2 - (lg_sl ([.ref m0, .ref p9])).length) Slot.unset).toArray = ls at hl ⊢
  have hl : lv_has ls 2 [(0, .ref m0), (1, .ref p9)] := hl
  refine lv_aload_n hx hb dX1_begin_0 rfl (lv_at hl 0 rfl) ?_
  refine lv_aload_n hx hb dX1_begin_1 rfl (lv_at hl 1 rfl) ?_
  refine va_put (D := D) (ci := 1) (v := .ref p9) (ty := .object "JumpGuard$Program") (C := RX1) (T := TX1) (N := 7) hx hb hts iw_X1_begin_X1 tyX1 tyX1_ok nmX1 hown hK hP hD hS 0 rfl rfl 3 (by decide) (hts (.fieldLink RX1 26 "JumpGuard$Machine" "program" "LJumpGuard$Program;") (List.mem_of_getElem? (l := wsX1_begin) (i := 1) rfl)) (fun _ h9 => h9) rfl (by decide +kernel) rfl rfl (Nat.le_of_ble_eq_true rfl) dX1_begin_2 (fun H locs hP hD hS => ?_)
  have hP : va_P D vwCl [(m0, .inr (1, [.ref r0, .ref c0, .ref s0, .ref p9, .int pc, .int st, .int (nI w)])), (r0, .inl (cA, 4, .inl R)), (c0, .inl (cA, 16, .inl Cm))] H := hP
  have hD : va_D A [(m0, .inr (1, [.ref r0, .ref c0, .ref s0, .ref p9, .int pc, .int st, .int (nI w)])), (r0, .inl (cA, 4, .inl R)), (c0, .inl (cA, 16, .inl Cm))] := hD
  refine lv_aload_n hx hb dX1_begin_5 rfl (lv_at hl 0 rfl) ?_
  refine va_get (D := D) (ci := 1) (v := .ref r0) (C := RX1) (T := TX1) (N := 7) hx hb hts iw_X1_begin_X1 hown hK hP 0 rfl rfl 0 (by decide) (hts (.fieldLink RX1 9 "JumpGuard$Machine" "registers" "[I") (List.mem_of_getElem? (l := wsX1_begin) (i := 2) rfl)) (fun _ h9 => h9) rfl dX1_begin_6 ?_
  refine lv_iconst (v := 0) hx hb dX1_begin_9 (by decide) ?_
  refine jw_v (va_runS (As := [.ref r0, .int 0]) (rest := []) ⟨hx, hb, hml, hown, hts⟩ (c_J7_fill_53178 l D cA H.size r0 4 R 0 (by first | assumption | omega)) (va_cwS 2 hts gX1_begin_J7_fill_53178 rfl rfl rfl hv_J7_fill_53178.2 ⟨Nat.le_of_ble_eq_true rfl, Nat.le_of_ble_eq_true rfl⟩) (rwP.S (av := [.ref r0, .int 0]) (wc := [(r0, .inl (cA, 4, .inl R))]) hP hD hK hN [1] (by decide) rfl) rfl rfl hl.1 rfl (lv_room (Nat.le_of_ble_eq_true rfl)) dX1_begin_10 ⟨Nat.le_of_ble_eq_true rfl, Nat.le_of_ble_eq_true rfl⟩) hP hD hS hA [1] [0, 2] [0, 2, 1] (wr := [(m0, .inr (1, [.ref r0, .ref c0, .ref s0, .ref p9, .int pc, .int st, .int (nI w)])), (c0, .inl (cA, 16, .inl Cm))]) (w2 := [(m0, .inr (1, [.ref r0, .ref c0, .ref s0, .ref p9, .int pc, .int st, .int (nI w)])), (r0, .inl (cA, 4, .inl (jFill R 0 4))), (c0, .inl (cA, 16, .inl Cm))]) rfl rfl (by decide) (by decide) (by decide) rfl (fun H locs hP hD hS => ?_)
  refine lv_aload_n hx hb dX1_begin_13 rfl (lv_at hl 0 rfl) ?_
  refine va_get (D := D) (ci := 1) (v := .ref c0) (C := RX1) (T := TX1) (N := 7) hx hb hts iw_X1_begin_X1 hown hK hP 0 rfl rfl 1 (by decide) (hts (.fieldLink RX1 15 "JumpGuard$Machine" "cells" "[I") (List.mem_of_getElem? (l := wsX1_begin) (i := 3) rfl)) (fun _ h9 => h9) rfl dX1_begin_14 ?_
  refine lv_iconst (v := 0) hx hb dX1_begin_17 (by decide) ?_
  refine jw_v (va_runS (As := [.ref c0, .int 0]) (rest := []) ⟨hx, hb, hml, hown, hts⟩ (c_J7_fill_53178 l D cA H.size c0 16 Cm 0 (by first | assumption | omega)) (va_cwS 2 hts gX1_begin_J7_fill_53178 rfl rfl rfl hv_J7_fill_53178.2 ⟨Nat.le_of_ble_eq_true rfl, Nat.le_of_ble_eq_true rfl⟩) (rwP.S (av := [.ref c0, .int 0]) (wc := [(c0, .inl (cA, 16, .inl Cm))]) hP hD hK hN [2] (by decide) rfl) rfl rfl hl.1 rfl (lv_room (Nat.le_of_ble_eq_true rfl)) dX1_begin_18 ⟨Nat.le_of_ble_eq_true rfl, Nat.le_of_ble_eq_true rfl⟩) hP hD hS hA [2] [0, 1] [0, 1, 2] (wr := [(m0, .inr (1, [.ref r0, .ref c0, .ref s0, .ref p9, .int pc, .int st, .int (nI w)])), (r0, .inl (cA, 4, .inl (jFill R 0 4)))]) (w2 := [(m0, .inr (1, [.ref r0, .ref c0, .ref s0, .ref p9, .int pc, .int st, .int (nI w)])), (r0, .inl (cA, 4, .inl (jFill R 0 4))), (c0, .inl (cA, 16, .inl (jFill Cm 0 16)))]) rfl rfl (by decide) (by decide) (by decide) rfl (fun H locs hP hD hS => ?_)
  refine lv_aload_n hx hb dX1_begin_21 rfl (lv_at hl 0 rfl) ?_
  refine lv_iconst (v := 0) hx hb dX1_begin_22 (by decide) ?_
  refine va_put (D := D) (ci := 1) (v := .int 0) (ty := .int) (C := RX1) (T := TX1) (N := 7) hx hb hts iw_X1_begin_X1 tyX1 tyX1_ok nmX1 hown hK hP hD hS 0 rfl rfl 4 (by decide) (hts (.fieldLink RX1 40 "JumpGuard$Machine" "counter" "I") (List.mem_of_getElem? (l := wsX1_begin) (i := 4) rfl)) (fun _ h9 => h9) rfl (by decide +kernel) rfl rfl (Nat.le_of_ble_eq_true rfl) dX1_begin_23 (fun H locs hP hD hS => ?_)
  have hP : va_P D vwCl [(m0, .inr (1, [.ref r0, .ref c0, .ref s0, .ref p9, .int 0, .int st, .int (nI w)])), (r0, .inl (cA, 4, .inl (jFill R 0 4))), (c0, .inl (cA, 16, .inl (jFill Cm 0 16)))] H := hP
  have hD : va_D A [(m0, .inr (1, [.ref r0, .ref c0, .ref s0, .ref p9, .int 0, .int st, .int (nI w)])), (r0, .inl (cA, 4, .inl (jFill R 0 4))), (c0, .inl (cA, 16, .inl (jFill Cm 0 16)))] := hD
  refine lv_aload_n hx hb dX1_begin_26 rfl (lv_at hl 0 rfl) ?_
  refine lv_iconst (v := 0) hx hb dX1_begin_27 (by decide) ?_
  refine va_put (D := D) (ci := 1) (v := .int 0) (ty := .int) (C := RX1) (T := TX1) (N := 7) hx hb hts iw_X1_begin_X1 tyX1 tyX1_ok nmX1 hown hK hP hD hS 0 rfl rfl 6 (by decide) (hts (.fieldLink RX1 43 "JumpGuard$Machine" "showCount" "I") (List.mem_of_getElem? (l := wsX1_begin) (i := 5) rfl)) (fun _ h9 => h9) rfl (by decide +kernel) rfl rfl (Nat.le_of_ble_eq_true rfl) dX1_begin_28 (fun H locs hP hD hS => ?_)
  have hP : va_P D vwCl [(m0, .inr (1, [.ref r0, .ref c0, .ref s0, .ref p9, .int 0, .int st, .int 0])), (r0, .inl (cA, 4, .inl (jFill R 0 4))), (c0, .inl (cA, 16, .inl (jFill Cm 0 16)))] H := hP
  have hD : va_D A [(m0, .inr (1, [.ref r0, .ref c0, .ref s0, .ref p9, .int 0, .int st, .int 0])), (r0, .inl (cA, 4, .inl (jFill R 0 4))), (c0, .inl (cA, 16, .inl (jFill Cm 0 16)))] := hD
  refine lv_aload_n hx hb dX1_begin_31 rfl (lv_at hl 0 rfl) ?_
  refine lv_iconst (v := 0) hx hb dX1_begin_32 (by decide) ?_
  refine va_put (D := D) (ci := 1) (v := .int 0) (ty := .int) (C := RX1) (T := TX1) (N := 7) hx hb hts iw_X1_begin_X1 tyX1 tyX1_ok nmX1 hown hK hP hD hS 0 rfl rfl 5 (by decide) (hts (.fieldLink RX1 30 "JumpGuard$Machine" "condition" "I") (List.mem_of_getElem? (l := wsX1_begin) (i := 6) rfl)) (fun _ h9 => h9) rfl (by decide +kernel) rfl rfl (Nat.le_of_ble_eq_true rfl) dX1_begin_33 (fun H locs hP hD hS => ?_)
  have hP : va_P D vwCl [(m0, .inr (1, [.ref r0, .ref c0, .ref s0, .ref p9, .int 0, .int 0, .int 0])), (r0, .inl (cA, 4, .inl (jFill R 0 4))), (c0, .inl (cA, 16, .inl (jFill Cm 0 16)))] H := hP
  have hD : va_D A [(m0, .inr (1, [.ref r0, .ref c0, .ref s0, .ref p9, .int 0, .int 0, .int 0])), (r0, .inl (cA, 4, .inl (jFill R 0 4))), (c0, .inl (cA, 16, .inl (jFill Cm 0 16)))] := hD
  obtain ⟨hP9, hD9⟩ := jk_end (w2 := [(m0, .inr (1, [.ref r0, .ref c0, .ref s0, .ref p9, .int 0, .int 0, .int 0])), (r0, .inl (cA, 4, .inl (jFill R 0 4))), (c0, .inl (cA, 16, .inl (jFill Cm 0 16)))]) hP hD [0, 1, 2] (by decide) rfl
  have e9 : ([(m0, .inr (1, [.ref r0, .ref c0, .ref s0, .ref p9, .int 0, .int 0, .int 0])), (r0, .inl (cA, 4, .inl (jFill R 0 4))), (c0, .inl (cA, 16, .inl (jFill Cm 0 16)))] : va_W) = [(m0, .inr (1, [.ref r0, .ref c0, .ref s0, .ref p9, .int 0, .int 0, .int (nI 0)])), (r0, .inl (cA, 4, .inl (jFill R 0 4))), (c0, .inl (cA, 16, .inl (jFill Cm 0 16)))] := rfl
  rw [e9] at hP9 hD9
  exact W.vret hx hb hr (fun t9 ht9 hW9 => ⟨⟨(), rfl, trivial, by rw [ht9]; exact hP9, hD9⟩, hS.F ht9⟩) hS.2.2 dX1_begin_36
set_option maxHeartbeats 4000000 in
set_option maxRecDepth 100000 in
theorem c_X3_start_no (l : Launch) (D : va_G) (cA : ClassId) (h0 : Nat) (p1 : Nat) (p2 : Nat) (e0 : Nat) (l0 : Nat) (m0 : Nat) (b2 : Nat) (k2 : Nat) (x : Int32) (hk2 : k2 = 0) : Met l yX3_start wsX3_start ({ frames := 2, cells := 0, slots := 0, locals := 44 }) (roP D cA [.ref h0, .int x] [(h0, .inr (3, [.ref p1, .ref p2, .ref e0, .ref l0, .ref m0])), (p2, .inr (2, [.ref b2, .int (nI 72), .int (nI k2)]))]) (QcRead 0) 0 0 (fun _ => False) := by
  refine Met.ofW (cc := cX3_start) (maxL := 2) (ret := (some .boolean)) (by decide) rfl ?_
  intro p e s m args below meth c s₁ B hml hv
  obtain ⟨rfl, hP, hK, hN⟩ := hv
  have hx := B.exec
  have hb := B.bytes
  have hr := B.returns
  have hts := atoms_spec (ws := wsX3_start) B.pre
  have hown : s.vm.findClass RX3 = some m.cls := findClass_of_methodNamed B.named
  have hlocks := B.notSynchronized
  have hl := lv_entry ([.ref h0, .int x]) (n := 2) (Nat.le_of_ble_eq_true rfl)
  rw [lg_entry_eq]
  generalize (lg_sl ([.ref h0, .int x]) ++ List.replicate (2 - (lg_sl ([.ref h0, .int x])).length) Slot.unset).toArray = ls at hl ⊢
  have hl : lv_has ls 2 [(0, .ref h0), (1, .int x)] := hl
  refine lv_aload_n hx hb dX3_start_0 rfl (lv_at hl 0 rfl) ?_
  refine jr_i (va_runV (As := []) (rest := []) ⟨hx, hb, hml, hown, hts⟩ (c_X3_isGuarded l D cA h0 p1 p2 e0 l0 m0 b2 k2 (by omega)) (cwV 0 hts gX3_start_X3_isGuarded rfl rfl rfl hv_X3_isGuarded ⟨Nat.le_of_ble_eq_true rfl, Nat.le_of_ble_eq_true rfl⟩) (roP.V (va_recv hK hP (ci := 3) (q0 := 0) rfl rfl) (jP_sub (w2 := [(h0, .inr (3, [.ref p1, .ref p2, .ref e0, .ref l0, .ref m0])), (p2, .inr (2, [.ref b2, .int (nI 72), .int (nI k2)]))]) hP [0, 1] rfl) hK hN) rfl rfl hl.1 rfl (lv_room (Nat.le_of_ble_eq_true rfl)) dX3_start_1 ⟨Nat.le_of_ble_eq_true rfl, Nat.le_of_ble_eq_true rfl⟩) ?_
  refine lv_if_ne (tgt := 9) hx hb dX3_start_4 (by decide) (fun c_4 => ?_) (fun c_4 => ?_)
  · replace c_4 := jB_nz.mp c_4
    exact absurd c_4 (by omega)
  · replace c_4 := jB_z.mp c_4
    refine lv_iconst (v := 0) hx hb dX3_start_7 (by decide) ?_
    exact W.zret (ty := .boolean) (v := 0) hx hb hr rfl (fun t9 ht9 hW9 => ⟨jk_ret (show 0 = 0 from rfl), ht9⟩) (fun q h => absurd h List.not_mem_nil) dX3_start_8
set_option maxHeartbeats 4000000 in
set_option maxRecDepth 100000 in
theorem c_X3_start_g (l : Launch) (D : va_G) (cA : ClassId) (sz : Nat) (h0 : Nat) (p1 : Nat) (p2 : Nat) (e0 : Nat) (l0 : Nat) (m0 : Nat) (b2 : Nat) (k2 : Nat) (r0 : Nat) (c0 : Nat) (s0 : Nat) (p0 : Nat) (pc : Int32) (st : Int32) (w : Nat) (x : Int32) (R : Nat → Int32) (Cm : Nat → Int32) (hk2 : 0 < k2) (hk72 : k2 ≤ 72) (hx0 : ¬ x = 0) : Met l yX3_start wsX3_start ({ frames := 2, cells := 0, slots := 0, locals := 44 }) (rwP D cA [.ref h0, .int x] sz [(h0, .inr (3, [.ref p1, .ref p2, .ref e0, .ref l0, .ref m0])), (p2, .inr (2, [.ref b2, .int (nI 72), .int (nI k2)])), (m0, .inr (1, [.ref r0, .ref c0, .ref s0, .ref p0, .int pc, .int st, .int (nI w)])), (r0, .inl (cA, 4, .inl R)), (c0, .inl (cA, 16, .inl Cm))]) (rwI D (va_A [(h0, .inr (3, [.ref p1, .ref p2, .ref e0, .ref l0, .ref m0])), (p2, .inr (2, [.ref b2, .int (nI 72), .int (nI k2)])), (m0, .inr (1, [.ref r0, .ref c0, .ref s0, .ref p0, .int pc, .int st, .int (nI w)])), (r0, .inl (cA, 4, .inl R)), (c0, .inl (cA, 16, .inl Cm))] sz) 1 [(h0, .inr (3, [.ref p1, .ref p2, .ref e0, .ref l0, .ref m0])), (p2, .inr (2, [.ref b2, .int (nI 72), .int (nI k2)])), (m0, .inr (1, [.ref r0, .ref c0, .ref s0, .ref p2, .int 0, .int 0, .int (nI 0)])), (r0, .inl (cA, 4, .inl (jFill R 0 4))), (c0, .inl (cA, 16, .inl (jFill Cm 0 16)))]) 0 0 (va_A [(h0, .inr (3, [.ref p1, .ref p2, .ref e0, .ref l0, .ref m0])), (p2, .inr (2, [.ref b2, .int (nI 72), .int (nI k2)])), (m0, .inr (1, [.ref r0, .ref c0, .ref s0, .ref p0, .int pc, .int st, .int (nI w)])), (r0, .inl (cA, 4, .inl R)), (c0, .inl (cA, 16, .inl Cm))] sz) := by
  refine Met.ofW (cc := cX3_start) (maxL := 2) (ret := (some .boolean)) (by decide) rfl ?_
  intro p e s m args below meth c s₁ B hml hv
  obtain ⟨rfl, hsz, hP, hK, hN, hD0⟩ := hv
  have hx := B.exec
  have hb := B.bytes
  have hr := B.returns
  have hts := atoms_spec (ws := wsX3_start) B.pre
  have hown : s.vm.findClass RX3 = some m.cls := findClass_of_methodNamed B.named
  have hlocks := B.notSynchronized
  subst hsz
  have hD := hD0.self (sz := s.heap.size)
  generalize hAe : va_A [(h0, .inr (3, [.ref p1, .ref p2, .ref e0, .ref l0, .ref m0])), (p2, .inr (2, [.ref b2, .int (nI 72), .int (nI k2)])), (m0, .inr (1, [.ref r0, .ref c0, .ref s0, .ref p0, .int pc, .int st, .int (nI w)])), (r0, .inl (cA, 4, .inl R)), (c0, .inl (cA, 16, .inl Cm))] s.heap.size = A at hD ⊢
  have hA : ∀ q : Nat, s.heap.size ≤ q → A q := fun q h => by rw [← hAe]; exact Or.inr h
  have hS : va_S A s.heap s.heap [] := va_S.rf
  have hl := lv_entry ([.ref h0, .int x]) (n := 2) (Nat.le_of_ble_eq_true rfl)
  rw [lg_entry_eq]
  generalize (lg_sl ([.ref h0, .int x]) ++ List.replicate (2 - (lg_sl ([.ref h0, .int x])).length) Slot.unset).toArray = ls at hl ⊢
  have hl : lv_has ls 2 [(0, .ref h0), (1, .int x)] := hl
  have hx9 := hx0
  refine lv_aload_n hx hb dX3_start_0 rfl (lv_at hl 0 rfl) ?_
  refine jr_i (va_runV (As := []) (rest := []) ⟨hx, hb, hml, hown, hts⟩ (c_X3_isGuarded l D cA h0 p1 p2 e0 l0 m0 b2 k2 (by omega)) (cwV 0 hts gX3_start_X3_isGuarded rfl rfl rfl hv_X3_isGuarded ⟨Nat.le_of_ble_eq_true rfl, Nat.le_of_ble_eq_true rfl⟩) (roP.V (va_recv hK hP (ci := 3) (q0 := 0) rfl rfl) (jP_sub (w2 := [(h0, .inr (3, [.ref p1, .ref p2, .ref e0, .ref l0, .ref m0])), (p2, .inr (2, [.ref b2, .int (nI 72), .int (nI k2)]))]) hP [0, 1] rfl) hK hN) rfl rfl hl.1 rfl (lv_room (Nat.le_of_ble_eq_true rfl)) dX3_start_1 ⟨Nat.le_of_ble_eq_true rfl, Nat.le_of_ble_eq_true rfl⟩) ?_
  refine lv_if_ne (tgt := 9) hx hb dX3_start_4 (by decide) (fun c_4 => ?_) (fun c_4 => ?_)
  · replace c_4 := jB_nz.mp c_4
    refine lv_aload_n hx hb dX3_start_9 rfl (lv_at hl 0 rfl) ?_
    refine va_get (D := D) (ci := 3) (v := .ref m0) (C := RX3) (T := TX3) (N := 5) hx hb hts iw_X3_start_X3 hown hK hP 0 rfl rfl 4 (by decide) (hts (.fieldLink RX3 35 "JumpGuard" "machine" "LJumpGuard$Machine;") (List.mem_of_getElem? (l := wsX3_start) (i := 1) rfl)) (fun _ h9 => h9) rfl dX3_start_10 ?_
    refine lv_iload_n hx hb dX3_start_13 rfl (lv_at hl 1 rfl) ?_
    refine lv_if_eq (tgt := 24) hx hb dX3_start_14 (by decide) (fun c_14 => ?_) (fun c_14 => ?_)
    · exact absurd c_14 hx9
    · refine lv_aload_n hx hb dX3_start_17 rfl (lv_at hl 0 rfl) ?_
      refine va_get (D := D) (ci := 3) (v := .ref p2) (C := RX3) (T := TX3) (N := 5) hx hb hts iw_X3_start_X3 hown hK hP 0 rfl rfl 1 (by decide) (hts (.fieldLink RX3 18 "JumpGuard" "guardedProgram" "LJumpGuard$Program;") (List.mem_of_getElem? (l := wsX3_start) (i := 2) rfl)) (fun _ h9 => h9) rfl dX3_start_18 ?_
      refine lv_goto (tgt := 28) hx hb dX3_start_21 (by decide) ?_
      refine jw_v (va_runV (As := [.ref p2]) (rest := []) ⟨hx, hb, hml, hown, hts⟩ (c_X1_begin l D cA s.heap.size m0 r0 c0 s0 p0 pc st w R Cm p2) (cwV 1 hts gX3_start_X1_begin rfl rfl rfl hv_X1_begin ⟨Nat.le_of_ble_eq_true rfl, Nat.le_of_ble_eq_true rfl⟩) (rwP.V (wc := [(m0, .inr (1, [.ref r0, .ref c0, .ref s0, .ref p0, .int pc, .int st, .int (nI w)])), (r0, .inl (cA, 4, .inl R)), (c0, .inl (cA, 16, .inl Cm))]) (va_recv hK hP (ci := 1) (q0 := 2) rfl rfl) hP hD hK hN [2, 3, 4] (by decide) rfl) rfl rfl hl.1 rfl (lv_room (Nat.le_of_ble_eq_true rfl)) dX3_start_28 ⟨Nat.le_of_ble_eq_true rfl, Nat.le_of_ble_eq_true rfl⟩) hP hD hS hA [2, 3, 4] [0, 1] [0, 1, 2, 3, 4] (wr := [(h0, .inr (3, [.ref p1, .ref p2, .ref e0, .ref l0, .ref m0])), (p2, .inr (2, [.ref b2, .int (nI 72), .int (nI k2)]))]) (w2 := [(h0, .inr (3, [.ref p1, .ref p2, .ref e0, .ref l0, .ref m0])), (p2, .inr (2, [.ref b2, .int (nI 72), .int (nI k2)])), (m0, .inr (1, [.ref r0, .ref c0, .ref s0, .ref p2, .int 0, .int 0, .int (nI 0)])), (r0, .inl (cA, 4, .inl (jFill R 0 4))), (c0, .inl (cA, 16, .inl (jFill Cm 0 16)))]) rfl rfl (by decide) (by decide) (by decide) rfl (fun H locs hP hD hS => ?_)
      refine lv_iconst (v := 1) hx hb dX3_start_31 (by decide) ?_
      obtain ⟨hP9, hD9⟩ := jk_end (w2 := [(h0, .inr (3, [.ref p1, .ref p2, .ref e0, .ref l0, .ref m0])), (p2, .inr (2, [.ref b2, .int (nI 72), .int (nI k2)])), (m0, .inr (1, [.ref r0, .ref c0, .ref s0, .ref p2, .int 0, .int 0, .int (nI 0)])), (r0, .inl (cA, 4, .inl (jFill R 0 4))), (c0, .inl (cA, 16, .inl (jFill Cm 0 16)))]) hP hD [0, 1, 2, 3, 4] (by decide) rfl
      exact W.zret (ty := .boolean) (v := 1) hx hb hr rfl (fun t9 ht9 hW9 => ⟨⟨_, (), rfl, (show 1 = 1 from rfl), by rw [ht9]; exact hP9, hD9⟩, hS.F ht9⟩) hS.2.2 dX3_start_32
  · replace c_4 := jB_z.mp c_4
    exact absurd hk2 c_4
set_option maxHeartbeats 4000000 in
set_option maxRecDepth 100000 in
theorem c_X3_start_s (l : Launch) (D : va_G) (cA : ClassId) (sz : Nat) (h0 : Nat) (p1 : Nat) (p2 : Nat) (e0 : Nat) (l0 : Nat) (m0 : Nat) (b2 : Nat) (k2 : Nat) (r0 : Nat) (c0 : Nat) (s0 : Nat) (p0 : Nat) (pc : Int32) (st : Int32) (w : Nat) (x : Int32) (R : Nat → Int32) (Cm : Nat → Int32) (hk2 : 0 < k2) (hk72 : k2 ≤ 72) (hx0 : x = 0) : Met l yX3_start wsX3_start ({ frames := 2, cells := 0, slots := 0, locals := 44 }) (rwP D cA [.ref h0, .int x] sz [(h0, .inr (3, [.ref p1, .ref p2, .ref e0, .ref l0, .ref m0])), (p2, .inr (2, [.ref b2, .int (nI 72), .int (nI k2)])), (m0, .inr (1, [.ref r0, .ref c0, .ref s0, .ref p0, .int pc, .int st, .int (nI w)])), (r0, .inl (cA, 4, .inl R)), (c0, .inl (cA, 16, .inl Cm))]) (rwI D (va_A [(h0, .inr (3, [.ref p1, .ref p2, .ref e0, .ref l0, .ref m0])), (p2, .inr (2, [.ref b2, .int (nI 72), .int (nI k2)])), (m0, .inr (1, [.ref r0, .ref c0, .ref s0, .ref p0, .int pc, .int st, .int (nI w)])), (r0, .inl (cA, 4, .inl R)), (c0, .inl (cA, 16, .inl Cm))] sz) 1 [(h0, .inr (3, [.ref p1, .ref p2, .ref e0, .ref l0, .ref m0])), (p2, .inr (2, [.ref b2, .int (nI 72), .int (nI k2)])), (m0, .inr (1, [.ref r0, .ref c0, .ref s0, .ref p1, .int 0, .int 0, .int (nI 0)])), (r0, .inl (cA, 4, .inl (jFill R 0 4))), (c0, .inl (cA, 16, .inl (jFill Cm 0 16)))]) 0 0 (va_A [(h0, .inr (3, [.ref p1, .ref p2, .ref e0, .ref l0, .ref m0])), (p2, .inr (2, [.ref b2, .int (nI 72), .int (nI k2)])), (m0, .inr (1, [.ref r0, .ref c0, .ref s0, .ref p0, .int pc, .int st, .int (nI w)])), (r0, .inl (cA, 4, .inl R)), (c0, .inl (cA, 16, .inl Cm))] sz) := by
  refine Met.ofW (cc := cX3_start) (maxL := 2) (ret := (some .boolean)) (by decide) rfl ?_
  intro p e s m args below meth c s₁ B hml hv
  obtain ⟨rfl, hsz, hP, hK, hN, hD0⟩ := hv
  have hx := B.exec
  have hb := B.bytes
  have hr := B.returns
  have hts := atoms_spec (ws := wsX3_start) B.pre
  have hown : s.vm.findClass RX3 = some m.cls := findClass_of_methodNamed B.named
  have hlocks := B.notSynchronized
  subst hsz
  have hD := hD0.self (sz := s.heap.size)
  generalize hAe : va_A [(h0, .inr (3, [.ref p1, .ref p2, .ref e0, .ref l0, .ref m0])), (p2, .inr (2, [.ref b2, .int (nI 72), .int (nI k2)])), (m0, .inr (1, [.ref r0, .ref c0, .ref s0, .ref p0, .int pc, .int st, .int (nI w)])), (r0, .inl (cA, 4, .inl R)), (c0, .inl (cA, 16, .inl Cm))] s.heap.size = A at hD ⊢
  have hA : ∀ q : Nat, s.heap.size ≤ q → A q := fun q h => by rw [← hAe]; exact Or.inr h
  have hS : va_S A s.heap s.heap [] := va_S.rf
  have hl := lv_entry ([.ref h0, .int x]) (n := 2) (Nat.le_of_ble_eq_true rfl)
  rw [lg_entry_eq]
  generalize (lg_sl ([.ref h0, .int x]) ++ List.replicate (2 - (lg_sl ([.ref h0, .int x])).length) Slot.unset).toArray = ls at hl ⊢
  have hl : lv_has ls 2 [(0, .ref h0), (1, .int x)] := hl
  have hx9 := hx0
  refine lv_aload_n hx hb dX3_start_0 rfl (lv_at hl 0 rfl) ?_
  refine jr_i (va_runV (As := []) (rest := []) ⟨hx, hb, hml, hown, hts⟩ (c_X3_isGuarded l D cA h0 p1 p2 e0 l0 m0 b2 k2 (by omega)) (cwV 0 hts gX3_start_X3_isGuarded rfl rfl rfl hv_X3_isGuarded ⟨Nat.le_of_ble_eq_true rfl, Nat.le_of_ble_eq_true rfl⟩) (roP.V (va_recv hK hP (ci := 3) (q0 := 0) rfl rfl) (jP_sub (w2 := [(h0, .inr (3, [.ref p1, .ref p2, .ref e0, .ref l0, .ref m0])), (p2, .inr (2, [.ref b2, .int (nI 72), .int (nI k2)]))]) hP [0, 1] rfl) hK hN) rfl rfl hl.1 rfl (lv_room (Nat.le_of_ble_eq_true rfl)) dX3_start_1 ⟨Nat.le_of_ble_eq_true rfl, Nat.le_of_ble_eq_true rfl⟩) ?_
  refine lv_if_ne (tgt := 9) hx hb dX3_start_4 (by decide) (fun c_4 => ?_) (fun c_4 => ?_)
  · replace c_4 := jB_nz.mp c_4
    refine lv_aload_n hx hb dX3_start_9 rfl (lv_at hl 0 rfl) ?_
    refine va_get (D := D) (ci := 3) (v := .ref m0) (C := RX3) (T := TX3) (N := 5) hx hb hts iw_X3_start_X3 hown hK hP 0 rfl rfl 4 (by decide) (hts (.fieldLink RX3 35 "JumpGuard" "machine" "LJumpGuard$Machine;") (List.mem_of_getElem? (l := wsX3_start) (i := 1) rfl)) (fun _ h9 => h9) rfl dX3_start_10 ?_
    refine lv_iload_n hx hb dX3_start_13 rfl (lv_at hl 1 rfl) ?_
    refine lv_if_eq (tgt := 24) hx hb dX3_start_14 (by decide) (fun c_14 => ?_) (fun c_14 => ?_)
    · refine lv_aload_n hx hb dX3_start_24 rfl (lv_at hl 0 rfl) ?_
      refine va_get (D := D) (ci := 3) (v := .ref p1) (C := RX3) (T := TX3) (N := 5) hx hb hts iw_X3_start_X3 hown hK hP 0 rfl rfl 0 (by decide) (hts (.fieldLink RX3 14 "JumpGuard" "sourceProgram" "LJumpGuard$Program;") (List.mem_of_getElem? (l := wsX3_start) (i := 3) rfl)) (fun _ h9 => h9) rfl dX3_start_25 ?_
      refine jw_v (va_runV (As := [.ref p1]) (rest := []) ⟨hx, hb, hml, hown, hts⟩ (c_X1_begin l D cA s.heap.size m0 r0 c0 s0 p0 pc st w R Cm p1) (cwV 1 hts gX3_start_X1_begin rfl rfl rfl hv_X1_begin ⟨Nat.le_of_ble_eq_true rfl, Nat.le_of_ble_eq_true rfl⟩) (rwP.V (wc := [(m0, .inr (1, [.ref r0, .ref c0, .ref s0, .ref p0, .int pc, .int st, .int (nI w)])), (r0, .inl (cA, 4, .inl R)), (c0, .inl (cA, 16, .inl Cm))]) (va_recv hK hP (ci := 1) (q0 := 2) rfl rfl) hP hD hK hN [2, 3, 4] (by decide) rfl) rfl rfl hl.1 rfl (lv_room (Nat.le_of_ble_eq_true rfl)) dX3_start_28 ⟨Nat.le_of_ble_eq_true rfl, Nat.le_of_ble_eq_true rfl⟩) hP hD hS hA [2, 3, 4] [0, 1] [0, 1, 2, 3, 4] (wr := [(h0, .inr (3, [.ref p1, .ref p2, .ref e0, .ref l0, .ref m0])), (p2, .inr (2, [.ref b2, .int (nI 72), .int (nI k2)]))]) (w2 := [(h0, .inr (3, [.ref p1, .ref p2, .ref e0, .ref l0, .ref m0])), (p2, .inr (2, [.ref b2, .int (nI 72), .int (nI k2)])), (m0, .inr (1, [.ref r0, .ref c0, .ref s0, .ref p1, .int 0, .int 0, .int (nI 0)])), (r0, .inl (cA, 4, .inl (jFill R 0 4))), (c0, .inl (cA, 16, .inl (jFill Cm 0 16)))]) rfl rfl (by decide) (by decide) (by decide) rfl (fun H locs hP hD hS => ?_)
      refine lv_iconst (v := 1) hx hb dX3_start_31 (by decide) ?_
      obtain ⟨hP9, hD9⟩ := jk_end (w2 := [(h0, .inr (3, [.ref p1, .ref p2, .ref e0, .ref l0, .ref m0])), (p2, .inr (2, [.ref b2, .int (nI 72), .int (nI k2)])), (m0, .inr (1, [.ref r0, .ref c0, .ref s0, .ref p1, .int 0, .int 0, .int (nI 0)])), (r0, .inl (cA, 4, .inl (jFill R 0 4))), (c0, .inl (cA, 16, .inl (jFill Cm 0 16)))]) hP hD [0, 1, 2, 3, 4] (by decide) rfl
      exact W.zret (ty := .boolean) (v := 1) hx hb hr rfl (fun t9 ht9 hW9 => ⟨⟨_, (), rfl, (show 1 = 1 from rfl), by rw [ht9]; exact hP9, hD9⟩, hS.F ht9⟩) hS.2.2 dX3_start_32
    · exact absurd hx9 c_14
  · replace c_4 := jB_z.mp c_4
    exact absurd hk2 c_4
set_option maxHeartbeats 4000000 in
set_option maxRecDepth 100000 in
theorem c_X1_makeSteps_idle (l : Launch) (D : va_G) (cA : ClassId) (m0 : Nat) (r0 : Nat) (c0 : Nat) (s0 : Nat) (p0 : Nat) (pc : Int32) (st : Int32) (w : Nat) (n9 : Int32) (hst : ¬ st = 0) (hn9 : ¬ n9 < 0) : Met l yX1_makeSteps wsX1_makeSteps ({ frames := 5, cells := 0, slots := 0, locals := 110 }) (roP D cA [.ref m0, .int n9] [(m0, .inr (1, [.ref r0, .ref c0, .ref s0, .ref p0, .int pc, .int st, .int (nI w)]))]) (QcRead 0) 0 0 (fun _ => False) := by
  refine Met.ofW (cc := cX1_makeSteps) (maxL := 3) (ret := (some .int)) (by decide) rfl ?_
  intro p e s m args below meth c s₁ B hml hv
  obtain ⟨rfl, hP, hK, hN⟩ := hv
  have hx := B.exec
  have hb := B.bytes
  have hr := B.returns
  have hts := atoms_spec (ws := wsX1_makeSteps) B.pre
  have hown : s.vm.findClass RX1 = some m.cls := findClass_of_methodNamed B.named
  have hlocks := B.notSynchronized
  have hl := lv_entry ([.ref m0, .int n9]) (n := 3) (Nat.le_of_ble_eq_true rfl)
  rw [lg_entry_eq]
  generalize (lg_sl ([.ref m0, .int n9]) ++ List.replicate (3 - (lg_sl ([.ref m0, .int n9])).length) Slot.unset).toArray = ls at hl ⊢
  have hl : lv_has ls 3 [(0, .ref m0), (1, .int n9)] := hl
  refine lv_iconst (v := 0) hx hb dX1_makeSteps_0 (by decide) ?_
  refine lv_istore_n (lv' := [(2, .int 0), (0, .ref m0), (1, .int n9)]) hx hb dX1_makeSteps_1 rfl hl (by decide) rfl (fun ls hl => ?_)
  refine lv_iload_n hx hb dX1_makeSteps_2 rfl (lv_at hl 0 rfl) ?_
  refine lv_iload_n hx hb dX1_makeSteps_3 rfl (lv_at hl 2 rfl) ?_
  refine lv_icmp_ge (tgt := 24) hx hb dX1_makeSteps_4 (by decide) (fun c_4 => ?_) (fun c_4 => ?_)
  · refine lv_iload_n hx hb dX1_makeSteps_24 rfl (lv_at hl 0 rfl) ?_
    exact W.iret (v := 0) hx hb hr (fun t9 ht9 hW9 => ⟨jk_ret (show 0 = 0 from rfl), ht9⟩) (fun q h => absurd h List.not_mem_nil) dX1_makeSteps_25
  · refine lv_aload_n hx hb dX1_makeSteps_7 rfl (lv_at hl 1 rfl) ?_
    refine va_get (D := D) (ci := 1) (v := .int st) (C := RX1) (T := TX1) (N := 7) hx hb hts iw_X1_makeSteps_X1 hown hK hP 0 rfl rfl 5 (by decide) (hts (.fieldLink RX1 30 "JumpGuard$Machine" "condition" "I") (List.mem_of_getElem? (l := wsX1_makeSteps) (i := 1) rfl)) (fun _ h9 => h9) rfl dX1_makeSteps_8 ?_
    refine lv_if_ne (tgt := 24) hx hb dX1_makeSteps_11 (by decide) (fun c_11 => ?_) (fun c_11 => ?_)
    · refine lv_iload_n hx hb dX1_makeSteps_24 rfl (lv_at hl 0 rfl) ?_
      exact W.iret (v := 0) hx hb hr (fun t9 ht9 hW9 => ⟨jk_ret (show 0 = 0 from rfl), ht9⟩) (fun q h => absurd h List.not_mem_nil) dX1_makeSteps_25
    · exact absurd c_11 hst
set_option maxHeartbeats 4000000 in
set_option maxRecDepth 100000 in
theorem c_X3_run_idle (l : Launch) (D : va_G) (cA : ClassId) (h0 : Nat) (p1 : Nat) (p2 : Nat) (e0 : Nat) (l0 : Nat) (m0 : Nat) (r0 : Nat) (c0 : Nat) (s0 : Nat) (p0 : Nat) (pc : Int32) (st : Int32) (w : Nat) (n9 : Int32) (hst : ¬ st = 0) : Met l yX3_run wsX3_run ({ frames := 6, cells := 0, slots := 0, locals := 132 }) (roP D cA [.ref h0, .int n9] [(h0, .inr (3, [.ref p1, .ref p2, .ref e0, .ref l0, .ref m0])), (m0, .inr (1, [.ref r0, .ref c0, .ref s0, .ref p0, .int pc, .int st, .int (nI w)]))]) (QcRead 0) 0 0 (fun _ => False) := by
  refine Met.ofW (cc := cX3_run) (maxL := 2) (ret := (some .int)) (by decide) rfl ?_
  intro p e s m args below meth c s₁ B hml hv
  obtain ⟨rfl, hP, hK, hN⟩ := hv
  have hx := B.exec
  have hb := B.bytes
  have hr := B.returns
  have hts := atoms_spec (ws := wsX3_run) B.pre
  have hown : s.vm.findClass RX3 = some m.cls := findClass_of_methodNamed B.named
  have hlocks := B.notSynchronized
  have hl := lv_entry ([.ref h0, .int n9]) (n := 2) (Nat.le_of_ble_eq_true rfl)
  rw [lg_entry_eq]
  generalize (lg_sl ([.ref h0, .int n9]) ++ List.replicate (2 - (lg_sl ([.ref h0, .int n9])).length) Slot.unset).toArray = ls at hl ⊢
  have hl : lv_has ls 2 [(0, .ref h0), (1, .int n9)] := hl
  refine lv_iload_n hx hb dX3_run_0 rfl (lv_at hl 1 rfl) ?_
  refine lv_if_lt (tgt := 22) hx hb dX3_run_1 (by decide) (fun c_1 => ?_) (fun c_1 => ?_)
  · refine lv_iconst (v := 0) hx hb dX3_run_22 (by decide) ?_
    exact W.iret (v := 0) hx hb hr (fun t9 ht9 hW9 => ⟨jk_ret (show 0 = 0 from rfl), ht9⟩) (fun q h => absurd h List.not_mem_nil) dX3_run_23
  · refine lv_iload_n hx hb dX3_run_4 rfl (lv_at hl 1 rfl) ?_
    refine lv_sipush (v := 1000) hx hb dX3_run_5 (by decide) ?_
    refine lv_icmp_gt (tgt := 22) hx hb dX3_run_8 (by decide) (fun c_8 => ?_) (fun c_8 => ?_)
    · refine lv_iconst (v := 0) hx hb dX3_run_22 (by decide) ?_
      exact W.iret (v := 0) hx hb hr (fun t9 ht9 hW9 => ⟨jk_ret (show 0 = 0 from rfl), ht9⟩) (fun q h => absurd h List.not_mem_nil) dX3_run_23
    · refine lv_aload_n hx hb dX3_run_11 rfl (lv_at hl 0 rfl) ?_
      refine va_get (D := D) (ci := 3) (v := .ref m0) (C := RX3) (T := TX3) (N := 5) hx hb hts iw_X3_run_X3 hown hK hP 0 rfl rfl 4 (by decide) (hts (.fieldLink RX3 35 "JumpGuard" "machine" "LJumpGuard$Machine;") (List.mem_of_getElem? (l := wsX3_run) (i := 1) rfl)) (fun _ h9 => h9) rfl dX3_run_12 ?_
      refine lv_iload_n hx hb dX3_run_15 rfl (lv_at hl 1 rfl) ?_
      refine jr_i (va_runV (As := [.int n9]) (rest := []) ⟨hx, hb, hml, hown, hts⟩ (c_X1_makeSteps_idle l D cA m0 r0 c0 s0 p0 pc st w n9 hst c_1) (cwV 1 hts gX3_run_X1_makeSteps rfl rfl rfl hv_X1_makeSteps ⟨Nat.le_of_ble_eq_true rfl, Nat.le_of_ble_eq_true rfl⟩) (roP.V (va_recv hK hP (ci := 1) (q0 := 1) rfl rfl) (jP_sub (w2 := [(m0, .inr (1, [.ref r0, .ref c0, .ref s0, .ref p0, .int pc, .int st, .int (nI w)]))]) hP [1] rfl) hK hN) rfl rfl hl.1 rfl (lv_room (Nat.le_of_ble_eq_true rfl)) dX3_run_16 ⟨Nat.le_of_ble_eq_true rfl, Nat.le_of_ble_eq_true rfl⟩) ?_
      refine lv_goto (tgt := 23) hx hb dX3_run_19 (by decide) ?_
      exact W.iret (v := 0) hx hb hr (fun t9 ht9 hW9 => ⟨jk_ret (show 0 = 0 from rfl), ht9⟩) (fun q h => absurd h List.not_mem_nil) dX3_run_23
set_option maxHeartbeats 4000000 in
set_option maxRecDepth 100000 in
theorem c_X3_run_s (l : Launch) (D : va_G) (cA : ClassId) (sz : Nat) (h0 : Nat) (p1 : Nat) (p2 : Nat) (e0 : Nat) (l0 : Nat) (m0 : Nat) (b1 : Nat) (k1 : Nat) (r0 : Nat) (c0 : Nat) (s0 : Nat) (f1 : Nat → Int32) (x : MS) (n9 : Int32) (hwf : mWF f1 k1) (hi : x.2.2.2.2.1 = 0 → x.2.2.2.1 < k1) (hk : k1 ≤ 24) (hw : x.2.2.2.2.2 + 1000 < 1000000) : Met l yX3_run wsX3_run ({ frames := 6, cells := 0, slots := 0, locals := 132 }) (rwP D cA [.ref h0, .int n9] sz [(h0, .inr (3, [.ref p1, .ref p2, .ref e0, .ref l0, .ref m0])), (p1, .inr (2, [.ref b1, .int (nI 24), .int (nI k1)])), (b1, .inl (cA, 72, .inl f1)), (m0, .inr (1, [.ref r0, .ref c0, .ref s0, .ref p1, .int (nI x.2.2.2.1), .int x.2.2.2.2.1, .int (nI x.2.2.2.2.2)])), (r0, .inl (cA, 4, .inl x.1)), (c0, .inl (cA, 16, .inl x.2.1)), (s0, .inl (cA, 8, .inl x.2.2.1))]) (rwI D (va_A [(h0, .inr (3, [.ref p1, .ref p2, .ref e0, .ref l0, .ref m0])), (p1, .inr (2, [.ref b1, .int (nI 24), .int (nI k1)])), (b1, .inl (cA, 72, .inl f1)), (m0, .inr (1, [.ref r0, .ref c0, .ref s0, .ref p1, .int (nI x.2.2.2.1), .int x.2.2.2.2.1, .int (nI x.2.2.2.2.2)])), (r0, .inl (cA, 4, .inl x.1)), (c0, .inl (cA, 16, .inl x.2.1)), (s0, .inl (cA, 8, .inl x.2.2.1))] sz) (nI (mRun f1 k1 (rCnt n9) x).1) [(h0, .inr (3, [.ref p1, .ref p2, .ref e0, .ref l0, .ref m0])), (p1, .inr (2, [.ref b1, .int (nI 24), .int (nI k1)])), (b1, .inl (cA, 72, .inl f1)), (m0, .inr (1, [.ref r0, .ref c0, .ref s0, .ref p1, .int (nI (mRun f1 k1 (rCnt n9) x).2.2.2.2.1), .int ((mRun f1 k1 (rCnt n9) x).2.2.2.2.2.1), .int (nI (mRun f1 k1 (rCnt n9) x).2.2.2.2.2.2)])), (r0, .inl (cA, 4, .inl ((mRun f1 k1 (rCnt n9) x).2.1))), (c0, .inl (cA, 16, .inl ((mRun f1 k1 (rCnt n9) x).2.2.1))), (s0, .inl (cA, 8, .inl ((mRun f1 k1 (rCnt n9) x).2.2.2.1)))]) 0 0 (va_A [(h0, .inr (3, [.ref p1, .ref p2, .ref e0, .ref l0, .ref m0])), (p1, .inr (2, [.ref b1, .int (nI 24), .int (nI k1)])), (b1, .inl (cA, 72, .inl f1)), (m0, .inr (1, [.ref r0, .ref c0, .ref s0, .ref p1, .int (nI x.2.2.2.1), .int x.2.2.2.2.1, .int (nI x.2.2.2.2.2)])), (r0, .inl (cA, 4, .inl x.1)), (c0, .inl (cA, 16, .inl x.2.1)), (s0, .inl (cA, 8, .inl x.2.2.1))] sz) := by
  refine Met.ofW (cc := cX3_run) (maxL := 2) (ret := (some .int)) (by decide) rfl ?_
  intro p e s m args below meth c s₁ B hml hv
  obtain ⟨rfl, hsz, hP, hK, hN, hD0⟩ := hv
  have hx := B.exec
  have hb := B.bytes
  have hr := B.returns
  have hts := atoms_spec (ws := wsX3_run) B.pre
  have hown : s.vm.findClass RX3 = some m.cls := findClass_of_methodNamed B.named
  have hlocks := B.notSynchronized
  subst hsz
  have hD := hD0.self (sz := s.heap.size)
  generalize hAe : va_A [(h0, .inr (3, [.ref p1, .ref p2, .ref e0, .ref l0, .ref m0])), (p1, .inr (2, [.ref b1, .int (nI 24), .int (nI k1)])), (b1, .inl (cA, 72, .inl f1)), (m0, .inr (1, [.ref r0, .ref c0, .ref s0, .ref p1, .int (nI x.2.2.2.1), .int x.2.2.2.2.1, .int (nI x.2.2.2.2.2)])), (r0, .inl (cA, 4, .inl x.1)), (c0, .inl (cA, 16, .inl x.2.1)), (s0, .inl (cA, 8, .inl x.2.2.1))] s.heap.size = A at hD ⊢
  have hA : ∀ q : Nat, s.heap.size ≤ q → A q := fun q h => by rw [← hAe]; exact Or.inr h
  have hS : va_S A s.heap s.heap [] := va_S.rf
  have hl := lv_entry ([.ref h0, .int n9]) (n := 2) (Nat.le_of_ble_eq_true rfl)
  rw [lg_entry_eq]
  generalize (lg_sl ([.ref h0, .int n9]) ++ List.replicate (2 - (lg_sl ([.ref h0, .int n9])).length) Slot.unset).toArray = ls at hl ⊢
  have hl : lv_has ls 2 [(0, .ref h0), (1, .int n9)] := hl
  refine lv_iload_n hx hb dX3_run_0 rfl (lv_at hl 1 rfl) ?_
  refine lv_if_lt (tgt := 22) hx hb dX3_run_1 (by decide) (fun c_1 => ?_) (fun c_1 => ?_)
  · have hr0 : rCnt n9 = 0 := if_neg (fun h => h.1 c_1)
    refine lv_iconst (v := 0) hx hb dX3_run_22 (by decide) ?_
    obtain ⟨hP9, hD9⟩ := jk_end (w2 := [(h0, .inr (3, [.ref p1, .ref p2, .ref e0, .ref l0, .ref m0])), (p1, .inr (2, [.ref b1, .int (nI 24), .int (nI k1)])), (b1, .inl (cA, 72, .inl f1)), (m0, .inr (1, [.ref r0, .ref c0, .ref s0, .ref p1, .int (nI x.2.2.2.1), .int x.2.2.2.2.1, .int (nI x.2.2.2.2.2)])), (r0, .inl (cA, 4, .inl x.1)), (c0, .inl (cA, 16, .inl x.2.1)), (s0, .inl (cA, 8, .inl x.2.2.1))]) hP hD [0, 1, 2, 3, 4, 5, 6] (by decide) rfl
    have e9 : ([(h0, .inr (3, [.ref p1, .ref p2, .ref e0, .ref l0, .ref m0])), (p1, .inr (2, [.ref b1, .int (nI 24), .int (nI k1)])), (b1, .inl (cA, 72, .inl f1)), (m0, .inr (1, [.ref r0, .ref c0, .ref s0, .ref p1, .int (nI x.2.2.2.1), .int x.2.2.2.2.1, .int (nI x.2.2.2.2.2)])), (r0, .inl (cA, 4, .inl x.1)), (c0, .inl (cA, 16, .inl x.2.1)), (s0, .inl (cA, 8, .inl x.2.2.1))] : va_W) = [(h0, .inr (3, [.ref p1, .ref p2, .ref e0, .ref l0, .ref m0])), (p1, .inr (2, [.ref b1, .int (nI 24), .int (nI k1)])), (b1, .inl (cA, 72, .inl f1)), (m0, .inr (1, [.ref r0, .ref c0, .ref s0, .ref p1, .int (nI (mRun f1 k1 (rCnt n9) x).2.2.2.2.1), .int ((mRun f1 k1 (rCnt n9) x).2.2.2.2.2.1), .int (nI (mRun f1 k1 (rCnt n9) x).2.2.2.2.2.2)])), (r0, .inl (cA, 4, .inl ((mRun f1 k1 (rCnt n9) x).2.1))), (c0, .inl (cA, 16, .inl ((mRun f1 k1 (rCnt n9) x).2.2.1))), (s0, .inl (cA, 8, .inl ((mRun f1 k1 (rCnt n9) x).2.2.2.1)))] := (by rw [hr0]; rfl)
    rw [e9] at hP9 hD9
    exact W.iret (v := 0) hx hb hr (fun t9 ht9 hW9 => ⟨⟨_, (), rfl, (show 0 = (nI (mRun f1 k1 (rCnt n9) x).1) from (by rw [hr0]; rfl)), by rw [ht9]; exact hP9, hD9⟩, hS.F ht9⟩) hS.2.2 dX3_run_23
  · refine lv_iload_n hx hb dX3_run_4 rfl (lv_at hl 1 rfl) ?_
    refine lv_sipush (v := 1000) hx hb dX3_run_5 (by decide) ?_
    refine lv_icmp_gt (tgt := 22) hx hb dX3_run_8 (by decide) (fun c_8 => ?_) (fun c_8 => ?_)
    · have hr0 : rCnt n9 = 0 := if_neg (fun h => h.2 c_8)
      refine lv_iconst (v := 0) hx hb dX3_run_22 (by decide) ?_
      obtain ⟨hP9, hD9⟩ := jk_end (w2 := [(h0, .inr (3, [.ref p1, .ref p2, .ref e0, .ref l0, .ref m0])), (p1, .inr (2, [.ref b1, .int (nI 24), .int (nI k1)])), (b1, .inl (cA, 72, .inl f1)), (m0, .inr (1, [.ref r0, .ref c0, .ref s0, .ref p1, .int (nI x.2.2.2.1), .int x.2.2.2.2.1, .int (nI x.2.2.2.2.2)])), (r0, .inl (cA, 4, .inl x.1)), (c0, .inl (cA, 16, .inl x.2.1)), (s0, .inl (cA, 8, .inl x.2.2.1))]) hP hD [0, 1, 2, 3, 4, 5, 6] (by decide) rfl
      have e9 : ([(h0, .inr (3, [.ref p1, .ref p2, .ref e0, .ref l0, .ref m0])), (p1, .inr (2, [.ref b1, .int (nI 24), .int (nI k1)])), (b1, .inl (cA, 72, .inl f1)), (m0, .inr (1, [.ref r0, .ref c0, .ref s0, .ref p1, .int (nI x.2.2.2.1), .int x.2.2.2.2.1, .int (nI x.2.2.2.2.2)])), (r0, .inl (cA, 4, .inl x.1)), (c0, .inl (cA, 16, .inl x.2.1)), (s0, .inl (cA, 8, .inl x.2.2.1))] : va_W) = [(h0, .inr (3, [.ref p1, .ref p2, .ref e0, .ref l0, .ref m0])), (p1, .inr (2, [.ref b1, .int (nI 24), .int (nI k1)])), (b1, .inl (cA, 72, .inl f1)), (m0, .inr (1, [.ref r0, .ref c0, .ref s0, .ref p1, .int (nI (mRun f1 k1 (rCnt n9) x).2.2.2.2.1), .int ((mRun f1 k1 (rCnt n9) x).2.2.2.2.2.1), .int (nI (mRun f1 k1 (rCnt n9) x).2.2.2.2.2.2)])), (r0, .inl (cA, 4, .inl ((mRun f1 k1 (rCnt n9) x).2.1))), (c0, .inl (cA, 16, .inl ((mRun f1 k1 (rCnt n9) x).2.2.1))), (s0, .inl (cA, 8, .inl ((mRun f1 k1 (rCnt n9) x).2.2.2.1)))] := (by rw [hr0]; rfl)
      rw [e9] at hP9 hD9
      exact W.iret (v := 0) hx hb hr (fun t9 ht9 hW9 => ⟨⟨_, (), rfl, (show 0 = (nI (mRun f1 k1 (rCnt n9) x).1) from (by rw [hr0]; rfl)), by rw [ht9]; exact hP9, hD9⟩, hS.F ht9⟩) hS.2.2 dX3_run_23
    · obtain ⟨n8, hn8, rfl⟩ := jN_of (x := n9) (n := 1001) (by decide) (rCnt_in c_1 c_8)
      have hr8 : rCnt (nI n8) = n8 := rCnt_n (by omega)
      refine lv_aload_n hx hb dX3_run_11 rfl (lv_at hl 0 rfl) ?_
      refine va_get (D := D) (ci := 3) (v := .ref m0) (C := RX3) (T := TX3) (N := 5) hx hb hts iw_X3_run_X3 hown hK hP 0 rfl rfl 4 (by decide) (hts (.fieldLink RX3 35 "JumpGuard" "machine" "LJumpGuard$Machine;") (List.mem_of_getElem? (l := wsX3_run) (i := 1) rfl)) (fun _ h9 => h9) rfl dX3_run_12 ?_
      refine lv_iload_n hx hb dX3_run_15 rfl (lv_at hl 1 rfl) ?_
      refine jw_i (va_runV (As := [.int (nI n8)]) (rest := []) ⟨hx, hb, hml, hown, hts⟩ (c_X1_makeSteps l D cA s.heap.size m0 r0 c0 s0 p1 b1 24 k1 72 f1 x n8 hwf hi (by omega) (by omega) (by omega)) (cwV 1 hts gX3_run_X1_makeSteps rfl rfl rfl hv_X1_makeSteps ⟨Nat.le_of_ble_eq_true rfl, Nat.le_of_ble_eq_true rfl⟩) (rwP.V (wc := [(m0, .inr (1, [.ref r0, .ref c0, .ref s0, .ref p1, .int (nI x.2.2.2.1), .int x.2.2.2.2.1, .int (nI x.2.2.2.2.2)])), (r0, .inl (cA, 4, .inl x.1)), (c0, .inl (cA, 16, .inl x.2.1)), (s0, .inl (cA, 8, .inl x.2.2.1)), (p1, .inr (2, [.ref b1, .int (nI 24), .int (nI k1)])), (b1, .inl (cA, 72, .inl f1))]) (va_recv hK hP (ci := 1) (q0 := 3) rfl rfl) hP hD hK hN [3, 4, 5, 6, 1, 2] (by decide) rfl) rfl rfl hl.1 rfl (lv_room (Nat.le_of_ble_eq_true rfl)) dX3_run_16 ⟨Nat.le_of_ble_eq_true rfl, Nat.le_of_ble_eq_true rfl⟩) hP hD hS hA [3, 4, 5, 6, 1, 2] [0] [0, 5, 6, 1, 2, 3, 4] (wr := [(h0, .inr (3, [.ref p1, .ref p2, .ref e0, .ref l0, .ref m0]))]) (w2 := [(h0, .inr (3, [.ref p1, .ref p2, .ref e0, .ref l0, .ref m0])), (p1, .inr (2, [.ref b1, .int (nI 24), .int (nI k1)])), (b1, .inl (cA, 72, .inl f1)), (m0, .inr (1, [.ref r0, .ref c0, .ref s0, .ref p1, .int (nI (mRun f1 k1 n8 x).2.2.2.2.1), .int ((mRun f1 k1 n8 x).2.2.2.2.2.1), .int (nI (mRun f1 k1 n8 x).2.2.2.2.2.2)])), (r0, .inl (cA, 4, .inl ((mRun f1 k1 n8 x).2.1))), (c0, .inl (cA, 16, .inl ((mRun f1 k1 n8 x).2.2.1))), (s0, .inl (cA, 8, .inl ((mRun f1 k1 n8 x).2.2.2.1)))]) rfl rfl (by decide) (by decide) (by decide) rfl (fun H locs hP hD hS => ?_)
      refine lv_goto (tgt := 23) hx hb dX3_run_19 (by decide) ?_
      obtain ⟨hP9, hD9⟩ := jk_end (w2 := [(h0, .inr (3, [.ref p1, .ref p2, .ref e0, .ref l0, .ref m0])), (p1, .inr (2, [.ref b1, .int (nI 24), .int (nI k1)])), (b1, .inl (cA, 72, .inl f1)), (m0, .inr (1, [.ref r0, .ref c0, .ref s0, .ref p1, .int (nI (mRun f1 k1 n8 x).2.2.2.2.1), .int ((mRun f1 k1 n8 x).2.2.2.2.2.1), .int (nI (mRun f1 k1 n8 x).2.2.2.2.2.2)])), (r0, .inl (cA, 4, .inl ((mRun f1 k1 n8 x).2.1))), (c0, .inl (cA, 16, .inl ((mRun f1 k1 n8 x).2.2.1))), (s0, .inl (cA, 8, .inl ((mRun f1 k1 n8 x).2.2.2.1)))]) hP hD [0, 1, 2, 3, 4, 5, 6] (by decide) rfl
      have e9 : ([(h0, .inr (3, [.ref p1, .ref p2, .ref e0, .ref l0, .ref m0])), (p1, .inr (2, [.ref b1, .int (nI 24), .int (nI k1)])), (b1, .inl (cA, 72, .inl f1)), (m0, .inr (1, [.ref r0, .ref c0, .ref s0, .ref p1, .int (nI (mRun f1 k1 n8 x).2.2.2.2.1), .int ((mRun f1 k1 n8 x).2.2.2.2.2.1), .int (nI (mRun f1 k1 n8 x).2.2.2.2.2.2)])), (r0, .inl (cA, 4, .inl ((mRun f1 k1 n8 x).2.1))), (c0, .inl (cA, 16, .inl ((mRun f1 k1 n8 x).2.2.1))), (s0, .inl (cA, 8, .inl ((mRun f1 k1 n8 x).2.2.2.1)))] : va_W) = [(h0, .inr (3, [.ref p1, .ref p2, .ref e0, .ref l0, .ref m0])), (p1, .inr (2, [.ref b1, .int (nI 24), .int (nI k1)])), (b1, .inl (cA, 72, .inl f1)), (m0, .inr (1, [.ref r0, .ref c0, .ref s0, .ref p1, .int (nI (mRun f1 k1 (rCnt (nI n8)) x).2.2.2.2.1), .int ((mRun f1 k1 (rCnt (nI n8)) x).2.2.2.2.2.1), .int (nI (mRun f1 k1 (rCnt (nI n8)) x).2.2.2.2.2.2)])), (r0, .inl (cA, 4, .inl ((mRun f1 k1 (rCnt (nI n8)) x).2.1))), (c0, .inl (cA, 16, .inl ((mRun f1 k1 (rCnt (nI n8)) x).2.2.1))), (s0, .inl (cA, 8, .inl ((mRun f1 k1 (rCnt (nI n8)) x).2.2.2.1)))] := (by rw [hr8])
      rw [e9] at hP9 hD9
      exact W.iret (v := (nI (mRun f1 k1 n8 x).1)) hx hb hr (fun t9 ht9 hW9 => ⟨⟨_, (), rfl, (show (nI (mRun f1 k1 n8 x).1) = (nI (mRun f1 k1 (rCnt (nI n8)) x).1) from (by rw [hr8])), by rw [ht9]; exact hP9, hD9⟩, hS.F ht9⟩) hS.2.2 dX3_run_23
set_option maxHeartbeats 4000000 in
set_option maxRecDepth 100000 in
theorem c_X3_run_g (l : Launch) (D : va_G) (cA : ClassId) (sz : Nat) (h0 : Nat) (p1 : Nat) (p2 : Nat) (e0 : Nat) (l0 : Nat) (m0 : Nat) (b2 : Nat) (k2 : Nat) (r0 : Nat) (c0 : Nat) (s0 : Nat) (f2 : Nat → Int32) (x : MS) (n9 : Int32) (hwf : mWF f2 k2) (hi : x.2.2.2.2.1 = 0 → x.2.2.2.1 < k2) (hk : k2 ≤ 72) (hw : x.2.2.2.2.2 + 1000 < 1000000) : Met l yX3_run wsX3_run ({ frames := 6, cells := 0, slots := 0, locals := 132 }) (rwP D cA [.ref h0, .int n9] sz [(h0, .inr (3, [.ref p1, .ref p2, .ref e0, .ref l0, .ref m0])), (p2, .inr (2, [.ref b2, .int (nI 72), .int (nI k2)])), (b2, .inl (cA, 216, .inl f2)), (m0, .inr (1, [.ref r0, .ref c0, .ref s0, .ref p2, .int (nI x.2.2.2.1), .int x.2.2.2.2.1, .int (nI x.2.2.2.2.2)])), (r0, .inl (cA, 4, .inl x.1)), (c0, .inl (cA, 16, .inl x.2.1)), (s0, .inl (cA, 8, .inl x.2.2.1))]) (rwI D (va_A [(h0, .inr (3, [.ref p1, .ref p2, .ref e0, .ref l0, .ref m0])), (p2, .inr (2, [.ref b2, .int (nI 72), .int (nI k2)])), (b2, .inl (cA, 216, .inl f2)), (m0, .inr (1, [.ref r0, .ref c0, .ref s0, .ref p2, .int (nI x.2.2.2.1), .int x.2.2.2.2.1, .int (nI x.2.2.2.2.2)])), (r0, .inl (cA, 4, .inl x.1)), (c0, .inl (cA, 16, .inl x.2.1)), (s0, .inl (cA, 8, .inl x.2.2.1))] sz) (nI (mRun f2 k2 (rCnt n9) x).1) [(h0, .inr (3, [.ref p1, .ref p2, .ref e0, .ref l0, .ref m0])), (p2, .inr (2, [.ref b2, .int (nI 72), .int (nI k2)])), (b2, .inl (cA, 216, .inl f2)), (m0, .inr (1, [.ref r0, .ref c0, .ref s0, .ref p2, .int (nI (mRun f2 k2 (rCnt n9) x).2.2.2.2.1), .int ((mRun f2 k2 (rCnt n9) x).2.2.2.2.2.1), .int (nI (mRun f2 k2 (rCnt n9) x).2.2.2.2.2.2)])), (r0, .inl (cA, 4, .inl ((mRun f2 k2 (rCnt n9) x).2.1))), (c0, .inl (cA, 16, .inl ((mRun f2 k2 (rCnt n9) x).2.2.1))), (s0, .inl (cA, 8, .inl ((mRun f2 k2 (rCnt n9) x).2.2.2.1)))]) 0 0 (va_A [(h0, .inr (3, [.ref p1, .ref p2, .ref e0, .ref l0, .ref m0])), (p2, .inr (2, [.ref b2, .int (nI 72), .int (nI k2)])), (b2, .inl (cA, 216, .inl f2)), (m0, .inr (1, [.ref r0, .ref c0, .ref s0, .ref p2, .int (nI x.2.2.2.1), .int x.2.2.2.2.1, .int (nI x.2.2.2.2.2)])), (r0, .inl (cA, 4, .inl x.1)), (c0, .inl (cA, 16, .inl x.2.1)), (s0, .inl (cA, 8, .inl x.2.2.1))] sz) := by
  refine Met.ofW (cc := cX3_run) (maxL := 2) (ret := (some .int)) (by decide) rfl ?_
  intro p e s m args below meth c s₁ B hml hv
  obtain ⟨rfl, hsz, hP, hK, hN, hD0⟩ := hv
  have hx := B.exec
  have hb := B.bytes
  have hr := B.returns
  have hts := atoms_spec (ws := wsX3_run) B.pre
  have hown : s.vm.findClass RX3 = some m.cls := findClass_of_methodNamed B.named
  have hlocks := B.notSynchronized
  subst hsz
  have hD := hD0.self (sz := s.heap.size)
  generalize hAe : va_A [(h0, .inr (3, [.ref p1, .ref p2, .ref e0, .ref l0, .ref m0])), (p2, .inr (2, [.ref b2, .int (nI 72), .int (nI k2)])), (b2, .inl (cA, 216, .inl f2)), (m0, .inr (1, [.ref r0, .ref c0, .ref s0, .ref p2, .int (nI x.2.2.2.1), .int x.2.2.2.2.1, .int (nI x.2.2.2.2.2)])), (r0, .inl (cA, 4, .inl x.1)), (c0, .inl (cA, 16, .inl x.2.1)), (s0, .inl (cA, 8, .inl x.2.2.1))] s.heap.size = A at hD ⊢
  have hA : ∀ q : Nat, s.heap.size ≤ q → A q := fun q h => by rw [← hAe]; exact Or.inr h
  have hS : va_S A s.heap s.heap [] := va_S.rf
  have hl := lv_entry ([.ref h0, .int n9]) (n := 2) (Nat.le_of_ble_eq_true rfl)
  rw [lg_entry_eq]
  generalize (lg_sl ([.ref h0, .int n9]) ++ List.replicate (2 - (lg_sl ([.ref h0, .int n9])).length) Slot.unset).toArray = ls at hl ⊢
  have hl : lv_has ls 2 [(0, .ref h0), (1, .int n9)] := hl
  refine lv_iload_n hx hb dX3_run_0 rfl (lv_at hl 1 rfl) ?_
  refine lv_if_lt (tgt := 22) hx hb dX3_run_1 (by decide) (fun c_1 => ?_) (fun c_1 => ?_)
  · have hr0 : rCnt n9 = 0 := if_neg (fun h => h.1 c_1)
    refine lv_iconst (v := 0) hx hb dX3_run_22 (by decide) ?_
    obtain ⟨hP9, hD9⟩ := jk_end (w2 := [(h0, .inr (3, [.ref p1, .ref p2, .ref e0, .ref l0, .ref m0])), (p2, .inr (2, [.ref b2, .int (nI 72), .int (nI k2)])), (b2, .inl (cA, 216, .inl f2)), (m0, .inr (1, [.ref r0, .ref c0, .ref s0, .ref p2, .int (nI x.2.2.2.1), .int x.2.2.2.2.1, .int (nI x.2.2.2.2.2)])), (r0, .inl (cA, 4, .inl x.1)), (c0, .inl (cA, 16, .inl x.2.1)), (s0, .inl (cA, 8, .inl x.2.2.1))]) hP hD [0, 1, 2, 3, 4, 5, 6] (by decide) rfl
    have e9 : ([(h0, .inr (3, [.ref p1, .ref p2, .ref e0, .ref l0, .ref m0])), (p2, .inr (2, [.ref b2, .int (nI 72), .int (nI k2)])), (b2, .inl (cA, 216, .inl f2)), (m0, .inr (1, [.ref r0, .ref c0, .ref s0, .ref p2, .int (nI x.2.2.2.1), .int x.2.2.2.2.1, .int (nI x.2.2.2.2.2)])), (r0, .inl (cA, 4, .inl x.1)), (c0, .inl (cA, 16, .inl x.2.1)), (s0, .inl (cA, 8, .inl x.2.2.1))] : va_W) = [(h0, .inr (3, [.ref p1, .ref p2, .ref e0, .ref l0, .ref m0])), (p2, .inr (2, [.ref b2, .int (nI 72), .int (nI k2)])), (b2, .inl (cA, 216, .inl f2)), (m0, .inr (1, [.ref r0, .ref c0, .ref s0, .ref p2, .int (nI (mRun f2 k2 (rCnt n9) x).2.2.2.2.1), .int ((mRun f2 k2 (rCnt n9) x).2.2.2.2.2.1), .int (nI (mRun f2 k2 (rCnt n9) x).2.2.2.2.2.2)])), (r0, .inl (cA, 4, .inl ((mRun f2 k2 (rCnt n9) x).2.1))), (c0, .inl (cA, 16, .inl ((mRun f2 k2 (rCnt n9) x).2.2.1))), (s0, .inl (cA, 8, .inl ((mRun f2 k2 (rCnt n9) x).2.2.2.1)))] := (by rw [hr0]; rfl)
    rw [e9] at hP9 hD9
    exact W.iret (v := 0) hx hb hr (fun t9 ht9 hW9 => ⟨⟨_, (), rfl, (show 0 = (nI (mRun f2 k2 (rCnt n9) x).1) from (by rw [hr0]; rfl)), by rw [ht9]; exact hP9, hD9⟩, hS.F ht9⟩) hS.2.2 dX3_run_23
  · refine lv_iload_n hx hb dX3_run_4 rfl (lv_at hl 1 rfl) ?_
    refine lv_sipush (v := 1000) hx hb dX3_run_5 (by decide) ?_
    refine lv_icmp_gt (tgt := 22) hx hb dX3_run_8 (by decide) (fun c_8 => ?_) (fun c_8 => ?_)
    · have hr0 : rCnt n9 = 0 := if_neg (fun h => h.2 c_8)
      refine lv_iconst (v := 0) hx hb dX3_run_22 (by decide) ?_
      obtain ⟨hP9, hD9⟩ := jk_end (w2 := [(h0, .inr (3, [.ref p1, .ref p2, .ref e0, .ref l0, .ref m0])), (p2, .inr (2, [.ref b2, .int (nI 72), .int (nI k2)])), (b2, .inl (cA, 216, .inl f2)), (m0, .inr (1, [.ref r0, .ref c0, .ref s0, .ref p2, .int (nI x.2.2.2.1), .int x.2.2.2.2.1, .int (nI x.2.2.2.2.2)])), (r0, .inl (cA, 4, .inl x.1)), (c0, .inl (cA, 16, .inl x.2.1)), (s0, .inl (cA, 8, .inl x.2.2.1))]) hP hD [0, 1, 2, 3, 4, 5, 6] (by decide) rfl
      have e9 : ([(h0, .inr (3, [.ref p1, .ref p2, .ref e0, .ref l0, .ref m0])), (p2, .inr (2, [.ref b2, .int (nI 72), .int (nI k2)])), (b2, .inl (cA, 216, .inl f2)), (m0, .inr (1, [.ref r0, .ref c0, .ref s0, .ref p2, .int (nI x.2.2.2.1), .int x.2.2.2.2.1, .int (nI x.2.2.2.2.2)])), (r0, .inl (cA, 4, .inl x.1)), (c0, .inl (cA, 16, .inl x.2.1)), (s0, .inl (cA, 8, .inl x.2.2.1))] : va_W) = [(h0, .inr (3, [.ref p1, .ref p2, .ref e0, .ref l0, .ref m0])), (p2, .inr (2, [.ref b2, .int (nI 72), .int (nI k2)])), (b2, .inl (cA, 216, .inl f2)), (m0, .inr (1, [.ref r0, .ref c0, .ref s0, .ref p2, .int (nI (mRun f2 k2 (rCnt n9) x).2.2.2.2.1), .int ((mRun f2 k2 (rCnt n9) x).2.2.2.2.2.1), .int (nI (mRun f2 k2 (rCnt n9) x).2.2.2.2.2.2)])), (r0, .inl (cA, 4, .inl ((mRun f2 k2 (rCnt n9) x).2.1))), (c0, .inl (cA, 16, .inl ((mRun f2 k2 (rCnt n9) x).2.2.1))), (s0, .inl (cA, 8, .inl ((mRun f2 k2 (rCnt n9) x).2.2.2.1)))] := (by rw [hr0]; rfl)
      rw [e9] at hP9 hD9
      exact W.iret (v := 0) hx hb hr (fun t9 ht9 hW9 => ⟨⟨_, (), rfl, (show 0 = (nI (mRun f2 k2 (rCnt n9) x).1) from (by rw [hr0]; rfl)), by rw [ht9]; exact hP9, hD9⟩, hS.F ht9⟩) hS.2.2 dX3_run_23
    · obtain ⟨n8, hn8, rfl⟩ := jN_of (x := n9) (n := 1001) (by decide) (rCnt_in c_1 c_8)
      have hr8 : rCnt (nI n8) = n8 := rCnt_n (by omega)
      refine lv_aload_n hx hb dX3_run_11 rfl (lv_at hl 0 rfl) ?_
      refine va_get (D := D) (ci := 3) (v := .ref m0) (C := RX3) (T := TX3) (N := 5) hx hb hts iw_X3_run_X3 hown hK hP 0 rfl rfl 4 (by decide) (hts (.fieldLink RX3 35 "JumpGuard" "machine" "LJumpGuard$Machine;") (List.mem_of_getElem? (l := wsX3_run) (i := 1) rfl)) (fun _ h9 => h9) rfl dX3_run_12 ?_
      refine lv_iload_n hx hb dX3_run_15 rfl (lv_at hl 1 rfl) ?_
      refine jw_i (va_runV (As := [.int (nI n8)]) (rest := []) ⟨hx, hb, hml, hown, hts⟩ (c_X1_makeSteps l D cA s.heap.size m0 r0 c0 s0 p2 b2 72 k2 216 f2 x n8 hwf hi (by omega) (by omega) (by omega)) (cwV 1 hts gX3_run_X1_makeSteps rfl rfl rfl hv_X1_makeSteps ⟨Nat.le_of_ble_eq_true rfl, Nat.le_of_ble_eq_true rfl⟩) (rwP.V (wc := [(m0, .inr (1, [.ref r0, .ref c0, .ref s0, .ref p2, .int (nI x.2.2.2.1), .int x.2.2.2.2.1, .int (nI x.2.2.2.2.2)])), (r0, .inl (cA, 4, .inl x.1)), (c0, .inl (cA, 16, .inl x.2.1)), (s0, .inl (cA, 8, .inl x.2.2.1)), (p2, .inr (2, [.ref b2, .int (nI 72), .int (nI k2)])), (b2, .inl (cA, 216, .inl f2))]) (va_recv hK hP (ci := 1) (q0 := 3) rfl rfl) hP hD hK hN [3, 4, 5, 6, 1, 2] (by decide) rfl) rfl rfl hl.1 rfl (lv_room (Nat.le_of_ble_eq_true rfl)) dX3_run_16 ⟨Nat.le_of_ble_eq_true rfl, Nat.le_of_ble_eq_true rfl⟩) hP hD hS hA [3, 4, 5, 6, 1, 2] [0] [0, 5, 6, 1, 2, 3, 4] (wr := [(h0, .inr (3, [.ref p1, .ref p2, .ref e0, .ref l0, .ref m0]))]) (w2 := [(h0, .inr (3, [.ref p1, .ref p2, .ref e0, .ref l0, .ref m0])), (p2, .inr (2, [.ref b2, .int (nI 72), .int (nI k2)])), (b2, .inl (cA, 216, .inl f2)), (m0, .inr (1, [.ref r0, .ref c0, .ref s0, .ref p2, .int (nI (mRun f2 k2 n8 x).2.2.2.2.1), .int ((mRun f2 k2 n8 x).2.2.2.2.2.1), .int (nI (mRun f2 k2 n8 x).2.2.2.2.2.2)])), (r0, .inl (cA, 4, .inl ((mRun f2 k2 n8 x).2.1))), (c0, .inl (cA, 16, .inl ((mRun f2 k2 n8 x).2.2.1))), (s0, .inl (cA, 8, .inl ((mRun f2 k2 n8 x).2.2.2.1)))]) rfl rfl (by decide) (by decide) (by decide) rfl (fun H locs hP hD hS => ?_)
      refine lv_goto (tgt := 23) hx hb dX3_run_19 (by decide) ?_
      obtain ⟨hP9, hD9⟩ := jk_end (w2 := [(h0, .inr (3, [.ref p1, .ref p2, .ref e0, .ref l0, .ref m0])), (p2, .inr (2, [.ref b2, .int (nI 72), .int (nI k2)])), (b2, .inl (cA, 216, .inl f2)), (m0, .inr (1, [.ref r0, .ref c0, .ref s0, .ref p2, .int (nI (mRun f2 k2 n8 x).2.2.2.2.1), .int ((mRun f2 k2 n8 x).2.2.2.2.2.1), .int (nI (mRun f2 k2 n8 x).2.2.2.2.2.2)])), (r0, .inl (cA, 4, .inl ((mRun f2 k2 n8 x).2.1))), (c0, .inl (cA, 16, .inl ((mRun f2 k2 n8 x).2.2.1))), (s0, .inl (cA, 8, .inl ((mRun f2 k2 n8 x).2.2.2.1)))]) hP hD [0, 1, 2, 3, 4, 5, 6] (by decide) rfl
      have e9 : ([(h0, .inr (3, [.ref p1, .ref p2, .ref e0, .ref l0, .ref m0])), (p2, .inr (2, [.ref b2, .int (nI 72), .int (nI k2)])), (b2, .inl (cA, 216, .inl f2)), (m0, .inr (1, [.ref r0, .ref c0, .ref s0, .ref p2, .int (nI (mRun f2 k2 n8 x).2.2.2.2.1), .int ((mRun f2 k2 n8 x).2.2.2.2.2.1), .int (nI (mRun f2 k2 n8 x).2.2.2.2.2.2)])), (r0, .inl (cA, 4, .inl ((mRun f2 k2 n8 x).2.1))), (c0, .inl (cA, 16, .inl ((mRun f2 k2 n8 x).2.2.1))), (s0, .inl (cA, 8, .inl ((mRun f2 k2 n8 x).2.2.2.1)))] : va_W) = [(h0, .inr (3, [.ref p1, .ref p2, .ref e0, .ref l0, .ref m0])), (p2, .inr (2, [.ref b2, .int (nI 72), .int (nI k2)])), (b2, .inl (cA, 216, .inl f2)), (m0, .inr (1, [.ref r0, .ref c0, .ref s0, .ref p2, .int (nI (mRun f2 k2 (rCnt (nI n8)) x).2.2.2.2.1), .int ((mRun f2 k2 (rCnt (nI n8)) x).2.2.2.2.2.1), .int (nI (mRun f2 k2 (rCnt (nI n8)) x).2.2.2.2.2.2)])), (r0, .inl (cA, 4, .inl ((mRun f2 k2 (rCnt (nI n8)) x).2.1))), (c0, .inl (cA, 16, .inl ((mRun f2 k2 (rCnt (nI n8)) x).2.2.1))), (s0, .inl (cA, 8, .inl ((mRun f2 k2 (rCnt (nI n8)) x).2.2.2.1)))] := (by rw [hr8])
      rw [e9] at hP9 hD9
      exact W.iret (v := (nI (mRun f2 k2 n8 x).1)) hx hb hr (fun t9 ht9 hW9 => ⟨⟨_, (), rfl, (show (nI (mRun f2 k2 n8 x).1) = (nI (mRun f2 k2 (rCnt (nI n8)) x).1) from (by rw [hr8])), by rw [ht9]; exact hP9, hD9⟩, hS.F ht9⟩) hS.2.2 dX3_run_23
end
