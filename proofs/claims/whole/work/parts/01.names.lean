-- ===== PART A: goes FIRST, ahead of the names: the tables' words, and 'selects' of the private methods out of them =====
/-- a private method of a class that the tables say can be made, by its rows of tables_1 -/
def lw_okq (q : MethodName × Nat) : Prop := (q.1.cls ≠ "java/lang/invoke/MethodHandle" ∧ q.1.cls ≠ "java/lang/invoke/VarHandle") ∧ Cond.instantiable q.1.cls q.2 ∈ tables_1 ∧ Cond.privateMethod q.1 ∈ tables_1 ∧ Cond.instanceMethod q.1 ∈ tables_1
theorem lw_p0 : lw_okq (⟨"JumpGuard", "dropGuarded", "()V"⟩, 5) := ⟨⟨by decide +kernel, by decide +kernel⟩, List.mem_of_getElem? (i := 9) (by decide +kernel), List.mem_of_getElem? (i := 137) (by decide +kernel), List.mem_of_getElem? (i := 138) (by decide +kernel)⟩
theorem lw_p1 : lw_okq (⟨"JumpGuard$Edges", "joinClasses", "(II)V"⟩, 4) := ⟨⟨by decide +kernel, by decide +kernel⟩, List.mem_of_getElem? (i := 40) (by decide +kernel), List.mem_of_getElem? (i := 167) (by decide +kernel), List.mem_of_getElem? (i := 168) (by decide +kernel)⟩
theorem lw_p2 : lw_okq (⟨"JumpGuard", "isClosed", "()Z"⟩, 5) := ⟨⟨by decide +kernel, by decide +kernel⟩, List.mem_of_getElem? (i := 9) (by decide +kernel), List.mem_of_getElem? (i := 188) (by decide +kernel), List.mem_of_getElem? (i := 189) (by decide +kernel)⟩
theorem lw_p3 : lw_okq (⟨"JumpGuard", "hasItsAddress", "(I)Z"⟩, 5) := ⟨⟨by decide +kernel, by decide +kernel⟩, List.mem_of_getElem? (i := 9) (by decide +kernel), List.mem_of_getElem? (i := 192) (by decide +kernel), List.mem_of_getElem? (i := 193) (by decide +kernel)⟩
theorem lw_p4 : lw_okq (⟨"JumpGuard", "setPlaces", "()V"⟩, 5) := ⟨⟨by decide +kernel, by decide +kernel⟩, List.mem_of_getElem? (i := 9) (by decide +kernel), List.mem_of_getElem? (i := 199) (by decide +kernel), List.mem_of_getElem? (i := 200) (by decide +kernel)⟩
theorem lw_p5 : lw_okq (⟨"JumpGuard", "appendGuarded", "(I)V"⟩, 5) := ⟨⟨by decide +kernel, by decide +kernel⟩, List.mem_of_getElem? (i := 9) (by decide +kernel), List.mem_of_getElem? (i := 204) (by decide +kernel), List.mem_of_getElem? (i := 205) (by decide +kernel)⟩
theorem lw_p6 : lw_okq (⟨"JumpGuard", "placeOf", "(I)I"⟩, 5) := ⟨⟨by decide +kernel, by decide +kernel⟩, List.mem_of_getElem? (i := 9) (by decide +kernel), List.mem_of_getElem? (i := 209) (by decide +kernel), List.mem_of_getElem? (i := 210) (by decide +kernel)⟩
theorem lw_p7 : lw_okq (⟨"JumpGuard", "isGuarded", "()Z"⟩, 5) := ⟨⟨by decide +kernel, by decide +kernel⟩, List.mem_of_getElem? (i := 9) (by decide +kernel), List.mem_of_getElem? (i := 225) (by decide +kernel), List.mem_of_getElem? (i := 226) (by decide +kernel)⟩
theorem lw_p8 : lw_okq (⟨"JumpGuard$Machine", "makeStep", "()V"⟩, 7) := ⟨⟨by decide +kernel, by decide +kernel⟩, List.mem_of_getElem? (i := 59) (by decide +kernel), List.mem_of_getElem? (i := 252) (by decide +kernel), List.mem_of_getElem? (i := 253) (by decide +kernel)⟩
theorem lw_p9 : lw_okq (⟨"JumpGuard$Machine", "carryOut", "(III)I"⟩, 7) := ⟨⟨by decide +kernel, by decide +kernel⟩, List.mem_of_getElem? (i := 59) (by decide +kernel), List.mem_of_getElem? (i := 257) (by decide +kernel), List.mem_of_getElem? (i := 258) (by decide +kernel)⟩
theorem lw_p10 : lw_okq (⟨"JumpGuard$Machine", "setRegister", "(II)V"⟩, 7) := ⟨⟨by decide +kernel, by decide +kernel⟩, List.mem_of_getElem? (i := 59) (by decide +kernel), List.mem_of_getElem? (i := 261) (by decide +kernel), List.mem_of_getElem? (i := 262) (by decide +kernel)⟩
theorem lw_p11 : lw_okq (⟨"JumpGuard$Machine", "keepShown", "(I)V"⟩, 7) := ⟨⟨by decide +kernel, by decide +kernel⟩, List.mem_of_getElem? (i := 59) (by decide +kernel), List.mem_of_getElem? (i := 279) (by decide +kernel), List.mem_of_getElem? (i := 280) (by decide +kernel)⟩
theorem lw_p12 : lw_okq (⟨"JumpGuard$Machine", "jumpTo", "(I)I"⟩, 7) := ⟨⟨by decide +kernel, by decide +kernel⟩, List.mem_of_getElem? (i := 59) (by decide +kernel), List.mem_of_getElem? (i := 283) (by decide +kernel), List.mem_of_getElem? (i := 284) (by decide +kernel)⟩
theorem lw_p13 : lw_okq (⟨"JumpGuard$Machine", "checkLabel", "(II)V"⟩, 7) := ⟨⟨by decide +kernel, by decide +kernel⟩, List.mem_of_getElem? (i := 59) (by decide +kernel), List.mem_of_getElem? (i := 288) (by decide +kernel), List.mem_of_getElem? (i := 289) (by decide +kernel)⟩
theorem lw_p14 : lw_okq (⟨"JumpGuardModel", "undo", "()V"⟩, 17) := ⟨⟨by decide +kernel, by decide +kernel⟩, List.mem_of_getElem? (i := 331) (by decide +kernel), List.mem_of_getElem? (i := 399) (by decide +kernel), List.mem_of_getElem? (i := 400) (by decide +kernel)⟩
theorem lw_p15 : lw_okq (⟨"JumpGuardModel", "whole", "()Z"⟩, 17) := ⟨⟨by decide +kernel, by decide +kernel⟩, List.mem_of_getElem? (i := 331) (by decide +kernel), List.mem_of_getElem? (i := 411) (by decide +kernel), List.mem_of_getElem? (i := 412) (by decide +kernel)⟩
def lw_privs_1 : List (MethodName × Nat) := [(⟨"JumpGuard", "dropGuarded", "()V"⟩, 5), (⟨"JumpGuard$Edges", "joinClasses", "(II)V"⟩, 4), (⟨"JumpGuard", "isClosed", "()Z"⟩, 5), (⟨"JumpGuard", "hasItsAddress", "(I)Z"⟩, 5), (⟨"JumpGuard", "setPlaces", "()V"⟩, 5), (⟨"JumpGuard", "appendGuarded", "(I)V"⟩, 5), (⟨"JumpGuard", "placeOf", "(I)I"⟩, 5), (⟨"JumpGuard", "isGuarded", "()Z"⟩, 5), (⟨"JumpGuard$Machine", "makeStep", "()V"⟩, 7), (⟨"JumpGuard$Machine", "carryOut", "(III)I"⟩, 7), (⟨"JumpGuard$Machine", "setRegister", "(II)V"⟩, 7), (⟨"JumpGuard$Machine", "keepShown", "(I)V"⟩, 7), (⟨"JumpGuard$Machine", "jumpTo", "(I)I"⟩, 7), (⟨"JumpGuard$Machine", "checkLabel", "(II)V"⟩, 7), (⟨"JumpGuardModel", "undo", "()V"⟩, 17), (⟨"JumpGuardModel", "whole", "()Z"⟩, 17)]
theorem lw_r1 : ∀ q ∈ lw_privs_1, lw_okq q := List.forall_mem_cons.mpr ⟨lw_p0, List.forall_mem_cons.mpr ⟨lw_p1, List.forall_mem_cons.mpr ⟨lw_p2, List.forall_mem_cons.mpr ⟨lw_p3, List.forall_mem_cons.mpr ⟨lw_p4, List.forall_mem_cons.mpr ⟨lw_p5, List.forall_mem_cons.mpr ⟨lw_p6, List.forall_mem_cons.mpr ⟨lw_p7, List.forall_mem_cons.mpr ⟨lw_p8, List.forall_mem_cons.mpr ⟨lw_p9, List.forall_mem_cons.mpr ⟨lw_p10, List.forall_mem_cons.mpr ⟨lw_p11, List.forall_mem_cons.mpr ⟨lw_p12, List.forall_mem_cons.mpr ⟨lw_p13, List.forall_mem_cons.mpr ⟨lw_p14, List.forall_mem_cons.mpr ⟨lw_p15, fun _ h => absurd h List.not_mem_nil⟩⟩⟩⟩⟩⟩⟩⟩⟩⟩⟩⟩⟩⟩⟩⟩
theorem lw_p16 : lw_okq (⟨"JumpGuardModel", "classes", "()V"⟩, 17) := ⟨⟨by decide +kernel, by decide +kernel⟩, List.mem_of_getElem? (i := 331) (by decide +kernel), List.mem_of_getElem? (i := 415) (by decide +kernel), List.mem_of_getElem? (i := 416) (by decide +kernel)⟩
theorem lw_p17 : lw_okq (⟨"JumpGuardModel", "put", "(III)V"⟩, 17) := ⟨⟨by decide +kernel, by decide +kernel⟩, List.mem_of_getElem? (i := 331) (by decide +kernel), List.mem_of_getElem? (i := 419) (by decide +kernel), List.mem_of_getElem? (i := 420) (by decide +kernel)⟩
theorem lw_p18 : lw_okq (⟨"JumpGuardModel", "step", "()V"⟩, 17) := ⟨⟨by decide +kernel, by decide +kernel⟩, List.mem_of_getElem? (i := 331) (by decide +kernel), List.mem_of_getElem? (i := 447) (by decide +kernel), List.mem_of_getElem? (i := 448) (by decide +kernel)⟩
def lw_privs_2 : List (MethodName × Nat) := [(⟨"JumpGuardModel", "classes", "()V"⟩, 17), (⟨"JumpGuardModel", "put", "(III)V"⟩, 17), (⟨"JumpGuardModel", "step", "()V"⟩, 17)]
theorem lw_r2 : ∀ q ∈ lw_privs_2, lw_okq q := List.forall_mem_cons.mpr ⟨lw_p16, List.forall_mem_cons.mpr ⟨lw_p17, List.forall_mem_cons.mpr ⟨lw_p18, fun _ h => absurd h List.not_mem_nil⟩⟩⟩
def lw_privs : List (MethodName × Nat) := lw_privs_1 ++ (lw_privs_2)
def lw_tbl : List Cond := k2_sels lw_privs ++ tables_1
theorem lw_privs_ok : ∀ q ∈ lw_privs, lw_okq q := by
  show ∀ q ∈ lw_privs_1 ++ (lw_privs_2), lw_okq q
  exact List.forall_mem_append.mpr ⟨lw_r1, lw_r2⟩
/-! ===== BEGIN words of one list among another's, by their places ===== -/
theorem goodIn_r {big : List Cond} (ws : List Cond) (ps : List Nat) (hp : ws = ps.filterMap (fun i => big[i]?)) (h : ws.all goodWord = true) : GoodIn big ws := by
  intro w hw
  have h1 := List.all_eq_true.mp h w hw
  rw [hp] at hw
  obtain ⟨i, -, hi⟩ := List.mem_filterMap.mp hw
  have hm : w ∈ big := by first | exact List.mem_of_getElem? hi | exact List.getElem?_mem hi
  exact ⟨hm, good_of_word h1⟩
theorem goodIn_app {big a b : List Cond} (ha : GoodIn big a) (hb : GoodIn big b) : GoodIn big (a ++ b) := fun w h => (List.mem_append.mp h).elim (ha w) (hb w)
theorem goodIn_ca {big a b : List Cond} {c : Cond} (ha : GoodIn big (c :: a)) (hb : GoodIn big b) : GoodIn big (c :: (a ++ b)) := fun w h => (List.mem_cons.mp h).elim (fun e => ha w (List.mem_cons.mpr (Or.inl e))) (fun h => (List.mem_append.mp h).elim (fun h => ha w (List.mem_cons.mpr (Or.inr h))) (hb w))
theorem goodIn_sub {big ws : List Cond} (hm : ∀ w ∈ ws, w ∈ big) (h : ws.all goodWord = true) : GoodIn big ws := fun w hw => ⟨hm w hw, good_of_word (List.all_eq_true.mp h w hw)⟩
/-! ===== END ===== -/

/-! ===== BEGIN printed: names, fields, word lists, decode rows ===== -/
def RX0 : String := "JumpGuard$Edges"
def TX0 : u_T := fun k => match k with
  | 0 => ("JumpGuard$Edges", "targets", "[I", true)
  | 1 => ("JumpGuard$Edges", "targetNumbers", "[I", true)
  | 2 => ("JumpGuard$Edges", "jumpNumbers", "[I", true)
  | _ => ("JumpGuard$Edges", "count", "I", false)
def tyX0 : Nat → FieldType := fun k => match k with
  | 0 => .array .int
  | 1 => .array .int
  | 2 => .array .int
  | _ => .int
abbrev wsX00 : List Cond := u_ws RX0 TX0 4
theorem nmX0 : ∀ a, a < 4 → ∀ b, b < 4 → a ≠ b → (TX0 a).2.1 ≠ (TX0 b).2.1 := by decide +kernel
theorem tyX0_ok : ∀ k, k < 4 → parseFieldDescriptor (TX0 k).2.2.1 = some (tyX0 k) := by decide +kernel
abbrev cX0_init : ByteArray := prog_2_method_1_code
def yX0_init : MethodName := ⟨RX0, "<init>", "()V"⟩
abbrev cX0_connect : ByteArray := prog_2_method_2_code
def yX0_connect : MethodName := ⟨RX0, "connect", "(II)Z"⟩
abbrev cX0_numberOfTarget : ByteArray := prog_2_method_3_code
def yX0_numberOfTarget : MethodName := ⟨RX0, "numberOfTarget", "(I)I"⟩
abbrev cX0_numberOfJump : ByteArray := prog_2_method_4_code
def yX0_numberOfJump : MethodName := ⟨RX0, "numberOfJump", "(I)I"⟩
abbrev cX0_joinClasses : ByteArray := prog_2_method_5_code
def yX0_joinClasses : MethodName := ⟨RX0, "joinClasses", "(II)V"⟩
abbrev cX0_renumber : ByteArray := prog_2_method_6_code
def yX0_renumber : MethodName := ⟨RX0, "renumber", "([III)V"⟩
def RX1 : String := "JumpGuard$Machine"
def TX1 : u_T := fun k => match k with
  | 0 => ("JumpGuard$Machine", "registers", "[I", true)
  | 1 => ("JumpGuard$Machine", "cells", "[I", true)
  | 2 => ("JumpGuard$Machine", "lastShown", "[I", true)
  | 3 => ("JumpGuard$Machine", "program", "LJumpGuard$Program;", false)
  | 4 => ("JumpGuard$Machine", "counter", "I", false)
  | 5 => ("JumpGuard$Machine", "condition", "I", false)
  | _ => ("JumpGuard$Machine", "showCount", "I", false)
def tyX1 : Nat → FieldType := fun k => match k with
  | 0 => .array .int
  | 1 => .array .int
  | 2 => .array .int
  | 3 => .object "JumpGuard$Program"
  | 4 => .int
  | 5 => .int
  | _ => .int
abbrev wsX10 : List Cond := u_ws RX1 TX1 7
theorem nmX1 : ∀ a, a < 7 → ∀ b, b < 7 → a ≠ b → (TX1 a).2.1 ≠ (TX1 b).2.1 := by decide +kernel
theorem tyX1_ok : ∀ k, k < 7 → parseFieldDescriptor (TX1 k).2.2.1 = some (tyX1 k) := by decide +kernel
abbrev cX1_init : ByteArray := prog_3_method_1_code
def yX1_init : MethodName := ⟨RX1, "<init>", "()V"⟩
abbrev cX1_begin : ByteArray := prog_3_method_2_code
def yX1_begin : MethodName := ⟨RX1, "begin", "(LJumpGuard$Program;)V"⟩
abbrev cX1_stop : ByteArray := prog_3_method_3_code
def yX1_stop : MethodName := ⟨RX1, "stop", "()V"⟩
abbrev cX1_isIdle : ByteArray := prog_3_method_4_code
def yX1_isIdle : MethodName := ⟨RX1, "isIdle", "()Z"⟩
abbrev cX1_makeSteps : ByteArray := prog_3_method_5_code
def yX1_makeSteps : MethodName := ⟨RX1, "makeSteps", "(I)I"⟩
abbrev cX1_registerValue : ByteArray := prog_3_method_6_code
def yX1_registerValue : MethodName := ⟨RX1, "registerValue", "(I)I"⟩
abbrev cX1_cellValue : ByteArray := prog_3_method_7_code
def yX1_cellValue : MethodName := ⟨RX1, "cellValue", "(I)I"⟩
abbrev cX1_setCell : ByteArray := prog_3_method_8_code
def yX1_setCell : MethodName := ⟨RX1, "setCell", "(II)V"⟩
abbrev cX1_shownBefore : ByteArray := prog_3_method_9_code
def yX1_shownBefore : MethodName := ⟨RX1, "shownBefore", "(I)I"⟩
abbrev cX1_makeStep : ByteArray := prog_3_method_10_code
def yX1_makeStep : MethodName := ⟨RX1, "makeStep", "()V"⟩
abbrev cX1_carryOut : ByteArray := prog_3_method_11_code
def yX1_carryOut : MethodName := ⟨RX1, "carryOut", "(III)I"⟩
abbrev cX1_setRegister : ByteArray := prog_3_method_12_code
def yX1_setRegister : MethodName := ⟨RX1, "setRegister", "(II)V"⟩
abbrev cX1_keepShown : ByteArray := prog_3_method_13_code
def yX1_keepShown : MethodName := ⟨RX1, "keepShown", "(I)V"⟩
abbrev cX1_jumpTo : ByteArray := prog_3_method_14_code
def yX1_jumpTo : MethodName := ⟨RX1, "jumpTo", "(I)I"⟩
abbrev cX1_checkLabel : ByteArray := prog_3_method_15_code
def yX1_checkLabel : MethodName := ⟨RX1, "checkLabel", "(II)V"⟩
def RX2 : String := "JumpGuard$Program"
def TX2 : u_T := fun k => match k with
  | 0 => ("JumpGuard$Program", "numbers", "[I", true)
  | 1 => ("JumpGuard$Program", "most", "I", true)
  | _ => ("JumpGuard$Program", "count", "I", false)
def tyX2 : Nat → FieldType := fun k => match k with
  | 0 => .array .int
  | 1 => .int
  | _ => .int
abbrev wsX20 : List Cond := u_ws RX2 TX2 3
theorem nmX2 : ∀ a, a < 3 → ∀ b, b < 3 → a ≠ b → (TX2 a).2.1 ≠ (TX2 b).2.1 := by decide +kernel
theorem tyX2_ok : ∀ k, k < 3 → parseFieldDescriptor (TX2 k).2.2.1 = some (tyX2 k) := by decide +kernel
abbrev cX2_init : ByteArray := prog_4_method_1_code
def yX2_init : MethodName := ⟨RX2, "<init>", "(I)V"⟩
abbrev cX2_length : ByteArray := prog_4_method_2_code
def yX2_length : MethodName := ⟨RX2, "length", "()I"⟩
abbrev cX2_isFull : ByteArray := prog_4_method_3_code
def yX2_isFull : MethodName := ⟨RX2, "isFull", "()Z"⟩
abbrev cX2_has : ByteArray := prog_4_method_4_code
def yX2_has : MethodName := ⟨RX2, "has", "(I)Z"⟩
abbrev cX2_get : ByteArray := prog_4_method_5_code
def yX2_get : MethodName := ⟨RX2, "get", "(II)I"⟩
abbrev cX2_append : ByteArray := prog_4_method_6_code
def yX2_append : MethodName := ⟨RX2, "append", "(III)V"⟩
abbrev cX2_clear : ByteArray := prog_4_method_7_code
def yX2_clear : MethodName := ⟨RX2, "clear", "()V"⟩
def RX3 : String := "JumpGuard"
def TX3 : u_T := fun k => match k with
  | 0 => ("JumpGuard", "sourceProgram", "LJumpGuard$Program;", true)
  | 1 => ("JumpGuard", "guardedProgram", "LJumpGuard$Program;", true)
  | 2 => ("JumpGuard", "edges", "LJumpGuard$Edges;", true)
  | 3 => ("JumpGuard", "places", "[I", true)
  | _ => ("JumpGuard", "machine", "LJumpGuard$Machine;", true)
def tyX3 : Nat → FieldType := fun k => match k with
  | 0 => .object "JumpGuard$Program"
  | 1 => .object "JumpGuard$Program"
  | 2 => .object "JumpGuard$Edges"
  | 3 => .array .int
  | _ => .object "JumpGuard$Machine"
abbrev wsX30 : List Cond := u_ws RX3 TX3 5
theorem nmX3 : ∀ a, a < 5 → ∀ b, b < 5 → a ≠ b → (TX3 a).2.1 ≠ (TX3 b).2.1 := by decide +kernel
theorem tyX3_ok : ∀ k, k < 5 → parseFieldDescriptor (TX3 k).2.2.1 = some (tyX3 k) := by decide +kernel
abbrev cX3_init : ByteArray := prog_1_method_1_code
def yX3_init : MethodName := ⟨RX3, "<init>", "()V"⟩
abbrev cX3_add : ByteArray := prog_1_method_2_code
def yX3_add : MethodName := ⟨RX3, "add", "(III)I"⟩
abbrev cX3_allow : ByteArray := prog_1_method_3_code
def yX3_allow : MethodName := ⟨RX3, "allow", "(II)Z"⟩
abbrev cX3_protect : ByteArray := prog_1_method_4_code
def yX3_protect : MethodName := ⟨RX3, "protect", "()I"⟩
abbrev cX3_source : ByteArray := prog_1_method_5_code
def yX3_source : MethodName := ⟨RX3, "source", "(II)I"⟩
abbrev cX3_guarded : ByteArray := prog_1_method_6_code
def yX3_guarded : MethodName := ⟨RX3, "guarded", "(II)I"⟩
abbrev cX3_place : ByteArray := prog_1_method_7_code
def yX3_place : MethodName := ⟨RX3, "place", "(I)I"⟩
abbrev cX3_label : ByteArray := prog_1_method_8_code
def yX3_label : MethodName := ⟨RX3, "label", "(I)I"⟩
abbrev cX3_start : ByteArray := prog_1_method_9_code
def yX3_start : MethodName := ⟨RX3, "start", "(Z)Z"⟩
abbrev cX3_run : ByteArray := prog_1_method_10_code
def yX3_run : MethodName := ⟨RX3, "run", "(I)I"⟩
abbrev cX3_state : ByteArray := prog_1_method_11_code
def yX3_state : MethodName := ⟨RX3, "state", "()I"⟩
abbrev cX3_overwrite : ByteArray := prog_1_method_12_code
def yX3_overwrite : MethodName := ⟨RX3, "overwrite", "(II)Z"⟩
abbrev cX3_memory : ByteArray := prog_1_method_13_code
def yX3_memory : MethodName := ⟨RX3, "memory", "(I)I"⟩
abbrev cX3_register : ByteArray := prog_1_method_14_code
def yX3_register : MethodName := ⟨RX3, "register", "(I)I"⟩
abbrev cX3_pc : ByteArray := prog_1_method_15_code
def yX3_pc : MethodName := ⟨RX3, "pc", "()I"⟩
abbrev cX3_shows : ByteArray := prog_1_method_16_code
def yX3_shows : MethodName := ⟨RX3, "shows", "()I"⟩
abbrev cX3_shown : ByteArray := prog_1_method_17_code
def yX3_shown : MethodName := ⟨RX3, "shown", "(I)I"⟩
abbrev cX3_isSourceInstruction : ByteArray := prog_1_method_18_code
def yX3_isSourceInstruction : MethodName := ⟨RX3, "isSourceInstruction", "(III)Z"⟩
abbrev cX3_isRegister : ByteArray := prog_1_method_19_code
def yX3_isRegister : MethodName := ⟨RX3, "isRegister", "(I)Z"⟩
abbrev cX3_isCell : ByteArray := prog_1_method_20_code
def yX3_isCell : MethodName := ⟨RX3, "isCell", "(I)Z"⟩
abbrev cX3_isAddress : ByteArray := prog_1_method_21_code
def yX3_isAddress : MethodName := ⟨RX3, "isAddress", "(I)Z"⟩
abbrev cX3_holdsAddressInB : ByteArray := prog_1_method_22_code
def yX3_holdsAddressInB : MethodName := ⟨RX3, "holdsAddressInB", "(I)Z"⟩
abbrev cX3_isGuarded : ByteArray := prog_1_method_23_code
def yX3_isGuarded : MethodName := ⟨RX3, "isGuarded", "()Z"⟩
abbrev cX3_dropGuarded : ByteArray := prog_1_method_24_code
def yX3_dropGuarded : MethodName := ⟨RX3, "dropGuarded", "()V"⟩
abbrev cX3_isClosed : ByteArray := prog_1_method_25_code
def yX3_isClosed : MethodName := ⟨RX3, "isClosed", "()Z"⟩
abbrev cX3_hasItsAddress : ByteArray := prog_1_method_26_code
def yX3_hasItsAddress : MethodName := ⟨RX3, "hasItsAddress", "(I)Z"⟩
abbrev cX3_setPlaces : ByteArray := prog_1_method_27_code
def yX3_setPlaces : MethodName := ⟨RX3, "setPlaces", "()V"⟩
abbrev cX3_placeOf : ByteArray := prog_1_method_28_code
def yX3_placeOf : MethodName := ⟨RX3, "placeOf", "(I)I"⟩
abbrev cX3_appendGuarded : ByteArray := prog_1_method_29_code
def yX3_appendGuarded : MethodName := ⟨RX3, "appendGuarded", "(I)V"⟩
def RX4 : String := "JumpGuardModel"
def TX4 : u_T := fun k => match k with
  | 0 => ("JumpGuardModel", "code", "[I", true)
  | 1 => ("JumpGuardModel", "n", "I", false)
  | 2 => ("JumpGuardModel", "size", "I", false)
  | 3 => ("JumpGuardModel", "jump", "[I", true)
  | 4 => ("JumpGuardModel", "end", "[I", true)
  | 5 => ("JumpGuardModel", "edges", "I", false)
  | 6 => ("JumpGuardModel", "ofTarget", "[I", true)
  | 7 => ("JumpGuardModel", "ofJump", "[I", true)
  | 8 => ("JumpGuardModel", "at", "[I", true)
  | 9 => ("JumpGuardModel", "reg", "[I", true)
  | 10 => ("JumpGuardModel", "mem", "[I", true)
  | 11 => ("JumpGuardModel", "told", "[I", true)
  | 12 => ("JumpGuardModel", "pc", "I", false)
  | 13 => ("JumpGuardModel", "state", "I", false)
  | 14 => ("JumpGuardModel", "shows", "I", false)
  | 15 => ("JumpGuardModel", "base", "I", false)
  | _ => ("JumpGuardModel", "length", "I", false)
def tyX4 : Nat → FieldType := fun k => match k with
  | 0 => .array .int
  | 1 => .int
  | 2 => .int
  | 3 => .array .int
  | 4 => .array .int
  | 5 => .int
  | 6 => .array .int
  | 7 => .array .int
  | 8 => .array .int
  | 9 => .array .int
  | 10 => .array .int
  | 11 => .array .int
  | 12 => .int
  | 13 => .int
  | 14 => .int
  | 15 => .int
  | _ => .int
abbrev wsX40 : List Cond := u_ws RX4 TX4 17
theorem nmX4 : ∀ a, a < 17 → ∀ b, b < 17 → a ≠ b → (TX4 a).2.1 ≠ (TX4 b).2.1 := by decide +kernel
theorem tyX4_ok : ∀ k, k < 17 → parseFieldDescriptor (TX4 k).2.2.1 = some (tyX4 k) := by decide +kernel
abbrev cX4_init : ByteArray := prog_6_method_1_code
def yX4_init : MethodName := ⟨RX4, "<init>", "()V"⟩
abbrev cX4_within : ByteArray := prog_6_method_2_code
def yX4_within : MethodName := ⟨RX4, "within", "(II)Z"⟩
abbrev cX4_fits : ByteArray := prog_6_method_3_code
def yX4_fits : MethodName := ⟨RX4, "fits", "(III)Z"⟩
abbrev cX4_undo : ByteArray := prog_6_method_4_code
def yX4_undo : MethodName := ⟨RX4, "undo", "()V"⟩
abbrev cX4_add : ByteArray := prog_6_method_5_code
def yX4_add : MethodName := ⟨RX4, "add", "(III)I"⟩
abbrev cX4_allow : ByteArray := prog_6_method_6_code
def yX4_allow : MethodName := ⟨RX4, "allow", "(II)Z"⟩
abbrev cX4_classes : ByteArray := prog_6_method_7_code
def yX4_classes : MethodName := ⟨RX4, "classes", "()V"⟩
abbrev cX4_whole : ByteArray := prog_6_method_8_code
def yX4_whole : MethodName := ⟨RX4, "whole", "()Z"⟩
abbrev cX4_put : ByteArray := prog_6_method_9_code
def yX4_put : MethodName := ⟨RX4, "put", "(III)V"⟩
abbrev cX4_protect : ByteArray := prog_6_method_10_code
def yX4_protect : MethodName := ⟨RX4, "protect", "()I"⟩
abbrev cX4_source : ByteArray := prog_6_method_11_code
def yX4_source : MethodName := ⟨RX4, "source", "(II)I"⟩
abbrev cX4_guarded : ByteArray := prog_6_method_12_code
def yX4_guarded : MethodName := ⟨RX4, "guarded", "(II)I"⟩
abbrev cX4_place : ByteArray := prog_6_method_13_code
def yX4_place : MethodName := ⟨RX4, "place", "(I)I"⟩
abbrev cX4_label : ByteArray := prog_6_method_14_code
def yX4_label : MethodName := ⟨RX4, "label", "(I)I"⟩
abbrev cX4_start : ByteArray := prog_6_method_15_code
def yX4_start : MethodName := ⟨RX4, "start", "(Z)Z"⟩
abbrev cX4_step : ByteArray := prog_6_method_16_code
def yX4_step : MethodName := ⟨RX4, "step", "()V"⟩
abbrev cX4_run : ByteArray := prog_6_method_17_code
def yX4_run : MethodName := ⟨RX4, "run", "(I)I"⟩
abbrev cX4_state : ByteArray := prog_6_method_18_code
def yX4_state : MethodName := ⟨RX4, "state", "()I"⟩
abbrev cX4_overwrite : ByteArray := prog_6_method_19_code
def yX4_overwrite : MethodName := ⟨RX4, "overwrite", "(II)Z"⟩
abbrev cX4_memory : ByteArray := prog_6_method_20_code
def yX4_memory : MethodName := ⟨RX4, "memory", "(I)I"⟩
abbrev cX4_register : ByteArray := prog_6_method_21_code
def yX4_register : MethodName := ⟨RX4, "register", "(I)I"⟩
abbrev cX4_pc : ByteArray := prog_6_method_22_code
def yX4_pc : MethodName := ⟨RX4, "pc", "()I"⟩
abbrev cX4_shows : ByteArray := prog_6_method_23_code
def yX4_shows : MethodName := ⟨RX4, "shows", "()I"⟩
abbrev cX4_shown : ByteArray := prog_6_method_24_code
def yX4_shown : MethodName := ⟨RX4, "shown", "(I)I"⟩
def RJ9 : String := "java/lang/Math"
def TJ9 : u_T := fun k => match k with
  | _ => ("", "", "", false)
def tyJ9 : Nat → FieldType := fun k => match k with
  | _ => .int
abbrev wsJ90 : List Cond := u_ws RJ9 TJ9 0
theorem nmJ9 : ∀ a, a < 0 → ∀ b, b < 0 → a ≠ b → (TJ9 a).2.1 ≠ (TJ9 b).2.1 := by decide +kernel
theorem tyJ9_ok : ∀ k, k < 0 → parseFieldDescriptor (TJ9 k).2.2.1 = some (tyJ9 k) := by decide +kernel
abbrev cJ9_max_7cf53 : ByteArray := prog_7_method_65_code
def yJ9_max_7cf53 : MethodName := ⟨RJ9, "max", "(II)I"⟩
abbrev cJ9_min_7cf53 : ByteArray := prog_7_method_69_code
def yJ9_min_7cf53 : MethodName := ⟨RJ9, "min", "(II)I"⟩
def RJ7 : String := "java/util/Arrays"
def TJ7 : u_T := fun k => match k with
  | _ => ("", "", "", false)
def tyJ7 : Nat → FieldType := fun k => match k with
  | _ => .int
abbrev wsJ70 : List Cond := u_ws RJ7 TJ7 0
theorem nmJ7 : ∀ a, a < 0 → ∀ b, b < 0 → a ≠ b → (TJ7 a).2.1 ≠ (TJ7 b).2.1 := by decide +kernel
theorem tyJ7_ok : ∀ k, k < 0 → parseFieldDescriptor (TJ7 k).2.2.1 = some (tyJ7 k) := by decide +kernel
abbrev cJ7_fill_53178 : ByteArray := prog_8_method_103_code
def yJ7_fill_53178 : MethodName := ⟨RJ7, "fill", "([II)V"⟩
def RL : String := "JumpGuardLaw"
abbrev cL_law : ByteArray := code
def yL_law : MethodName := ⟨RL, "law", "([I)Z"⟩
def wsX0_init : List Cond := .code yX0_init cX0_init 1 none :: ([.methodLink RX0 3 objectInit, .instanceMethod objectInit, .code objectInit ⟨#[0xb1]⟩ 1 none, .arrayClass .int, .fieldLink RX0 9 "JumpGuard$Edges" "targets" "[I", .fieldLink RX0 15 "JumpGuard$Edges" "targetNumbers" "[I", .fieldLink RX0 18 "JumpGuard$Edges" "jumpNumbers" "[I"] ++ wsX00)
def wsX3_isAddress : List Cond := .code yX3_isAddress cX3_isAddress 1 (some .boolean) :: ([])
def wsX0_numberOfJump : List Cond := .code yX0_numberOfJump cX0_numberOfJump 2 (some .int) :: ([.fieldLink RX0 18 "JumpGuard$Edges" "jumpNumbers" "[I", .static yX3_isAddress, .initialized RX3, .code yX3_isAddress cX3_isAddress 1 (some .boolean)] ++ wsX00)
def wsX0_numberOfTarget : List Cond := .code yX0_numberOfTarget cX0_numberOfTarget 2 (some .int) :: ([.fieldLink RX0 15 "JumpGuard$Edges" "targetNumbers" "[I", .static yX3_isAddress, .initialized RX3, .code yX3_isAddress cX3_isAddress 1 (some .boolean)] ++ wsX00)
def wsX0_renumber : List Cond := .code yX0_renumber cX0_renumber 4 none :: ([])
def wsX0_joinClasses : List Cond := .code yX0_joinClasses cX0_joinClasses 7 none :: ([.fieldLink RX0 18 "JumpGuard$Edges" "jumpNumbers" "[I", .methodLink RX0 40 Lib.Math.min.name, .static Lib.Math.min.name, .initialized "java/lang/Math", .code Lib.Math.min.name Lib.Math.min.code 2 (some .int), .methodLink RX0 46 Lib.Math.max.name, .static Lib.Math.max.name, .code Lib.Math.max.name Lib.Math.max.code 2 (some .int), .fieldLink RX0 15 "JumpGuard$Edges" "targetNumbers" "[I", .methodLink RX0 33 yX0_numberOfJump, .instanceMethod yX0_numberOfJump, .selects RX0 yX0_numberOfJump yX0_numberOfJump, .initialized RX0, .code yX0_numberOfJump cX0_numberOfJump 2 (some .int), .static yX3_isAddress, .initialized RX3, .code yX3_isAddress cX3_isAddress 1 (some .boolean), .methodLink RX0 37 yX0_numberOfTarget, .instanceMethod yX0_numberOfTarget, .selects RX0 yX0_numberOfTarget yX0_numberOfTarget, .code yX0_numberOfTarget cX0_numberOfTarget 2 (some .int), .methodLink RX0 49 yX0_renumber, .static yX0_renumber, .code yX0_renumber cX0_renumber 4 none] ++ wsX00)
def wsX0_connect_r1 : List Cond := [Cond.fieldLink RX0 25 "JumpGuard$Edges" "count" "I", Cond.fieldLink RX0 9 "JumpGuard$Edges" "targets" "[I", Cond.fieldLink RX0 15 "JumpGuard$Edges" "targetNumbers" "[I", Cond.static yX3_isAddress, Cond.initialized RX3, Cond.code yX3_isAddress cX3_isAddress 1 (some .boolean), Cond.methodLink RX0 29 yX0_joinClasses, Cond.instanceMethod yX0_joinClasses, Cond.selects RX0 yX0_joinClasses yX0_joinClasses, Cond.initialized RX0, Cond.code yX0_joinClasses cX0_joinClasses 7 none, Cond.fieldLink RX0 18 "JumpGuard$Edges" "jumpNumbers" "[I", Cond.methodLink RX0 40 Lib.Math.min.name, Cond.static Lib.Math.min.name, Cond.initialized "java/lang/Math", Cond.code Lib.Math.min.name Lib.Math.min.code 2 (some .int), Cond.methodLink RX0 46 Lib.Math.max.name, Cond.static Lib.Math.max.name, Cond.code Lib.Math.max.name Lib.Math.max.code 2 (some .int), Cond.methodLink RX0 33 yX0_numberOfJump, Cond.instanceMethod yX0_numberOfJump, Cond.selects RX0 yX0_numberOfJump yX0_numberOfJump, Cond.code yX0_numberOfJump cX0_numberOfJump 2 (some .int), Cond.methodLink RX0 37 yX0_numberOfTarget]
def wsX0_connect_r2 : List Cond := [Cond.instanceMethod yX0_numberOfTarget, Cond.selects RX0 yX0_numberOfTarget yX0_numberOfTarget, Cond.code yX0_numberOfTarget cX0_numberOfTarget 2 (some .int), Cond.methodLink RX0 49 yX0_renumber, Cond.static yX0_renumber, Cond.code yX0_renumber cX0_renumber 4 none]
def wsX0_connect : List Cond := .code yX0_connect cX0_connect 4 (some .boolean) :: ((wsX0_connect_r1 ++ wsX0_connect_r2) ++ wsX00)
def wsX2_init : List Cond := .code yX2_init cX2_init 2 none :: ([.methodLink RX2 3 objectInit, .instanceMethod objectInit, .code objectInit ⟨#[0xb1]⟩ 1 none, .methodLink RX2 9 Lib.Math.min.name, .static Lib.Math.min.name, .initialized "java/lang/Math", .code Lib.Math.min.name Lib.Math.min.code 2 (some .int), .methodLink RX2 15 Lib.Math.max.name, .static Lib.Math.max.name, .code Lib.Math.max.name Lib.Math.max.code 2 (some .int), .fieldLink RX2 18 "JumpGuard$Program" "most" "I", .arrayClass .int, .fieldLink RX2 24 "JumpGuard$Program" "numbers" "[I"] ++ wsX20)
def wsX1_init_r1 : List Cond := [Cond.methodLink RX1 3 objectInit, Cond.instanceMethod objectInit, Cond.code objectInit ⟨#[0xb1]⟩ 1 none, Cond.arrayClass .int, Cond.fieldLink RX1 9 "JumpGuard$Machine" "registers" "[I", Cond.fieldLink RX1 15 "JumpGuard$Machine" "cells" "[I", Cond.fieldLink RX1 18 "JumpGuard$Machine" "lastShown" "[I", Cond.classLink RX1 21 RX2, Cond.instantiable RX2 3, Cond.initialized RX2, Cond.fieldLink RX1 26 "JumpGuard$Machine" "program" "LJumpGuard$Program;", Cond.fieldLink RX1 30 "JumpGuard$Machine" "condition" "I", Cond.methodLink RX1 23 yX2_init, Cond.instanceMethod yX2_init, Cond.code yX2_init cX2_init 2 none, Cond.methodLink RX2 3 objectInit, Cond.methodLink RX2 9 Lib.Math.min.name, Cond.static Lib.Math.min.name, Cond.initialized "java/lang/Math", Cond.code Lib.Math.min.name Lib.Math.min.code 2 (some .int), Cond.methodLink RX2 15 Lib.Math.max.name, Cond.static Lib.Math.max.name, Cond.code Lib.Math.max.name Lib.Math.max.code 2 (some .int), Cond.fieldLink RX2 18 "JumpGuard$Program" "most" "I"]
def wsX1_init_r2 : List Cond := [Cond.fieldLink RX2 24 "JumpGuard$Program" "numbers" "[I"]
def wsX1_init : List Cond := .code yX1_init cX1_init 1 none :: ((wsX1_init_r1 ++ wsX1_init_r2) ++ wsX10 ++ wsX20)
def wsJ7_fill_53178 : List Cond := .code yJ7_fill_53178 cJ7_fill_53178 4 none :: ([])
def wsX1_begin : List Cond := .code yX1_begin cX1_begin 2 none :: ([.fieldLink RX1 26 "JumpGuard$Machine" "program" "LJumpGuard$Program;", .fieldLink RX1 9 "JumpGuard$Machine" "registers" "[I", .fieldLink RX1 15 "JumpGuard$Machine" "cells" "[I", .fieldLink RX1 40 "JumpGuard$Machine" "counter" "I", .fieldLink RX1 43 "JumpGuard$Machine" "showCount" "I", .fieldLink RX1 30 "JumpGuard$Machine" "condition" "I", .methodLink RX1 34 yJ7_fill_53178, .static yJ7_fill_53178, .initialized RJ7, .code yJ7_fill_53178 cJ7_fill_53178 4 none] ++ wsX10)
def wsX1_stop : List Cond := .code yX1_stop cX1_stop 1 none :: ([.fieldLink RX1 30 "JumpGuard$Machine" "condition" "I"] ++ wsX10)
def wsX1_isIdle : List Cond := .code yX1_isIdle cX1_isIdle 1 (some .boolean) :: ([.fieldLink RX1 30 "JumpGuard$Machine" "condition" "I"] ++ wsX10)
def wsX2_has : List Cond := .code yX2_has cX2_has 2 (some .boolean) :: ([.fieldLink RX2 28 "JumpGuard$Program" "count" "I"] ++ wsX20)
def wsX2_get : List Cond := .code yX2_get cX2_get 3 (some .int) :: ([.fieldLink RX2 24 "JumpGuard$Program" "numbers" "[I", .methodLink RX2 31 yX2_has, .instanceMethod yX2_has, .selects RX2 yX2_has yX2_has, .initialized RX2, .code yX2_has cX2_has 2 (some .boolean), .fieldLink RX2 28 "JumpGuard$Program" "count" "I"] ++ wsX20)
def wsX3_isRegister : List Cond := .code yX3_isRegister cX3_isRegister 1 (some .boolean) :: ([])
def wsX1_setRegister : List Cond := .code yX1_setRegister cX1_setRegister 3 none :: ([.fieldLink RX1 9 "JumpGuard$Machine" "registers" "[I", .static yX3_isRegister, .initialized RX3, .code yX3_isRegister cX3_isRegister 1 (some .boolean)] ++ wsX10)
def wsX3_isCell : List Cond := .code yX3_isCell cX3_isCell 1 (some .boolean) :: ([])
def wsX1_cellValue : List Cond := .code yX1_cellValue cX1_cellValue 2 (some .int) :: ([.fieldLink RX1 15 "JumpGuard$Machine" "cells" "[I", .static yX3_isCell, .initialized RX3, .code yX3_isCell cX3_isCell 1 (some .boolean)] ++ wsX10)
def wsX1_registerValue : List Cond := .code yX1_registerValue cX1_registerValue 2 (some .int) :: ([.fieldLink RX1 9 "JumpGuard$Machine" "registers" "[I", .static yX3_isRegister, .initialized RX3, .code yX3_isRegister cX3_isRegister 1 (some .boolean)] ++ wsX10)
def wsX1_setCell : List Cond := .code yX1_setCell cX1_setCell 3 none :: ([.fieldLink RX1 15 "JumpGuard$Machine" "cells" "[I", .static yX3_isCell, .initialized RX3, .code yX3_isCell cX3_isCell 1 (some .boolean)] ++ wsX10)
def wsX1_keepShown : List Cond := .code yX1_keepShown cX1_keepShown 2 none :: ([.fieldLink RX1 18 "JumpGuard$Machine" "lastShown" "[I", .fieldLink RX1 43 "JumpGuard$Machine" "showCount" "I"] ++ wsX10)
def wsX1_jumpTo : List Cond := .code yX1_jumpTo cX1_jumpTo 2 (some .int) :: ([.fieldLink RX1 26 "JumpGuard$Machine" "program" "LJumpGuard$Program;", .fieldLink RX1 30 "JumpGuard$Machine" "condition" "I", .methodLink RX1 87 yX2_has, .instanceMethod yX2_has, .selects RX2 yX2_has yX2_has, .initialized RX2, .code yX2_has cX2_has 2 (some .boolean), .fieldLink RX2 28 "JumpGuard$Program" "count" "I"] ++ wsX10 ++ wsX20)
def wsX1_checkLabel : List Cond := .code yX1_checkLabel cX1_checkLabel 3 none :: ([.fieldLink RX1 26 "JumpGuard$Machine" "program" "LJumpGuard$Program;", .fieldLink RX1 30 "JumpGuard$Machine" "condition" "I", .methodLink RX1 56 yX2_get, .instanceMethod yX2_get, .selects RX2 yX2_get yX2_get, .initialized RX2, .code yX2_get cX2_get 3 (some .int), .fieldLink RX2 24 "JumpGuard$Program" "numbers" "[I", .methodLink RX2 31 yX2_has, .instanceMethod yX2_has, .selects RX2 yX2_has yX2_has, .code yX2_has cX2_has 2 (some .boolean), .fieldLink RX2 28 "JumpGuard$Program" "count" "I"] ++ wsX10 ++ wsX20)
def wsX1_carryOut_r1 : List Cond := [Cond.fieldLink RX1 40 "JumpGuard$Machine" "counter" "I", Cond.fieldLink RX1 30 "JumpGuard$Machine" "condition" "I", Cond.methodLink RX1 64 yX1_setRegister, Cond.instanceMethod yX1_setRegister, Cond.selects RX1 yX1_setRegister yX1_setRegister, Cond.initialized RX1, Cond.code yX1_setRegister cX1_setRegister 3 none, Cond.fieldLink RX1 9 "JumpGuard$Machine" "registers" "[I", Cond.static yX3_isRegister, Cond.initialized RX3, Cond.code yX3_isRegister cX3_isRegister 1 (some .boolean), Cond.methodLink RX1 68 yX1_cellValue, Cond.instanceMethod yX1_cellValue, Cond.selects RX1 yX1_cellValue yX1_cellValue, Cond.code yX1_cellValue cX1_cellValue 2 (some .int), Cond.fieldLink RX1 15 "JumpGuard$Machine" "cells" "[I", Cond.static yX3_isCell, Cond.code yX3_isCell cX3_isCell 1 (some .boolean), Cond.methodLink RX1 72 yX1_registerValue, Cond.instanceMethod yX1_registerValue, Cond.selects RX1 yX1_registerValue yX1_registerValue, Cond.code yX1_registerValue cX1_registerValue 2 (some .int), Cond.methodLink RX1 75 yX1_setCell, Cond.instanceMethod yX1_setCell]
def wsX1_carryOut_r2 : List Cond := [Cond.selects RX1 yX1_setCell yX1_setCell, Cond.code yX1_setCell cX1_setCell 3 none, Cond.methodLink RX1 78 yX1_keepShown, Cond.instanceMethod yX1_keepShown, Cond.selects RX1 yX1_keepShown yX1_keepShown, Cond.code yX1_keepShown cX1_keepShown 2 none, Cond.fieldLink RX1 18 "JumpGuard$Machine" "lastShown" "[I", Cond.fieldLink RX1 43 "JumpGuard$Machine" "showCount" "I", Cond.methodLink RX1 81 yX1_jumpTo, Cond.instanceMethod yX1_jumpTo, Cond.selects RX1 yX1_jumpTo yX1_jumpTo, Cond.code yX1_jumpTo cX1_jumpTo 2 (some .int), Cond.fieldLink RX1 26 "JumpGuard$Machine" "program" "LJumpGuard$Program;", Cond.methodLink RX1 87 yX2_has, Cond.instanceMethod yX2_has, Cond.selects RX2 yX2_has yX2_has, Cond.initialized RX2, Cond.code yX2_has cX2_has 2 (some .boolean), Cond.fieldLink RX2 28 "JumpGuard$Program" "count" "I", Cond.methodLink RX1 84 yX1_checkLabel, Cond.instanceMethod yX1_checkLabel, Cond.selects RX1 yX1_checkLabel yX1_checkLabel, Cond.code yX1_checkLabel cX1_checkLabel 3 none, Cond.methodLink RX1 56 yX2_get]
def wsX1_carryOut_r3 : List Cond := [Cond.instanceMethod yX2_get, Cond.selects RX2 yX2_get yX2_get, Cond.code yX2_get cX2_get 3 (some .int), Cond.fieldLink RX2 24 "JumpGuard$Program" "numbers" "[I", Cond.methodLink RX2 31 yX2_has]
def wsX1_carryOut : List Cond := .code yX1_carryOut cX1_carryOut 5 (some .int) :: ((wsX1_carryOut_r1 ++ (wsX1_carryOut_r2 ++ wsX1_carryOut_r3)) ++ wsX10 ++ wsX20)
def wsX1_makeStep_r1 : List Cond := [Cond.fieldLink RX1 26 "JumpGuard$Machine" "program" "LJumpGuard$Program;", Cond.fieldLink RX1 40 "JumpGuard$Machine" "counter" "I", Cond.fieldLink RX1 30 "JumpGuard$Machine" "condition" "I", Cond.methodLink RX1 56 yX2_get, Cond.instanceMethod yX2_get, Cond.selects RX2 yX2_get yX2_get, Cond.initialized RX2, Cond.code yX2_get cX2_get 3 (some .int), Cond.fieldLink RX2 24 "JumpGuard$Program" "numbers" "[I", Cond.methodLink RX2 31 yX2_has, Cond.instanceMethod yX2_has, Cond.selects RX2 yX2_has yX2_has, Cond.code yX2_has cX2_has 2 (some .boolean), Cond.fieldLink RX2 28 "JumpGuard$Program" "count" "I", Cond.methodLink RX1 60 yX1_carryOut, Cond.instanceMethod yX1_carryOut, Cond.selects RX1 yX1_carryOut yX1_carryOut, Cond.initialized RX1, Cond.code yX1_carryOut cX1_carryOut 5 (some .int), Cond.methodLink RX1 64 yX1_setRegister, Cond.instanceMethod yX1_setRegister, Cond.selects RX1 yX1_setRegister yX1_setRegister, Cond.code yX1_setRegister cX1_setRegister 3 none, Cond.fieldLink RX1 9 "JumpGuard$Machine" "registers" "[I"]
def wsX1_makeStep_r2 : List Cond := [Cond.static yX3_isRegister, Cond.initialized RX3, Cond.code yX3_isRegister cX3_isRegister 1 (some .boolean), Cond.methodLink RX1 68 yX1_cellValue, Cond.instanceMethod yX1_cellValue, Cond.selects RX1 yX1_cellValue yX1_cellValue, Cond.code yX1_cellValue cX1_cellValue 2 (some .int), Cond.fieldLink RX1 15 "JumpGuard$Machine" "cells" "[I", Cond.static yX3_isCell, Cond.code yX3_isCell cX3_isCell 1 (some .boolean), Cond.methodLink RX1 72 yX1_registerValue, Cond.instanceMethod yX1_registerValue, Cond.selects RX1 yX1_registerValue yX1_registerValue, Cond.code yX1_registerValue cX1_registerValue 2 (some .int), Cond.methodLink RX1 75 yX1_setCell, Cond.instanceMethod yX1_setCell, Cond.selects RX1 yX1_setCell yX1_setCell, Cond.code yX1_setCell cX1_setCell 3 none, Cond.methodLink RX1 78 yX1_keepShown, Cond.instanceMethod yX1_keepShown, Cond.selects RX1 yX1_keepShown yX1_keepShown, Cond.code yX1_keepShown cX1_keepShown 2 none, Cond.fieldLink RX1 18 "JumpGuard$Machine" "lastShown" "[I", Cond.fieldLink RX1 43 "JumpGuard$Machine" "showCount" "I"]
def wsX1_makeStep_r3 : List Cond := [Cond.methodLink RX1 81 yX1_jumpTo, Cond.instanceMethod yX1_jumpTo, Cond.selects RX1 yX1_jumpTo yX1_jumpTo, Cond.code yX1_jumpTo cX1_jumpTo 2 (some .int), Cond.methodLink RX1 87 yX2_has, Cond.methodLink RX1 84 yX1_checkLabel, Cond.instanceMethod yX1_checkLabel, Cond.selects RX1 yX1_checkLabel yX1_checkLabel, Cond.code yX1_checkLabel cX1_checkLabel 3 none]
def wsX1_makeStep : List Cond := .code yX1_makeStep cX1_makeStep 2 none :: ((wsX1_makeStep_r1 ++ (wsX1_makeStep_r2 ++ wsX1_makeStep_r3)) ++ wsX10 ++ wsX20)
def wsX1_makeSteps_r1 : List Cond := [Cond.fieldLink RX1 30 "JumpGuard$Machine" "condition" "I", Cond.methodLink RX1 46 yX1_makeStep, Cond.instanceMethod yX1_makeStep, Cond.selects RX1 yX1_makeStep yX1_makeStep, Cond.initialized RX1, Cond.code yX1_makeStep cX1_makeStep 2 none, Cond.fieldLink RX1 26 "JumpGuard$Machine" "program" "LJumpGuard$Program;", Cond.fieldLink RX1 40 "JumpGuard$Machine" "counter" "I", Cond.methodLink RX1 56 yX2_get, Cond.instanceMethod yX2_get, Cond.selects RX2 yX2_get yX2_get, Cond.initialized RX2, Cond.code yX2_get cX2_get 3 (some .int), Cond.fieldLink RX2 24 "JumpGuard$Program" "numbers" "[I", Cond.methodLink RX2 31 yX2_has, Cond.instanceMethod yX2_has, Cond.selects RX2 yX2_has yX2_has, Cond.code yX2_has cX2_has 2 (some .boolean), Cond.fieldLink RX2 28 "JumpGuard$Program" "count" "I", Cond.methodLink RX1 60 yX1_carryOut, Cond.instanceMethod yX1_carryOut, Cond.selects RX1 yX1_carryOut yX1_carryOut, Cond.code yX1_carryOut cX1_carryOut 5 (some .int), Cond.methodLink RX1 64 yX1_setRegister]
def wsX1_makeSteps_r2 : List Cond := [Cond.instanceMethod yX1_setRegister, Cond.selects RX1 yX1_setRegister yX1_setRegister, Cond.code yX1_setRegister cX1_setRegister 3 none, Cond.fieldLink RX1 9 "JumpGuard$Machine" "registers" "[I", Cond.static yX3_isRegister, Cond.initialized RX3, Cond.code yX3_isRegister cX3_isRegister 1 (some .boolean), Cond.methodLink RX1 68 yX1_cellValue, Cond.instanceMethod yX1_cellValue, Cond.selects RX1 yX1_cellValue yX1_cellValue, Cond.code yX1_cellValue cX1_cellValue 2 (some .int), Cond.fieldLink RX1 15 "JumpGuard$Machine" "cells" "[I", Cond.static yX3_isCell, Cond.code yX3_isCell cX3_isCell 1 (some .boolean), Cond.methodLink RX1 72 yX1_registerValue, Cond.instanceMethod yX1_registerValue, Cond.selects RX1 yX1_registerValue yX1_registerValue, Cond.code yX1_registerValue cX1_registerValue 2 (some .int), Cond.methodLink RX1 75 yX1_setCell, Cond.instanceMethod yX1_setCell, Cond.selects RX1 yX1_setCell yX1_setCell, Cond.code yX1_setCell cX1_setCell 3 none, Cond.methodLink RX1 78 yX1_keepShown, Cond.instanceMethod yX1_keepShown]
def wsX1_makeSteps_r3 : List Cond := [Cond.selects RX1 yX1_keepShown yX1_keepShown, Cond.code yX1_keepShown cX1_keepShown 2 none, Cond.fieldLink RX1 18 "JumpGuard$Machine" "lastShown" "[I", Cond.fieldLink RX1 43 "JumpGuard$Machine" "showCount" "I", Cond.methodLink RX1 81 yX1_jumpTo, Cond.instanceMethod yX1_jumpTo, Cond.selects RX1 yX1_jumpTo yX1_jumpTo, Cond.code yX1_jumpTo cX1_jumpTo 2 (some .int), Cond.methodLink RX1 87 yX2_has, Cond.methodLink RX1 84 yX1_checkLabel, Cond.instanceMethod yX1_checkLabel, Cond.selects RX1 yX1_checkLabel yX1_checkLabel, Cond.code yX1_checkLabel cX1_checkLabel 3 none]
def wsX1_makeSteps : List Cond := .code yX1_makeSteps cX1_makeSteps 3 (some .int) :: ((wsX1_makeSteps_r1 ++ (wsX1_makeSteps_r2 ++ wsX1_makeSteps_r3)) ++ wsX10 ++ wsX20)
def wsX1_shownBefore : List Cond := .code yX1_shownBefore cX1_shownBefore 2 (some .int) :: ([.fieldLink RX1 43 "JumpGuard$Machine" "showCount" "I", .fieldLink RX1 18 "JumpGuard$Machine" "lastShown" "[I"] ++ wsX10)
def wsX2_length : List Cond := .code yX2_length cX2_length 1 (some .int) :: ([.fieldLink RX2 28 "JumpGuard$Program" "count" "I"] ++ wsX20)
def wsX2_isFull : List Cond := .code yX2_isFull cX2_isFull 1 (some .boolean) :: ([.fieldLink RX2 28 "JumpGuard$Program" "count" "I", .fieldLink RX2 18 "JumpGuard$Program" "most" "I"] ++ wsX20)
def wsX2_append : List Cond := .code yX2_append cX2_append 4 none :: ([.fieldLink RX2 24 "JumpGuard$Program" "numbers" "[I", .fieldLink RX2 28 "JumpGuard$Program" "count" "I", .methodLink RX2 35 yX2_isFull, .instanceMethod yX2_isFull, .selects RX2 yX2_isFull yX2_isFull, .initialized RX2, .code yX2_isFull cX2_isFull 1 (some .boolean), .fieldLink RX2 18 "JumpGuard$Program" "most" "I"] ++ wsX20)
def wsX2_clear : List Cond := .code yX2_clear cX2_clear 1 none :: ([.fieldLink RX2 28 "JumpGuard$Program" "count" "I"] ++ wsX20)
def wsX3_init_r1 : List Cond := [Cond.methodLink RX3 1 objectInit, Cond.instanceMethod objectInit, Cond.code objectInit ⟨#[0xb1]⟩ 1 none, Cond.classLink RX3 7 RX2, Cond.instantiable RX2 3, Cond.initialized RX2, Cond.fieldLink RX3 14 "JumpGuard" "sourceProgram" "LJumpGuard$Program;", Cond.fieldLink RX3 18 "JumpGuard" "guardedProgram" "LJumpGuard$Program;", Cond.classLink RX3 21 RX0, Cond.instantiable RX0 4, Cond.initialized RX0, Cond.fieldLink RX3 24 "JumpGuard" "edges" "LJumpGuard$Edges;", Cond.arrayClass .int, Cond.fieldLink RX3 28 "JumpGuard" "places" "[I", Cond.classLink RX3 32 RX1, Cond.instantiable RX1 7, Cond.initialized RX1, Cond.fieldLink RX3 35 "JumpGuard" "machine" "LJumpGuard$Machine;", Cond.methodLink RX3 11 yX2_init, Cond.instanceMethod yX2_init, Cond.code yX2_init cX2_init 2 none, Cond.methodLink RX2 3 objectInit, Cond.methodLink RX2 9 Lib.Math.min.name, Cond.static Lib.Math.min.name]
def wsX3_init_r2 : List Cond := [Cond.initialized "java/lang/Math", Cond.code Lib.Math.min.name Lib.Math.min.code 2 (some .int), Cond.methodLink RX2 15 Lib.Math.max.name, Cond.static Lib.Math.max.name, Cond.code Lib.Math.max.name Lib.Math.max.code 2 (some .int), Cond.fieldLink RX2 18 "JumpGuard$Program" "most" "I", Cond.fieldLink RX2 24 "JumpGuard$Program" "numbers" "[I", Cond.instanceMethod yX0_init, Cond.code yX0_init cX0_init 1 none, Cond.methodLink RX0 3 objectInit, Cond.fieldLink RX0 9 "JumpGuard$Edges" "targets" "[I", Cond.fieldLink RX0 15 "JumpGuard$Edges" "targetNumbers" "[I", Cond.fieldLink RX0 18 "JumpGuard$Edges" "jumpNumbers" "[I", Cond.instanceMethod yX1_init, Cond.code yX1_init cX1_init 1 none, Cond.methodLink RX1 3 objectInit, Cond.fieldLink RX1 9 "JumpGuard$Machine" "registers" "[I", Cond.fieldLink RX1 15 "JumpGuard$Machine" "cells" "[I", Cond.fieldLink RX1 18 "JumpGuard$Machine" "lastShown" "[I", Cond.classLink RX1 21 RX2, Cond.fieldLink RX1 26 "JumpGuard$Machine" "program" "LJumpGuard$Program;", Cond.fieldLink RX1 30 "JumpGuard$Machine" "condition" "I", Cond.methodLink RX1 23 yX2_init]
def wsX3_init : List Cond := .code yX3_init cX3_init 1 none :: ((wsX3_init_r1 ++ wsX3_init_r2) ++ wsX20 ++ wsX30 ++ wsX00 ++ wsX10)
def wsX3_isSourceInstruction : List Cond := .code yX3_isSourceInstruction cX3_isSourceInstruction 3 (some .boolean) :: ([.methodLink RX3 125 yX3_isRegister, .static yX3_isRegister, .initialized RX3, .code yX3_isRegister cX3_isRegister 1 (some .boolean), .methodLink RX3 103 yX3_isCell, .static yX3_isCell, .code yX3_isCell cX3_isCell 1 (some .boolean), .methodLink RX3 128 yX3_isAddress, .static yX3_isAddress, .code yX3_isAddress cX3_isAddress 1 (some .boolean)])
def wsX3_dropGuarded : List Cond := .code yX3_dropGuarded cX3_dropGuarded 1 none :: ([.fieldLink RX3 18 "JumpGuard" "guardedProgram" "LJumpGuard$Program;", .fieldLink RX3 35 "JumpGuard" "machine" "LJumpGuard$Machine;", .methodLink RX3 131 yX2_clear, .instanceMethod yX2_clear, .selects RX2 yX2_clear yX2_clear, .initialized RX2, .code yX2_clear cX2_clear 1 none, .fieldLink RX2 28 "JumpGuard$Program" "count" "I", .methodLink RX3 134 yX1_stop, .instanceMethod yX1_stop, .selects RX1 yX1_stop yX1_stop, .initialized RX1, .code yX1_stop cX1_stop 1 none, .fieldLink RX1 30 "JumpGuard$Machine" "condition" "I"] ++ wsX30 ++ wsX20 ++ wsX10)
def wsX3_add_r1 : List Cond := [Cond.fieldLink RX3 14 "JumpGuard" "sourceProgram" "LJumpGuard$Program;", Cond.methodLink RX3 39 yX3_isSourceInstruction, Cond.static yX3_isSourceInstruction, Cond.initialized RX3, Cond.code yX3_isSourceInstruction cX3_isSourceInstruction 3 (some .boolean), Cond.methodLink RX3 125 yX3_isRegister, Cond.static yX3_isRegister, Cond.code yX3_isRegister cX3_isRegister 1 (some .boolean), Cond.methodLink RX3 103 yX3_isCell, Cond.static yX3_isCell, Cond.code yX3_isCell cX3_isCell 1 (some .boolean), Cond.methodLink RX3 128 yX3_isAddress, Cond.static yX3_isAddress, Cond.code yX3_isAddress cX3_isAddress 1 (some .boolean), Cond.methodLink RX3 43 yX2_isFull, Cond.instanceMethod yX2_isFull, Cond.selects RX2 yX2_isFull yX2_isFull, Cond.initialized RX2, Cond.code yX2_isFull cX2_isFull 1 (some .boolean), Cond.fieldLink RX2 28 "JumpGuard$Program" "count" "I", Cond.fieldLink RX2 18 "JumpGuard$Program" "most" "I", Cond.methodLink RX3 47 yX2_length, Cond.instanceMethod yX2_length, Cond.selects RX2 yX2_length yX2_length]
def wsX3_add_r2 : List Cond := [Cond.code yX2_length cX2_length 1 (some .int), Cond.methodLink RX3 51 yX2_append, Cond.instanceMethod yX2_append, Cond.selects RX2 yX2_append yX2_append, Cond.code yX2_append cX2_append 4 none, Cond.fieldLink RX2 24 "JumpGuard$Program" "numbers" "[I", Cond.methodLink RX2 35 yX2_isFull, Cond.methodLink RX3 55 yX3_dropGuarded, Cond.instanceMethod yX3_dropGuarded, Cond.selects RX3 yX3_dropGuarded yX3_dropGuarded, Cond.code yX3_dropGuarded cX3_dropGuarded 1 none, Cond.fieldLink RX3 18 "JumpGuard" "guardedProgram" "LJumpGuard$Program;", Cond.fieldLink RX3 35 "JumpGuard" "machine" "LJumpGuard$Machine;", Cond.methodLink RX3 131 yX2_clear, Cond.instanceMethod yX2_clear, Cond.selects RX2 yX2_clear yX2_clear, Cond.code yX2_clear cX2_clear 1 none, Cond.methodLink RX3 134 yX1_stop, Cond.instanceMethod yX1_stop, Cond.selects RX1 yX1_stop yX1_stop, Cond.initialized RX1, Cond.code yX1_stop cX1_stop 1 none, Cond.fieldLink RX1 30 "JumpGuard$Machine" "condition" "I"]
def wsX3_add : List Cond := .code yX3_add cX3_add 5 (some .int) :: ((wsX3_add_r1 ++ wsX3_add_r2) ++ wsX30 ++ wsX20 ++ wsX10)
def wsX3_allow_r1 : List Cond := [Cond.fieldLink RX3 14 "JumpGuard" "sourceProgram" "LJumpGuard$Program;", Cond.fieldLink RX3 24 "JumpGuard" "edges" "LJumpGuard$Edges;", Cond.methodLink RX3 58 yX2_get, Cond.instanceMethod yX2_get, Cond.selects RX2 yX2_get yX2_get, Cond.initialized RX2, Cond.code yX2_get cX2_get 3 (some .int), Cond.fieldLink RX2 24 "JumpGuard$Program" "numbers" "[I", Cond.methodLink RX2 31 yX2_has, Cond.instanceMethod yX2_has, Cond.selects RX2 yX2_has yX2_has, Cond.code yX2_has cX2_has 2 (some .boolean), Cond.fieldLink RX2 28 "JumpGuard$Program" "count" "I", Cond.methodLink RX3 62 yX2_has, Cond.methodLink RX3 66 yX0_connect, Cond.instanceMethod yX0_connect, Cond.selects RX0 yX0_connect yX0_connect, Cond.initialized RX0, Cond.code yX0_connect cX0_connect 4 (some .boolean), Cond.fieldLink RX0 25 "JumpGuard$Edges" "count" "I", Cond.fieldLink RX0 9 "JumpGuard$Edges" "targets" "[I", Cond.fieldLink RX0 15 "JumpGuard$Edges" "targetNumbers" "[I", Cond.static yX3_isAddress, Cond.initialized RX3]
def wsX3_allow_r2 : List Cond := [Cond.code yX3_isAddress cX3_isAddress 1 (some .boolean), Cond.methodLink RX0 29 yX0_joinClasses, Cond.instanceMethod yX0_joinClasses, Cond.selects RX0 yX0_joinClasses yX0_joinClasses, Cond.code yX0_joinClasses cX0_joinClasses 7 none, Cond.fieldLink RX0 18 "JumpGuard$Edges" "jumpNumbers" "[I", Cond.methodLink RX0 40 Lib.Math.min.name, Cond.static Lib.Math.min.name, Cond.initialized "java/lang/Math", Cond.code Lib.Math.min.name Lib.Math.min.code 2 (some .int), Cond.methodLink RX0 46 Lib.Math.max.name, Cond.static Lib.Math.max.name, Cond.code Lib.Math.max.name Lib.Math.max.code 2 (some .int), Cond.methodLink RX0 33 yX0_numberOfJump, Cond.instanceMethod yX0_numberOfJump, Cond.selects RX0 yX0_numberOfJump yX0_numberOfJump, Cond.code yX0_numberOfJump cX0_numberOfJump 2 (some .int), Cond.methodLink RX0 37 yX0_numberOfTarget, Cond.instanceMethod yX0_numberOfTarget, Cond.selects RX0 yX0_numberOfTarget yX0_numberOfTarget, Cond.code yX0_numberOfTarget cX0_numberOfTarget 2 (some .int), Cond.methodLink RX0 49 yX0_renumber, Cond.static yX0_renumber, Cond.code yX0_renumber cX0_renumber 4 none]
def wsX3_allow_r3 : List Cond := [Cond.methodLink RX3 55 yX3_dropGuarded, Cond.instanceMethod yX3_dropGuarded, Cond.selects RX3 yX3_dropGuarded yX3_dropGuarded, Cond.code yX3_dropGuarded cX3_dropGuarded 1 none, Cond.fieldLink RX3 18 "JumpGuard" "guardedProgram" "LJumpGuard$Program;", Cond.fieldLink RX3 35 "JumpGuard" "machine" "LJumpGuard$Machine;", Cond.methodLink RX3 131 yX2_clear, Cond.instanceMethod yX2_clear, Cond.selects RX2 yX2_clear yX2_clear, Cond.code yX2_clear cX2_clear 1 none, Cond.methodLink RX3 134 yX1_stop, Cond.instanceMethod yX1_stop, Cond.selects RX1 yX1_stop yX1_stop, Cond.initialized RX1, Cond.code yX1_stop cX1_stop 1 none, Cond.fieldLink RX1 30 "JumpGuard$Machine" "condition" "I"]
def wsX3_allow : List Cond := .code yX3_allow cX3_allow 3 (some .boolean) :: ((wsX3_allow_r1 ++ (wsX3_allow_r2 ++ wsX3_allow_r3)) ++ wsX30 ++ wsX20 ++ wsX00 ++ wsX10)
def wsX3_holdsAddressInB : List Cond := .code yX3_holdsAddressInB cX3_holdsAddressInB 1 (some .boolean) :: ([])
def wsX3_hasItsAddress : List Cond := .code yX3_hasItsAddress cX3_hasItsAddress 3 (some .boolean) :: ([.fieldLink RX3 14 "JumpGuard" "sourceProgram" "LJumpGuard$Program;", .methodLink RX3 58 yX2_get, .instanceMethod yX2_get, .selects RX2 yX2_get yX2_get, .initialized RX2, .code yX2_get cX2_get 3 (some .int), .fieldLink RX2 24 "JumpGuard$Program" "numbers" "[I", .methodLink RX2 31 yX2_has, .instanceMethod yX2_has, .selects RX2 yX2_has yX2_has, .code yX2_has cX2_has 2 (some .boolean), .fieldLink RX2 28 "JumpGuard$Program" "count" "I", .methodLink RX3 62 yX2_has, .methodLink RX3 140 yX3_holdsAddressInB, .static yX3_holdsAddressInB, .initialized RX3, .code yX3_holdsAddressInB cX3_holdsAddressInB 1 (some .boolean)] ++ wsX30 ++ wsX20)
def wsX3_isClosed_r1 : List Cond := [Cond.fieldLink RX3 14 "JumpGuard" "sourceProgram" "LJumpGuard$Program;", Cond.methodLink RX3 47 yX2_length, Cond.instanceMethod yX2_length, Cond.selects RX2 yX2_length yX2_length, Cond.initialized RX2, Cond.code yX2_length cX2_length 1 (some .int), Cond.fieldLink RX2 28 "JumpGuard$Program" "count" "I", Cond.methodLink RX3 58 yX2_get, Cond.instanceMethod yX2_get, Cond.selects RX2 yX2_get yX2_get, Cond.code yX2_get cX2_get 3 (some .int), Cond.fieldLink RX2 24 "JumpGuard$Program" "numbers" "[I", Cond.methodLink RX2 31 yX2_has, Cond.instanceMethod yX2_has, Cond.selects RX2 yX2_has yX2_has, Cond.code yX2_has cX2_has 2 (some .boolean), Cond.methodLink RX3 137 yX3_hasItsAddress, Cond.instanceMethod yX3_hasItsAddress, Cond.selects RX3 yX3_hasItsAddress yX3_hasItsAddress, Cond.initialized RX3, Cond.code yX3_hasItsAddress cX3_hasItsAddress 3 (some .boolean), Cond.methodLink RX3 62 yX2_has, Cond.methodLink RX3 140 yX3_holdsAddressInB, Cond.static yX3_holdsAddressInB]
def wsX3_isClosed_r2 : List Cond := [Cond.code yX3_holdsAddressInB cX3_holdsAddressInB 1 (some .boolean)]
def wsX3_isClosed : List Cond := .code yX3_isClosed cX3_isClosed 3 (some .boolean) :: ((wsX3_isClosed_r1 ++ wsX3_isClosed_r2) ++ wsX30 ++ wsX20)
def wsX3_setPlaces_r1 : List Cond := [Cond.fieldLink RX3 14 "JumpGuard" "sourceProgram" "LJumpGuard$Program;", Cond.fieldLink RX3 28 "JumpGuard" "places" "[I", Cond.fieldLink RX3 24 "JumpGuard" "edges" "LJumpGuard$Edges;", Cond.methodLink RX3 47 yX2_length, Cond.instanceMethod yX2_length, Cond.selects RX2 yX2_length yX2_length, Cond.initialized RX2, Cond.code yX2_length cX2_length 1 (some .int), Cond.fieldLink RX2 28 "JumpGuard$Program" "count" "I", Cond.methodLink RX3 86 yX0_numberOfTarget, Cond.instanceMethod yX0_numberOfTarget, Cond.selects RX0 yX0_numberOfTarget yX0_numberOfTarget, Cond.initialized RX0, Cond.code yX0_numberOfTarget cX0_numberOfTarget 2 (some .int), Cond.fieldLink RX0 15 "JumpGuard$Edges" "targetNumbers" "[I", Cond.static yX3_isAddress, Cond.initialized RX3, Cond.code yX3_isAddress cX3_isAddress 1 (some .boolean), Cond.methodLink RX3 58 yX2_get, Cond.instanceMethod yX2_get, Cond.selects RX2 yX2_get yX2_get, Cond.code yX2_get cX2_get 3 (some .int), Cond.fieldLink RX2 24 "JumpGuard$Program" "numbers" "[I", Cond.methodLink RX2 31 yX2_has]
def wsX3_setPlaces_r2 : List Cond := [Cond.instanceMethod yX2_has, Cond.selects RX2 yX2_has yX2_has, Cond.code yX2_has cX2_has 2 (some .boolean)]
def wsX3_setPlaces : List Cond := .code yX3_setPlaces cX3_setPlaces 3 none :: ((wsX3_setPlaces_r1 ++ wsX3_setPlaces_r2) ++ wsX30 ++ wsX20 ++ wsX00)
def wsX3_placeOf : List Cond := .code yX3_placeOf cX3_placeOf 2 (some .int) :: ([.fieldLink RX3 28 "JumpGuard" "places" "[I", .methodLink RX3 128 yX3_isAddress, .static yX3_isAddress, .initialized RX3, .code yX3_isAddress cX3_isAddress 1 (some .boolean)] ++ wsX30)
def wsX3_appendGuarded_r1 : List Cond := [Cond.fieldLink RX3 14 "JumpGuard" "sourceProgram" "LJumpGuard$Program;", Cond.fieldLink RX3 24 "JumpGuard" "edges" "LJumpGuard$Edges;", Cond.fieldLink RX3 18 "JumpGuard" "guardedProgram" "LJumpGuard$Program;", Cond.methodLink RX3 58 yX2_get, Cond.instanceMethod yX2_get, Cond.selects RX2 yX2_get yX2_get, Cond.initialized RX2, Cond.code yX2_get cX2_get 3 (some .int), Cond.fieldLink RX2 24 "JumpGuard$Program" "numbers" "[I", Cond.methodLink RX2 31 yX2_has, Cond.instanceMethod yX2_has, Cond.selects RX2 yX2_has yX2_has, Cond.code yX2_has cX2_has 2 (some .boolean), Cond.fieldLink RX2 28 "JumpGuard$Program" "count" "I", Cond.methodLink RX3 86 yX0_numberOfTarget, Cond.instanceMethod yX0_numberOfTarget, Cond.selects RX0 yX0_numberOfTarget yX0_numberOfTarget, Cond.initialized RX0, Cond.code yX0_numberOfTarget cX0_numberOfTarget 2 (some .int), Cond.fieldLink RX0 15 "JumpGuard$Edges" "targetNumbers" "[I", Cond.static yX3_isAddress, Cond.initialized RX3, Cond.code yX3_isAddress cX3_isAddress 1 (some .boolean), Cond.methodLink RX3 51 yX2_append]
def wsX3_appendGuarded_r2 : List Cond := [Cond.instanceMethod yX2_append, Cond.selects RX2 yX2_append yX2_append, Cond.code yX2_append cX2_append 4 none, Cond.methodLink RX2 35 yX2_isFull, Cond.instanceMethod yX2_isFull, Cond.selects RX2 yX2_isFull yX2_isFull, Cond.code yX2_isFull cX2_isFull 1 (some .boolean), Cond.fieldLink RX2 18 "JumpGuard$Program" "most" "I", Cond.methodLink RX3 143 yX0_numberOfJump, Cond.instanceMethod yX0_numberOfJump, Cond.selects RX0 yX0_numberOfJump yX0_numberOfJump, Cond.code yX0_numberOfJump cX0_numberOfJump 2 (some .int), Cond.fieldLink RX0 18 "JumpGuard$Edges" "jumpNumbers" "[I", Cond.methodLink RX3 82 yX3_placeOf, Cond.instanceMethod yX3_placeOf, Cond.selects RX3 yX3_placeOf yX3_placeOf, Cond.code yX3_placeOf cX3_placeOf 2 (some .int), Cond.fieldLink RX3 28 "JumpGuard" "places" "[I", Cond.methodLink RX3 128 yX3_isAddress, Cond.methodLink RX3 140 yX3_holdsAddressInB, Cond.static yX3_holdsAddressInB, Cond.code yX3_holdsAddressInB cX3_holdsAddressInB 1 (some .boolean)]
def wsX3_appendGuarded : List Cond := .code yX3_appendGuarded cX3_appendGuarded 6 none :: ((wsX3_appendGuarded_r1 ++ wsX3_appendGuarded_r2) ++ wsX30 ++ wsX20 ++ wsX00)
def wsX3_protect_r1 : List Cond := [Cond.fieldLink RX3 14 "JumpGuard" "sourceProgram" "LJumpGuard$Program;", Cond.fieldLink RX3 18 "JumpGuard" "guardedProgram" "LJumpGuard$Program;", Cond.methodLink RX3 55 yX3_dropGuarded, Cond.instanceMethod yX3_dropGuarded, Cond.selects RX3 yX3_dropGuarded yX3_dropGuarded, Cond.initialized RX3, Cond.code yX3_dropGuarded cX3_dropGuarded 1 none, Cond.fieldLink RX3 35 "JumpGuard" "machine" "LJumpGuard$Machine;", Cond.methodLink RX3 131 yX2_clear, Cond.instanceMethod yX2_clear, Cond.selects RX2 yX2_clear yX2_clear, Cond.initialized RX2, Cond.code yX2_clear cX2_clear 1 none, Cond.fieldLink RX2 28 "JumpGuard$Program" "count" "I", Cond.methodLink RX3 134 yX1_stop, Cond.instanceMethod yX1_stop, Cond.selects RX1 yX1_stop yX1_stop, Cond.initialized RX1, Cond.code yX1_stop cX1_stop 1 none, Cond.fieldLink RX1 30 "JumpGuard$Machine" "condition" "I", Cond.methodLink RX3 70 yX3_isClosed, Cond.instanceMethod yX3_isClosed, Cond.selects RX3 yX3_isClosed yX3_isClosed, Cond.code yX3_isClosed cX3_isClosed 3 (some .boolean)]
def wsX3_protect_r2 : List Cond := [Cond.methodLink RX3 47 yX2_length, Cond.instanceMethod yX2_length, Cond.selects RX2 yX2_length yX2_length, Cond.code yX2_length cX2_length 1 (some .int), Cond.methodLink RX3 58 yX2_get, Cond.instanceMethod yX2_get, Cond.selects RX2 yX2_get yX2_get, Cond.code yX2_get cX2_get 3 (some .int), Cond.fieldLink RX2 24 "JumpGuard$Program" "numbers" "[I", Cond.methodLink RX2 31 yX2_has, Cond.instanceMethod yX2_has, Cond.selects RX2 yX2_has yX2_has, Cond.code yX2_has cX2_has 2 (some .boolean), Cond.methodLink RX3 137 yX3_hasItsAddress, Cond.instanceMethod yX3_hasItsAddress, Cond.selects RX3 yX3_hasItsAddress yX3_hasItsAddress, Cond.code yX3_hasItsAddress cX3_hasItsAddress 3 (some .boolean), Cond.methodLink RX3 62 yX2_has, Cond.methodLink RX3 140 yX3_holdsAddressInB, Cond.static yX3_holdsAddressInB, Cond.code yX3_holdsAddressInB cX3_holdsAddressInB 1 (some .boolean), Cond.methodLink RX3 73 yX3_setPlaces, Cond.instanceMethod yX3_setPlaces, Cond.selects RX3 yX3_setPlaces yX3_setPlaces]
def wsX3_protect_r3 : List Cond := [Cond.code yX3_setPlaces cX3_setPlaces 3 none, Cond.fieldLink RX3 28 "JumpGuard" "places" "[I", Cond.fieldLink RX3 24 "JumpGuard" "edges" "LJumpGuard$Edges;", Cond.methodLink RX3 86 yX0_numberOfTarget, Cond.instanceMethod yX0_numberOfTarget, Cond.selects RX0 yX0_numberOfTarget yX0_numberOfTarget, Cond.initialized RX0, Cond.code yX0_numberOfTarget cX0_numberOfTarget 2 (some .int), Cond.fieldLink RX0 15 "JumpGuard$Edges" "targetNumbers" "[I", Cond.static yX3_isAddress, Cond.code yX3_isAddress cX3_isAddress 1 (some .boolean), Cond.methodLink RX3 76 yX3_appendGuarded, Cond.instanceMethod yX3_appendGuarded, Cond.selects RX3 yX3_appendGuarded yX3_appendGuarded, Cond.code yX3_appendGuarded cX3_appendGuarded 6 none, Cond.methodLink RX3 51 yX2_append, Cond.instanceMethod yX2_append, Cond.selects RX2 yX2_append yX2_append, Cond.code yX2_append cX2_append 4 none, Cond.methodLink RX2 35 yX2_isFull, Cond.instanceMethod yX2_isFull, Cond.selects RX2 yX2_isFull yX2_isFull, Cond.code yX2_isFull cX2_isFull 1 (some .boolean), Cond.fieldLink RX2 18 "JumpGuard$Program" "most" "I"]
def wsX3_protect_r4 : List Cond := [Cond.methodLink RX3 143 yX0_numberOfJump, Cond.instanceMethod yX0_numberOfJump, Cond.selects RX0 yX0_numberOfJump yX0_numberOfJump, Cond.code yX0_numberOfJump cX0_numberOfJump 2 (some .int), Cond.fieldLink RX0 18 "JumpGuard$Edges" "jumpNumbers" "[I", Cond.methodLink RX3 82 yX3_placeOf, Cond.instanceMethod yX3_placeOf, Cond.selects RX3 yX3_placeOf yX3_placeOf, Cond.code yX3_placeOf cX3_placeOf 2 (some .int), Cond.methodLink RX3 128 yX3_isAddress]
def wsX3_protect : List Cond := .code yX3_protect cX3_protect 2 (some .int) :: ((wsX3_protect_r1 ++ (wsX3_protect_r2 ++ (wsX3_protect_r3 ++ wsX3_protect_r4))) ++ wsX30 ++ wsX20 ++ wsX10 ++ wsX00)
def wsX3_source : List Cond := .code yX3_source cX3_source 3 (some .int) :: ([.fieldLink RX3 14 "JumpGuard" "sourceProgram" "LJumpGuard$Program;", .methodLink RX3 58 yX2_get, .instanceMethod yX2_get, .selects RX2 yX2_get yX2_get, .initialized RX2, .code yX2_get cX2_get 3 (some .int), .fieldLink RX2 24 "JumpGuard$Program" "numbers" "[I", .methodLink RX2 31 yX2_has, .instanceMethod yX2_has, .selects RX2 yX2_has yX2_has, .code yX2_has cX2_has 2 (some .boolean), .fieldLink RX2 28 "JumpGuard$Program" "count" "I"] ++ wsX30 ++ wsX20)
def wsX3_guarded : List Cond := .code yX3_guarded cX3_guarded 3 (some .int) :: ([.fieldLink RX3 18 "JumpGuard" "guardedProgram" "LJumpGuard$Program;", .methodLink RX3 58 yX2_get, .instanceMethod yX2_get, .selects RX2 yX2_get yX2_get, .initialized RX2, .code yX2_get cX2_get 3 (some .int), .fieldLink RX2 24 "JumpGuard$Program" "numbers" "[I", .methodLink RX2 31 yX2_has, .instanceMethod yX2_has, .selects RX2 yX2_has yX2_has, .code yX2_has cX2_has 2 (some .boolean), .fieldLink RX2 28 "JumpGuard$Program" "count" "I"] ++ wsX30 ++ wsX20)
def wsX3_isGuarded : List Cond := .code yX3_isGuarded cX3_isGuarded 1 (some .boolean) :: ([.fieldLink RX3 18 "JumpGuard" "guardedProgram" "LJumpGuard$Program;", .methodLink RX3 47 yX2_length, .instanceMethod yX2_length, .selects RX2 yX2_length yX2_length, .initialized RX2, .code yX2_length cX2_length 1 (some .int), .fieldLink RX2 28 "JumpGuard$Program" "count" "I"] ++ wsX30 ++ wsX20)
def wsX3_place_r1 : List Cond := [Cond.fieldLink RX3 14 "JumpGuard" "sourceProgram" "LJumpGuard$Program;", Cond.methodLink RX3 79 yX3_isGuarded, Cond.instanceMethod yX3_isGuarded, Cond.selects RX3 yX3_isGuarded yX3_isGuarded, Cond.initialized RX3, Cond.code yX3_isGuarded cX3_isGuarded 1 (some .boolean), Cond.fieldLink RX3 18 "JumpGuard" "guardedProgram" "LJumpGuard$Program;", Cond.methodLink RX3 47 yX2_length, Cond.instanceMethod yX2_length, Cond.selects RX2 yX2_length yX2_length, Cond.initialized RX2, Cond.code yX2_length cX2_length 1 (some .int), Cond.fieldLink RX2 28 "JumpGuard$Program" "count" "I", Cond.methodLink RX3 62 yX2_has, Cond.instanceMethod yX2_has, Cond.selects RX2 yX2_has yX2_has, Cond.code yX2_has cX2_has 2 (some .boolean), Cond.methodLink RX3 82 yX3_placeOf, Cond.instanceMethod yX3_placeOf, Cond.selects RX3 yX3_placeOf yX3_placeOf, Cond.code yX3_placeOf cX3_placeOf 2 (some .int), Cond.fieldLink RX3 28 "JumpGuard" "places" "[I", Cond.methodLink RX3 128 yX3_isAddress, Cond.static yX3_isAddress]
def wsX3_place_r2 : List Cond := [Cond.code yX3_isAddress cX3_isAddress 1 (some .boolean)]
def wsX3_place : List Cond := .code yX3_place cX3_place 2 (some .int) :: ((wsX3_place_r1 ++ wsX3_place_r2) ++ wsX30 ++ wsX20)
def wsX3_label : List Cond := .code yX3_label cX3_label 2 (some .int) :: ([.fieldLink RX3 14 "JumpGuard" "sourceProgram" "LJumpGuard$Program;", .fieldLink RX3 24 "JumpGuard" "edges" "LJumpGuard$Edges;", .methodLink RX3 62 yX2_has, .instanceMethod yX2_has, .selects RX2 yX2_has yX2_has, .initialized RX2, .code yX2_has cX2_has 2 (some .boolean), .fieldLink RX2 28 "JumpGuard$Program" "count" "I", .methodLink RX3 86 yX0_numberOfTarget, .instanceMethod yX0_numberOfTarget, .selects RX0 yX0_numberOfTarget yX0_numberOfTarget, .initialized RX0, .code yX0_numberOfTarget cX0_numberOfTarget 2 (some .int), .fieldLink RX0 15 "JumpGuard$Edges" "targetNumbers" "[I", .static yX3_isAddress, .initialized RX3, .code yX3_isAddress cX3_isAddress 1 (some .boolean)] ++ wsX30 ++ wsX20 ++ wsX00)
def wsX3_start_r1 : List Cond := [Cond.fieldLink RX3 35 "JumpGuard" "machine" "LJumpGuard$Machine;", Cond.fieldLink RX3 18 "JumpGuard" "guardedProgram" "LJumpGuard$Program;", Cond.fieldLink RX3 14 "JumpGuard" "sourceProgram" "LJumpGuard$Program;", Cond.methodLink RX3 79 yX3_isGuarded, Cond.instanceMethod yX3_isGuarded, Cond.selects RX3 yX3_isGuarded yX3_isGuarded, Cond.initialized RX3, Cond.code yX3_isGuarded cX3_isGuarded 1 (some .boolean), Cond.methodLink RX3 47 yX2_length, Cond.instanceMethod yX2_length, Cond.selects RX2 yX2_length yX2_length, Cond.initialized RX2, Cond.code yX2_length cX2_length 1 (some .int), Cond.fieldLink RX2 28 "JumpGuard$Program" "count" "I", Cond.methodLink RX3 89 yX1_begin, Cond.instanceMethod yX1_begin, Cond.selects RX1 yX1_begin yX1_begin, Cond.initialized RX1, Cond.code yX1_begin cX1_begin 2 none, Cond.fieldLink RX1 26 "JumpGuard$Machine" "program" "LJumpGuard$Program;", Cond.fieldLink RX1 9 "JumpGuard$Machine" "registers" "[I", Cond.fieldLink RX1 15 "JumpGuard$Machine" "cells" "[I", Cond.fieldLink RX1 40 "JumpGuard$Machine" "counter" "I", Cond.fieldLink RX1 43 "JumpGuard$Machine" "showCount" "I"]
def wsX3_start_r2 : List Cond := [Cond.fieldLink RX1 30 "JumpGuard$Machine" "condition" "I", Cond.methodLink RX1 34 yJ7_fill_53178, Cond.static yJ7_fill_53178, Cond.initialized RJ7, Cond.code yJ7_fill_53178 cJ7_fill_53178 4 none]
def wsX3_start : List Cond := .code yX3_start cX3_start 2 (some .boolean) :: ((wsX3_start_r1 ++ wsX3_start_r2) ++ wsX30 ++ wsX20 ++ wsX10)
def wsX3_run_r1 : List Cond := [Cond.fieldLink RX3 35 "JumpGuard" "machine" "LJumpGuard$Machine;", Cond.methodLink RX3 93 yX1_makeSteps, Cond.instanceMethod yX1_makeSteps, Cond.selects RX1 yX1_makeSteps yX1_makeSteps, Cond.initialized RX1, Cond.code yX1_makeSteps cX1_makeSteps 3 (some .int), Cond.fieldLink RX1 30 "JumpGuard$Machine" "condition" "I", Cond.methodLink RX1 46 yX1_makeStep, Cond.instanceMethod yX1_makeStep, Cond.selects RX1 yX1_makeStep yX1_makeStep, Cond.code yX1_makeStep cX1_makeStep 2 none, Cond.fieldLink RX1 26 "JumpGuard$Machine" "program" "LJumpGuard$Program;", Cond.fieldLink RX1 40 "JumpGuard$Machine" "counter" "I", Cond.methodLink RX1 56 yX2_get, Cond.instanceMethod yX2_get, Cond.selects RX2 yX2_get yX2_get, Cond.initialized RX2, Cond.code yX2_get cX2_get 3 (some .int), Cond.fieldLink RX2 24 "JumpGuard$Program" "numbers" "[I", Cond.methodLink RX2 31 yX2_has, Cond.instanceMethod yX2_has, Cond.selects RX2 yX2_has yX2_has, Cond.code yX2_has cX2_has 2 (some .boolean), Cond.fieldLink RX2 28 "JumpGuard$Program" "count" "I"]
def wsX3_run_r2 : List Cond := [Cond.methodLink RX1 60 yX1_carryOut, Cond.instanceMethod yX1_carryOut, Cond.selects RX1 yX1_carryOut yX1_carryOut, Cond.code yX1_carryOut cX1_carryOut 5 (some .int), Cond.methodLink RX1 64 yX1_setRegister, Cond.instanceMethod yX1_setRegister, Cond.selects RX1 yX1_setRegister yX1_setRegister, Cond.code yX1_setRegister cX1_setRegister 3 none, Cond.fieldLink RX1 9 "JumpGuard$Machine" "registers" "[I", Cond.static yX3_isRegister, Cond.initialized RX3, Cond.code yX3_isRegister cX3_isRegister 1 (some .boolean), Cond.methodLink RX1 68 yX1_cellValue, Cond.instanceMethod yX1_cellValue, Cond.selects RX1 yX1_cellValue yX1_cellValue, Cond.code yX1_cellValue cX1_cellValue 2 (some .int), Cond.fieldLink RX1 15 "JumpGuard$Machine" "cells" "[I", Cond.static yX3_isCell, Cond.code yX3_isCell cX3_isCell 1 (some .boolean), Cond.methodLink RX1 72 yX1_registerValue, Cond.instanceMethod yX1_registerValue, Cond.selects RX1 yX1_registerValue yX1_registerValue, Cond.code yX1_registerValue cX1_registerValue 2 (some .int), Cond.methodLink RX1 75 yX1_setCell]
def wsX3_run_r3 : List Cond := [Cond.instanceMethod yX1_setCell, Cond.selects RX1 yX1_setCell yX1_setCell, Cond.code yX1_setCell cX1_setCell 3 none, Cond.methodLink RX1 78 yX1_keepShown, Cond.instanceMethod yX1_keepShown, Cond.selects RX1 yX1_keepShown yX1_keepShown, Cond.code yX1_keepShown cX1_keepShown 2 none, Cond.fieldLink RX1 18 "JumpGuard$Machine" "lastShown" "[I", Cond.fieldLink RX1 43 "JumpGuard$Machine" "showCount" "I", Cond.methodLink RX1 81 yX1_jumpTo, Cond.instanceMethod yX1_jumpTo, Cond.selects RX1 yX1_jumpTo yX1_jumpTo, Cond.code yX1_jumpTo cX1_jumpTo 2 (some .int), Cond.methodLink RX1 87 yX2_has, Cond.methodLink RX1 84 yX1_checkLabel, Cond.instanceMethod yX1_checkLabel, Cond.selects RX1 yX1_checkLabel yX1_checkLabel, Cond.code yX1_checkLabel cX1_checkLabel 3 none]
def wsX3_run : List Cond := .code yX3_run cX3_run 2 (some .int) :: ((wsX3_run_r1 ++ (wsX3_run_r2 ++ wsX3_run_r3)) ++ wsX30 ++ wsX10 ++ wsX20)
def wsX3_state : List Cond := .code yX3_state cX3_state 1 (some .int) :: ([.fieldLink RX3 35 "JumpGuard" "machine" "LJumpGuard$Machine;"] ++ wsX30 ++ wsX10)
def wsX3_overwrite : List Cond := .code yX3_overwrite cX3_overwrite 3 (some .boolean) :: ([.fieldLink RX3 35 "JumpGuard" "machine" "LJumpGuard$Machine;", .methodLink RX3 100 yX1_isIdle, .instanceMethod yX1_isIdle, .selects RX1 yX1_isIdle yX1_isIdle, .initialized RX1, .code yX1_isIdle cX1_isIdle 1 (some .boolean), .fieldLink RX1 30 "JumpGuard$Machine" "condition" "I", .methodLink RX3 103 yX3_isCell, .static yX3_isCell, .initialized RX3, .code yX3_isCell cX3_isCell 1 (some .boolean), .methodLink RX3 106 yX1_setCell, .instanceMethod yX1_setCell, .selects RX1 yX1_setCell yX1_setCell, .code yX1_setCell cX1_setCell 3 none, .fieldLink RX1 15 "JumpGuard$Machine" "cells" "[I"] ++ wsX30 ++ wsX10)
def wsX3_memory : List Cond := .code yX3_memory cX3_memory 2 (some .int) :: ([.fieldLink RX3 35 "JumpGuard" "machine" "LJumpGuard$Machine;", .methodLink RX3 100 yX1_isIdle, .instanceMethod yX1_isIdle, .selects RX1 yX1_isIdle yX1_isIdle, .initialized RX1, .code yX1_isIdle cX1_isIdle 1 (some .boolean), .fieldLink RX1 30 "JumpGuard$Machine" "condition" "I", .methodLink RX3 110 yX1_cellValue, .instanceMethod yX1_cellValue, .selects RX1 yX1_cellValue yX1_cellValue, .code yX1_cellValue cX1_cellValue 2 (some .int), .fieldLink RX1 15 "JumpGuard$Machine" "cells" "[I", .static yX3_isCell, .initialized RX3, .code yX3_isCell cX3_isCell 1 (some .boolean)] ++ wsX30 ++ wsX10)
def wsX3_register : List Cond := .code yX3_register cX3_register 2 (some .int) :: ([.fieldLink RX3 35 "JumpGuard" "machine" "LJumpGuard$Machine;", .methodLink RX3 100 yX1_isIdle, .instanceMethod yX1_isIdle, .selects RX1 yX1_isIdle yX1_isIdle, .initialized RX1, .code yX1_isIdle cX1_isIdle 1 (some .boolean), .fieldLink RX1 30 "JumpGuard$Machine" "condition" "I", .methodLink RX3 113 yX1_registerValue, .instanceMethod yX1_registerValue, .selects RX1 yX1_registerValue yX1_registerValue, .code yX1_registerValue cX1_registerValue 2 (some .int), .fieldLink RX1 9 "JumpGuard$Machine" "registers" "[I", .static yX3_isRegister, .initialized RX3, .code yX3_isRegister cX3_isRegister 1 (some .boolean)] ++ wsX30 ++ wsX10)
def wsX3_pc : List Cond := .code yX3_pc cX3_pc 1 (some .int) :: ([.fieldLink RX3 35 "JumpGuard" "machine" "LJumpGuard$Machine;", .methodLink RX3 100 yX1_isIdle, .instanceMethod yX1_isIdle, .selects RX1 yX1_isIdle yX1_isIdle, .initialized RX1, .code yX1_isIdle cX1_isIdle 1 (some .boolean), .fieldLink RX1 30 "JumpGuard$Machine" "condition" "I"] ++ wsX30 ++ wsX10)
def wsX3_shows : List Cond := .code yX3_shows cX3_shows 1 (some .int) :: ([.fieldLink RX3 35 "JumpGuard" "machine" "LJumpGuard$Machine;", .methodLink RX3 100 yX1_isIdle, .instanceMethod yX1_isIdle, .selects RX1 yX1_isIdle yX1_isIdle, .initialized RX1, .code yX1_isIdle cX1_isIdle 1 (some .boolean), .fieldLink RX1 30 "JumpGuard$Machine" "condition" "I"] ++ wsX30 ++ wsX10)
def wsX3_shown : List Cond := .code yX3_shown cX3_shown 2 (some .int) :: ([.fieldLink RX3 35 "JumpGuard" "machine" "LJumpGuard$Machine;", .methodLink RX3 100 yX1_isIdle, .instanceMethod yX1_isIdle, .selects RX1 yX1_isIdle yX1_isIdle, .initialized RX1, .code yX1_isIdle cX1_isIdle 1 (some .boolean), .fieldLink RX1 30 "JumpGuard$Machine" "condition" "I", .methodLink RX3 122 yX1_shownBefore, .instanceMethod yX1_shownBefore, .selects RX1 yX1_shownBefore yX1_shownBefore, .code yX1_shownBefore cX1_shownBefore 2 (some .int), .fieldLink RX1 43 "JumpGuard$Machine" "showCount" "I", .fieldLink RX1 18 "JumpGuard$Machine" "lastShown" "[I"] ++ wsX30 ++ wsX10)
def wsX4_init : List Cond := .code yX4_init cX4_init 1 none :: ([.methodLink RX4 1 objectInit, .instanceMethod objectInit, .code objectInit ⟨#[0xb1]⟩ 1 none, .arrayClass .int, .fieldLink RX4 7 "JumpGuardModel" "code" "[I", .fieldLink RX4 13 "JumpGuardModel" "jump" "[I", .fieldLink RX4 16 "JumpGuardModel" "end" "[I", .fieldLink RX4 19 "JumpGuardModel" "ofTarget" "[I", .fieldLink RX4 22 "JumpGuardModel" "ofJump" "[I", .fieldLink RX4 25 "JumpGuardModel" "at" "[I", .fieldLink RX4 28 "JumpGuardModel" "reg" "[I", .fieldLink RX4 31 "JumpGuardModel" "mem" "[I", .fieldLink RX4 34 "JumpGuardModel" "told" "[I", .fieldLink RX4 37 "JumpGuardModel" "state" "I"] ++ wsX40)
def wsX4_within : List Cond := .code yX4_within cX4_within 2 (some .boolean) :: ([])
def wsX4_fits : List Cond := .code yX4_fits cX4_fits 3 (some .boolean) :: ([.methodLink RX4 41 yX4_within, .static yX4_within, .initialized RX4, .code yX4_within cX4_within 2 (some .boolean)])
def wsX4_undo : List Cond := .code yX4_undo cX4_undo 1 none :: ([.fieldLink RX4 45 "JumpGuardModel" "size" "I", .fieldLink RX4 37 "JumpGuardModel" "state" "I"] ++ wsX40)
def wsX4_add : List Cond := .code yX4_add cX4_add 4 (some .int) :: ([.fieldLink RX4 52 "JumpGuardModel" "n" "I", .fieldLink RX4 7 "JumpGuardModel" "code" "[I", .methodLink RX4 48 yX4_fits, .static yX4_fits, .initialized RX4, .code yX4_fits cX4_fits 3 (some .boolean), .methodLink RX4 41 yX4_within, .static yX4_within, .code yX4_within cX4_within 2 (some .boolean), .methodLink RX4 55 yX4_undo, .instanceMethod yX4_undo, .selects RX4 yX4_undo yX4_undo, .code yX4_undo cX4_undo 1 none, .fieldLink RX4 45 "JumpGuardModel" "size" "I", .fieldLink RX4 37 "JumpGuardModel" "state" "I"] ++ wsX40)
def wsX4_allow : List Cond := .code yX4_allow cX4_allow 4 (some .boolean) :: ([.fieldLink RX4 52 "JumpGuardModel" "n" "I", .fieldLink RX4 7 "JumpGuardModel" "code" "[I", .fieldLink RX4 58 "JumpGuardModel" "edges" "I", .fieldLink RX4 13 "JumpGuardModel" "jump" "[I", .fieldLink RX4 16 "JumpGuardModel" "end" "[I", .methodLink RX4 41 yX4_within, .static yX4_within, .initialized RX4, .code yX4_within cX4_within 2 (some .boolean), .methodLink RX4 55 yX4_undo, .instanceMethod yX4_undo, .selects RX4 yX4_undo yX4_undo, .code yX4_undo cX4_undo 1 none, .fieldLink RX4 45 "JumpGuardModel" "size" "I", .fieldLink RX4 37 "JumpGuardModel" "state" "I"] ++ wsX40)
def wsX4_classes : List Cond := .code yX4_classes cX4_classes 5 none :: ([.fieldLink RX4 19 "JumpGuardModel" "ofTarget" "[I", .fieldLink RX4 22 "JumpGuardModel" "ofJump" "[I", .fieldLink RX4 58 "JumpGuardModel" "edges" "I", .fieldLink RX4 16 "JumpGuardModel" "end" "[I", .fieldLink RX4 13 "JumpGuardModel" "jump" "[I"] ++ wsX40)
def wsX4_whole : List Cond := .code yX4_whole cX4_whole 4 (some .boolean) :: ([.fieldLink RX4 52 "JumpGuardModel" "n" "I", .fieldLink RX4 7 "JumpGuardModel" "code" "[I"] ++ wsX40)
def wsX4_put : List Cond := .code yX4_put cX4_put 4 none :: ([.fieldLink RX4 7 "JumpGuardModel" "code" "[I", .fieldLink RX4 45 "JumpGuardModel" "size" "I"] ++ wsX40)
def wsX4_protect_r1 : List Cond := [Cond.fieldLink RX4 52 "JumpGuardModel" "n" "I", Cond.fieldLink RX4 25 "JumpGuardModel" "at" "[I", Cond.fieldLink RX4 19 "JumpGuardModel" "ofTarget" "[I", Cond.fieldLink RX4 7 "JumpGuardModel" "code" "[I", Cond.fieldLink RX4 22 "JumpGuardModel" "ofJump" "[I", Cond.fieldLink RX4 45 "JumpGuardModel" "size" "I", Cond.methodLink RX4 55 yX4_undo, Cond.instanceMethod yX4_undo, Cond.selects RX4 yX4_undo yX4_undo, Cond.initialized RX4, Cond.code yX4_undo cX4_undo 1 none, Cond.fieldLink RX4 37 "JumpGuardModel" "state" "I", Cond.methodLink RX4 61 yX4_whole, Cond.instanceMethod yX4_whole, Cond.selects RX4 yX4_whole yX4_whole, Cond.code yX4_whole cX4_whole 4 (some .boolean), Cond.methodLink RX4 65 yX4_classes, Cond.instanceMethod yX4_classes, Cond.selects RX4 yX4_classes yX4_classes, Cond.code yX4_classes cX4_classes 5 none, Cond.fieldLink RX4 58 "JumpGuardModel" "edges" "I", Cond.fieldLink RX4 16 "JumpGuardModel" "end" "[I", Cond.fieldLink RX4 13 "JumpGuardModel" "jump" "[I", Cond.methodLink RX4 68 yX4_put]
def wsX4_protect_r2 : List Cond := [Cond.instanceMethod yX4_put, Cond.selects RX4 yX4_put yX4_put, Cond.code yX4_put cX4_put 4 none]
def wsX4_protect : List Cond := .code yX4_protect cX4_protect 6 (some .int) :: ((wsX4_protect_r1 ++ wsX4_protect_r2) ++ wsX40)
def wsX4_source : List Cond := .code yX4_source cX4_source 3 (some .int) :: ([.fieldLink RX4 52 "JumpGuardModel" "n" "I", .fieldLink RX4 7 "JumpGuardModel" "code" "[I", .methodLink RX4 41 yX4_within, .static yX4_within, .initialized RX4, .code yX4_within cX4_within 2 (some .boolean)] ++ wsX40)
def wsX4_guarded : List Cond := .code yX4_guarded cX4_guarded 3 (some .int) :: ([.fieldLink RX4 45 "JumpGuardModel" "size" "I", .fieldLink RX4 7 "JumpGuardModel" "code" "[I", .methodLink RX4 41 yX4_within, .static yX4_within, .initialized RX4, .code yX4_within cX4_within 2 (some .boolean)] ++ wsX40)
def wsX4_place : List Cond := .code yX4_place cX4_place 2 (some .int) :: ([.fieldLink RX4 52 "JumpGuardModel" "n" "I", .fieldLink RX4 45 "JumpGuardModel" "size" "I", .fieldLink RX4 25 "JumpGuardModel" "at" "[I", .methodLink RX4 41 yX4_within, .static yX4_within, .initialized RX4, .code yX4_within cX4_within 2 (some .boolean)] ++ wsX40)
def wsX4_label : List Cond := .code yX4_label cX4_label 2 (some .int) :: ([.fieldLink RX4 52 "JumpGuardModel" "n" "I", .fieldLink RX4 19 "JumpGuardModel" "ofTarget" "[I", .methodLink RX4 41 yX4_within, .static yX4_within, .initialized RX4, .code yX4_within cX4_within 2 (some .boolean), .methodLink RX4 65 yX4_classes, .instanceMethod yX4_classes, .selects RX4 yX4_classes yX4_classes, .code yX4_classes cX4_classes 5 none, .fieldLink RX4 22 "JumpGuardModel" "ofJump" "[I", .fieldLink RX4 58 "JumpGuardModel" "edges" "I", .fieldLink RX4 16 "JumpGuardModel" "end" "[I", .fieldLink RX4 13 "JumpGuardModel" "jump" "[I"] ++ wsX40)
def wsX4_start : List Cond := .code yX4_start cX4_start 3 (some .boolean) :: ([.fieldLink RX4 45 "JumpGuardModel" "size" "I", .fieldLink RX4 72 "JumpGuardModel" "base" "I", .fieldLink RX4 52 "JumpGuardModel" "n" "I", .fieldLink RX4 75 "JumpGuardModel" "length" "I", .fieldLink RX4 28 "JumpGuardModel" "reg" "[I", .fieldLink RX4 31 "JumpGuardModel" "mem" "[I", .fieldLink RX4 78 "JumpGuardModel" "pc" "I", .fieldLink RX4 37 "JumpGuardModel" "state" "I", .fieldLink RX4 81 "JumpGuardModel" "shows" "I"] ++ wsX40)
def wsX4_step : List Cond := .code yX4_step cX4_step 7 none :: ([.fieldLink RX4 7 "JumpGuardModel" "code" "[I", .fieldLink RX4 72 "JumpGuardModel" "base" "I", .fieldLink RX4 78 "JumpGuardModel" "pc" "I", .fieldLink RX4 37 "JumpGuardModel" "state" "I", .fieldLink RX4 28 "JumpGuardModel" "reg" "[I", .fieldLink RX4 31 "JumpGuardModel" "mem" "[I", .fieldLink RX4 34 "JumpGuardModel" "told" "[I", .fieldLink RX4 81 "JumpGuardModel" "shows" "I", .fieldLink RX4 75 "JumpGuardModel" "length" "I", .methodLink RX4 41 yX4_within, .static yX4_within, .initialized RX4, .code yX4_within cX4_within 2 (some .boolean)] ++ wsX40)
def wsX4_run : List Cond := .code yX4_run cX4_run 4 (some .int) :: ([.fieldLink RX4 37 "JumpGuardModel" "state" "I", .methodLink RX4 84 yX4_step, .instanceMethod yX4_step, .selects RX4 yX4_step yX4_step, .initialized RX4, .code yX4_step cX4_step 7 none, .fieldLink RX4 7 "JumpGuardModel" "code" "[I", .fieldLink RX4 72 "JumpGuardModel" "base" "I", .fieldLink RX4 78 "JumpGuardModel" "pc" "I", .fieldLink RX4 28 "JumpGuardModel" "reg" "[I", .fieldLink RX4 31 "JumpGuardModel" "mem" "[I", .fieldLink RX4 34 "JumpGuardModel" "told" "[I", .fieldLink RX4 81 "JumpGuardModel" "shows" "I", .fieldLink RX4 75 "JumpGuardModel" "length" "I", .methodLink RX4 41 yX4_within, .static yX4_within, .code yX4_within cX4_within 2 (some .boolean)] ++ wsX40)
def wsX4_state : List Cond := .code yX4_state cX4_state 1 (some .int) :: ([.fieldLink RX4 37 "JumpGuardModel" "state" "I"] ++ wsX40)
def wsX4_overwrite : List Cond := .code yX4_overwrite cX4_overwrite 3 (some .boolean) :: ([.fieldLink RX4 37 "JumpGuardModel" "state" "I", .fieldLink RX4 31 "JumpGuardModel" "mem" "[I", .methodLink RX4 41 yX4_within, .static yX4_within, .initialized RX4, .code yX4_within cX4_within 2 (some .boolean)] ++ wsX40)
def wsX4_memory : List Cond := .code yX4_memory cX4_memory 2 (some .int) :: ([.fieldLink RX4 37 "JumpGuardModel" "state" "I", .fieldLink RX4 31 "JumpGuardModel" "mem" "[I", .methodLink RX4 41 yX4_within, .static yX4_within, .initialized RX4, .code yX4_within cX4_within 2 (some .boolean)] ++ wsX40)
def wsX4_register : List Cond := .code yX4_register cX4_register 2 (some .int) :: ([.fieldLink RX4 37 "JumpGuardModel" "state" "I", .fieldLink RX4 28 "JumpGuardModel" "reg" "[I", .methodLink RX4 41 yX4_within, .static yX4_within, .initialized RX4, .code yX4_within cX4_within 2 (some .boolean)] ++ wsX40)
def wsX4_pc : List Cond := .code yX4_pc cX4_pc 1 (some .int) :: ([.fieldLink RX4 37 "JumpGuardModel" "state" "I", .fieldLink RX4 78 "JumpGuardModel" "pc" "I"] ++ wsX40)
def wsX4_shows : List Cond := .code yX4_shows cX4_shows 1 (some .int) :: ([.fieldLink RX4 37 "JumpGuardModel" "state" "I", .fieldLink RX4 81 "JumpGuardModel" "shows" "I"] ++ wsX40)
def wsX4_shown : List Cond := .code yX4_shown cX4_shown 2 (some .int) :: ([.fieldLink RX4 37 "JumpGuardModel" "state" "I", .fieldLink RX4 81 "JumpGuardModel" "shows" "I", .fieldLink RX4 34 "JumpGuardModel" "told" "[I", .methodLink RX4 41 yX4_within, .static yX4_within, .initialized RX4, .code yX4_within cX4_within 2 (some .boolean)] ++ wsX40)
def wsJ9_max_7cf53 : List Cond := .code yJ9_max_7cf53 cJ9_max_7cf53 2 (some .int) :: ([])
def wsJ9_min_7cf53 : List Cond := .code yJ9_min_7cf53 cJ9_min_7cf53 2 (some .int) :: ([])
theorem inX0 : ∀ w ∈ wsX00, w ∈ lw_tbl := by decide +kernel
theorem inX1 : ∀ w ∈ wsX10, w ∈ lw_tbl := by decide +kernel
theorem inX2 : ∀ w ∈ wsX20, w ∈ lw_tbl := by decide +kernel
theorem inX3 : ∀ w ∈ wsX30, w ∈ lw_tbl := by decide +kernel
theorem inX4 : ∀ w ∈ wsX40, w ∈ lw_tbl := by decide +kernel
theorem inJ9 : ∀ w ∈ wsJ90, w ∈ lw_tbl := by decide +kernel
theorem inJ7 : ∀ w ∈ wsJ70, w ∈ lw_tbl := by decide +kernel
abbrev vwCl : List vw_C := [(RX0, TX0, 4), (RX1, TX1, 7), (RX2, TX2, 3), (RX3, TX3, 5), (RX4, TX4, 17)]
