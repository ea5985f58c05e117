section
-- ===== PART A: goes FIRST, ahead of the names: the tables' words, and 'selects' of the private methods out of them =====
/-- a private method of a class that the tables say can be made, by its rows of tables_1 -/
def lw_okq (q : MethodName × Nat) : Prop := (q.1.cls ≠ "java/lang/invoke/MethodHandle" ∧ q.1.cls ≠ "java/lang/invoke/VarHandle") ∧ Cond.instantiable q.1.cls q.2 ∈ tables_1 ∧ Cond.privateMethod q.1 ∈ tables_1 ∧ Cond.instanceMethod q.1 ∈ tables_1
theorem lw_p0 : lw_okq (⟨"PartitionDesk", "checkTable", "()I"⟩, 6) := ⟨⟨by decide +kernel, by decide +kernel⟩, List.mem_of_getElem? (i := 9) (by decide +kernel), List.mem_of_getElem? (i := 206) (by decide +kernel), List.mem_of_getElem? (i := 207) (by decide +kernel)⟩
theorem lw_p1 : lw_okq (⟨"PartitionDesk", "somebodyTakesPart", "()Z"⟩, 6) := ⟨⟨by decide +kernel, by decide +kernel⟩, List.mem_of_getElem? (i := 9) (by decide +kernel), List.mem_of_getElem? (i := 210) (by decide +kernel), List.mem_of_getElem? (i := 211) (by decide +kernel)⟩
theorem lw_p2 : lw_okq (⟨"PartitionDesk", "someRegionsOverlap", "()Z"⟩, 6) := ⟨⟨by decide +kernel, by decide +kernel⟩, List.mem_of_getElem? (i := 9) (by decide +kernel), List.mem_of_getElem? (i := 218) (by decide +kernel), List.mem_of_getElem? (i := 219) (by decide +kernel)⟩
theorem lw_p3 : lw_okq (⟨"PartitionDesk", "windowsFit", "()Z"⟩, 6) := ⟨⟨by decide +kernel, by decide +kernel⟩, List.mem_of_getElem? (i := 9) (by decide +kernel), List.mem_of_getElem? (i := 227) (by decide +kernel), List.mem_of_getElem? (i := 228) (by decide +kernel)⟩
theorem lw_p4 : lw_okq (⟨"PartitionDesk", "portsFit", "()Z"⟩, 6) := ⟨⟨by decide +kernel, by decide +kernel⟩, List.mem_of_getElem? (i := 9) (by decide +kernel), List.mem_of_getElem? (i := 235) (by decide +kernel), List.mem_of_getElem? (i := 236) (by decide +kernel)⟩
theorem lw_p5 : lw_okq (⟨"PartitionDesk", "beginAnew", "()V"⟩, 6) := ⟨⟨by decide +kernel, by decide +kernel⟩, List.mem_of_getElem? (i := 9) (by decide +kernel), List.mem_of_getElem? (i := 239) (by decide +kernel), List.mem_of_getElem? (i := 240) (by decide +kernel)⟩
theorem lw_p6 : lw_okq (⟨"PartitionDesk", "passTick", "()Z"⟩, 6) := ⟨⟨by decide +kernel, by decide +kernel⟩, List.mem_of_getElem? (i := 9) (by decide +kernel), List.mem_of_getElem? (i := 271) (by decide +kernel), List.mem_of_getElem? (i := 272) (by decide +kernel)⟩
theorem lw_p7 : lw_okq (⟨"PartitionDesk", "doInstruction", "(I)V"⟩, 6) := ⟨⟨by decide +kernel, by decide +kernel⟩, List.mem_of_getElem? (i := 9) (by decide +kernel), List.mem_of_getElem? (i := 279) (by decide +kernel), List.mem_of_getElem? (i := 280) (by decide +kernel)⟩
theorem lw_p8 : lw_okq (⟨"PartitionDesk", "answerFault", "(II)V"⟩, 6) := ⟨⟨by decide +kernel, by decide +kernel⟩, List.mem_of_getElem? (i := 9) (by decide +kernel), List.mem_of_getElem? (i := 283) (by decide +kernel), List.mem_of_getElem? (i := 284) (by decide +kernel)⟩
theorem lw_p9 : lw_okq (⟨"PartitionDesk", "restart", "(I)V"⟩, 6) := ⟨⟨by decide +kernel, by decide +kernel⟩, List.mem_of_getElem? (i := 9) (by decide +kernel), List.mem_of_getElem? (i := 287) (by decide +kernel), List.mem_of_getElem? (i := 288) (by decide +kernel)⟩
theorem lw_p10 : lw_okq (⟨"PartitionDesk", "faultAhead", "(IIII)I"⟩, 6) := ⟨⟨by decide +kernel, by decide +kernel⟩, List.mem_of_getElem? (i := 9) (by decide +kernel), List.mem_of_getElem? (i := 292) (by decide +kernel), List.mem_of_getElem? (i := 293) (by decide +kernel)⟩
theorem lw_p11 : lw_okq (⟨"PartitionDesk", "isPort", "(I)Z"⟩, 6) := ⟨⟨by decide +kernel, by decide +kernel⟩, List.mem_of_getElem? (i := 9) (by decide +kernel), List.mem_of_getElem? (i := 306) (by decide +kernel), List.mem_of_getElem? (i := 307) (by decide +kernel)⟩
theorem lw_p12 : lw_okq (⟨"PartitionDesk", "carryOut", "(LPartitionDesk$Partition;III)V"⟩, 6) := ⟨⟨by decide +kernel, by decide +kernel⟩, List.mem_of_getElem? (i := 9) (by decide +kernel), List.mem_of_getElem? (i := 310) (by decide +kernel), List.mem_of_getElem? (i := 311) (by decide +kernel)⟩
theorem lw_p13 : lw_okq (⟨"PartitionDesk", "compute", "(LPartitionDesk$Partition;III)V"⟩, 6) := ⟨⟨by decide +kernel, by decide +kernel⟩, List.mem_of_getElem? (i := 9) (by decide +kernel), List.mem_of_getElem? (i := 314) (by decide +kernel), List.mem_of_getElem? (i := 315) (by decide +kernel)⟩
theorem lw_p14 : lw_okq (⟨"PartitionDesk", "communicate", "(LPartitionDesk$Partition;III)V"⟩, 6) := ⟨⟨by decide +kernel, by decide +kernel⟩, List.mem_of_getElem? (i := 9) (by decide +kernel), List.mem_of_getElem? (i := 322) (by decide +kernel), List.mem_of_getElem? (i := 323) (by decide +kernel)⟩
theorem lw_p15 : lw_okq (⟨"PartitionDeskModel", "wrong", "()I"⟩, 31) := ⟨⟨by decide +kernel, by decide +kernel⟩, List.mem_of_getElem? (i := 396) (by decide +kernel), List.mem_of_getElem? (i := 527) (by decide +kernel), List.mem_of_getElem? (i := 528) (by decide +kernel)⟩
def lw_privs_1 : List (MethodName × Nat) := [(⟨"PartitionDesk", "checkTable", "()I"⟩, 6), (⟨"PartitionDesk", "somebodyTakesPart", "()Z"⟩, 6), (⟨"PartitionDesk", "someRegionsOverlap", "()Z"⟩, 6), (⟨"PartitionDesk", "windowsFit", "()Z"⟩, 6), (⟨"PartitionDesk", "portsFit", "()Z"⟩, 6), (⟨"PartitionDesk", "beginAnew", "()V"⟩, 6), (⟨"PartitionDesk", "passTick", "()Z"⟩, 6), (⟨"PartitionDesk", "doInstruction", "(I)V"⟩, 6), (⟨"PartitionDesk", "answerFault", "(II)V"⟩, 6), (⟨"PartitionDesk", "restart", "(I)V"⟩, 6), (⟨"PartitionDesk", "faultAhead", "(IIII)I"⟩, 6), (⟨"PartitionDesk", "isPort", "(I)Z"⟩, 6), (⟨"PartitionDesk", "carryOut", "(LPartitionDesk$Partition;III)V"⟩, 6), (⟨"PartitionDesk", "compute", "(LPartitionDesk$Partition;III)V"⟩, 6), (⟨"PartitionDesk", "communicate", "(LPartitionDesk$Partition;III)V"⟩, 6), (⟨"PartitionDeskModel", "wrong", "()I"⟩, 31)]
theorem lw_r1 : ∀ q ∈ lw_privs_1, lw_okq q := List.forall_mem_cons.mpr ⟨lw_p0, List.forall_mem_cons.mpr ⟨lw_p1, List.forall_mem_cons.mpr ⟨lw_p2, List.forall_mem_cons.mpr ⟨lw_p3, List.forall_mem_cons.mpr ⟨lw_p4, List.forall_mem_cons.mpr ⟨lw_p5, List.forall_mem_cons.mpr ⟨lw_p6, List.forall_mem_cons.mpr ⟨lw_p7, List.forall_mem_cons.mpr ⟨lw_p8, List.forall_mem_cons.mpr ⟨lw_p9, List.forall_mem_cons.mpr ⟨lw_p10, List.forall_mem_cons.mpr ⟨lw_p11, List.forall_mem_cons.mpr ⟨lw_p12, List.forall_mem_cons.mpr ⟨lw_p13, List.forall_mem_cons.mpr ⟨lw_p14, List.forall_mem_cons.mpr ⟨lw_p15, fun _ h => absurd h List.not_mem_nil⟩⟩⟩⟩⟩⟩⟩⟩⟩⟩⟩⟩⟩⟩⟩⟩
theorem lw_p16 : lw_okq (⟨"PartitionDeskModel", "takesPart", "(I)Z"⟩, 31) := ⟨⟨by decide +kernel, by decide +kernel⟩, List.mem_of_getElem? (i := 396) (by decide +kernel), List.mem_of_getElem? (i := 531) (by decide +kernel), List.mem_of_getElem? (i := 532) (by decide +kernel)⟩
theorem lw_p17 : lw_okq (⟨"PartitionDeskModel", "step", "(I)V"⟩, 31) := ⟨⟨by decide +kernel, by decide +kernel⟩, List.mem_of_getElem? (i := 396) (by decide +kernel), List.mem_of_getElem? (i := 543) (by decide +kernel), List.mem_of_getElem? (i := 544) (by decide +kernel)⟩
theorem lw_p18 : lw_okq (⟨"PartitionDeskModel", "simple", "(IIII)I"⟩, 31) := ⟨⟨by decide +kernel, by decide +kernel⟩, List.mem_of_getElem? (i := 396) (by decide +kernel), List.mem_of_getElem? (i := 547) (by decide +kernel), List.mem_of_getElem? (i := 548) (by decide +kernel)⟩
theorem lw_p19 : lw_okq (⟨"PartitionDeskModel", "goOn", "(I)V"⟩, 31) := ⟨⟨by decide +kernel, by decide +kernel⟩, List.mem_of_getElem? (i := 396) (by decide +kernel), List.mem_of_getElem? (i := 551) (by decide +kernel), List.mem_of_getElem? (i := 552) (by decide +kernel)⟩
theorem lw_p20 : lw_okq (⟨"PartitionDeskModel", "inside", "(IIII)I"⟩, 31) := ⟨⟨by decide +kernel, by decide +kernel⟩, List.mem_of_getElem? (i := 396) (by decide +kernel), List.mem_of_getElem? (i := 555) (by decide +kernel), List.mem_of_getElem? (i := 556) (by decide +kernel)⟩
theorem lw_p21 : lw_okq (⟨"PartitionDeskModel", "message", "(IIII)I"⟩, 31) := ⟨⟨by decide +kernel, by decide +kernel⟩, List.mem_of_getElem? (i := 396) (by decide +kernel), List.mem_of_getElem? (i := 559) (by decide +kernel), List.mem_of_getElem? (i := 560) (by decide +kernel)⟩
theorem lw_p22 : lw_okq (⟨"PartitionDeskModel", "react", "(II)V"⟩, 31) := ⟨⟨by decide +kernel, by decide +kernel⟩, List.mem_of_getElem? (i := 396) (by decide +kernel), List.mem_of_getElem? (i := 563) (by decide +kernel), List.mem_of_getElem? (i := 564) (by decide +kernel)⟩
def lw_privs_2 : List (MethodName × Nat) := [(⟨"PartitionDeskModel", "takesPart", "(I)Z"⟩, 31), (⟨"PartitionDeskModel", "step", "(I)V"⟩, 31), (⟨"PartitionDeskModel", "simple", "(IIII)I"⟩, 31), (⟨"PartitionDeskModel", "goOn", "(I)V"⟩, 31), (⟨"PartitionDeskModel", "inside", "(IIII)I"⟩, 31), (⟨"PartitionDeskModel", "message", "(IIII)I"⟩, 31), (⟨"PartitionDeskModel", "react", "(II)V"⟩, 31)]
theorem lw_r2 : ∀ q ∈ lw_privs_2, lw_okq q := List.forall_mem_cons.mpr ⟨lw_p16, List.forall_mem_cons.mpr ⟨lw_p17, List.forall_mem_cons.mpr ⟨lw_p18, List.forall_mem_cons.mpr ⟨lw_p19, List.forall_mem_cons.mpr ⟨lw_p20, List.forall_mem_cons.mpr ⟨lw_p21, List.forall_mem_cons.mpr ⟨lw_p22, fun _ h => absurd h List.not_mem_nil⟩⟩⟩⟩⟩⟩⟩
def lw_privs : List (MethodName × Nat) := lw_privs_1 ++ (lw_privs_2)
def lw_tbl : List Cond := k2_sels lw_privs ++ tables_1
theorem lw_privs_ok : ∀ q ∈ lw_privs, lw_okq q := by
  show ∀ q ∈ lw_privs_1 ++ (lw_privs_2), lw_okq q
  exact List.forall_mem_append.mpr ⟨lw_r1, lw_r2⟩
end
section
/-! names, layouts, words -/
def Rn0 : String := "PartitionDesk"
def Tn0 : u_T := fun k => match k with
  | 0 => ("PartitionDesk", "memory", "[I", true)
  | 1 => ("PartitionDesk", "partitions", "[LPartitionDesk$Partition;", true)
  | 2 => ("PartitionDesk", "ports", "[LPartitionDesk$Port;", true)
  | 3 => ("PartitionDesk", "frame", "LPartitionDesk$Frame;", true)
  | 4 => ("PartitionDesk", "portCount", "I", false)
  | _ => ("PartitionDesk", "started", "Z", false)
def Rn1 : String := "PartitionDesk$Partition"
def Tn1 : u_T := fun k => match k with
  | 0 => ("PartitionDesk$Partition", "ops", "[I", true)
  | 1 => ("PartitionDesk$Partition", "firsts", "[I", true)
  | 2 => ("PartitionDesk$Partition", "seconds", "[I", true)
  | 3 => ("PartitionDesk$Partition", "actions", "[I", true)
  | 4 => ("PartitionDesk$Partition", "registers", "[I", true)
  | 5 => ("PartitionDesk$Partition", "inputs", "LPartitionDesk$ValueQueue;", true)
  | 6 => ("PartitionDesk$Partition", "outputs", "[I", true)
  | 7 => ("PartitionDesk$Partition", "from", "I", false)
  | 8 => ("PartitionDesk$Partition", "size", "I", false)
  | 9 => ("PartitionDesk$Partition", "place", "I", false)
  | 10 => ("PartitionDesk$Partition", "running", "Z", false)
  | 11 => ("PartitionDesk$Partition", "faults", "I", false)
  | _ => ("PartitionDesk$Partition", "outputCount", "I", false)
def Rn2 : String := "PartitionDesk$Port"
def Tn2 : u_T := fun k => match k with
  | 0 => ("PartitionDesk$Port", "values", "LPartitionDesk$ValueQueue;", true)
  | 1 => ("PartitionDesk$Port", "from", "I", false)
  | 2 => ("PartitionDesk$Port", "to", "I", false)
  | 3 => ("PartitionDesk$Port", "depth", "I", false)
  | _ => ("PartitionDesk$Port", "writtenAt", "I", false)
def Rn3 : String := "PartitionDesk$Frame"
def Tn3 : u_T := fun k => match k with
  | 0 => ("PartitionDesk$Frame", "owners", "[I", true)
  | 1 => ("PartitionDesk$Frame", "lengths", "[I", true)
  | 2 => ("PartitionDesk$Frame", "windows", "I", false)
  | 3 => ("PartitionDesk$Frame", "atHand", "I", false)
  | 4 => ("PartitionDesk$Frame", "over", "I", false)
  | 5 => ("PartitionDesk$Frame", "passed", "I", false)
  | _ => ("PartitionDesk$Frame", "waited", "Z", false)
def Rn4 : String := "PartitionDesk$ValueQueue"
def Tn4 : u_T := fun k => match k with
  | 0 => ("PartitionDesk$ValueQueue", "values", "[I", true)
  | 1 => ("PartitionDesk$ValueQueue", "first", "I", false)
  | _ => ("PartitionDesk$ValueQueue", "count", "I", false)
def Rn5 : String := "PartitionDeskModel"
def Tn5 : u_T := fun k => match k with
  | 0 => ("PartitionDeskModel", "from", "[I", true)
  | 1 => ("PartitionDeskModel", "size", "[I", true)
  | 2 => ("PartitionDeskModel", "whose", "[I", true)
  | 3 => ("PartitionDeskModel", "ticks", "[I", true)
  | 4 => ("PartitionDeskModel", "sender", "[I", true)
  | 5 => ("PartitionDeskModel", "taker", "[I", true)
  | 6 => ("PartitionDeskModel", "depth", "[I", true)
  | 7 => ("PartitionDeskModel", "held", "[I", true)
  | 8 => ("PartitionDeskModel", "written", "[I", true)
  | 9 => ("PartitionDeskModel", "value", "[I", true)
  | 10 => ("PartitionDeskModel", "action", "[I", true)
  | 11 => ("PartitionDeskModel", "op", "[I", true)
  | 12 => ("PartitionDeskModel", "first", "[I", true)
  | 13 => ("PartitionDeskModel", "second", "[I", true)
  | 14 => ("PartitionDeskModel", "memory", "[I", true)
  | 15 => ("PartitionDeskModel", "register", "[I", true)
  | 16 => ("PartitionDeskModel", "place", "[I", true)
  | 17 => ("PartitionDeskModel", "faults", "[I", true)
  | 18 => ("PartitionDeskModel", "runs", "[Z", true)
  | 19 => ("PartitionDeskModel", "waits", "[Z", true)
  | 20 => ("PartitionDeskModel", "inputs", "[I", true)
  | 21 => ("PartitionDeskModel", "input", "[I", true)
  | 22 => ("PartitionDeskModel", "outputs", "[I", true)
  | 23 => ("PartitionDeskModel", "output", "[I", true)
  | 24 => ("PartitionDeskModel", "windows", "I", false)
  | 25 => ("PartitionDeskModel", "ports", "I", false)
  | 26 => ("PartitionDeskModel", "started", "Z", false)
  | 27 => ("PartitionDeskModel", "window", "I", false)
  | 28 => ("PartitionDeskModel", "over", "I", false)
  | 29 => ("PartitionDeskModel", "time", "I", false)
  | _ => ("PartitionDeskModel", "done", "I", false)
def R_2 : String := "PartitionDesk$Partition"
def R_3 : String := "PartitionDesk$Port"
abbrev classes : List vw_C := [(Rn0, Tn0, 6), (Rn1, Tn1, 13), (Rn2, Tn2, 5), (Rn3, Tn3, 7), (Rn4, Tn4, 3), (Rn5, Tn5, 31)]
/-- how many references, how many fields -/
def nR : Nat → Nat := fun c => match c with
  | 0 => 4
  | 1 => 7
  | 2 => 1
  | 3 => 2
  | 4 => 1
  | _ => 24
def nF : Nat → Nat := fun c => match c with
  | 0 => 6
  | 1 => 13
  | 2 => 5
  | 3 => 7
  | 4 => 3
  | _ => 31
def fT : Nat → Nat → FieldType := fun c => match c with
  | 0 => fun k => match k with
    | 0 => .array .int
    | 1 => .array (.object "PartitionDesk$Partition")
    | 2 => .array (.object "PartitionDesk$Port")
    | 3 => .object "PartitionDesk$Frame"
    | 4 => .int
    | _ => .boolean
  | 1 => fun k => match k with
    | 0 => .array .int
    | 1 => .array .int
    | 2 => .array .int
    | 3 => .array .int
    | 4 => .array .int
    | 5 => .object "PartitionDesk$ValueQueue"
    | 6 => .array .int
    | 7 => .int
    | 8 => .int
    | 9 => .int
    | 10 => .boolean
    | 11 => .int
    | _ => .int
  | 2 => fun k => match k with
    | 0 => .object "PartitionDesk$ValueQueue"
    | 1 => .int
    | 2 => .int
    | 3 => .int
    | _ => .int
  | 3 => fun k => match k with
    | 0 => .array .int
    | 1 => .array .int
    | 2 => .int
    | 3 => .int
    | 4 => .int
    | 5 => .int
    | _ => .boolean
  | 4 => fun k => match k with
    | 0 => .array .int
    | 1 => .int
    | _ => .int
  | _ => fun k => match k with
    | 0 => .array .int
    | 1 => .array .int
    | 2 => .array .int
    | 3 => .array .int
    | 4 => .array .int
    | 5 => .array .int
    | 6 => .array .int
    | 7 => .array .int
    | 8 => .array .int
    | 9 => .array .int
    | 10 => .array .int
    | 11 => .array .int
    | 12 => .array .int
    | 13 => .array .int
    | 14 => .array .int
    | 15 => .array .int
    | 16 => .array .int
    | 17 => .array .int
    | 18 => .array .boolean
    | 19 => .array .boolean
    | 20 => .array .int
    | 21 => .array .int
    | 22 => .array .int
    | 23 => .array .int
    | 24 => .int
    | 25 => .int
    | 26 => .boolean
    | 27 => .int
    | 28 => .int
    | 29 => .int
    | _ => .int
def AllW : List Cond := lw_tbl.filter goodWord
theorem AllW_good (x : Cond) (h : x ∈ AllW) : (x.onTables && x.keeps) = true ∨ ∃ ty, x = .arrayClass ty := good_of_word (List.mem_filter.mp h).2
theorem AllW_tbl (x : Cond) (h : x ∈ AllW) : x ∈ lw_tbl := (List.mem_filter.mp h).1
theorem aw {x : Cond} (i : Nat) (h : lw_tbl[i]? = some x) (g : goodWord x = true) : x ∈ AllW := List.mem_filter.mpr ⟨List.mem_of_getElem? h, g⟩
def NestW : List Cond := [.methodLinkNest "PartitionDesk$Partition" 63 ⟨"PartitionDesk", "registerNamed", "(I)I"⟩ "PartitionDesk"]
theorem NestW_tab (x : Cond) (h : x ∈ NestW) : x.onTables = true := by
  rw [List.mem_singleton.mp h]
  rfl
theorem NestW_warm {s U : State} (hW : s.WarmedH U.vm) (h : ∀ x ∈ NestW, va_Nw x s) : ∀ x ∈ NestW, va_Nw x U := by
  intro x hx
  have h1 := h x hx
  rw [List.mem_singleton.mp hx] at h1 ⊢
  exact va_Nw.warmM hW h1
theorem q_0 : (.laysFinal "PartitionDesk" "PartitionDesk" "memory" "[I" : Cond) ∈ AllW := aw 180 (by decide +kernel) rfl
theorem q_1 : (.laysFinal "PartitionDesk" "PartitionDesk" "partitions" "[LPartitionDesk$Partition;" : Cond) ∈ AllW := aw 182 (by decide +kernel) rfl
theorem q_2 : (.laysFinal "PartitionDesk" "PartitionDesk" "ports" "[LPartitionDesk$Port;" : Cond) ∈ AllW := aw 184 (by decide +kernel) rfl
theorem q_3 : (.laysFinal "PartitionDesk" "PartitionDesk" "frame" "LPartitionDesk$Frame;" : Cond) ∈ AllW := aw 186 (by decide +kernel) rfl
theorem q_4 : (.lays "PartitionDesk" "PartitionDesk" "portCount" "I" : Cond) ∈ AllW := aw 188 (by decide +kernel) rfl
theorem q_5 : (.lays "PartitionDesk" "PartitionDesk" "started" "Z" : Cond) ∈ AllW := aw 190 (by decide +kernel) rfl
theorem lay0_w : ∀ w ∈ u_ws Rn0 Tn0 6, w ∈ AllW := by
  show ∀ w ∈ [u_lay Rn0 Tn0 0, u_lay Rn0 Tn0 1, u_lay Rn0 Tn0 2, u_lay Rn0 Tn0 3, u_lay Rn0 Tn0 4, u_lay Rn0 Tn0 5], w ∈ AllW
  exact List.forall_mem_cons.mpr ⟨q_0, List.forall_mem_cons.mpr ⟨q_1, List.forall_mem_cons.mpr ⟨q_2, List.forall_mem_cons.mpr ⟨q_3, List.forall_mem_cons.mpr ⟨q_4, List.forall_mem_cons.mpr ⟨q_5, fun _ h => absurd h List.not_mem_nil⟩⟩⟩⟩⟩⟩
theorem q_6 : (.laysFinal "PartitionDesk$Partition" "PartitionDesk$Partition" "ops" "[I" : Cond) ∈ AllW := aw 94 (by decide +kernel) rfl
theorem q_7 : (.laysFinal "PartitionDesk$Partition" "PartitionDesk$Partition" "firsts" "[I" : Cond) ∈ AllW := aw 96 (by decide +kernel) rfl
theorem q_8 : (.laysFinal "PartitionDesk$Partition" "PartitionDesk$Partition" "seconds" "[I" : Cond) ∈ AllW := aw 98 (by decide +kernel) rfl
theorem q_9 : (.laysFinal "PartitionDesk$Partition" "PartitionDesk$Partition" "actions" "[I" : Cond) ∈ AllW := aw 100 (by decide +kernel) rfl
theorem q_10 : (.laysFinal "PartitionDesk$Partition" "PartitionDesk$Partition" "registers" "[I" : Cond) ∈ AllW := aw 102 (by decide +kernel) rfl
theorem q_11 : (.laysFinal "PartitionDesk$Partition" "PartitionDesk$Partition" "inputs" "LPartitionDesk$ValueQueue;" : Cond) ∈ AllW := aw 110 (by decide +kernel) rfl
theorem q_12 : (.laysFinal "PartitionDesk$Partition" "PartitionDesk$Partition" "outputs" "[I" : Cond) ∈ AllW := aw 112 (by decide +kernel) rfl
theorem q_13 : (.lays "PartitionDesk$Partition" "PartitionDesk$Partition" "from" "I" : Cond) ∈ AllW := aw 90 (by decide +kernel) rfl
theorem q_14 : (.lays "PartitionDesk$Partition" "PartitionDesk$Partition" "size" "I" : Cond) ∈ AllW := aw 92 (by decide +kernel) rfl
theorem q_15 : (.lays "PartitionDesk$Partition" "PartitionDesk$Partition" "place" "I" : Cond) ∈ AllW := aw 104 (by decide +kernel) rfl
theorem q_16 : (.lays "PartitionDesk$Partition" "PartitionDesk$Partition" "running" "Z" : Cond) ∈ AllW := aw 106 (by decide +kernel) rfl
theorem q_17 : (.lays "PartitionDesk$Partition" "PartitionDesk$Partition" "faults" "I" : Cond) ∈ AllW := aw 108 (by decide +kernel) rfl
theorem q_18 : (.lays "PartitionDesk$Partition" "PartitionDesk$Partition" "outputCount" "I" : Cond) ∈ AllW := aw 114 (by decide +kernel) rfl
theorem lay1_w : ∀ w ∈ u_ws Rn1 Tn1 13, w ∈ AllW := by
  show ∀ w ∈ [u_lay Rn1 Tn1 0, u_lay Rn1 Tn1 1, u_lay Rn1 Tn1 2, u_lay Rn1 Tn1 3, u_lay Rn1 Tn1 4, u_lay Rn1 Tn1 5, u_lay Rn1 Tn1 6, u_lay Rn1 Tn1 7, u_lay Rn1 Tn1 8, u_lay Rn1 Tn1 9, u_lay Rn1 Tn1 10, u_lay Rn1 Tn1 11, u_lay Rn1 Tn1 12], w ∈ AllW
  exact List.forall_mem_cons.mpr ⟨q_6, List.forall_mem_cons.mpr ⟨q_7, List.forall_mem_cons.mpr ⟨q_8, List.forall_mem_cons.mpr ⟨q_9, List.forall_mem_cons.mpr ⟨q_10, List.forall_mem_cons.mpr ⟨q_11, List.forall_mem_cons.mpr ⟨q_12, List.forall_mem_cons.mpr ⟨q_13, List.forall_mem_cons.mpr ⟨q_14, List.forall_mem_cons.mpr ⟨q_15, List.forall_mem_cons.mpr ⟨q_16, List.forall_mem_cons.mpr ⟨q_17, List.forall_mem_cons.mpr ⟨q_18, fun _ h => absurd h List.not_mem_nil⟩⟩⟩⟩⟩⟩⟩⟩⟩⟩⟩⟩⟩
theorem q_19 : (.laysFinal "PartitionDesk$Port" "PartitionDesk$Port" "values" "LPartitionDesk$ValueQueue;" : Cond) ∈ AllW := aw 139 (by decide +kernel) rfl
theorem q_20 : (.lays "PartitionDesk$Port" "PartitionDesk$Port" "from" "I" : Cond) ∈ AllW := aw 133 (by decide +kernel) rfl
theorem q_21 : (.lays "PartitionDesk$Port" "PartitionDesk$Port" "to" "I" : Cond) ∈ AllW := aw 135 (by decide +kernel) rfl
theorem q_22 : (.lays "PartitionDesk$Port" "PartitionDesk$Port" "depth" "I" : Cond) ∈ AllW := aw 137 (by decide +kernel) rfl
theorem q_23 : (.lays "PartitionDesk$Port" "PartitionDesk$Port" "writtenAt" "I" : Cond) ∈ AllW := aw 141 (by decide +kernel) rfl
theorem lay2_w : ∀ w ∈ u_ws Rn2 Tn2 5, w ∈ AllW := by
  show ∀ w ∈ [u_lay Rn2 Tn2 0, u_lay Rn2 Tn2 1, u_lay Rn2 Tn2 2, u_lay Rn2 Tn2 3, u_lay Rn2 Tn2 4], w ∈ AllW
  exact List.forall_mem_cons.mpr ⟨q_19, List.forall_mem_cons.mpr ⟨q_20, List.forall_mem_cons.mpr ⟨q_21, List.forall_mem_cons.mpr ⟨q_22, List.forall_mem_cons.mpr ⟨q_23, fun _ h => absurd h List.not_mem_nil⟩⟩⟩⟩⟩
theorem q_24 : (.laysFinal "PartitionDesk$Frame" "PartitionDesk$Frame" "owners" "[I" : Cond) ∈ AllW := aw 159 (by decide +kernel) rfl
theorem q_25 : (.laysFinal "PartitionDesk$Frame" "PartitionDesk$Frame" "lengths" "[I" : Cond) ∈ AllW := aw 161 (by decide +kernel) rfl
theorem q_26 : (.lays "PartitionDesk$Frame" "PartitionDesk$Frame" "windows" "I" : Cond) ∈ AllW := aw 163 (by decide +kernel) rfl
theorem q_27 : (.lays "PartitionDesk$Frame" "PartitionDesk$Frame" "atHand" "I" : Cond) ∈ AllW := aw 165 (by decide +kernel) rfl
theorem q_28 : (.lays "PartitionDesk$Frame" "PartitionDesk$Frame" "over" "I" : Cond) ∈ AllW := aw 167 (by decide +kernel) rfl
theorem q_29 : (.lays "PartitionDesk$Frame" "PartitionDesk$Frame" "passed" "I" : Cond) ∈ AllW := aw 169 (by decide +kernel) rfl
theorem q_30 : (.lays "PartitionDesk$Frame" "PartitionDesk$Frame" "waited" "Z" : Cond) ∈ AllW := aw 171 (by decide +kernel) rfl
theorem lay3_w : ∀ w ∈ u_ws Rn3 Tn3 7, w ∈ AllW := by
  show ∀ w ∈ [u_lay Rn3 Tn3 0, u_lay Rn3 Tn3 1, u_lay Rn3 Tn3 2, u_lay Rn3 Tn3 3, u_lay Rn3 Tn3 4, u_lay Rn3 Tn3 5, u_lay Rn3 Tn3 6], w ∈ AllW
  exact List.forall_mem_cons.mpr ⟨q_24, List.forall_mem_cons.mpr ⟨q_25, List.forall_mem_cons.mpr ⟨q_26, List.forall_mem_cons.mpr ⟨q_27, List.forall_mem_cons.mpr ⟨q_28, List.forall_mem_cons.mpr ⟨q_29, List.forall_mem_cons.mpr ⟨q_30, fun _ h => absurd h List.not_mem_nil⟩⟩⟩⟩⟩⟩⟩
theorem q_31 : (.laysFinal "PartitionDesk$ValueQueue" "PartitionDesk$ValueQueue" "values" "[I" : Cond) ∈ AllW := aw 58 (by decide +kernel) rfl
theorem q_32 : (.lays "PartitionDesk$ValueQueue" "PartitionDesk$ValueQueue" "first" "I" : Cond) ∈ AllW := aw 60 (by decide +kernel) rfl
theorem q_33 : (.lays "PartitionDesk$ValueQueue" "PartitionDesk$ValueQueue" "count" "I" : Cond) ∈ AllW := aw 62 (by decide +kernel) rfl
theorem lay4_w : ∀ w ∈ u_ws Rn4 Tn4 3, w ∈ AllW := by
  show ∀ w ∈ [u_lay Rn4 Tn4 0, u_lay Rn4 Tn4 1, u_lay Rn4 Tn4 2], w ∈ AllW
  exact List.forall_mem_cons.mpr ⟨q_31, List.forall_mem_cons.mpr ⟨q_32, List.forall_mem_cons.mpr ⟨q_33, fun _ h => absurd h List.not_mem_nil⟩⟩⟩
theorem q_34 : (.laysFinal "PartitionDeskModel" "PartitionDeskModel" "from" "[I" : Cond) ∈ AllW := aw 455 (by decide +kernel) rfl
theorem q_35 : (.laysFinal "PartitionDeskModel" "PartitionDeskModel" "size" "[I" : Cond) ∈ AllW := aw 457 (by decide +kernel) rfl
theorem q_36 : (.laysFinal "PartitionDeskModel" "PartitionDeskModel" "whose" "[I" : Cond) ∈ AllW := aw 463 (by decide +kernel) rfl
theorem q_37 : (.laysFinal "PartitionDeskModel" "PartitionDeskModel" "ticks" "[I" : Cond) ∈ AllW := aw 465 (by decide +kernel) rfl
theorem q_38 : (.laysFinal "PartitionDeskModel" "PartitionDeskModel" "sender" "[I" : Cond) ∈ AllW := aw 467 (by decide +kernel) rfl
theorem q_39 : (.laysFinal "PartitionDeskModel" "PartitionDeskModel" "taker" "[I" : Cond) ∈ AllW := aw 469 (by decide +kernel) rfl
theorem q_40 : (.laysFinal "PartitionDeskModel" "PartitionDeskModel" "depth" "[I" : Cond) ∈ AllW := aw 471 (by decide +kernel) rfl
theorem q_41 : (.laysFinal "PartitionDeskModel" "PartitionDeskModel" "held" "[I" : Cond) ∈ AllW := aw 473 (by decide +kernel) rfl
theorem q_42 : (.laysFinal "PartitionDeskModel" "PartitionDeskModel" "written" "[I" : Cond) ∈ AllW := aw 475 (by decide +kernel) rfl
theorem q_43 : (.laysFinal "PartitionDeskModel" "PartitionDeskModel" "value" "[I" : Cond) ∈ AllW := aw 477 (by decide +kernel) rfl
theorem q_44 : (.laysFinal "PartitionDeskModel" "PartitionDeskModel" "action" "[I" : Cond) ∈ AllW := aw 479 (by decide +kernel) rfl
theorem q_45 : (.laysFinal "PartitionDeskModel" "PartitionDeskModel" "op" "[I" : Cond) ∈ AllW := aw 481 (by decide +kernel) rfl
theorem q_46 : (.laysFinal "PartitionDeskModel" "PartitionDeskModel" "first" "[I" : Cond) ∈ AllW := aw 483 (by decide +kernel) rfl
theorem q_47 : (.laysFinal "PartitionDeskModel" "PartitionDeskModel" "second" "[I" : Cond) ∈ AllW := aw 485 (by decide +kernel) rfl
theorem q_48 : (.laysFinal "PartitionDeskModel" "PartitionDeskModel" "memory" "[I" : Cond) ∈ AllW := aw 497 (by decide +kernel) rfl
theorem q_49 : (.laysFinal "PartitionDeskModel" "PartitionDeskModel" "register" "[I" : Cond) ∈ AllW := aw 499 (by decide +kernel) rfl
theorem q_50 : (.laysFinal "PartitionDeskModel" "PartitionDeskModel" "place" "[I" : Cond) ∈ AllW := aw 501 (by decide +kernel) rfl
theorem q_51 : (.laysFinal "PartitionDeskModel" "PartitionDeskModel" "faults" "[I" : Cond) ∈ AllW := aw 503 (by decide +kernel) rfl
theorem q_52 : (.laysFinal "PartitionDeskModel" "PartitionDeskModel" "runs" "[Z" : Cond) ∈ AllW := aw 505 (by decide +kernel) rfl
theorem q_53 : (.laysFinal "PartitionDeskModel" "PartitionDeskModel" "waits" "[Z" : Cond) ∈ AllW := aw 507 (by decide +kernel) rfl
theorem q_54 : (.laysFinal "PartitionDeskModel" "PartitionDeskModel" "inputs" "[I" : Cond) ∈ AllW := aw 509 (by decide +kernel) rfl
theorem q_55 : (.laysFinal "PartitionDeskModel" "PartitionDeskModel" "input" "[I" : Cond) ∈ AllW := aw 511 (by decide +kernel) rfl
theorem q_56 : (.laysFinal "PartitionDeskModel" "PartitionDeskModel" "outputs" "[I" : Cond) ∈ AllW := aw 513 (by decide +kernel) rfl
theorem q_57 : (.laysFinal "PartitionDeskModel" "PartitionDeskModel" "output" "[I" : Cond) ∈ AllW := aw 515 (by decide +kernel) rfl
theorem q_58 : (.lays "PartitionDeskModel" "PartitionDeskModel" "windows" "I" : Cond) ∈ AllW := aw 459 (by decide +kernel) rfl
theorem q_59 : (.lays "PartitionDeskModel" "PartitionDeskModel" "ports" "I" : Cond) ∈ AllW := aw 461 (by decide +kernel) rfl
theorem q_60 : (.lays "PartitionDeskModel" "PartitionDeskModel" "started" "Z" : Cond) ∈ AllW := aw 487 (by decide +kernel) rfl
theorem q_61 : (.lays "PartitionDeskModel" "PartitionDeskModel" "window" "I" : Cond) ∈ AllW := aw 489 (by decide +kernel) rfl
theorem q_62 : (.lays "PartitionDeskModel" "PartitionDeskModel" "over" "I" : Cond) ∈ AllW := aw 491 (by decide +kernel) rfl
theorem q_63 : (.lays "PartitionDeskModel" "PartitionDeskModel" "time" "I" : Cond) ∈ AllW := aw 493 (by decide +kernel) rfl
theorem q_64 : (.lays "PartitionDeskModel" "PartitionDeskModel" "done" "I" : Cond) ∈ AllW := aw 495 (by decide +kernel) rfl
theorem lay5_w : ∀ w ∈ u_ws Rn5 Tn5 31, w ∈ AllW := by
  show ∀ w ∈ [u_lay Rn5 Tn5 0, u_lay Rn5 Tn5 1, u_lay Rn5 Tn5 2, u_lay Rn5 Tn5 3, u_lay Rn5 Tn5 4, u_lay Rn5 Tn5 5, u_lay Rn5 Tn5 6, u_lay Rn5 Tn5 7, u_lay Rn5 Tn5 8, u_lay Rn5 Tn5 9, u_lay Rn5 Tn5 10, u_lay Rn5 Tn5 11, u_lay Rn5 Tn5 12, u_lay Rn5 Tn5 13, u_lay Rn5 Tn5 14, u_lay Rn5 Tn5 15, u_lay Rn5 Tn5 16, u_lay Rn5 Tn5 17, u_lay Rn5 Tn5 18, u_lay Rn5 Tn5 19, u_lay Rn5 Tn5 20, u_lay Rn5 Tn5 21, u_lay Rn5 Tn5 22, u_lay Rn5 Tn5 23, u_lay Rn5 Tn5 24, u_lay Rn5 Tn5 25, u_lay Rn5 Tn5 26, u_lay Rn5 Tn5 27, u_lay Rn5 Tn5 28, u_lay Rn5 Tn5 29, u_lay Rn5 Tn5 30], w ∈ AllW
  exact List.forall_mem_cons.mpr ⟨q_34, List.forall_mem_cons.mpr ⟨q_35, List.forall_mem_cons.mpr ⟨q_36, List.forall_mem_cons.mpr ⟨q_37, List.forall_mem_cons.mpr ⟨q_38, List.forall_mem_cons.mpr ⟨q_39, List.forall_mem_cons.mpr ⟨q_40, List.forall_mem_cons.mpr ⟨q_41, List.forall_mem_cons.mpr ⟨q_42, List.forall_mem_cons.mpr ⟨q_43, List.forall_mem_cons.mpr ⟨q_44, List.forall_mem_cons.mpr ⟨q_45, List.forall_mem_cons.mpr ⟨q_46, List.forall_mem_cons.mpr ⟨q_47, List.forall_mem_cons.mpr ⟨q_48, List.forall_mem_cons.mpr ⟨q_49, List.forall_mem_cons.mpr ⟨q_50, List.forall_mem_cons.mpr ⟨q_51, List.forall_mem_cons.mpr ⟨q_52, List.forall_mem_cons.mpr ⟨q_53, List.forall_mem_cons.mpr ⟨q_54, List.forall_mem_cons.mpr ⟨q_55, List.forall_mem_cons.mpr ⟨q_56, List.forall_mem_cons.mpr ⟨q_57, List.forall_mem_cons.mpr ⟨q_58, List.forall_mem_cons.mpr ⟨q_59, List.forall_mem_cons.mpr ⟨q_60, List.forall_mem_cons.mpr ⟨q_61, List.forall_mem_cons.mpr ⟨q_62, List.forall_mem_cons.mpr ⟨q_63, List.forall_mem_cons.mpr ⟨q_64, fun _ h => absurd h List.not_mem_nil⟩⟩⟩⟩⟩⟩⟩⟩⟩⟩⟩⟩⟩⟩⟩⟩⟩⟩⟩⟩⟩⟩⟩⟩⟩⟩⟩⟩⟩⟩⟩
/-! methods: name, code, locals, answer -/
def u_D_init : MethodName × ByteArray × Nat × Option FieldType := (⟨"PartitionDesk", "<init>", "()V"⟩, prog_1_method_1_code, 2, none)
def u_D_region : MethodName × ByteArray × Nat × Option FieldType := (⟨"PartitionDesk", "region", "(III)Z"⟩, prog_1_method_2_code, 4, (some .boolean))
def u_D_window : MethodName × ByteArray × Nat × Option FieldType := (⟨"PartitionDesk", "window", "(II)Z"⟩, prog_1_method_3_code, 3, (some .boolean))
def u_D_port : MethodName × ByteArray × Nat × Option FieldType := (⟨"PartitionDesk", "port", "(III)I"⟩, prog_1_method_4_code, 5, (some .int))
def u_D_action : MethodName × ByteArray × Nat × Option FieldType := (⟨"PartitionDesk", "action", "(III)Z"⟩, prog_1_method_5_code, 4, (some .boolean))
def u_D_code : MethodName × ByteArray × Nat × Option FieldType := (⟨"PartitionDesk", "code", "(IIIII)Z"⟩, prog_1_method_6_code, 6, (some .boolean))
def u_D_start : MethodName × ByteArray × Nat × Option FieldType := (⟨"PartitionDesk", "start", "()I"⟩, prog_1_method_7_code, 2, (some .int))
def u_D_input : MethodName × ByteArray × Nat × Option FieldType := (⟨"PartitionDesk", "input", "(II)I"⟩, prog_1_method_8_code, 4, (some .int))
def u_D_run : MethodName × ByteArray × Nat × Option FieldType := (⟨"PartitionDesk", "run", "(I)I"⟩, prog_1_method_9_code, 4, (some .int))
def u_D_output : MethodName × ByteArray × Nat × Option FieldType := (⟨"PartitionDesk", "output", "(II)I"⟩, prog_1_method_10_code, 3, (some .int))
def u_D_about : MethodName × ByteArray × Nat × Option FieldType := (⟨"PartitionDesk", "about", "(II)I"⟩, prog_1_method_11_code, 3, (some .int))
def u_D_word : MethodName × ByteArray × Nat × Option FieldType := (⟨"PartitionDesk", "word", "(I)I"⟩, prog_1_method_12_code, 2, (some .int))
def u_D_waiting : MethodName × ByteArray × Nat × Option FieldType := (⟨"PartitionDesk", "waiting", "(I)I"⟩, prog_1_method_13_code, 2, (some .int))
def u_D_clock : MethodName × ByteArray × Nat × Option FieldType := (⟨"PartitionDesk", "clock", "(I)I"⟩, prog_1_method_14_code, 2, (some .int))
def u_D_isPartition : MethodName × ByteArray × Nat × Option FieldType := (⟨"PartitionDesk", "isPartition", "(I)Z"⟩, prog_1_method_15_code, 1, (some .boolean))
def u_D_isPort : MethodName × ByteArray × Nat × Option FieldType := (⟨"PartitionDesk", "isPort", "(I)Z"⟩, prog_1_method_16_code, 2, (some .boolean))
def u_D_checkTable : MethodName × ByteArray × Nat × Option FieldType := (⟨"PartitionDesk", "checkTable", "()I"⟩, prog_1_method_17_code, 1, (some .int))
def u_D_somebodyTakesPart : MethodName × ByteArray × Nat × Option FieldType := (⟨"PartitionDesk", "somebodyTakesPart", "()Z"⟩, prog_1_method_18_code, 2, (some .boolean))
def u_D_someRegionsOverlap : MethodName × ByteArray × Nat × Option FieldType := (⟨"PartitionDesk", "someRegionsOverlap", "()Z"⟩, prog_1_method_19_code, 3, (some .boolean))
def u_D_windowsFit : MethodName × ByteArray × Nat × Option FieldType := (⟨"PartitionDesk", "windowsFit", "()Z"⟩, prog_1_method_20_code, 2, (some .boolean))
def u_D_portsFit : MethodName × ByteArray × Nat × Option FieldType := (⟨"PartitionDesk", "portsFit", "()Z"⟩, prog_1_method_21_code, 2, (some .boolean))
def u_D_beginAnew : MethodName × ByteArray × Nat × Option FieldType := (⟨"PartitionDesk", "beginAnew", "()V"⟩, prog_1_method_22_code, 2, none)
def u_D_passTick : MethodName × ByteArray × Nat × Option FieldType := (⟨"PartitionDesk", "passTick", "()Z"⟩, prog_1_method_23_code, 3, (some .boolean))
def u_D_doInstruction : MethodName × ByteArray × Nat × Option FieldType := (⟨"PartitionDesk", "doInstruction", "(I)V"⟩, prog_1_method_24_code, 5, none)
def u_D_faultAhead : MethodName × ByteArray × Nat × Option FieldType := (⟨"PartitionDesk", "faultAhead", "(IIII)I"⟩, prog_1_method_25_code, 5, (some .int))
def u_D_carryOut : MethodName × ByteArray × Nat × Option FieldType := (⟨"PartitionDesk", "carryOut", "(LPartitionDesk$Partition;III)V"⟩, prog_1_method_26_code, 5, none)
def u_D_compute : MethodName × ByteArray × Nat × Option FieldType := (⟨"PartitionDesk", "compute", "(LPartitionDesk$Partition;III)V"⟩, prog_1_method_27_code, 8, none)
def u_D_jump : MethodName × ByteArray × Nat × Option FieldType := (⟨"PartitionDesk", "jump", "(LPartitionDesk$Partition;III)V"⟩, prog_1_method_28_code, 4, none)
def u_D_communicate : MethodName × ByteArray × Nat × Option FieldType := (⟨"PartitionDesk", "communicate", "(LPartitionDesk$Partition;III)V"⟩, prog_1_method_29_code, 7, none)
def u_D_registerNamed : MethodName × ByteArray × Nat × Option FieldType := (⟨"PartitionDesk", "registerNamed", "(I)I"⟩, prog_1_method_30_code, 1, (some .int))
def u_D_answerFault : MethodName × ByteArray × Nat × Option FieldType := (⟨"PartitionDesk", "answerFault", "(II)V"⟩, prog_1_method_31_code, 4, none)
def u_D_restart : MethodName × ByteArray × Nat × Option FieldType := (⟨"PartitionDesk", "restart", "(I)V"⟩, prog_1_method_32_code, 4, none)
def u_P_init : MethodName × ByteArray × Nat × Option FieldType := (⟨"PartitionDesk$Partition", "<init>", "()V"⟩, prog_3_method_1_code, 1, none)
def u_P_takesPart : MethodName × ByteArray × Nat × Option FieldType := (⟨"PartitionDesk$Partition", "takesPart", "()Z"⟩, prog_3_method_2_code, 1, (some .boolean))
def u_P_overlaps : MethodName × ByteArray × Nat × Option FieldType := (⟨"PartitionDesk$Partition", "overlaps", "(LPartitionDesk$Partition;)Z"⟩, prog_3_method_3_code, 2, (some .boolean))
def u_P_beginAnew : MethodName × ByteArray × Nat × Option FieldType := (⟨"PartitionDesk$Partition", "beginAnew", "()V"⟩, prog_3_method_4_code, 1, none)
def u_P_clearRegistersAndPlace : MethodName × ByteArray × Nat × Option FieldType := (⟨"PartitionDesk$Partition", "clearRegistersAndPlace", "()V"⟩, prog_3_method_5_code, 2, none)
def u_P_hasWord : MethodName × ByteArray × Nat × Option FieldType := (⟨"PartitionDesk$Partition", "hasWord", "(I)Z"⟩, prog_3_method_6_code, 3, (some .boolean))
def u_P_takeInput : MethodName × ByteArray × Nat × Option FieldType := (⟨"PartitionDesk$Partition", "takeInput", "(I)V"⟩, prog_3_method_7_code, 3, none)
def u_P_putOut : MethodName × ByteArray × Nat × Option FieldType := (⟨"PartitionDesk$Partition", "putOut", "(I)V"⟩, prog_3_method_8_code, 2, none)
def u_P_outputAt : MethodName × ByteArray × Nat × Option FieldType := (⟨"PartitionDesk$Partition", "outputAt", "(I)I"⟩, prog_3_method_9_code, 2, (some .int))
def u_P_tell : MethodName × ByteArray × Nat × Option FieldType := (⟨"PartitionDesk$Partition", "tell", "(I)I"⟩, prog_3_method_10_code, 2, (some .int))
def u_Q_init : MethodName × ByteArray × Nat × Option FieldType := (⟨"PartitionDesk$Port", "<init>", "()V"⟩, prog_4_method_1_code, 1, none)
def u_Q_isSampling : MethodName × ByteArray × Nat × Option FieldType := (⟨"PartitionDesk$Port", "isSampling", "()Z"⟩, prog_4_method_2_code, 1, (some .boolean))
def u_Q_send : MethodName × ByteArray × Nat × Option FieldType := (⟨"PartitionDesk$Port", "send", "([III)V"⟩, prog_4_method_3_code, 4, none)
def u_Q_receive : MethodName × ByteArray × Nat × Option FieldType := (⟨"PartitionDesk$Port", "receive", "([III)V"⟩, prog_4_method_4_code, 4, none)
def u_F_init : MethodName × ByteArray × Nat × Option FieldType := (⟨"PartitionDesk$Frame", "<init>", "()V"⟩, prog_2_method_1_code, 1, none)
def u_F_isFull : MethodName × ByteArray × Nat × Option FieldType := (⟨"PartitionDesk$Frame", "isFull", "()Z"⟩, prog_2_method_2_code, 1, (some .boolean))
def u_F_append : MethodName × ByteArray × Nat × Option FieldType := (⟨"PartitionDesk$Frame", "append", "(II)V"⟩, prog_2_method_3_code, 3, none)
def u_F_hasWindowOf : MethodName × ByteArray × Nat × Option FieldType := (⟨"PartitionDesk$Frame", "hasWindowOf", "(I)Z"⟩, prog_2_method_4_code, 3, (some .boolean))
def u_F_beginAnew : MethodName × ByteArray × Nat × Option FieldType := (⟨"PartitionDesk$Frame", "beginAnew", "()V"⟩, prog_2_method_5_code, 1, none)
def u_F_partitionAtHand : MethodName × ByteArray × Nat × Option FieldType := (⟨"PartitionDesk$Frame", "partitionAtHand", "()I"⟩, prog_2_method_6_code, 1, (some .int))
def u_F_endTick : MethodName × ByteArray × Nat × Option FieldType := (⟨"PartitionDesk$Frame", "endTick", "()V"⟩, prog_2_method_7_code, 1, none)
def u_F_tell : MethodName × ByteArray × Nat × Option FieldType := (⟨"PartitionDesk$Frame", "tell", "(I)I"⟩, prog_2_method_8_code, 2, (some .int))
def u_V_init : MethodName × ByteArray × Nat × Option FieldType := (⟨"PartitionDesk$ValueQueue", "<init>", "(I)V"⟩, prog_5_method_1_code, 2, none)
def u_V_put : MethodName × ByteArray × Nat × Option FieldType := (⟨"PartitionDesk$ValueQueue", "put", "(II)Z"⟩, prog_5_method_2_code, 4, (some .boolean))
def u_V_peek : MethodName × ByteArray × Nat × Option FieldType := (⟨"PartitionDesk$ValueQueue", "peek", "()I"⟩, prog_5_method_3_code, 1, (some .int))
def u_V_take : MethodName × ByteArray × Nat × Option FieldType := (⟨"PartitionDesk$ValueQueue", "take", "()I"⟩, prog_5_method_4_code, 2, (some .int))
def u_V_clear : MethodName × ByteArray × Nat × Option FieldType := (⟨"PartitionDesk$ValueQueue", "clear", "()V"⟩, prog_5_method_5_code, 1, none)
def u_M_init : MethodName × ByteArray × Nat × Option FieldType := (⟨"PartitionDeskModel", "<init>", "()V"⟩, prog_7_method_1_code, 1, none)
def u_M_in : MethodName × ByteArray × Nat × Option FieldType := (⟨"PartitionDeskModel", "in", "(III)Z"⟩, prog_7_method_2_code, 3, (some .boolean))
def u_M_isOne : MethodName × ByteArray × Nat × Option FieldType := (⟨"PartitionDeskModel", "isOne", "(I)Z"⟩, prog_7_method_3_code, 1, (some .boolean))
def u_M_region : MethodName × ByteArray × Nat × Option FieldType := (⟨"PartitionDeskModel", "region", "(III)Z"⟩, prog_7_method_4_code, 4, (some .boolean))
def u_M_window : MethodName × ByteArray × Nat × Option FieldType := (⟨"PartitionDeskModel", "window", "(II)Z"⟩, prog_7_method_5_code, 3, (some .boolean))
def u_M_port : MethodName × ByteArray × Nat × Option FieldType := (⟨"PartitionDeskModel", "port", "(III)I"⟩, prog_7_method_6_code, 4, (some .int))
def u_M_action : MethodName × ByteArray × Nat × Option FieldType := (⟨"PartitionDeskModel", "action", "(III)Z"⟩, prog_7_method_7_code, 4, (some .boolean))
def u_M_code : MethodName × ByteArray × Nat × Option FieldType := (⟨"PartitionDeskModel", "code", "(IIIII)Z"⟩, prog_7_method_8_code, 7, (some .boolean))
def u_M_takesPart : MethodName × ByteArray × Nat × Option FieldType := (⟨"PartitionDeskModel", "takesPart", "(I)Z"⟩, prog_7_method_9_code, 2, (some .boolean))
def u_M_wrong : MethodName × ByteArray × Nat × Option FieldType := (⟨"PartitionDeskModel", "wrong", "()I"⟩, prog_7_method_10_code, 9, (some .int))
def u_M_start : MethodName × ByteArray × Nat × Option FieldType := (⟨"PartitionDeskModel", "start", "()I"⟩, prog_7_method_11_code, 3, (some .int))
def u_M_input : MethodName × ByteArray × Nat × Option FieldType := (⟨"PartitionDeskModel", "input", "(II)I"⟩, prog_7_method_12_code, 3, (some .int))
def u_M_run : MethodName × ByteArray × Nat × Option FieldType := (⟨"PartitionDeskModel", "run", "(I)I"⟩, prog_7_method_13_code, 4, (some .int))
def u_M_step : MethodName × ByteArray × Nat × Option FieldType := (⟨"PartitionDeskModel", "step", "(I)V"⟩, prog_7_method_14_code, 5, none)
def u_M_goOn : MethodName × ByteArray × Nat × Option FieldType := (⟨"PartitionDeskModel", "goOn", "(I)V"⟩, prog_7_method_15_code, 2, none)
def u_M_simple : MethodName × ByteArray × Nat × Option FieldType := (⟨"PartitionDeskModel", "simple", "(IIII)I"⟩, prog_7_method_16_code, 9, (some .int))
def u_M_inside : MethodName × ByteArray × Nat × Option FieldType := (⟨"PartitionDeskModel", "inside", "(IIII)I"⟩, prog_7_method_17_code, 7, (some .int))
def u_M_message : MethodName × ByteArray × Nat × Option FieldType := (⟨"PartitionDeskModel", "message", "(IIII)I"⟩, prog_7_method_18_code, 8, (some .int))
def u_M_react : MethodName × ByteArray × Nat × Option FieldType := (⟨"PartitionDeskModel", "react", "(II)V"⟩, prog_7_method_19_code, 5, none)
def u_M_output : MethodName × ByteArray × Nat × Option FieldType := (⟨"PartitionDeskModel", "output", "(II)I"⟩, prog_7_method_20_code, 3, (some .int))
def u_M_about : MethodName × ByteArray × Nat × Option FieldType := (⟨"PartitionDeskModel", "about", "(II)I"⟩, prog_7_method_21_code, 3, (some .int))
def u_M_word : MethodName × ByteArray × Nat × Option FieldType := (⟨"PartitionDeskModel", "word", "(I)I"⟩, prog_7_method_22_code, 2, (some .int))
def u_M_waiting : MethodName × ByteArray × Nat × Option FieldType := (⟨"PartitionDeskModel", "waiting", "(I)I"⟩, prog_7_method_23_code, 2, (some .int))
def u_M_clock : MethodName × ByteArray × Nat × Option FieldType := (⟨"PartitionDeskModel", "clock", "(I)I"⟩, prog_7_method_24_code, 2, (some .int))
def u_J_floorMod : MethodName × ByteArray × Nat × Option FieldType := (⟨"java/lang/Math", "floorMod", "(II)I"⟩, prog_8_method_50_code, 3, (some .int))
def u_J_min : MethodName × ByteArray × Nat × Option FieldType := (⟨"java/lang/Math", "min", "(II)I"⟩, prog_8_method_69_code, 2, (some .int))
def u_L_law : MethodName × ByteArray × Nat × Option FieldType := (⟨"PartitionDeskLaw", "law", "([I)Z"⟩, code, 4, ret)
end
section
/-! the X layer: all cells of one world by their numbers; a row an instruction -/
abbrev AV : Type := Int32 ⊕ Option Nat
def cv (ad : Nat → Nat) (v : AV) : Value := match v with
  | .inl x => .int x
  | .inr o => va_rf (o.map ad)
theorem cv_cat (ad : Nat → Nat) (v : AV) : (cv ad v).category = 1 := by
  rcases v with x | o
  · rfl
  · cases o <;> rfl
abbrev Wd : Type := Nat × (Nat → Nat × Nat) × (Nat → Nat → Option Nat) × (Nat → Nat → Int32)
def fsl {α : Type} (f : Nat → α) (n : Nat) : List α := (List.range n).map f
theorem fsl_get {α : Type} {f : Nat → α} {n k : Nat} (h : k < n) : (fsl f n)[k]? = some (f k) := by simp [fsl, h]
theorem fsl_len {α : Type} (f : Nat → α) (n : Nat) : (fsl f n).length = n := by simp [fsl]
theorem fsl_congr {α : Type} {f g : Nat → α} {n : Nat} (h : ∀ j, j < n → f j = g j) : fsl f n = fsl g n := List.map_congr_left (fun j hj => h j (List.mem_range.mp hj))
theorem fsl_set {α : Type} (f : Nat → α) (n k : Nat) (v : α) : (fsl f n).set k v = fsl (fun j => if j = k then v else f j) n := by
  apply List.ext_getElem?
  intro i
  by_cases hi : i < n
  · rw [fsl_get hi]
    by_cases hk : i = k
    · subst hk
      rw [List.getElem?_set_self (by rw [fsl_len]; exact hi), if_pos rfl]
    · rw [List.getElem?_set_ne (Ne.symm hk), fsl_get hi, if_neg hk]
  · rw [List.getElem?_eq_none (by rw [List.length_set, fsl_len]; omega), List.getElem?_eq_none (by rw [fsl_len]; omega)]
theorem fsl_succ {α : Type} (f : Nat → α) (n : Nat) : fsl f (n + 1) = fsl f n ++ [f n] := by
  simp [fsl, List.range_succ]
/-- a cell: arrays of ints (0), of booleans (1), of references (2, 3); objects (number + 4): references first, then ints -/
def ent (cA : Nat → ClassId) (ad : Nat → Nat) (k : Nat × Nat) (r : Nat → Option Nat) (h : Nat → Int32) : va_E := match k with
  | (0, n) => .inl (cA 0, n, .inl h)
  | (1, n) => .inl (cA 1, n, .inl h)
  | (2, n) => .inl (cA 2, n, .inr (.inr (.inr (.inr (fun i => (r i).map ad)))))
  | (3, n) => .inl (cA 3, n, .inr (.inr (.inr (.inr (fun i => (r i).map ad)))))
  | (c + 4, _) => .inr (c, fsl (fun j => if j < nR c then va_rf ((r j).map ad) else .int (h j)) (nF c))
def wsf (cA : Nat → ClassId) (ad : Nat → Nat) (w : Wd) (o : Nat) : Nat × va_E := (ad o, ent cA ad (w.2.1 o) (w.2.2.1 o) (w.2.2.2 o))
def ws (cA : Nat → ClassId) (ad : Nat → Nat) (w : Wd) : va_W := fsl (wsf cA ad w) w.1
theorem ws_at {cA : Nat → ClassId} {ad : Nat → Nat} {w : Wd} {o : Nat} (h : o < w.1) : (ws cA ad w)[o]? = some (ad o, ent cA ad (w.2.1 o) (w.2.2.1 o) (w.2.2.2 o)) := fsl_get h
def up2 (h : Nat → Nat → Int32) (o k : Nat) (x : Int32) : Nat → Nat → Int32 := fun a => if a = o then upd (h o) k x else h a
def upR (r : Nat → Nat → Option Nat) (o k : Nat) (x : Option Nat) : Nat → Nat → Option Nat := fun a => if a = o then va_up (r o) k x else r a
theorem ws_put {cA : Nat → ClassId} {ad : Nat → Nat} {n : Nat} {kd : Nat → Nat × Nat} {r : Nat → Nat → Option Nat} {h : Nat → Nat → Int32} {o k : Nat} {x : Int32} {e : va_E} (he : ent cA ad (kd o) (r o) (upd (h o) k x) = e) : (ws cA ad (n, kd, r, h)).set o (ad o, e) = ws cA ad (n, kd, r, up2 h o k x) := by
  unfold ws
  rw [fsl_set]
  refine fsl_congr (fun j _ => ?_)
  by_cases hj : j = o
  · subst hj
    simp [wsf, up2, he]
  · simp [wsf, up2, hj]
theorem ws_putR {cA : Nat → ClassId} {ad : Nat → Nat} {n : Nat} {kd : Nat → Nat × Nat} {r : Nat → Nat → Option Nat} {h : Nat → Nat → Int32} {o k : Nat} {x : Option Nat} {e : va_E} (he : ent cA ad (kd o) (va_up (r o) k x) (h o) = e) : (ws cA ad (n, kd, r, h)).set o (ad o, e) = ws cA ad (n, kd, upR r o k x, h) := by
  unfold ws
  rw [fsl_set]
  refine fsl_congr (fun j _ => ?_)
  by_cases hj : j = o
  · subst hj
    simp [wsf, upR, he]
  · simp [wsf, upR, hj]
/-- references lead to cells of the world -/
def RefsOK (w : Wd) : Prop := ∀ j i o, w.2.2.1 j i = some o → o < w.1
theorem ws_push {cA : Nat → ClassId} {ad : Nat → Nat} {n q : Nat} {kd : Nat → Nat × Nat} {r : Nat → Nat → Option Nat} {h : Nat → Nat → Int32} {k : Nat × Nat} (hr : RefsOK (n, kd, r, h)) : ws cA (va_up ad n q) (n + 1, va_up kd n k, va_up r n (fun _ => none), va_up h n (fun _ => 0)) = ws cA ad (n, kd, r, h) ++ [(q, ent cA ad k (fun _ => none) (fun _ => 0))] := by
  have hm : ∀ (x : Option Nat), (∀ o, x = some o → o < n) → x.map (va_up ad n q) = x.map ad := by
    intro x hx
    cases x with
    | none => rfl
    | some o =>
      have := hx o rfl
      simp [va_up, Nat.ne_of_lt this]
  unfold ws
  show fsl _ (n + 1) = _
  rw [fsl_succ]
  congr 1
  · refine fsl_congr (fun j hj => ?_)
    have hj : j < n := hj
    have hne := Nat.ne_of_lt hj
    have hmm : ∀ i, (r j i).map (va_up ad n q) = (r j i).map ad := fun i => hm _ (fun o ho => hr j i o ho)
    simp only [wsf, va_up_ne _ _ hne]
    congr 1
    rcases hk : kd j with ⟨t, m⟩
    rcases t with _ | _ | _ | _ | c <;> simp only [ent, hmm]
  · simp only [wsf, va_up_self]
    congr 2
/-! the surroundings of a frame -/
abbrev En := Program × Launch × Env × Room × State × MethodId × Array Value × List Frame × Method × Code × va_G × (Nat → ClassId) × (Nat → Prop) × (State → Prop)
abbrev eP (E : En) := E.1
abbrev eL (E : En) := E.2.1
abbrev eE (E : En) := E.2.2.1
abbrev eR (E : En) := E.2.2.2.1
abbrev eS (E : En) := E.2.2.2.2.1
abbrev eM (E : En) := E.2.2.2.2.2.1
abbrev eA (E : En) := E.2.2.2.2.2.2.1
abbrev eB (E : En) := E.2.2.2.2.2.2.2.1
abbrev eT (E : En) := E.2.2.2.2.2.2.2.2.1
abbrev eC (E : En) := E.2.2.2.2.2.2.2.2.2.1
abbrev eD (E : En) := E.2.2.2.2.2.2.2.2.2.2.1
abbrev eK (E : En) := E.2.2.2.2.2.2.2.2.2.2.2.1
abbrev eF (E : En) := E.2.2.2.2.2.2.2.2.2.2.2.2.1
abbrev eQ (E : En) := E.2.2.2.2.2.2.2.2.2.2.2.2.2
abbrev Mi : Type := MethodName × ByteArray × Nat × Option FieldType
def tyL (cA : Nat → ClassId) : List (ClassId × FieldType) := [(cA 0, .int), (cA 1, .boolean), (cA 2, .object R_2), (cA 3, .object R_3)]
/-- what stands fast while a method runs -/
def Amb (u : Mi) (d : Nat) (E : En) : Prop :=
  (eP E).tables.exec = Jvm.exec ∧ (eC E).code = u.2.1 ∧ (eT E).sig.returnType = u.2.2.2 ∧ (eC E).maxLocals = u.2.2.1 ∧ (eT E).locks = false ∧ (eT E).name = u.1.name ∧
  (eS E).vm.findClass u.1.cls = some (eM E).cls ∧ (∀ w ∈ AllW, w.before (eA E) (eS E) = true) ∧ (∀ w ∈ NestW, va_Nw w (eS E)) ∧ va_K (eD E) classes (tyL (eK E)) (eS E) ∧
  (∀ q, (eS E).heap.size ≤ q → eF E q) ∧ d ≤ (eR E).frames ∧ 40 * d ≤ (eR E).locals
section AMB
variable {u : Mi} {d : Nat} {E : En}
theorem Amb.x (a : Amb u d E) : (eP E).tables.exec = Jvm.exec := a.1
theorem Amb.b (a : Amb u d E) : (eC E).code = u.2.1 := a.2.1
theorem Amb.r (a : Amb u d E) : (eT E).sig.returnType = u.2.2.2 := a.2.2.1
theorem Amb.ml (a : Amb u d E) : (eC E).maxLocals = u.2.2.1 := a.2.2.2.1
theorem Amb.lk (a : Amb u d E) : (eT E).locks = false := a.2.2.2.2.1
theorem Amb.nm (a : Amb u d E) : (eT E).name = u.1.name := a.2.2.2.2.2.1
theorem Amb.own (a : Amb u d E) : (eS E).vm.findClass u.1.cls = some (eM E).cls := a.2.2.2.2.2.2.1
theorem Amb.ts (a : Amb u d E) : ∀ w ∈ AllW, w.before (eA E) (eS E) = true := a.2.2.2.2.2.2.2.1
theorem Amb.ns (a : Amb u d E) : ∀ w ∈ NestW, va_Nw w (eS E) := a.2.2.2.2.2.2.2.2.1
theorem Amb.k (a : Amb u d E) : va_K (eD E) classes (tyL (eK E)) (eS E) := a.2.2.2.2.2.2.2.2.2.1
theorem Amb.fr (a : Amb u d E) : ∀ q, (eS E).heap.size ≤ q → eF E q := a.2.2.2.2.2.2.2.2.2.2.1
theorem Amb.fd (a : Amb u d E) : d ≤ (eR E).frames := a.2.2.2.2.2.2.2.2.2.2.2.1
theorem Amb.l (a : Amb u d E) : 40 * d ≤ (eR E).locals := a.2.2.2.2.2.2.2.2.2.2.2.2
end AMB
def lvc (ad : Nat → Nat) (lv : List (Nat × AV)) : List (Nat × Value) := lv.map (fun q => (q.1, cv ad q.2))
def look (lv : List (Nat × AV)) (i : Nat) : Option AV := (lv.find? (fun q => q.1 == i)).map (fun q => q.2)
def setL (lv : List (Nat × AV)) (i : Nat) (v : AV) : List (Nat × AV) := (i, v) :: lv.filter (fun q => !(q.1 == i))
theorem look_at {ad : Nat → Nat} {ls : Array Slot} {n i : Nat} {lv : List (Nat × AV)} {v : AV} (h : lv_has ls n (lvc ad lv)) (hl : look lv i = some v) : ls[i]? = some (.val (cv ad v)) := by
  unfold look at hl
  obtain ⟨q, hq, rfl⟩ := Option.map_eq_some_iff.mp hl
  have h1 := List.mem_of_find?_eq_some hq
  have h2 := List.find?_some hq
  have h3 : q.1 = i := by simpa using h2
  subst h3
  exact h.2.2 (q.1, cv ad q.2) (List.mem_map.mpr ⟨q, h1, rfl⟩)
theorem lvc_set (ad : Nat → Nat) (lv : List (Nat × AV)) (i : Nat) (v : AV) : (i, cv ad v) :: (lvc ad lv).filter (fun q => !(q.1 == i) && !(q.1 + 1 == i && q.2.category == 2)) = lvc ad (setL lv i v) := by
  unfold lvc setL
  rw [List.map_cons, List.filter_map]
  congr 2
  refine List.filter_congr (fun q _ => ?_)
  simp [cv_cat]
/-- from this frame and this world the machine comes to the end that is asked -/
def X (E : En) (cl sl : Nat) (ad : Nat → Nat) (w : Wd) (pc : Nat) (lv : List (Nat × AV)) (st : List AV) : Prop :=
  ∀ (H : Heap) (locs : List Loc) (ls : Array Slot), RefsOK w → va_P (eD E) classes (ws (eK E) ad w) H → va_D (eF E) (ws (eK E) ad w) → va_S (eF E) (eS E).heap H locs → lv_has ls (eC E).maxLocals (lvc ad lv) →
    W (eP E) (eL E) (eE E) (eR E) (eS E) (eM E) (eA E) (eB E) (eT E) (eC E) H locs cl sl (eQ E) (F0 (eM E) pc ls (st.map (cv ad)))
section XR
variable {u : Mi} {d : Nat} {E : En} {cl sl : Nat} {ad : Nat → Nat} {w : Wd} {lv : List (Nat × AV)} {st : List AV}
/-- fewer locals -/
theorem x_lv {pc : Nat} (lv' : List (Nat × AV)) (h : ∀ q ∈ lv', look lv q.1 = some q.2) (k : X E cl sl ad w pc lv' st) : X E cl sl ad w pc lv st := fun H locs ls hR hP hD hS hl => k H locs ls hR hP hD hS ⟨hl.1, hl.2.1, fun q hq => by
  obtain ⟨q', h1, rfl⟩ := List.mem_map.mp hq
  exact look_at hl (h q' h1)⟩
theorem x_widen {pc cl' sl' : Nat} (h1 : cl ≤ cl') (h2 : sl ≤ sl') (k : X E cl' sl' ad w pc lv st) : X E cl sl ad w pc lv st := fun H locs ls hR hP hD hS hl => W.widen h1 h2 (k H locs ls hR hP hD hS hl)
theorem x_iconst (a : Amb u d E) (pc : Nat) {n : Int} (v : Int32) (hdg : decode u.2.1 pc = .ok (.iconst n, 1)) (hv : Int32.ofInt n = v) (k : X E cl sl ad w (pc + 1) lv (.inl v :: st)) : X E cl sl ad w pc lv st :=
  fun H locs ls hR hP hD hS hl => lv_iconst a.x a.b hdg hv (k H locs ls hR hP hD hS hl)
theorem x_bipush (a : Amb u d E) (pc : Nat) {n : Int} (v : Int32) (hdg : decode u.2.1 pc = .ok (.bipush n, 2)) (hv : (Int8.ofInt n).toInt32 = v) (k : X E cl sl ad w (pc + 2) lv (.inl v :: st)) : X E cl sl ad w pc lv st :=
  fun H locs ls hR hP hD hS hl => lv_bipush a.x a.b hdg hv (k H locs ls hR hP hD hS hl)
theorem x_sipush (a : Amb u d E) (pc : Nat) {n : Int} (v : Int32) (hdg : decode u.2.1 pc = .ok (.sipush n, 3)) (hv : (Int16.ofInt n).toInt32 = v) (k : X E cl sl ad w (pc + 3) lv (.inl v :: st)) : X E cl sl ad w pc lv st :=
  fun H locs ls hR hP hD hS hl => lv_sipush a.x a.b hdg hv (k H locs ls hR hP hD hS hl)
theorem x_iload_n (a : Amb u d E) (pc : Nat) {i : Fin 4} {x : Int32} (hdg : decode u.2.1 pc = .ok (.iload_n i, 1)) (hi : look lv i = some (.inl x)) (k : X E cl sl ad w (pc + 1) lv (.inl x :: st)) : X E cl sl ad w pc lv st :=
  fun H locs ls hR hP hD hS hl => lv_iload_n a.x a.b hdg rfl (look_at hl hi) (k H locs ls hR hP hD hS hl)
theorem x_iload (a : Amb u d E) (pc : Nat) {i : Nat} {x : Int32} (hdg : decode u.2.1 pc = .ok (.iload i, 2)) (hi : look lv i = some (.inl x)) (k : X E cl sl ad w (pc + 2) lv (.inl x :: st)) : X E cl sl ad w pc lv st :=
  fun H locs ls hR hP hD hS hl => lv_iload a.x a.b hdg (look_at hl hi) (k H locs ls hR hP hD hS hl)
theorem x_aload_n (a : Amb u d E) (pc : Nat) {i : Fin 4} {o : Nat} (hdg : decode u.2.1 pc = .ok (.aload_n i, 1)) (hi : look lv i = some (.inr (some o))) (k : X E cl sl ad w (pc + 1) lv (.inr (some o) :: st)) : X E cl sl ad w pc lv st :=
  fun H locs ls hR hP hD hS hl => lv_aload_n a.x a.b hdg rfl (look_at hl hi) (k H locs ls hR hP hD hS hl)
theorem x_aload (a : Amb u d E) (pc : Nat) {i : Nat} {o : Nat} (hdg : decode u.2.1 pc = .ok (.aload i, 2)) (hi : look lv i = some (.inr (some o))) (k : X E cl sl ad w (pc + 2) lv (.inr (some o) :: st)) : X E cl sl ad w pc lv st :=
  fun H locs ls hR hP hD hS hl => lv_aload a.x a.b hdg (look_at hl hi) (k H locs ls hR hP hD hS hl)
theorem x_istore_n (a : Amb u d E) (pc : Nat) {i : Fin 4} {x : Int32} (hdg : decode u.2.1 pc = .ok (.istore_n i, 1)) (hn : (i : Nat) < u.2.2.1) (k : X E cl sl ad w (pc + 1) (setL lv i (.inl x)) st) : X E cl sl ad w pc lv (.inl x :: st) :=
  fun H locs ls hR hP hD hS hl => lv_istore_n a.x a.b hdg rfl hl (by rw [a.ml]; exact hn) (lvc_set ad lv i (.inl x)) (fun ls' hl' => k H locs ls' hR hP hD hS hl')
theorem x_istore (a : Amb u d E) (pc : Nat) {i : Nat} {x : Int32} (hdg : decode u.2.1 pc = .ok (.istore i, 2)) (hn : i < u.2.2.1) (k : X E cl sl ad w (pc + 2) (setL lv i (.inl x)) st) : X E cl sl ad w pc lv (.inl x :: st) :=
  fun H locs ls hR hP hD hS hl => lv_istore a.x a.b hdg hl (by rw [a.ml]; exact hn) (lvc_set ad lv i (.inl x)) (fun ls' hl' => k H locs ls' hR hP hD hS hl')
theorem x_astore_n (a : Amb u d E) (pc : Nat) {i : Fin 4} {o : Nat} (hdg : decode u.2.1 pc = .ok (.astore_n i, 1)) (hn : (i : Nat) < u.2.2.1) (k : X E cl sl ad w (pc + 1) (setL lv i (.inr (some o))) st) : X E cl sl ad w pc lv (.inr (some o) :: st) :=
  fun H locs ls hR hP hD hS hl => lv_astore_n a.x a.b hdg rfl hl (by rw [a.ml]; exact hn) (lvc_set ad lv i (.inr (some o))) (fun ls' hl' => k H locs ls' hR hP hD hS hl')
theorem x_astore (a : Amb u d E) (pc : Nat) {i : Nat} {o : Nat} (hdg : decode u.2.1 pc = .ok (.astore i, 2)) (hn : i < u.2.2.1) (k : X E cl sl ad w (pc + 2) (setL lv i (.inr (some o))) st) : X E cl sl ad w pc lv (.inr (some o) :: st) :=
  fun H locs ls hR hP hD hS hl => lv_astore a.x a.b hdg hl (by rw [a.ml]; exact hn) (lvc_set ad lv i (.inr (some o))) (fun ls' hl' => k H locs ls' hR hP hD hS hl')
theorem x_iinc (a : Amb u d E) (pc : Nat) {i : Nat} {n : Int} {x : Int32} (v : Int32) (hdg : decode u.2.1 pc = .ok (.iinc i n, 3)) (hi : look lv i = some (.inl x)) (hv : x + Int32.ofInt n = v) (hn : i < u.2.2.1) (k : X E cl sl ad w (pc + 3) (setL lv i (.inl v)) st) : X E cl sl ad w pc lv st := by
  intro H locs ls hR hP hD hS hl
  have hl2 : lv_has ls (eC E).maxLocals ((i, .int x) :: lvc ad lv) := ⟨hl.1, hl.2.1, fun q hq => by
    rcases List.mem_cons.mp hq with rfl | hq
    · exact look_at hl hi
    · exact hl.2.2 q hq⟩
  refine lv_iinc (k := 0) a.x a.b hdg hl2 rfl hv (by rw [a.ml]; exact hn) (lv' := lvc ad (setL lv i (.inl v))) ?_ (fun ls' hl' => k H locs ls' hR hP hD hS hl')
  rw [← lvc_set]
  simp [cv]
theorem x_iadd (a : Amb u d E) (pc : Nat) {x y : Int32} (hdg : decode u.2.1 pc = .ok (.iadd, 1)) (k : X E cl sl ad w (pc + 1) lv (.inl (x + y) :: st)) : X E cl sl ad w pc lv (.inl y :: .inl x :: st) :=
  fun H locs ls hR hP hD hS hl => lv_iadd a.x a.b hdg (k H locs ls hR hP hD hS hl)
theorem x_isub (a : Amb u d E) (pc : Nat) {x y : Int32} (hdg : decode u.2.1 pc = .ok (.isub, 1)) (k : X E cl sl ad w (pc + 1) lv (.inl (x - y) :: st)) : X E cl sl ad w pc lv (.inl y :: .inl x :: st) :=
  fun H locs ls hR hP hD hS hl => lv_isub a.x a.b hdg (k H locs ls hR hP hD hS hl)
theorem x_imul (a : Amb u d E) (pc : Nat) {x y : Int32} (hdg : decode u.2.1 pc = .ok (.imul, 1)) (k : X E cl sl ad w (pc + 1) lv (.inl (x * y) :: st)) : X E cl sl ad w pc lv (.inl y :: .inl x :: st) :=
  fun H locs ls hR hP hD hS hl => lv_imul a.x a.b hdg (k H locs ls hR hP hD hS hl)
theorem x_iand (a : Amb u d E) (pc : Nat) {x y : Int32} (hdg : decode u.2.1 pc = .ok (.iand, 1)) (k : X E cl sl ad w (pc + 1) lv (.inl (x &&& y) :: st)) : X E cl sl ad w pc lv (.inl y :: .inl x :: st) :=
  fun H locs ls hR hP hD hS hl => lv_iand a.x a.b hdg (k H locs ls hR hP hD hS hl)
theorem x_ixor (a : Amb u d E) (pc : Nat) {x y : Int32} (hdg : decode u.2.1 pc = .ok (.ixor, 1)) (k : X E cl sl ad w (pc + 1) lv (.inl (x ^^^ y) :: st)) : X E cl sl ad w pc lv (.inl y :: .inl x :: st) :=
  fun H locs ls hR hP hD hS hl => lv_ixor a.x a.b hdg (k H locs ls hR hP hD hS hl)
theorem x_irem (a : Amb u d E) (pc : Nat) {x y : Int32} (hdg : decode u.2.1 pc = .ok (.irem, 1)) (hne : ¬ y = 0) (k : X E cl sl ad w (pc + 1) lv (.inl (x - x / y * y) :: st)) : X E cl sl ad w pc lv (.inl y :: .inl x :: st) :=
  fun H locs ls hR hP hD hS hl => lv_irem a.x a.b hdg hne (k H locs ls hR hP hD hS hl)
theorem x_dup (a : Amb u d E) (pc : Nat) {x : AV} (hdg : decode u.2.1 pc = .ok (.dup, 1)) (k : X E cl sl ad w (pc + 1) lv (x :: x :: st)) : X E cl sl ad w pc lv (x :: st) :=
  fun H locs ls hR hP hD hS hl => lv_dup a.x a.b hdg (cv_cat ad x) (k H locs ls hR hP hD hS hl)
theorem x_pop (a : Amb u d E) (pc : Nat) {x : AV} (hdg : decode u.2.1 pc = .ok (.pop, 1)) (k : X E cl sl ad w (pc + 1) lv st) : X E cl sl ad w pc lv (x :: st) :=
  fun H locs ls hR hP hD hS hl => lv_pop a.x a.b hdg (cv_cat ad x) (k H locs ls hR hP hD hS hl)
theorem x_dup_x1 (a : Amb u d E) (pc : Nat) {x y : AV} (hdg : decode u.2.1 pc = .ok (.dup_x1, 1)) (k : X E cl sl ad w (pc + 1) lv (x :: y :: x :: st)) : X E cl sl ad w pc lv (x :: y :: st) :=
  fun H locs ls hR hP hD hS hl => lv_dup_x1 a.x a.b hdg (cv_cat ad x) (cv_cat ad y) (k H locs ls hR hP hD hS hl)
theorem x_dup_x2 (a : Amb u d E) (pc : Nat) {x y z : AV} (hdg : decode u.2.1 pc = .ok (.dup_x2, 1)) (k : X E cl sl ad w (pc + 1) lv (x :: y :: z :: x :: st)) : X E cl sl ad w pc lv (x :: y :: z :: st) :=
  fun H locs ls hR hP hD hS hl => lv_dup_x2 a.x a.b hdg (cv_cat ad x) (cv_cat ad y) (cv_cat ad z) (k H locs ls hR hP hD hS hl)
theorem x_dup2 (a : Amb u d E) (pc : Nat) {x y : AV} (hdg : decode u.2.1 pc = .ok (.dup2, 1)) (k : X E cl sl ad w (pc + 1) lv (x :: y :: x :: y :: st)) : X E cl sl ad w pc lv (x :: y :: st) :=
  fun H locs ls hR hP hD hS hl => lv_dup2_11 a.x a.b hdg (cv_cat ad x) (cv_cat ad y) (k H locs ls hR hP hD hS hl)
theorem x_goto (a : Amb u d E) (pc tgt : Nat) {off : Int} (hdg : decode u.2.1 pc = .ok (.goto off, 3)) (ht : (pc : Int) + off = (tgt : Int)) (k : X E cl sl ad w tgt lv st) : X E cl sl ad w pc lv st :=
  fun H locs ls hR hP hD hS hl => lv_goto a.x a.b hdg ht (k H locs ls hR hP hD hS hl)
theorem x_if_eq (a : Amb u d E) (pc tgt : Nat) {off : Int} {x : Int32} (hdg : decode u.2.1 pc = .ok (.ifCond .eq off, 3)) (ht : (pc : Int) + off = (tgt : Int)) (kt : x = 0 → X E cl sl ad w tgt lv st) (kf : ¬ x = 0 → X E cl sl ad w (pc + 3) lv st) : X E cl sl ad w pc lv (.inl x :: st) :=
  fun H locs ls hR hP hD hS hl => lv_if_eq a.x a.b hdg ht (fun z => kt z H locs ls hR hP hD hS hl) (fun z => kf z H locs ls hR hP hD hS hl)
theorem x_icmp_eq (a : Amb u d E) (pc tgt : Nat) {off : Int} {x y : Int32} (hdg : decode u.2.1 pc = .ok (.if_icmp .eq off, 3)) (ht : (pc : Int) + off = (tgt : Int)) (kt : x = y → X E cl sl ad w tgt lv st) (kf : ¬ x = y → X E cl sl ad w (pc + 3) lv st) : X E cl sl ad w pc lv (.inl y :: .inl x :: st) :=
  fun H locs ls hR hP hD hS hl => lv_icmp_eq a.x a.b hdg ht (fun z => kt z H locs ls hR hP hD hS hl) (fun z => kf z H locs ls hR hP hD hS hl)
theorem x_if_ne (a : Amb u d E) (pc tgt : Nat) {off : Int} {x : Int32} (hdg : decode u.2.1 pc = .ok (.ifCond .ne off, 3)) (ht : (pc : Int) + off = (tgt : Int)) (kt : ¬ x = 0 → X E cl sl ad w tgt lv st) (kf : x = 0 → X E cl sl ad w (pc + 3) lv st) : X E cl sl ad w pc lv (.inl x :: st) :=
  fun H locs ls hR hP hD hS hl => lv_if_ne a.x a.b hdg ht (fun z => kt z H locs ls hR hP hD hS hl) (fun z => kf z H locs ls hR hP hD hS hl)
theorem x_icmp_ne (a : Amb u d E) (pc tgt : Nat) {off : Int} {x y : Int32} (hdg : decode u.2.1 pc = .ok (.if_icmp .ne off, 3)) (ht : (pc : Int) + off = (tgt : Int)) (kt : ¬ x = y → X E cl sl ad w tgt lv st) (kf : x = y → X E cl sl ad w (pc + 3) lv st) : X E cl sl ad w pc lv (.inl y :: .inl x :: st) :=
  fun H locs ls hR hP hD hS hl => lv_icmp_ne a.x a.b hdg ht (fun z => kt z H locs ls hR hP hD hS hl) (fun z => kf z H locs ls hR hP hD hS hl)
theorem x_if_lt (a : Amb u d E) (pc tgt : Nat) {off : Int} {x : Int32} (hdg : decode u.2.1 pc = .ok (.ifCond .lt off, 3)) (ht : (pc : Int) + off = (tgt : Int)) (kt : x < 0 → X E cl sl ad w tgt lv st) (kf : ¬ x < 0 → X E cl sl ad w (pc + 3) lv st) : X E cl sl ad w pc lv (.inl x :: st) :=
  fun H locs ls hR hP hD hS hl => lv_if_lt a.x a.b hdg ht (fun z => kt z H locs ls hR hP hD hS hl) (fun z => kf z H locs ls hR hP hD hS hl)
theorem x_icmp_lt (a : Amb u d E) (pc tgt : Nat) {off : Int} {x y : Int32} (hdg : decode u.2.1 pc = .ok (.if_icmp .lt off, 3)) (ht : (pc : Int) + off = (tgt : Int)) (kt : x < y → X E cl sl ad w tgt lv st) (kf : ¬ x < y → X E cl sl ad w (pc + 3) lv st) : X E cl sl ad w pc lv (.inl y :: .inl x :: st) :=
  fun H locs ls hR hP hD hS hl => lv_icmp_lt a.x a.b hdg ht (fun z => kt z H locs ls hR hP hD hS hl) (fun z => kf z H locs ls hR hP hD hS hl)
theorem x_if_ge (a : Amb u d E) (pc tgt : Nat) {off : Int} {x : Int32} (hdg : decode u.2.1 pc = .ok (.ifCond .ge off, 3)) (ht : (pc : Int) + off = (tgt : Int)) (kt : 0 ≤ x → X E cl sl ad w tgt lv st) (kf : ¬ 0 ≤ x → X E cl sl ad w (pc + 3) lv st) : X E cl sl ad w pc lv (.inl x :: st) :=
  fun H locs ls hR hP hD hS hl => lv_if_ge a.x a.b hdg ht (fun z => kt z H locs ls hR hP hD hS hl) (fun z => kf z H locs ls hR hP hD hS hl)
theorem x_icmp_ge (a : Amb u d E) (pc tgt : Nat) {off : Int} {x y : Int32} (hdg : decode u.2.1 pc = .ok (.if_icmp .ge off, 3)) (ht : (pc : Int) + off = (tgt : Int)) (kt : y ≤ x → X E cl sl ad w tgt lv st) (kf : ¬ y ≤ x → X E cl sl ad w (pc + 3) lv st) : X E cl sl ad w pc lv (.inl y :: .inl x :: st) :=
  fun H locs ls hR hP hD hS hl => lv_icmp_ge a.x a.b hdg ht (fun z => kt z H locs ls hR hP hD hS hl) (fun z => kf z H locs ls hR hP hD hS hl)
theorem x_if_gt (a : Amb u d E) (pc tgt : Nat) {off : Int} {x : Int32} (hdg : decode u.2.1 pc = .ok (.ifCond .gt off, 3)) (ht : (pc : Int) + off = (tgt : Int)) (kt : 0 < x → X E cl sl ad w tgt lv st) (kf : ¬ 0 < x → X E cl sl ad w (pc + 3) lv st) : X E cl sl ad w pc lv (.inl x :: st) :=
  fun H locs ls hR hP hD hS hl => lv_if_gt a.x a.b hdg ht (fun z => kt z H locs ls hR hP hD hS hl) (fun z => kf z H locs ls hR hP hD hS hl)
theorem x_icmp_gt (a : Amb u d E) (pc tgt : Nat) {off : Int} {x y : Int32} (hdg : decode u.2.1 pc = .ok (.if_icmp .gt off, 3)) (ht : (pc : Int) + off = (tgt : Int)) (kt : y < x → X E cl sl ad w tgt lv st) (kf : ¬ y < x → X E cl sl ad w (pc + 3) lv st) : X E cl sl ad w pc lv (.inl y :: .inl x :: st) :=
  fun H locs ls hR hP hD hS hl => lv_icmp_gt a.x a.b hdg ht (fun z => kt z H locs ls hR hP hD hS hl) (fun z => kf z H locs ls hR hP hD hS hl)
theorem x_if_le (a : Amb u d E) (pc tgt : Nat) {off : Int} {x : Int32} (hdg : decode u.2.1 pc = .ok (.ifCond .le off, 3)) (ht : (pc : Int) + off = (tgt : Int)) (kt : x ≤ 0 → X E cl sl ad w tgt lv st) (kf : ¬ x ≤ 0 → X E cl sl ad w (pc + 3) lv st) : X E cl sl ad w pc lv (.inl x :: st) :=
  fun H locs ls hR hP hD hS hl => lv_if_le a.x a.b hdg ht (fun z => kt z H locs ls hR hP hD hS hl) (fun z => kf z H locs ls hR hP hD hS hl)
theorem x_icmp_le (a : Amb u d E) (pc tgt : Nat) {off : Int} {x y : Int32} (hdg : decode u.2.1 pc = .ok (.if_icmp .le off, 3)) (ht : (pc : Int) + off = (tgt : Int)) (kt : x ≤ y → X E cl sl ad w tgt lv st) (kf : ¬ x ≤ y → X E cl sl ad w (pc + 3) lv st) : X E cl sl ad w pc lv (.inl y :: .inl x :: st) :=
  fun H locs ls hR hP hD hS hl => lv_icmp_le a.x a.b hdg ht (fun z => kt z H locs ls hR hP hD hS hl) (fun z => kf z H locs ls hR hP hD hS hl)
theorem x_tableOut (a : Amb u d E) (pc tgt : Nat) {dflt lo hi : Int} {offs : Array Int} {len : Nat} {x : Int32} (hdg : decode u.2.1 pc = .ok (.tableswitch dflt lo hi offs, len)) (h : x.toInt < lo ∨ hi < x.toInt) (ht : (pc : Int) + dflt = (tgt : Int)) (k : X E cl sl ad w tgt lv st) : X E cl sl ad w pc lv (.inl x :: st) :=
  fun H locs ls hR hP hD hS hl => lv_tableOut a.x a.b hdg h ht (k H locs ls hR hP hD hS hl)
theorem x_tableIn (a : Amb u d E) (pc tgt : Nat) {dflt lo hi : Int} {offs : Array Int} {len : Nat} {x : Int32} (off : Int) (hdg : decode u.2.1 pc = .ok (.tableswitch dflt lo hi offs, len)) (h1 : ¬ x.toInt < lo) (h2 : ¬ hi < x.toInt) (ho : offs[(x.toInt - lo).toNat]? = some off) (ht : (pc : Int) + off = (tgt : Int)) (k : X E cl sl ad w tgt lv st) : X E cl sl ad w pc lv (.inl x :: st) :=
  fun H locs ls hR hP hD hS hl => lv_tableIn a.x a.b hdg h1 h2 ho ht (k H locs ls hR hP hD hS hl)
theorem x_lookup (a : Amb u d E) (pc tgt : Nat) {dflt : Int} {ps : Array (Int × Int)} {len : Nat} {x : Int32} (off : Int) (hdg : decode u.2.1 pc = .ok (.lookupswitch dflt ps, len)) (hp : (ps.toList.zip (ps.toList.drop 1)).all (fun (a, next) => a.1 < next.1) = true) (ho : Op.lookupswitch.offset ps.toList dflt x.toInt = off) (ht : (pc : Int) + off = (tgt : Int)) (k : X E cl sl ad w tgt lv st) : X E cl sl ad w pc lv (.inl x :: st) :=
  fun H locs ls hR hP hD hS hl => lv_lookup a.x a.b hdg hp ho ht (k H locs ls hR hP hD hS hl)
end XR
/-! fields -/
def cls (ci : Nat) : vw_C := classes.getD ci ("", fun _ => ("", "", "", false), 0)
def LayOK (ci : Nat) : Prop := classes[ci]? = some (cls ci) ∧ (∀ w ∈ u_ws (cls ci).1 (cls ci).2.1 (cls ci).2.2, w ∈ AllW) ∧ (∀ j, j < (cls ci).2.2 → parseFieldDescriptor ((cls ci).2.1 j).2.2.1 = some (fT ci j)) ∧
  (∀ a, a < (cls ci).2.2 → ∀ b, b < (cls ci).2.2 → a ≠ b → ((cls ci).2.1 a).2.1 ≠ ((cls ci).2.1 b).2.1) ∧ (cls ci).2.2 = nF ci
/-- the field link at this place of the pool of own is field k of the objects of number ci -/
def FR (own : String) (index ci k : Nat) : Prop := LayOK ci ∧ k < nF ci ∧ Cond.fieldLink own index ((cls ci).2.1 k).1 ((cls ci).2.1 k).2.1 ((cls ci).2.1 k).2.2.1 ∈ AllW
section XF
variable {u : Mi} {d : Nat} {E : En} {cl sl : Nat} {ad : Nat → Nat} {n : Nat} {kd : Nat → Nat × Nat} {r : Nat → Nat → Option Nat} {h : Nat → Nat → Int32} {lv : List (Nat × AV)} {st : List AV}
theorem ent_obj {cA : Nat → ClassId} {k : Nat × Nat} {ci : Nat} {r : Nat → Option Nat} {h : Nat → Int32} (hk : k.1 = ci + 4) : ent cA ad k r h = .inr (ci, fsl (fun j => if j < nR ci then va_rf ((r j).map ad) else .int (h j)) (nF ci)) := by
  obtain ⟨t, m⟩ := k
  have hk : t = ci + 4 := hk
  subst hk
  rfl
theorem x_getI (a : Amb u d E) (pc : Nat) {index ci k o : Nat} (f : FR u.1.cls index ci k) (hdg : decode u.2.1 pc = .ok (.getfield index, 3)) (hk : (kd o).1 = ci + 4) (ho : o < n) (hn : ¬ k < nR ci) {v : Int32} (hv : h o k = v) (kk : X E cl sl ad (n, kd, r, h) (pc + 3) lv (.inl v :: st)) : X E cl sl ad (n, kd, r, h) pc lv (.inr (some o) :: st) := by
  intro H locs ls hR hP hD hS hl
  subst hv
  obtain ⟨⟨hc, hin, hty, hnm, hN⟩, hkn, hlink⟩ := f
  refine va_get (D := eD E) (ci := ci) (C := (cls ci).1) (T := (cls ci).2.1) (N := (cls ci).2.2) (v := .int (h o k)) (fs := fsl (fun j => if j < nR ci then va_rf ((r o j).map ad) else .int (h o j)) (nF ci)) a.x a.b a.ts hin a.own a.k hP o ?_ hc k (by rw [hN]; exact hkn) (a.ts _ hlink) (fun _ z => z) ?_ hdg (kk H locs ls hR hP hD hS hl)
  · rw [ws_at ho]
    show some (ad o, ent _ _ (kd o) _ _) = _
    rw [ent_obj hk]
  · rw [fsl_get hkn, if_neg hn]
theorem x_getR (a : Amb u d E) (pc : Nat) {index ci k o o' : Nat} (f : FR u.1.cls index ci k) (hdg : decode u.2.1 pc = .ok (.getfield index, 3)) (hk : (kd o).1 = ci + 4) (ho : o < n) (hn : k < nR ci) (hr : r o k = some o') (kk : X E cl sl ad (n, kd, r, h) (pc + 3) lv (.inr (some o') :: st)) : X E cl sl ad (n, kd, r, h) pc lv (.inr (some o) :: st) := by
  intro H locs ls hR hP hD hS hl
  obtain ⟨⟨hc, hin, hty, hnm, hN⟩, hkn, hlink⟩ := f
  refine va_get (D := eD E) (ci := ci) (C := (cls ci).1) (T := (cls ci).2.1) (N := (cls ci).2.2) (v := .ref (ad o')) (fs := fsl (fun j => if j < nR ci then va_rf ((r o j).map ad) else .int (h o j)) (nF ci)) a.x a.b a.ts hin a.own a.k hP o ?_ hc k (by rw [hN]; exact hkn) (a.ts _ hlink) (fun _ z => z) ?_ hdg (kk H locs ls hR hP hD hS hl)
  · rw [ws_at ho]
    show some (ad o, ent _ _ (kd o) _ _) = _
    rw [ent_obj hk]
  · rw [fsl_get hkn, if_pos hn, hr]
    rfl
theorem ent_putI {cA : Nat → ClassId} {k : Nat × Nat} {ci i : Nat} {r : Nat → Option Nat} {h : Nat → Int32} {x : Int32} (hk : k.1 = ci + 4) (hn : ¬ i < nR ci) : ent cA ad k r (upd h i x) = .inr (ci, (fsl (fun j => if j < nR ci then va_rf ((r j).map ad) else .int (h j)) (nF ci)).set i (.int x)) := by
  rw [ent_obj hk, fsl_set]
  congr 2
  refine fsl_congr (fun j _ => ?_)
  by_cases hj : j = i
  · subst hj
    simp [hn, upd]
  · simp [hj, upd]
theorem x_putI (a : Amb u d E) (pc : Nat) {index ci k o : Nat} {x : Int32} (f : FR u.1.cls index ci k) (hdg : decode u.2.1 pc = .ok (.putfield index, 3)) (hk : (kd o).1 = ci + 4) (ho : o < n) (hn : ¬ k < nR ci) (hfin : ((cls ci).2.1 k).2.2.2 = false) (hnar : narrow (fT ci k) (.int x) = .int x) (hfit : fits (fT ci k) (.int x) = true) (kk : X E cl sl ad (n, kd, r, up2 h o k x) (pc + 3) lv st) : X E cl sl ad (n, kd, r, h) pc lv (.inl x :: .inr (some o) :: st) := by
  intro H locs ls hR hP hD hS hl
  obtain ⟨⟨hc, hin, hty, hnm, hN⟩, hkn, hlink⟩ := f
  refine va_put (D := eD E) (ci := ci) (C := (cls ci).1) (T := (cls ci).2.1) (N := (cls ci).2.2) (v := .int x) (fs := fsl (fun j => if j < nR ci then va_rf ((r o j).map ad) else .int (h o j)) (nF ci)) a.x a.b a.ts hin (fT ci) hty hnm a.own a.k hP hD hS o ?_ hc k (by rw [hN]; exact hkn) (a.ts _ hlink) (fun _ z => z) hfin (hty k (by rw [hN]; exact hkn)) hnar hfit (by rw [fsl_len]; exact hkn) hdg (fun H1 locs1 hP1 hD1 hS1 => ?_)
  · rw [ws_at ho]
    show some (ad o, ent _ _ (kd o) _ _) = _
    rw [ent_obj hk]
  · rw [ws_put (ent_putI hk hn)] at hP1 hD1
    exact kk H1 locs1 ls hR hP1 hD1 hS1 hl
theorem x_putFI (a : Amb u d E) (pc : Nat) {index ci k o : Nat} {x : Int32} (f : FR u.1.cls index ci k) (hdg : decode u.2.1 pc = .ok (.putfield index, 3)) (hk : (kd o).1 = ci + 4) (ho : o < n) (hn : ¬ k < nR ci) (hfin : ((cls ci).2.1 k).2.2.2 = true) (hin2 : u.1.name = "<init>") (hdecl : ((cls ci).2.1 k).1 = u.1.cls) (hnar : narrow (fT ci k) (.int x) = .int x) (hfit : fits (fT ci k) (.int x) = true) (kk : X E cl sl ad (n, kd, r, up2 h o k x) (pc + 3) lv st) : X E cl sl ad (n, kd, r, h) pc lv (.inl x :: .inr (some o) :: st) := by
  intro H locs ls hR hP hD hS hl
  obtain ⟨⟨hc, hin, hty, hnm, hN⟩, hkn, hlink⟩ := f
  refine va_putF (D := eD E) (ci := ci) (C := (cls ci).1) (T := (cls ci).2.1) (N := (cls ci).2.2) (v := .int x) (fs := fsl (fun j => if j < nR ci then va_rf ((r o j).map ad) else .int (h o j)) (nF ci)) a.x a.b a.ts hin (fT ci) hty hnm a.own a.k hP hD hS o ?_ hc k (by rw [hN]; exact hkn) (a.ts _ hlink) (fun _ z => z) hfin (a.nm.trans hin2) hdecl (hty k (by rw [hN]; exact hkn)) hnar hfit (by rw [fsl_len]; exact hkn) hdg (fun H1 locs1 hP1 hD1 hS1 => ?_)
  · rw [ws_at ho]
    show some (ad o, ent _ _ (kd o) _ _) = _
    rw [ent_obj hk]
  · rw [ws_put (ent_putI hk hn)] at hP1 hD1
    exact kk H1 locs1 ls hR hP1 hD1 hS1 hl
theorem ent_putR {cA : Nat → ClassId} {k : Nat × Nat} {ci i o' : Nat} {r : Nat → Option Nat} {h : Nat → Int32} (hk : k.1 = ci + 4) (hn : i < nR ci) : ent cA ad k (va_up r i (some o')) h = .inr (ci, (fsl (fun j => if j < nR ci then va_rf ((r j).map ad) else .int (h j)) (nF ci)).set i (.ref (ad o'))) := by
  rw [ent_obj hk, fsl_set]
  congr 2
  refine fsl_congr (fun j _ => ?_)
  by_cases hj : j = i
  · subst hj
    simp [hn, va_up, va_rf]
  · simp [hj, va_up]
theorem refs_up {o k o' : Nat} (hR : RefsOK (n, kd, r, h)) (ho' : o' < n) : RefsOK (n, kd, upR r o k (some o'), h) := by
  intro j i q hq
  have hq : upR r o k (some o') j i = some q := hq
  show q < n
  unfold upR at hq
  by_cases hj : j = o
  · rw [if_pos hj] at hq
    by_cases hi : i = k
    · subst hi
      rw [va_up_self] at hq
      cases hq
      exact ho'
    · rw [va_up_ne _ _ hi] at hq
      exact hR o i q hq
  · rw [if_neg hj] at hq
    exact hR j i q hq
/-- a final reference, in a constructor -/
theorem x_putFR (a : Amb u d E) (pc : Nat) {index ci k o o' : Nat} (f : FR u.1.cls index ci k) (hdg : decode u.2.1 pc = .ok (.putfield index, 3)) (hk : (kd o).1 = ci + 4) (ho : o < n) (hn : k < nR ci) (ho' : o' < n) (hfin : ((cls ci).2.1 k).2.2.2 = true) (hin2 : u.1.name = "<init>") (hdecl : ((cls ci).2.1 k).1 = u.1.cls) (hnar : ∀ q, narrow (fT ci k) (.ref q) = .ref q) (hfit : ∀ q, fits (fT ci k) (.ref q) = true) (kk : X E cl sl ad (n, kd, upR r o k (some o'), h) (pc + 3) lv st) : X E cl sl ad (n, kd, r, h) pc lv (.inr (some o') :: .inr (some o) :: st) := by
  intro H locs ls hR hP hD hS hl
  obtain ⟨⟨hc, hin, hty, hnm, hN⟩, hkn, hlink⟩ := f
  refine va_putF (D := eD E) (ci := ci) (C := (cls ci).1) (T := (cls ci).2.1) (N := (cls ci).2.2) (v := .ref (ad o')) (fs := fsl (fun j => if j < nR ci then va_rf ((r o j).map ad) else .int (h o j)) (nF ci)) a.x a.b a.ts hin (fT ci) hty hnm a.own a.k hP hD hS o ?_ hc k (by rw [hN]; exact hkn) (a.ts _ hlink) (fun _ z => z) hfin (a.nm.trans hin2) hdecl (hty k (by rw [hN]; exact hkn)) (hnar _) (hfit _) (by rw [fsl_len]; exact hkn) hdg (fun H1 locs1 hP1 hD1 hS1 => ?_)
  · rw [ws_at ho]
    show some (ad o, ent _ _ (kd o) _ _) = _
    rw [ent_obj hk]
  · rw [ws_putR (ent_putR hk hn)] at hP1 hD1
    exact kk H1 locs1 ls (refs_up hR ho') hP1 hD1 hS1 hl
/-! arrays -/
theorem x_iald (a : Amb u d E) (pc : Nat) {o len j : Nat} {i : Int32} (hdg : decode u.2.1 pc = .ok (.iaload, 1)) (hk : kd o = (0, len)) (ho : o < n) (hi : i = nI j) (hj : j < len) (hlen : len < 2 ^ 31) {v : Int32} (hv : h o j = v) (kk : X E cl sl ad (n, kd, r, h) (pc + 1) lv (.inl v :: st)) : X E cl sl ad (n, kd, r, h) pc lv (.inl i :: .inr (some o) :: st) := by
  intro H locs ls hR hP hD hS hl
  subst hv
  subst hi
  have e : (nI j).toNatClampNeg = j := nI_clamp (by omega)
  refine va_iald (n := len) (f := h o) (cA := eK E 0) a.x a.b a.k hP o 0 ?_ rfl (nI_in hj hlen) hdg ?_
  · rw [ws_at ho]
    show some (ad o, ent _ _ (kd o) _ _) = _
    rw [hk]
    rfl
  · rw [e]
    exact kk H locs ls hR hP hD hS hl
theorem x_zald (a : Amb u d E) (pc : Nat) {o len j : Nat} {i : Int32} (hdg : decode u.2.1 pc = .ok (.baload, 1)) (hk : kd o = (1, len)) (ho : o < n) (hi : i = nI j) (hj : j < len) (hlen : len < 2 ^ 31) {v : Int32} (hv : h o j = v) (kk : X E cl sl ad (n, kd, r, h) (pc + 1) lv (.inl v :: st)) : X E cl sl ad (n, kd, r, h) pc lv (.inl i :: .inr (some o) :: st) := by
  intro H locs ls hR hP hD hS hl
  subst hv
  subst hi
  have e : (nI j).toNatClampNeg = j := nI_clamp (by omega)
  refine va_zald (n := len) (f := h o) (cA := eK E 1) a.x a.b a.k hP o 1 ?_ rfl (nI_in hj hlen) hdg ?_
  · rw [ws_at ho]
    show some (ad o, ent _ _ (kd o) _ _) = _
    rw [hk]
    rfl
  · rw [e]
    exact kk H locs ls hR hP hD hS hl
theorem x_iast (a : Amb u d E) (pc : Nat) {o len j : Nat} {i x : Int32} (hdg : decode u.2.1 pc = .ok (.iastore, 1)) (hk : kd o = (0, len)) (ho : o < n) (hi : i = nI j) (hj : j < len) (hlen : len < 2 ^ 31) (kk : X E cl sl ad (n, kd, r, up2 h o j x) (pc + 1) lv st) : X E cl sl ad (n, kd, r, h) pc lv (.inl x :: .inl i :: .inr (some o) :: st) := by
  intro H locs ls hR hP hD hS hl
  subst hi
  have e : (nI j).toNatClampNeg = j := nI_clamp (by omega)
  refine va_iast (n := len) (f := h o) (cA := eK E 0) a.x a.b a.k hP hD hS o 0 ?_ rfl (nI_in hj hlen) hdg (fun H1 locs1 hP1 hD1 hS1 => ?_)
  · rw [ws_at ho]
    show some (ad o, ent _ _ (kd o) _ _) = _
    rw [hk]
    rfl
  · rw [e, ws_put (by rw [hk]; rfl)] at hP1 hD1
    exact kk H1 locs1 ls hR hP1 hD1 hS1 hl
theorem x_zast (a : Amb u d E) (pc : Nat) {o len j : Nat} {i x : Int32} (hdg : decode u.2.1 pc = .ok (.bastore, 1)) (hk : kd o = (1, len)) (ho : o < n) (hi : i = nI j) (hj : j < len) (hlen : len < 2 ^ 31) (hx : vp_nar .boolean x = x) (kk : X E cl sl ad (n, kd, r, up2 h o j x) (pc + 1) lv st) : X E cl sl ad (n, kd, r, h) pc lv (.inl x :: .inl i :: .inr (some o) :: st) := by
  intro H locs ls hR hP hD hS hl
  subst hi
  have e : (nI j).toNatClampNeg = j := nI_clamp (by omega)
  refine va_zast (n := len) (f := h o) (cA := eK E 1) a.x a.b a.k hP hD hS o 1 ?_ rfl (nI_in hj hlen) hdg (fun H1 locs1 hP1 hD1 hS1 => ?_)
  · rw [ws_at ho]
    show some (ad o, ent _ _ (kd o) _ _) = _
    rw [hk]
    rfl
  · rw [e, hx, ws_put (by rw [hk]; rfl)] at hP1 hD1
    exact kk H1 locs1 ls hR hP1 hD1 hS1 hl
theorem x_aald2 (a : Amb u d E) (pc : Nat) {o len j o' : Nat} {i : Int32} (hdg : decode u.2.1 pc = .ok (.aaload, 1)) (hk : kd o = (2, len)) (ho : o < n) (hi : i = nI j) (hj : j < len) (hlen : len < 2 ^ 31) (hr : r o j = some o') (kk : X E cl sl ad (n, kd, r, h) (pc + 1) lv (.inr (some o') :: st)) : X E cl sl ad (n, kd, r, h) pc lv (.inl i :: .inr (some o) :: st) := by
  intro H locs ls hR hP hD hS hl
  subst hi
  have e : (nI j).toNatClampNeg = j := nI_clamp (by omega)
  refine va_aldq (n := len) (f := fun i => (r o i).map ad) (cA := eK E 2) a.x a.b a.k hP o 2 ?_ rfl (nI_in hj hlen) hdg ?_
  · rw [ws_at ho]
    show some (ad o, ent _ _ (kd o) _ _) = _
    rw [hk]
    rfl
  · rw [e, hr]
    exact kk H locs ls hR hP hD hS hl
theorem x_aald3 (a : Amb u d E) (pc : Nat) {o len j o' : Nat} {i : Int32} (hdg : decode u.2.1 pc = .ok (.aaload, 1)) (hk : kd o = (3, len)) (ho : o < n) (hi : i = nI j) (hj : j < len) (hlen : len < 2 ^ 31) (hr : r o j = some o') (kk : X E cl sl ad (n, kd, r, h) (pc + 1) lv (.inr (some o') :: st)) : X E cl sl ad (n, kd, r, h) pc lv (.inl i :: .inr (some o) :: st) := by
  intro H locs ls hR hP hD hS hl
  subst hi
  have e : (nI j).toNatClampNeg = j := nI_clamp (by omega)
  refine va_aldq (n := len) (f := fun i => (r o i).map ad) (cA := eK E 3) a.x a.b a.k hP o 3 ?_ rfl (nI_in hj hlen) hdg ?_
  · rw [ws_at ho]
    show some (ad o, ent _ _ (kd o) _ _) = _
    rw [hk]
    rfl
  · rw [e, hr]
    exact kk H locs ls hR hP hD hS hl
theorem x_aast2 (a : Amb u d E) (pc : Nat) {o len j o' ci : Nat} {i : Int32} (hdg : decode u.2.1 pc = .ok (.aastore, 1)) (hk : kd o = (2, len)) (ho : o < n) (hi : i = nI j) (hj : j < len) (hlen : len < 2 ^ 31) (hk' : (kd o').1 = ci + 4) (ho' : o' < n) (hc : classes[ci]? = some (cls ci)) (hR2 : (cls ci).1 = R_2) (kk : X E cl sl ad (n, kd, upR r o j (some o'), h) (pc + 1) lv st) : X E cl sl ad (n, kd, r, h) pc lv (.inr (some o') :: .inl i :: .inr (some o) :: st) := by
  intro H locs ls hR hP hD hS hl
  subst hi
  have e : (nI j).toNatClampNeg = j := nI_clamp (by omega)
  have he : (ws (eK E) ad (n, kd, r, h))[o]? = some (ad o, .inl (eK E 2, len, .inr (.inr (.inr (.inr (fun i => (r o i).map ad)))))) := by
    rw [ws_at ho]
    show some (ad o, ent _ _ (kd o) _ _) = _
    rw [hk]
    rfl
  have hv : (ws (eK E) ad (n, kd, r, h))[o']? = some (ad o', .inr (ci, fsl (fun j => if j < nR ci then va_rf ((r o' j).map ad) else .int (h o' j)) (nF ci))) := by
    rw [ws_at ho']
    show some (ad o', ent _ _ (kd o') _ _) = _
    rw [ent_obj hk']
  refine va_astq (r := cls ci) a.x a.b a.k hP hD hS o 2 o' ci he (by rw [hR2]; rfl) hv hc (nI_in hj hlen) hdg (fun H1 locs1 hP1 hD1 hS1 => ?_)
  have e2 : ent (eK E) ad (kd o) (va_up (r o) j (some o')) (h o) = .inl (eK E 2, len, .inr (.inr (.inr (.inr (va_up (fun i => (r o i).map ad) j (some (ad o'))))))) := by
    rw [hk]
    show Sum.inl (eK E 2, len, _) = _
    congr 7
    funext z
    by_cases hz : z = j
    · subst hz
      simp [va_up]
    · simp [va_up, hz]
  rw [e, ws_putR e2] at hP1 hD1
  exact kk H1 locs1 ls (refs_up hR ho') hP1 hD1 hS1 hl
theorem x_aast3 (a : Amb u d E) (pc : Nat) {o len j o' ci : Nat} {i : Int32} (hdg : decode u.2.1 pc = .ok (.aastore, 1)) (hk : kd o = (3, len)) (ho : o < n) (hi : i = nI j) (hj : j < len) (hlen : len < 2 ^ 31) (hk' : (kd o').1 = ci + 4) (ho' : o' < n) (hc : classes[ci]? = some (cls ci)) (hR2 : (cls ci).1 = R_3) (kk : X E cl sl ad (n, kd, upR r o j (some o'), h) (pc + 1) lv st) : X E cl sl ad (n, kd, r, h) pc lv (.inr (some o') :: .inl i :: .inr (some o) :: st) := by
  intro H locs ls hR hP hD hS hl
  subst hi
  have e : (nI j).toNatClampNeg = j := nI_clamp (by omega)
  have he : (ws (eK E) ad (n, kd, r, h))[o]? = some (ad o, .inl (eK E 3, len, .inr (.inr (.inr (.inr (fun i => (r o i).map ad)))))) := by
    rw [ws_at ho]
    show some (ad o, ent _ _ (kd o) _ _) = _
    rw [hk]
    rfl
  have hv : (ws (eK E) ad (n, kd, r, h))[o']? = some (ad o', .inr (ci, fsl (fun j => if j < nR ci then va_rf ((r o' j).map ad) else .int (h o' j)) (nF ci))) := by
    rw [ws_at ho']
    show some (ad o', ent _ _ (kd o') _ _) = _
    rw [ent_obj hk']
  refine va_astq (r := cls ci) a.x a.b a.k hP hD hS o 3 o' ci he (by rw [hR2]; rfl) hv hc (nI_in hj hlen) hdg (fun H1 locs1 hP1 hD1 hS1 => ?_)
  have e2 : ent (eK E) ad (kd o) (va_up (r o) j (some o')) (h o) = .inl (eK E 3, len, .inr (.inr (.inr (.inr (va_up (fun i => (r o i).map ad) j (some (ad o'))))))) := by
    rw [hk]
    show Sum.inl (eK E 3, len, _) = _
    congr 7
    funext z
    by_cases hz : z = j
    · subst hz
      simp [va_up]
    · simp [va_up, hz]
  rw [e, ws_putR e2] at hP1 hD1
  exact kk H1 locs1 ls (refs_up hR ho') hP1 hD1 hS1 hl
theorem x_alen (a : Amb u d E) (pc : Nat) {o len : Nat} (hdg : decode u.2.1 pc = .ok (.arraylength, 1)) (hk : kd o = (0, len)) (ho : o < n) (kk : X E cl sl ad (n, kd, r, h) (pc + 1) lv (.inl (nI len) :: st)) : X E cl sl ad (n, kd, r, h) pc lv (.inr (some o) :: st) := by
  intro H locs ls hR hP hD hS hl
  refine va_alen (x := (len, .inl (h o))) (cA := eK E 0) a.x a.b a.k hP o 0 ?_ (ty := .int) rfl (v := nI len) rfl hdg (kk H locs ls hR hP hD hS hl)
  rw [ws_at ho]
  show some (ad o, ent _ _ (kd o) _ _) = _
  rw [hk]
  rfl
end XF
end
section
/-! making cells -/
section XN
variable {u : Mi} {d : Nat} {E : En} {cl sl : Nat} {ad : Nat → Nat} {n : Nat} {kd : Nat → Nat × Nat} {r : Nat → Nat → Option Nat} {h : Nat → Nat → Int32} {lv : List (Nat × AV)} {st : List AV}
/-- the frame's values speak of cells of the world, or of the script's (from 1000 on) -/
def okV (n : Nat) (v : AV) : Prop := ∀ o, v = .inr (some o) → o < n ∨ 1000 ≤ o
def okF (n : Nat) (lv : List (Nat × AV)) (st : List AV) : Prop := (∀ q ∈ lv, okV n q.2) ∧ ∀ v ∈ st, okV n v
theorem cv_okV {ad ad' : Nat → Nat} {v : AV} (hv : okV n v) (ha : ∀ o, o < n ∨ 1000 ≤ o → ad' o = ad o) : cv ad' v = cv ad v := by
  rcases v with x | o
  · rfl
  · cases o with
    | none => rfl
    | some o =>
      show Value.ref (ad' o) = Value.ref (ad o)
      rw [ha o (hv o rfl)]
theorem lvc_okF {ad ad' : Nat → Nat} {lv : List (Nat × AV)} (hv : ∀ q ∈ lv, okV n q.2) (ha : ∀ o, o < n ∨ 1000 ≤ o → ad' o = ad o) : lvc ad' lv = lvc ad lv := List.map_congr_left (fun q hq => by rw [cv_okV (hv q hq) ha])
theorem stc_okF {ad ad' : Nat → Nat} {st : List AV} (hv : ∀ v ∈ st, okV n v) (ha : ∀ o, o < n ∨ 1000 ≤ o → ad' o = ad o) : st.map (cv ad') = st.map (cv ad) := List.map_congr_left (fun q hq => cv_okV (hv q hq) ha)
theorem refs_new {k : Nat × Nat} (hR : RefsOK (n, kd, r, h)) : RefsOK (n + 1, va_up kd n k, va_up r n (fun _ => none), va_up h n (fun _ => 0)) := by
  intro j i o ho
  have ho : va_up r n (fun _ => none) j i = some o := ho
  show o < n + 1
  by_cases hj : j = n
  · subst hj
    rw [va_up_self] at ho
    cases ho
  · rw [va_up_ne _ _ hj] at ho
    exact Nat.lt_succ_of_lt (hR j i o ho)
theorem ad_new {q : Nat} (hn : n < 1000) : ∀ o, o < n ∨ 1000 ≤ o → va_up ad n q o = ad o := fun o ho => va_up_ne _ _ (by omega)
/-- the world with one cell more -/
def wNew (w : Wd) (k : Nat × Nat) : Wd := (w.1 + 1, va_up w.2.1 w.1 k, va_up w.2.2.1 w.1 (fun _ => none), va_up w.2.2.2 w.1 (fun _ => 0))
theorem x_new (a : Amb u d E) (pc : Nat) {index ci : Nat} (hdg : decode u.2.1 pc = .ok (.new index, 3)) (hlay : LayOK ci) (hcl : Cond.classLink u.1.cls index (cls ci).1 ∈ AllW) (hinst : Cond.instantiable (cls ci).1 (cls ci).2.2 ∈ AllW) (hini : Cond.initialized (cls ci).1 ∈ AllW)
    (hdf : ∀ j, j < (cls ci).2.2 → defaultValue (fT ci j) = vp_V (fsl (fun j => if j < nR ci then Value.null else .int 0) (nF ci)) j) (hn : n < 1000) (hok : okF n lv st) (hc : cl + 1 ≤ (eR E).cells) (hs : sl + (cls ci).2.2 ≤ (eR E).slots)
    (kk : ∀ ad', (∀ o, o < n ∨ 1000 ≤ o → ad' o = ad o) → X E (cl + 1) (sl + (cls ci).2.2) ad' (wNew (n, kd, r, h) (ci + 4, 0)) (pc + 3) lv (.inr (some n) :: st)) : X E cl sl ad (n, kd, r, h) pc lv st := by
  intro H locs ls hR hP hD hS hl
  obtain ⟨hcc, hin, hty, hnm, hN⟩ := hlay
  refine va_new (D := eD E) (ci := ci) (C := (cls ci).1) (T := (cls ci).2.1) (N := (cls ci).2.2) (fs := fsl (fun j => if j < nR ci then Value.null else .int 0) (nF ci)) a.x a.b a.ts hin (fT ci) hty a.own (a.ts _ hcl) (a.ts _ hinst) (a.ts _ hini) a.k hP hD hS a.fr hcc hdf hc hs hdg (fun q H1 hP1 hD1 hS1 => ?_)
  have had := ad_new (ad := ad) (q := q) hn
  have he : ent (eK E) ad (ci + 4, 0) (fun _ => none) (fun _ => 0) = .inr (ci, fsl (fun j => if j < nR ci then Value.null else .int 0) (nF ci)) := rfl
  rw [← he, ← ws_push (n := n) (q := q) (k := (ci + 4, 0)) hR] at hP1 hD1
  have e1 : (.ref q :: st.map (cv ad) : List Value) = ((.inr (some n) :: st : List AV)).map (cv (va_up ad n q)) := by
    rw [List.map_cons, stc_okF hok.2 had]
    show _ = Value.ref (va_up ad n q n) :: _
    rw [va_up_self]
  rw [e1]
  exact kk (va_up ad n q) had H1 locs ls (refs_new hR) hP1 hD1 hS1 (by rw [lvc_okF hok.1 had]; exact hl)
theorem tyL_int {cA : Nat → ClassId} {cB : ClassId} {D : va_G} {s : State} {ty : FieldType} (hK : va_K D classes (tyL cA) s) (hK1 : va_K D classes (tyL cA ++ [(cB, ty)]) s) (t : Nat) (ht : (tyL cA)[t]? = some (cA t, ty)) : cB = cA t := by
  have h1 := (hK.2 t _ ht).2
  have h2 := (hK1.2 4 (cB, ty) rfl).2
  cases ty with
  | object C =>
    obtain ⟨_, _, _, _, _, g1⟩ := h1
    obtain ⟨_, _, _, _, _, g2⟩ := h2
    exact Option.some.inj (g2.symm.trans g1)
  | _ => exact Option.some.inj (h2.symm.trans h1)
theorem x_newa (a : Amb u d E) (pc : Nat) {t N : Nat} {i : Int32} {atype : ArrayType} {ty : FieldType} (hdg : decode u.2.1 pc = .ok (.newarray atype, 2)) (hty : newarray.typeOf atype = ty) (ht : (t = 0 ∧ ty = .int) ∨ (t = 1 ∧ ty = .boolean)) (harr : Cond.arrayClass ty ∈ AllW) (hi : i = nI N) (hN : N ≤ 1000)
    (hn : n < 1000) (hok : okF n lv st) (hc : cl + 1 ≤ (eR E).cells) (hs : sl + N ≤ (eR E).slots)
    (kk : ∀ ad', (∀ o, o < n ∨ 1000 ≤ o → ad' o = ad o) → X E (cl + 1) (sl + N) ad' (wNew (n, kd, r, h) (t, N)) (pc + 2) lv (.inr (some n) :: st)) : X E cl sl ad (n, kd, r, h) pc lv (.inl i :: st) := by
  intro H locs ls hR hP hD hS hl
  subst hi
  have hcl : (nI N).toNatClampNeg = N := nI_clamp (by omega)
  have hdv : ∀ cA : ClassId, vp_cell cA ((N, .inl (fun _ => 0)) : vp_A) = arrV cA N (fun _ => defaultValue ty) := by
    intro cA
    rcases ht with ⟨-, rfl⟩ | ⟨-, rfl⟩ <;> rfl
  have hbytes : N * componentBytes ty ≤ 536870912 := by
    rcases ht with ⟨-, rfl⟩ | ⟨-, rfl⟩
    · show N * 4 ≤ _
      omega
    · show N * 1 ≤ _
      omega
  refine va_newa (a0 := (N, .inl (fun _ => 0))) a.x a.b (by rw [hty]; exact a.ts _ harr) hty a.k hP hD hS a.fr hdv (nI_pos (by omega)) hcl hbytes hc hs hdg (fun q cB H1 hK1 hP1 hD1 hS1 => ?_)
  have had := ad_new (ad := ad) (q := q) hn
  have hcB : cB = eK E t := tyL_int a.k hK1 t (by rcases ht with ⟨rfl, rfl⟩ | ⟨rfl, rfl⟩ <;> rfl)
  have he : ent (eK E) ad (t, N) (fun _ => none) (fun _ => 0) = .inl (cB, N, .inl (fun _ => 0)) := by
    rw [hcB]
    rcases ht with ⟨rfl, rfl⟩ | ⟨rfl, rfl⟩ <;> rfl
  rw [← he, ← ws_push (n := n) (q := q) (k := (t, N)) hR] at hP1 hD1
  have e1 : (.ref q :: st.map (cv ad) : List Value) = ((.inr (some n) :: st : List AV)).map (cv (va_up ad n q)) := by
    rw [List.map_cons, stc_okF hok.2 had]
    show _ = Value.ref (va_up ad n q n) :: _
    rw [va_up_self]
  rw [e1]
  exact kk (va_up ad n q) had H1 locs ls (refs_new hR) hP1 hD1 hS1 (by rw [lvc_okF hok.1 had]; exact hl)
theorem x_newq (a : Amb u d E) (pc : Nat) {index t N : Nat} {i : Int32} {C : String} (hdg : decode u.2.1 pc = .ok (.anewarray index, 3)) (hcl : Cond.classLink u.1.cls index C ∈ AllW) (hover : va_AO C (eS E)) (ht : (t = 2 ∧ C = R_2) ∨ (t = 3 ∧ C = R_3)) (hi : i = nI N) (hN : N ≤ 1000)
    (hn : n < 1000) (hok : okF n lv st) (hc : cl + 1 ≤ (eR E).cells) (hs : sl + N ≤ (eR E).slots)
    (kk : ∀ ad', (∀ o, o < n ∨ 1000 ≤ o → ad' o = ad o) → X E (cl + 1) (sl + N) ad' (wNew (n, kd, r, h) (t, N)) (pc + 3) lv (.inr (some n) :: st)) : X E cl sl ad (n, kd, r, h) pc lv (.inl i :: st) := by
  intro H locs ls hR hP hD hS hl
  subst hi
  have hcn : (nI N).toNatClampNeg = N := nI_clamp (by omega)
  refine va_newq a.x a.b a.own (a.ts _ hcl) hover a.k hP hD hS a.fr (nI_pos (by omega)) hcn (by omega) hc hs hdg (fun q cB H1 hK1 hP1 hD1 hS1 => ?_)
  have had := ad_new (ad := ad) (q := q) hn
  have hcB : cB = eK E t := tyL_int a.k hK1 t (by rcases ht with ⟨rfl, rfl⟩ | ⟨rfl, rfl⟩ <;> rfl)
  have he : ent (eK E) ad (t, N) (fun _ => none) (fun _ => 0) = .inl (cB, N, .inr (.inr (.inr (.inr (fun _ => none))))) := by
    rw [hcB]
    rcases ht with ⟨rfl, rfl⟩ | ⟨rfl, rfl⟩ <;> rfl
  rw [← he, ← ws_push (n := n) (q := q) (k := (t, N)) hR] at hP1 hD1
  have e1 : (.ref q :: st.map (cv ad) : List Value) = ((.inr (some n) :: st : List AV)).map (cv (va_up ad n q)) := by
    rw [List.map_cons, stc_okF hok.2 had]
    show _ = Value.ref (va_up ad n q n) :: _
    rw [va_up_self]
  rw [e1]
  exact kk (va_up ad n q) had H1 locs ls (refs_new hR) hP1 hD1 hS1 (by rw [lvc_okF hok.1 had]; exact hl)
end XN
/-! a method's contract -/
def QB (n0 mc : Nat) (D : va_G) (cA : Nat → ClassId) (ad0 : Nat → Nat) (A : Nat → Prop) (w : Wd) (t : State) : Prop := ∃ ad : Nat → Nat, (∀ o, o < n0 ∨ 1000 ≤ o → ad o = ad0 o) ∧ (mc = 0 → ad = ad0) ∧ RefsOK w ∧ va_P D classes (ws cA ad w) t.heap ∧ va_K D classes (tyL cA) t ∧ va_D A (ws cA ad w)
def QC (Post : Option Int32 → Wd → Prop) (B : Wd → State → Prop) (A : Nat → Prop) : Array Value → State → Outcome → State → Prop := fun _ s oc t => (∃ (v : Option Int32) (w : Wd), oc = .returned (v.map Value.int) ∧ Post v w ∧ B w t) ∧ va_F A s t
def PCo (D : va_G) (cA : Nat → ClassId) (ad : Nat → Nat) (w : Wd) (U : State) : Prop := RefsOK w ∧ va_P D classes (ws cA ad w) U.heap ∧ va_K D classes (tyL cA) U ∧ va_D (fun _ => True) (ws cA ad w) ∧ (∀ x ∈ NestW, va_Nw x U) ∧ va_AO R_2 U ∧ va_AO R_3 U
def wds (u : Mi) : List Cond := .code u.1 u.2.1 u.2.2.1 u.2.2.2 :: AllW
def Cn (u : Mi) (d mc ms : Nat) (w : Wd) (as : List AV) (Post : Option Int32 → Wd → Prop) : Prop :=
  ∀ (l : Launch) (D : va_G) (cA : Nat → ClassId) (ad : Nat → Nat) (sz : Nat), Met l u.1 (wds u) { frames := d, cells := mc, slots := ms, locals := 40 * d } (va_Pc (as.map (cv ad)) (fun U => U.heap.size = sz ∧ PCo D cA ad w U)) (QC Post (QB w.1 mc D cA ad (va_A (ws cA ad w) sz)) (va_A (ws cA ad w) sz)) mc ms (va_A (ws cA ad w) sz)
/-- the end that a method's contract asks -/
def Fin (Post : Option Int32 → Wd → Prop) (n0 : Nat) (ad0 : Nat → Nat) (mc ms : Nat) (E : En) : Prop := eQ E = MQ (eB E) (QC Post (QB n0 mc (eD E) (eK E) ad0 (eF E)) (eF E)) (eA E) (eS E) mc ms (eF E) ∧ mc ≤ (eR E).cells ∧ ms ≤ (eR E).slots ∧ va_AO R_2 (eS E) ∧ va_AO R_3 (eS E)
def argsL : Nat → List AV → List (Nat × AV)
  | _, [] => []
  | i, v :: vs => (i, v) :: argsL (i + 1) vs
theorem lvc_args (ad : Nat → Nat) : ∀ (as : List AV) (i : Nat), lv_args i (as.map (cv ad)) = lvc ad (argsL i as)
  | [], _ => rfl
  | v :: vs, i => by
    rw [List.map_cons]
    simp only [lv_args, cv_cat]
    rw [if_neg (by decide), lvc_args ad vs (i + 1)]
    rfl
theorem lg_len (ad : Nat → Nat) : ∀ as : List AV, (lg_sl (as.map (cv ad))).length = as.length
  | [] => rfl
  | v :: vs => by
    have ih := lg_len ad vs
    unfold lg_sl at ih ⊢
    rw [List.map_cons, List.flatMap_cons, cv_cat, if_neg (by decide), List.length_append, ih]
    simp
    omega
theorem Cn.of {u : Mi} {d mc ms : Nat} {w : Wd} {as : List AV} {Post : Option Int32 → Wd → Prop} (hy : plainName u.1.cls = true) (hlen : as.length ≤ u.2.2.1) (body : ∀ (E : En) (ad : Nat → Nat), Amb u d E → Fin Post w.1 ad mc ms E → X E 0 0 ad w 0 (argsL 0 as) []) : Cn u d mc ms w as Post := by
  intro l D cA ad sz
  refine Met.ofW (cc := u.2.1) (maxL := u.2.2.1) (ret := u.2.2.2) hy rfl ?_
  intro p e s m args below meth c s₁ B hml hv
  obtain ⟨rfl, hsz, hR, hP, hK, hD0, hns, h2, h3⟩ := hv
  have hts := atoms_spec (ws := wds u) B.pre
  subst hsz
  have hD := hD0.self (sz := s.heap.size)
  have a : Amb u d (p, l, e, (headSpec (wds u) { frames := d, cells := mc, slots := ms, locals := 40 * d }).room, s, m, (as.map (cv ad)).toArray, below, meth, c, D, cA, va_A (ws cA ad w) s.heap.size, MQ below (QC Post (QB w.1 mc D cA ad (va_A (ws cA ad w) s.heap.size)) (va_A (ws cA ad w) s.heap.size)) (as.map (cv ad)).toArray s mc ms (va_A (ws cA ad w) s.heap.size)) :=
    ⟨B.exec, B.bytes, B.returns, hml, B.notSynchronized, (name_of_methodNamed B.named B.method).1, findClass_of_methodNamed B.named, fun x hx => hts x (List.mem_cons_of_mem _ hx), hns, hK, fun q hq => Or.inr hq, Nat.le_refl _, Nat.le_refl _⟩
  have hl := lv_entry (as.map (cv ad)) (n := u.2.2.1) (by rw [lg_len]; exact hlen)
  rw [lg_entry_eq]
  rw [lvc_args] at hl
  exact body _ ad a ⟨rfl, Nat.le_refl _, Nat.le_refl _, h2, h3⟩ s.heap [] _ hR hP hD va_S.rf (by rw [a.ml]; exact hl)
section XE
variable {u : Mi} {d mc ms n0 : Nat} {E : En} {cl sl : Nat} {ad ad0 : Nat → Nat} {w : Wd} {lv : List (Nat × AV)} {Post : Option Int32 → Wd → Prop}
theorem x_end {H : Heap} {locs : List Loc} {v : Option Int32} (a : Amb u d E) (had : ∀ o, o < n0 ∨ 1000 ≤ o → ad o = ad0 o) (hm : mc = 0 → ad = ad0) (hp : Post v w) (hR : RefsOK w) (hP : va_P (eD E) classes (ws (eK E) ad w) H) (hD : va_D (eF E) (ws (eK E) ad w)) (hS : va_S (eF E) (eS E).heap H locs) : ∀ t : State, t.heap = H → (eS E).WarmedH t.vm → QC Post (QB n0 mc (eD E) (eK E) ad0 (eF E)) (eF E) (eA E) (eS E) (.returned (v.map Value.int)) t :=
  fun t ht hW => ⟨⟨v, w, rfl, hp, ad, had, hm, hR, by rw [ht]; exact hP, va_K.moved hW.alike a.k, hD⟩, hS.F ht⟩
/-- ends of methods that make nothing -/
theorem x_iret (a : Amb u d E) (q : Fin Post n0 ad 0 0 E) (pc : Nat) {v : Int32} (hdg : decode u.2.1 pc = .ok (.ireturn, 1)) (hr : u.2.2.2 = some .int) (hp : Post (some v) w) : X E 0 0 ad w pc lv [.inl v] := by
  intro H locs ls hR hP hD hS hl
  rw [q.1]
  exact W.iret a.x a.b (a.r.trans hr) (x_end (v := some v) a (fun _ _ => rfl) (fun _ => rfl) hp hR hP hD hS) hS.2.2 hdg a.lk
theorem x_zret (a : Amb u d E) (q : Fin Post n0 ad 0 0 E) (pc : Nat) {v : Int32} (hdg : decode u.2.1 pc = .ok (.ireturn, 1)) (hr : u.2.2.2 = some .boolean) (hv : narrow .boolean (.int v) = .int v) (hp : Post (some v) w) : X E 0 0 ad w pc lv [.inl v] := by
  intro H locs ls hR hP hD hS hl
  rw [q.1]
  exact W.zret a.x a.b (a.r.trans hr) hv (x_end (v := some v) a (fun _ _ => rfl) (fun _ => rfl) hp hR hP hD hS) hS.2.2 hdg a.lk
theorem x_vret (a : Amb u d E) (q : Fin Post n0 ad 0 0 E) (pc : Nat) (hdg : decode u.2.1 pc = .ok (.return_, 1)) (hr : u.2.2.2 = none) (hp : Post none w) : X E 0 0 ad w pc lv [] := by
  intro H locs ls hR hP hD hS hl
  rw [q.1]
  exact W.vret a.x a.b (a.r.trans hr) (x_end (v := none) a (fun _ _ => rfl) (fun _ => rfl) hp hR hP hD hS) hS.2.2 hdg a.lk
/-- the end of a constructor that makes cells -/
theorem x_vretN (a : Amb u d E) (q : Fin Post n0 ad0 mc ms E) (pc : Nat) (hdg : decode u.2.1 pc = .ok (.return_, 1)) (hr : u.2.2.2 = none) (had : ∀ o, o < n0 ∨ 1000 ≤ o → ad o = ad0 o) (hm : 0 < mc) (hc : cl ≤ mc) (hs : sl ≤ ms) (hp : Post none w) : X E cl sl ad w pc lv [] := by
  refine x_widen hc hs ?_
  intro H locs ls hR hP hD hS hl
  rw [q.1]
  exact W.vret a.x a.b (a.r.trans hr) (x_end (v := none) a had (fun z => by omega) hp hR hP hD hS) hS.2.2 hdg a.lk
end XE
/-! calls -/
theorem nest_warm {s U : State} (hW : s.WarmedH U.vm) (h : ∀ x ∈ NestW, va_Nw x s) : ∀ x ∈ NestW, va_Nw x U := NestW_warm hW h
theorem nest_same {s U : State} (hv : s.vm = U.vm) (h : ∀ x ∈ NestW, va_Nw x s) : ∀ x ∈ NestW, va_Nw x U := fun x hx => va_Nw.same (NestW_tab x hx) hv (h x hx)
theorem good_wds {u : Mi} (hc : Cond.code u.1 u.2.1 u.2.2.1 u.2.2.2 ∈ AllW) : GoodIn AllW (wds u) := by
  intro x hx
  rcases List.mem_cons.mp hx with rfl | hx
  · exact ⟨hc, Or.inl rfl⟩
  · exact ⟨hx, AllW_good x hx⟩
theorem pco_blind {D : va_G} {cA : Nat → ClassId} {ad : Nat → Nat} {w : Wd} {as : List AV} {sz : Nat} : FrameBlind (va_Pc (as.map (cv ad)) (fun U => U.heap.size = sz ∧ PCo D cA ad w U)) := by
  intro a U g mk q
  obtain ⟨q0, q1, qR, qP, qK, qD, qN, q2, q3⟩ := q
  exact ⟨q0, q1, qR, qP, va_K.moved (u := U) (U := U.calling g mk a) (Vm.Alike.refl U.vm) qK, qD, nest_same (s := U) (U := U.calling g mk a) rfl qN, va_AO.moved (u := U) (U := U.calling g mk a) (Vm.Alike.refl U.vm) q2, va_AO.moved (u := U) (U := U.calling g mk a) (Vm.Alike.refl U.vm) q3⟩
section XC
variable {u u' : Mi} {d d' mc ms mc' ms' n0 : Nat} {E : En} {cl sl : Nat} {ad ad0 : Nat → Nat} {w : Wd} {lv : List (Nat × AV)} {Post Post' : Option Int32 → Wd → Prop} {rest as : List AV}
theorem pco_here {H : Heap} (a : Amb u d E) (q2 : va_AO R_2 (eS E)) (q3 : va_AO R_3 (eS E)) (hR : RefsOK w) (hP : va_P (eD E) classes (ws (eK E) ad w) H) (hD : va_D (eF E) (ws (eK E) ad w)) : ∀ U : State, U.heap = H → (eS E).WarmedH U.vm → va_Pc (as.map (cv ad)) (fun U => U.heap.size = H.size ∧ PCo (eD E) (eK E) ad w U) (as.map (cv ad)).toArray U :=
  fun U hU hW => ⟨rfl, by rw [hU], hR, by rw [hU]; exact hP, va_K.moved hW.alike a.k, hD.weaken (fun _ _ _ _ => trivial), nest_warm hW a.ns, va_AO.moved hW.alike q2, va_AO.moved hW.alike q3⟩
/-- behind a call -/
theorem x_back {H : Heap} {locs : List Loc} {ls : Array Slot} {pc : Nat} {st0 : List Value} {av : Array Value} (a : Amb u d E) (hD : va_D (eF E) (ws (eK E) ad w)) (hS : va_S (eF E) (eS E).heap H locs) (hl : lv_has ls (eC E).maxLocals (lvc ad lv))
    (hr : va_Run (eP E) (eL E) (eE E) (eR E) (eS E) (eM E) (eA E) (eB E) (eT E) (eC E) H locs cl sl mc' ms' (F0 (eM E) pc ls st0) (rest.map (cv ad)) (QC Post' (QB w.1 mc' (eD E) (eK E) ad (va_A (ws (eK E) ad w) H.size)) (va_A (ws (eK E) ad w) H.size) av) (va_A (ws (eK E) ad w) H.size))
    (kk : ∀ v w' ad', (∀ o, o < w.1 ∨ 1000 ≤ o → ad' o = ad o) → (mc' = 0 → ad' = ad) → Post' v w' → lvc ad' lv = lvc ad lv ∧ rest.map (cv ad') = rest.map (cv ad) ∧ X E (cl + mc') (sl + ms') ad' w' (pc + 3) lv (v.toList.map .inl ++ rest)) :
    W (eP E) (eL E) (eE E) (eR E) (eS E) (eM E) (eA E) (eB E) (eT E) (eC E) H locs cl sl (eQ E) (F0 (eM E) pc ls st0) := by
  intro T hT Xs
  have hA : ∀ q, va_A (ws (eK E) ad w) H.size q → eF E q := by
    intro q hq
    rcases hq with ⟨k, e, hk⟩ | hq
    · exact hD.2 k _ hk
    · exact a.fr q (Nat.le_trans hS.1 hq)
  obtain ⟨v, st₀, t, T', L, h0, X', hL, e1, e2, ⟨⟨v', w', hv, hp, ad', g1, g2, g3, g4, g5, g6⟩, hz, hk⟩, st⟩ := hr T hT Xs
  cases hv
  rw [h0] at hz hk
  obtain ⟨k1, k2, k3⟩ := kk v' w' ad' g1 g2 hp
  have hS' : va_S (eF E) (eS E).heap T'.heap (locs ++ L) := ⟨Nat.le_trans hS.1 (by rw [e1]; exact hz), fun q h1 h2 => by rw [e1, hk q (Nat.lt_of_lt_of_le h1 hS.1) (fun z => h2 (hA q z))]; exact hS.2.1 q h1 h2, fun q hq => by
    rcases List.mem_append.mp hq with h | h
    · exact hS.2.2 q h
    · exact hA _ (hL q h)⟩
  have k4 := k3 T'.heap (locs ++ L) ls g3 (by rw [e1]; exact g4) (g6.weaken (fun _ q _ h => hA q.1 h)) hS' (by rw [k1]; exact hl)
  rw [List.map_append, k2] at k4
  have k5 : (v'.toList.map (Sum.inl : Int32 → AV)).map (cv ad') = (v'.map Value.int).toList := by cases v' <;> rfl
  rw [k5] at k4
  obtain ⟨t2, a1, b1⟩ := k4 T' rfl X'
  exact ⟨t2, st t2 a1, b1⟩
end XC
def CodeOK (u' : Mi) (n : Nat) : Prop := Cond.code u'.1 u'.2.1 u'.2.2.1 u'.2.2.2 ∈ AllW ∧ Cond.initialized u'.1.cls ∈ AllW ∧ u'.2.2.1 ≤ 21 ∧ u'.1.cls ≠ "java/lang/invoke/MethodHandle" ∧ u'.1.cls ≠ "java/lang/invoke/VarHandle" ∧ (parseMethodDescriptor u'.1.desc).map (fun d => d.parameters.length) = some n
def CallS (own : String) (index : Nat) (u' : Mi) (n : Nat) : Prop := CodeOK u' n ∧ Cond.methodLink own index u'.1 ∈ AllW ∧ Cond.static u'.1 ∈ AllW
def CallSN (own host : String) (index : Nat) (u' : Mi) (n : Nat) : Prop := CodeOK u' n ∧ Cond.methodLinkNest own index u'.1 host ∈ NestW ∧ Cond.static u'.1 ∈ AllW
def CallV (own : String) (index : Nat) (u' : Mi) (n ci : Nat) : Prop := CodeOK u' n ∧ Cond.methodLink own index u'.1 ∈ AllW ∧ Cond.instanceMethod u'.1 ∈ AllW ∧ Cond.selects u'.1.cls u'.1 u'.1 ∈ AllW ∧ classes[ci]? = some (cls ci) ∧ (cls ci).1 = u'.1.cls
def CallI (own : String) (index : Nat) (u' : Mi) (n : Nat) : Prop := CodeOK u' n ∧ Cond.methodLink own index u'.1 ∈ AllW ∧ Cond.instanceMethod u'.1 ∈ AllW ∧ u'.1.name = "<init>" ∧ u'.2.2.2 = none
theorem cat_sum (ad : Nat → Nat) : ∀ st : List AV, ((st.map (cv ad)).map fun v => v.category).sum = st.length
  | [] => rfl
  | v :: vs => by
    rw [List.map_cons, List.map_cons, List.sum_cons, cv_cat, cat_sum ad vs, List.length_cons]
    omega
section XC2
variable {u u' : Mi} {d d' mc' ms' : Nat} {E : En} {cl sl : Nat} {ad : Nat → Nat} {w : Wd} {lv : List (Nat × AV)} {Post' : Option Int32 → Wd → Prop} {rest as stk : List AV}
theorem x_callB {index n : Nat} {rm : Room} (a : Amb u d E) (hk : CodeOK u' n) (hl : (Cond.methodLink u.1.cls index u'.1).before (eA E) (eS E) = true) (hrm : rm = { frames := d', cells := mc', slots := ms', locals := 40 * d' }) (hd : d' + 1 ≤ d) : CallB (eR E) (eS E) (eA E) u.1.cls index u'.1 u'.2.1 u'.2.2.1 u'.2.2.2 (wds u') rm mc' ms' n := by
  obtain ⟨h1, h2, h3, h4⟩ := hk
  subst hrm
  have := a.fd
  have := a.l
  exact callB_of n a.ts (good_wds h1) rfl rfl rfl (a.ts _ h2) hl h4 ⟨by show d' + 1 ≤ _; omega, by show 8 + (u'.2.2.1 + 11) + 40 * d' ≤ _; omega⟩
theorem x_rev (ad : Nat → Nat) (hst : stk = as.reverse ++ rest) : stk.map (cv ad) = (as.map (cv ad)).reverse ++ rest.map (cv ad) := by
  rw [hst, List.map_append, List.map_reverse]
/-- a static call of a method that makes nothing -/
theorem x_callS (a : Amb u d E) (qa : va_AO R_2 (eS E) ∧ va_AO R_3 (eS E)) (pc : Nat) {index n : Nat} (hw : CallS u.1.cls index u' n) (hdg : decode u.2.1 pc = .ok (.invokestatic index, 3)) (hc : Cn u' d' 0 0 w as Post') (hst : stk = as.reverse ++ rest) (hn : as.length = n) (hd : d' + 1 ≤ d) (hrest : rest.length ≤ 8) (hcs : cl ≤ (eR E).cells ∧ sl ≤ (eR E).slots)
    (kk : ∀ v w', Post' v w' → X E cl sl ad w' (pc + 3) lv (v.toList.map .inl ++ rest)) : X E cl sl ad w pc lv stk := by
  intro H locs ls hR hP hD hS hl
  refine x_back (mc' := 0) (ms' := 0) (rest := rest) (Post' := Post') (w := w) (ad := ad) (lv := lv) (av := (as.map (cv ad)).toArray) a hD hS hl ?_ (fun v w' ad' _ h2 hp => by
    have h2 := h2 rfl
    subst h2
    exact ⟨rfl, rfl, kk v w' hp⟩)
  exact va_runS (Ts := AllW) (n := n) (nL := (eC E).maxLocals) ⟨a.x, a.b, rfl, a.own, a.ts⟩ (hc (eL E) (eD E) (eK E) ad H.size) ⟨x_callB a hw.1 (a.ts _ hw.2.1) rfl hd, a.ts _ hw.2.2⟩ ⟨pco_blind, pco_here a qa.1 qa.2 hR hP hD⟩ rfl (by rw [List.length_map]; exact hn) hl.1 (x_rev ad hst) (lv_room (by rw [cat_sum]; exact hrest)) hdg hcs
/-- the same, of a nest mate -/
theorem x_callSN (a : Amb u d E) (qa : va_AO R_2 (eS E) ∧ va_AO R_3 (eS E)) (pc : Nat) {index n : Nat} {host : String} (hw : CallSN u.1.cls host index u' n) (hdg : decode u.2.1 pc = .ok (.invokestatic index, 3)) (hc : Cn u' d' 0 0 w as Post') (hst : stk = as.reverse ++ rest) (hn : as.length = n) (hd : d' + 1 ≤ d) (hrest : rest.length ≤ 8) (hcs : cl ≤ (eR E).cells ∧ sl ≤ (eR E).slots)
    (kk : ∀ v w', Post' v w' → X E cl sl ad w' (pc + 3) lv (v.toList.map .inl ++ rest)) : X E cl sl ad w pc lv stk := by
  intro H locs ls hR hP hD hS hl
  refine x_back (mc' := 0) (ms' := 0) (rest := rest) (Post' := Post') (w := w) (ad := ad) (lv := lv) (av := (as.map (cv ad)).toArray) a hD hS hl ?_ (fun v w' ad' _ h2 hp => by
    have h2 := h2 rfl
    subst h2
    exact ⟨rfl, rfl, kk v w' hp⟩)
  obtain ⟨⟨h1, h2, h3, h4⟩, h5, h6⟩ := hw
  have hA := a.fd
  have hB := a.l
  exact va_runSN (Ts := AllW) (n := n) (nL := (eC E).maxLocals) ⟨a.x, a.b, rfl, a.own, a.ts⟩ (hc (eL E) (eD E) (eK E) ad H.size) ⟨va_cnB n a.ts (good_wds h1) rfl rfl rfl (a.ns _ h5) (a.ts _ h2) h4 ⟨by show d' + 1 ≤ _; omega, by show 8 + (u'.2.2.1 + 11) + 40 * d' ≤ _; omega⟩, a.ts _ h6, trivial⟩ ⟨pco_blind, pco_here a qa.1 qa.2 hR hP hD⟩ rfl (by rw [List.length_map]; exact hn) hl.1 (x_rev ad hst) (lv_room (by rw [cat_sum]; exact hrest)) hdg hcs
/-- a call of an object's method that makes nothing -/
theorem x_callV (a : Amb u d E) (qa : va_AO R_2 (eS E) ∧ va_AO R_3 (eS E)) (pc : Nat) {index n ci o : Nat} (hw : CallV u.1.cls index u' n ci) (hdg : decode u.2.1 pc = .ok (.invokevirtual index, 3)) (hc : Cn u' d' 0 0 w (.inr (some o) :: as) Post') (hst : stk = as.reverse ++ .inr (some o) :: rest) (hn : as.length = n) (hk : (w.2.1 o).1 = ci + 4) (ho : o < w.1) (hd : d' + 1 ≤ d) (hrest : rest.length ≤ 8) (hcs : cl ≤ (eR E).cells ∧ sl ≤ (eR E).slots)
    (kk : ∀ v w', Post' v w' → X E cl sl ad w' (pc + 3) lv (v.toList.map .inl ++ rest)) : X E cl sl ad w pc lv stk := by
  intro H locs ls hR hP hD hS hl
  refine x_back (mc' := 0) (ms' := 0) (rest := rest) (Post' := Post') (w := w) (ad := ad) (lv := lv) (av := ((.inr (some o) :: as : List AV).map (cv ad)).toArray) a hD hS hl ?_ (fun v w' ad' _ h2 hp => by
    have h2 := h2 rfl
    subst h2
    exact ⟨rfl, rfl, kk v w' hp⟩)
  obtain ⟨hcd, h5, h6, h7, h8, h9⟩ := hw
  have hcell := va_recv (q0 := o) (ci := ci) (q := cls ci) (fs := fsl (fun j => if j < nR ci then va_rf ((w.2.2.1 o j).map ad) else .int (w.2.2.2 o j)) (nF ci)) a.k hP h8 (by rw [ws_at ho, ent_obj hk])
  rw [h9] at hcell
  exact va_runV (Ts := AllW) (n := n) (nL := (eC E).maxLocals) (As := as.map (cv ad)) (b := ad o) (C := u'.1.cls) ⟨a.x, a.b, rfl, a.own, a.ts⟩ (hc (eL E) (eD E) (eK E) ad H.size) ⟨x_callB a hcd (a.ts _ h5) rfl hd, a.ts _ h6, a.ts _ h7⟩ ⟨pco_blind, hcell, pco_here a qa.1 qa.2 hR hP hD⟩ rfl (by rw [List.length_map]; exact hn) hl.1 (by rw [hst, List.map_append, List.map_reverse]; rfl) (lv_room (by rw [cat_sum]; exact hrest)) hdg hcs
/-- a constructor: cells may come -/
theorem x_callI (a : Amb u d E) (qa : va_AO R_2 (eS E) ∧ va_AO R_3 (eS E)) (pc : Nat) {index n o : Nat} (hw : CallI u.1.cls index u' n) (hdg : decode u.2.1 pc = .ok (.invokespecial index, 3)) (hc : Cn u' d' mc' ms' w (.inr (some o) :: as) Post') (hst : stk = as.reverse ++ .inr (some o) :: rest) (hn : as.length = n) (hd : d' + 1 ≤ d) (hrest : rest.length ≤ 8) (hok : okF w.1 lv rest) (hcs : cl + mc' ≤ (eR E).cells ∧ sl + ms' ≤ (eR E).slots)
    (kk : ∀ v w' ad', (∀ o, o < w.1 ∨ 1000 ≤ o → ad' o = ad o) → Post' v w' → X E (cl + mc') (sl + ms') ad' w' (pc + 3) lv (v.toList.map .inl ++ rest)) : X E cl sl ad w pc lv stk := by
  intro H locs ls hR hP hD hS hl
  refine x_back (mc' := mc') (ms' := ms') (rest := rest) (Post' := Post') (w := w) (ad := ad) (lv := lv) (av := ((.inr (some o) :: as : List AV).map (cv ad)).toArray) a hD hS hl ?_ (fun v w' ad' h1 _ hp => ⟨lvc_okF hok.1 h1, stc_okF hok.2 h1, kk v w' ad' h1 hp⟩)
  obtain ⟨hcd, h5, h6, h7, h8⟩ := hw
  have hB := x_callB (mc' := mc') (ms' := ms') (d' := d') a hcd (a.ts _ h5) rfl hd
  rw [h8] at hB
  exact va_runI (Ts := AllW) (n := n) (nL := (eC E).maxLocals) (As := as.map (cv ad)) (b := ad o) ⟨a.x, a.b, rfl, a.own, a.ts⟩ (hc (eL E) (eD E) (eK E) ad H.size) ⟨hB, h7, a.ts _ h6⟩ ⟨pco_blind, pco_here a qa.1 qa.2 hR hP hD⟩ rfl (by rw [List.length_map]; exact hn) hl.1 (by rw [hst, List.map_append, List.map_reverse]; rfl) (lv_room (by rw [cat_sum]; exact hrest)) hdg hcs
/-- Object's own constructor -/
theorem x_objInit (a : Amb u d E) (pc : Nat) {index o : Nat} (hdg : decode u.2.1 pc = .ok (.invokespecial index, 3)) (hl1 : Cond.methodLink u.1.cls index Lib.objectInit ∈ AllW) (hl2 : Cond.instanceMethod Lib.objectInit ∈ AllW) (hl3 : Cond.code Lib.objectInit ⟨#[0xb1]⟩ 1 none ∈ AllW) (hd : 1 ≤ d) (hrest : rest.length ≤ 8) (kk : X E cl sl ad w (pc + 3) lv rest) : X E cl sl ad w pc lv (.inr (some o) :: rest) := by
  intro H locs ls hR hP hD hS hl
  have hA := a.fd
  have hB := a.l
  refine W.objInit a.x a.b a.own (a.ts _ hl1) (a.ts _ hl2) (a.ts _ hl3) rfl hl.1 rfl hdg (by omega) ?_ (kk H locs ls hR hP hD hS hl)
  show 2 * 0 + ((rest.map (cv ad)).map fun v => v.category).sum + 12 ≤ _
  rw [cat_sum]
  omega
theorem x_min (a : Amb u d E) (pc : Nat) {index : Nat} {x y : Int32} (hdg : decode u.2.1 pc = .ok (.invokestatic index, 3)) (hl1 : Cond.methodLink u.1.cls index Lib.Math.min.name ∈ AllW) (hl2 : Cond.static Lib.Math.min.name ∈ AllW) (hl3 : Cond.initialized "java/lang/Math" ∈ AllW) (hl4 : Cond.code Lib.Math.min.name Lib.Math.min.code 2 (some .int) ∈ AllW) (hd : 1 ≤ d) (hrest : rest.length ≤ 8) (hcs : cl ≤ (eR E).cells ∧ sl ≤ (eR E).slots) (kk : X E cl sl ad w (pc + 3) lv (.inl (if y < x then y else x) :: rest)) : X E cl sl ad w pc lv (.inl y :: .inl x :: rest) := by
  intro H locs ls hR hP hD hS hl
  have hA := a.fd
  have hB := a.l
  refine va_mmin a.x a.b hl.1.symm a.own (a.ts _ hl1) (a.ts _ hl2) (a.ts _ hl3) (a.ts _ hl4) (by omega) ?_ hcs.1 hcs.2 hdg (kk H locs ls hR hP hD hS hl)
  rw [cat_sum]
  omega
end XC2
end
