section
-- ===== PART A: goes FIRST, ahead of the names: the tables' words, and 'selects' of the private methods out of them =====
/-- a private method of a class that the tables say can be made, by its rows of tables_1 -/
def lw_okq (q : MethodName × Nat) : Prop := (q.1.cls ≠ "java/lang/invoke/MethodHandle" ∧ q.1.cls ≠ "java/lang/invoke/VarHandle") ∧ Cond.instantiable q.1.cls q.2 ∈ tables_1 ∧ Cond.privateMethod q.1 ∈ tables_1 ∧ Cond.instanceMethod q.1 ∈ tables_1
theorem lw_p0 : lw_okq (⟨"PartitionDesk", "checkTable", "()I"⟩, 6) := ⟨⟨by decide +kernel, by decide +kernel⟩, List.mem_of_getElem? (i := 9) (by decide +kernel), List.mem_of_getElem? (i := 206) (by decide +kernel), List.mem_of_getElem? (i := 207) (by decide +kernel)⟩
theorem lw_p1 : lw_okq (⟨"PartitionDesk", "somebodyTakesPart", "()Z"⟩, 6) := ⟨⟨by decide +kernel, by decide +kernel⟩, List.mem_of_getElem? (i := 9) (by decide +kernel), List.mem_of_getElem? (i := 210) (by decide +kernel), List.mem_of_getElem? (i := 211) (by decide +kernel)⟩
theorem lw_p2 : lw_okq (⟨"PartitionDesk", "someRegionsOverlap", "()Z"⟩, 6) := ⟨⟨by decide +kernel, by decide +kernel⟩, List.mem_of_getElem? (i := 9) (by decide +kernel), List.mem_of_getElem? (i := 218) (by decide +kernel), List.mem_of_getElem? (i := 219) (by decide +kernel)⟩
theorem lw_p3 : lw_okq (⟨"PartitionDesk", "windowsFit", "()Z"⟩, 6) := ⟨⟨by decide +kernel, by decide +kernel⟩, List.mem_of_getElem? (i := 9) (by decide +kernel), List.mem_of_getElem? (i := 227) (by decide +kernel), List.mem_of_getElem? (i := 228) (by decide +kernel)⟩
theorem lw_p4 : lw_okq (⟨"PartitionDesk", "portsFit", "()Z"⟩, 6) := ⟨⟨by decide +kernel, by decide +kernel⟩, List.mem_of_getElem? (i := 9) (by decide +kernel), List.mem_of_getElem? (i := 235) (by decide +kernel), List.mem_of_getElem? (i := 236) (by decide +kernel)⟩
theorem lw_p5 : lw_okq (⟨"PartitionDesk", "beginAnew", "()V"⟩, 6) := ⟨⟨by decide +kernel, by decide +kernel⟩, List.mem_of_getElem? (i := 9) (by decide +kernel), List.mem_of_getElem? (i := 239) (by decide +kernel), List.mem_of_getElem? (i := 240) (by decide +kernel)⟩
theorem lw_p6 : lw_okq (⟨"PartitionDesk", "passTick", "()Z"⟩, 6) := ⟨⟨by decide +kernel, by decide +kernel⟩, List.mem_of_getElem? (i := 9) (by decide +kernel), List.mem_of_getElem? (i := 271) (by decide +kernel), List.mem_of_getElem? (i := 272) (by decide +kernel)⟩
theorem lw_p7 : lw_okq (⟨"PartitionDesk", "doInstruction", "(I)V"⟩, 6) := ⟨⟨by decide +kernel, by decide +kernel⟩, List.mem_of_getElem? (i := 9) (by decide +kernel), List.mem_of_getElem? (i := 279) (by decide +kernel), List.mem_of_getElem? (i := 280) (by decide +kernel)⟩
theorem lw_p8 : lw_okq (⟨"PartitionDesk", "answerFault", "(II)V"⟩, 6) := ⟨⟨by decide +kernel, by decide +kernel⟩, List.mem_of_getElem? (i := 9) (by decide +kernel), List.mem_of_getElem? (i := 283) (by decide +kernel), List.mem_of_getElem? (i := 284) (by decide +kernel)⟩
theorem lw_p9 : lw_okq (⟨"PartitionDesk", "restart", "(I)V"⟩, 6) := ⟨⟨by decide +kernel, by decide +kernel⟩, List.mem_of_getElem? (i := 9) (by decide +kernel), List.mem_of_getElem? (i := 287) (by decide +kernel), List.mem_of_getElem? (i := 288) (by decide +kernel)⟩
theorem lw_p10 : lw_okq (⟨"PartitionDesk", "faultAhead", "(IIII)I"⟩, 6) := ⟨⟨by decide +kernel, by decide +kernel⟩, List.mem_of_getElem? (i := 9) (by decide +kernel), List.mem_of_getElem? (i := 292) (by decide +kernel), List.mem_of_getElem? (i := 293) (by decide +kernel)⟩
theorem lw_p11 : lw_okq (⟨"PartitionDesk", "isPort", "(I)Z"⟩, 6) := ⟨⟨by decide +kernel, by decide +kernel⟩, List.mem_of_getElem? (i := 9) (by decide +kernel), List.mem_of_getElem? (i := 306) (by decide +kernel), List.mem_of_getElem? (i := 307) (by decide +kernel)⟩
theorem lw_p12 : lw_okq (⟨"PartitionDesk", "carryOut", "(LPartitionDesk$Partition;III)V"⟩, 6) := ⟨⟨by decide +kernel, by decide +kernel⟩, List.mem_of_getElem? (i := 9) (by decide +kernel), List.mem_of_getElem? (i := 310) (by decide +kernel), List.mem_of_getElem? (i := 311) (by decide +kernel)⟩
theorem lw_p13 : lw_okq (⟨"PartitionDesk", "compute", "(LPartitionDesk$Partition;III)V"⟩, 6) := ⟨⟨by decide +kernel, by decide +kernel⟩, List.mem_of_getElem? (i := 9) (by decide +kernel), List.mem_of_getElem? (i := 314) (by decide +kernel), List.mem_of_getElem? (i := 315) (by decide +kernel)⟩
theorem lw_p14 : lw_okq (⟨"PartitionDesk", "communicate", "(LPartitionDesk$Partition;III)V"⟩, 6) := ⟨⟨by decide +kernel, by decide +kernel⟩, List.mem_of_getElem? (i := 9) (by decide +kernel), List.mem_of_getElem? (i := 322) (by decide +kernel), List.mem_of_getElem? (i := 323) (by decide +kernel)⟩
theorem lw_p15 : lw_okq (⟨"PartitionDeskModel", "wrong", "()I"⟩, 31) := ⟨⟨by decide +kernel, by decide +kernel⟩, List.mem_of_getElem? (i := 396) (by decide +kernel), List.mem_of_getElem? (i := 527) (by decide +kernel), List.mem_of_getElem? (i := 528) (by decide +kernel)⟩
def lw_privs_1 : List (MethodName × Nat) := [(⟨"PartitionDesk", "checkTable", "()I"⟩, 6), (⟨"PartitionDesk", "somebodyTakesPart", "()Z"⟩, 6), (⟨"PartitionDesk", "someRegionsOverlap", "()Z"⟩, 6), (⟨"PartitionDesk", "windowsFit", "()Z"⟩, 6), (⟨"PartitionDesk", "portsFit", "()Z"⟩, 6), (⟨"PartitionDesk", "beginAnew", "()V"⟩, 6), (⟨"PartitionDesk", "passTick", "()Z"⟩, 6), (⟨"PartitionDesk", "doInstruction", "(I)V"⟩, 6), (⟨"PartitionDesk", "answerFault", "(II)V"⟩, 6), (⟨"PartitionDesk", "restart", "(I)V"⟩, 6), (⟨"PartitionDesk", "faultAhead", "(IIII)I"⟩, 6), (⟨"PartitionDesk", "isPort", "(I)Z"⟩, 6), (⟨"PartitionDesk", "carryOut", "(LPartitionDesk$Partition;III)V"⟩, 6), (⟨"PartitionDesk", "compute", "(LPartitionDesk$Partition;III)V"⟩, 6), (⟨"PartitionDesk", "communicate", "(LPartitionDesk$Partition;III)V"⟩, 6), (⟨"PartitionDeskModel", "wrong", "()I"⟩, 31)]
theorem lw_r1 : ∀ q ∈ lw_privs_1, lw_okq q := List.forall_mem_cons.mpr ⟨lw_p0, List.forall_mem_cons.mpr ⟨lw_p1, List.forall_mem_cons.mpr ⟨lw_p2, List.forall_mem_cons.mpr ⟨lw_p3, List.forall_mem_cons.mpr ⟨lw_p4, List.forall_mem_cons.mpr ⟨lw_p5, List.forall_mem_cons.mpr ⟨lw_p6, List.forall_mem_cons.mpr ⟨lw_p7, List.forall_mem_cons.mpr ⟨lw_p8, List.forall_mem_cons.mpr ⟨lw_p9, List.forall_mem_cons.mpr ⟨lw_p10, List.forall_mem_cons.mpr ⟨lw_p11, List.forall_mem_cons.mpr ⟨lw_p12, List.forall_mem_cons.mpr ⟨lw_p13, List.forall_mem_cons.mpr ⟨lw_p14, List.forall_mem_cons.mpr ⟨lw_p15, fun _ h => absurd h List.not_mem_nil⟩⟩⟩⟩⟩⟩⟩⟩⟩⟩⟩⟩⟩⟩⟩⟩
theorem lw_p16 : lw_okq (⟨"PartitionDeskModel", "takesPart", "(I)Z"⟩, 31) := ⟨⟨by decide +kernel, by decide +kernel⟩, List.mem_of_getElem? (i := 396) (by decide +kernel), List.mem_of_getElem? (i := 531) (by decide +kernel), List.mem_of_getElem? (i := 532) (by decide +kernel)⟩
theorem lw_p17 : lw_okq (⟨"PartitionDeskModel", "step", "(I)V"⟩, 31) := ⟨⟨by decide +kernel, by decide +kernel⟩, List.mem_of_getElem? (i := 396) (by decide +kernel), List.mem_of_getElem? (i := 543) (by decide +kernel), List.mem_of_getElem? (i := 544) (by decide +kernel)⟩
theorem lw_p18 : lw_okq (⟨"PartitionDeskModel", "simple", "(IIII)I"⟩, 31) := ⟨⟨by decide +kernel, by decide +kernel⟩, List.mem_of_getElem? (i := 396) (by decide +kernel), List.mem_of_getElem? (i := 547) (by decide +kernel), List.mem_of_getElem? (i := 548) (by decide +kernel)⟩
theorem lw_p19 : lw_okq (⟨"PartitionDeskModel", "goOn", "(I)V"⟩, 31) := ⟨⟨by decide +kernel, by decide +kernel⟩, List.mem_of_getElem? (i := 396) (by decide +kernel), List.mem_of_getElem? (i := 551) (by decide +kernel), List.mem_of_getElem? (i := 552) (by decide +kernel)⟩
theorem lw_p20 : lw_okq (⟨"PartitionDeskModel", "inside", "(IIII)I"⟩, 31) := ⟨⟨by decide +kernel, by decide +kernel⟩, List.mem_of_getElem? (i := 396) (by decide +kernel), List.mem_of_getElem? (i := 555) (by decide +kernel), List.mem_of_getElem? (i := 556) (by decide +kernel)⟩
theorem lw_p21 : lw_okq (⟨"PartitionDeskModel", "message", "(IIII)I"⟩, 31) := ⟨⟨by decide +kernel, by decide +kernel⟩, List.mem_of_getElem? (i := 396) (by decide +kernel), List.mem_of_getElem? (i := 559) (by decide +kernel), List.mem_of_getElem? (i := 560) (by decide +kernel)⟩
theorem lw_p22 : lw_okq (⟨"PartitionDeskModel", "react", "(II)V"⟩, 31) := ⟨⟨by decide +kernel, by decide +kernel⟩, List.mem_of_getElem? (i := 396) (by decide +kernel), List.mem_of_getElem? (i := 563) (by decide +kernel), List.mem_of_getElem? (i := 564) (by decide +kernel)⟩
def lw_privs_2 : List (MethodName × Nat) := [(⟨"PartitionDeskModel", "takesPart", "(I)Z"⟩, 31), (⟨"PartitionDeskModel", "step", "(I)V"⟩, 31), (⟨"PartitionDeskModel", "simple", "(IIII)I"⟩, 31), (⟨"PartitionDeskModel", "goOn", "(I)V"⟩, 31), (⟨"PartitionDeskModel", "inside", "(IIII)I"⟩, 31), (⟨"PartitionDeskModel", "message", "(IIII)I"⟩, 31), (⟨"PartitionDeskModel", "react", "(II)V"⟩, 31)]
theorem lw_r2 : ∀ q ∈ lw_privs_2, lw_okq q := List.forall_mem_cons.mpr ⟨lw_p16, List.forall_mem_cons.mpr ⟨lw_p17, List.forall_mem_cons.mpr ⟨lw_p18, List.forall_mem_cons.mpr ⟨lw_p19, List.forall_mem_cons.mpr ⟨lw_p20, List.forall_mem_cons.mpr ⟨lw_p21, List.forall_mem_cons.mpr ⟨lw_p22, fun _ h => absurd h List.not_mem_nil⟩⟩⟩⟩⟩⟩⟩
def lw_privs : List (MethodName × Nat) := lw_privs_1 ++ (lw_privs_2)
def lw_tbl : List Cond := k2_sels lw_privs ++ tables_1
theorem lw_privs_ok : ∀ q ∈ lw_privs, lw_okq q := by
  show ∀ q ∈ lw_privs_1 ++ (lw_privs_2), lw_okq q
  exact List.forall_mem_append.mpr ⟨lw_r1, lw_r2⟩
end
section
/-! names, layouts, words -/
def Rn0 : String := "PartitionDesk"
def Tn0 : u_T := fun k => match k with
  | 0 => ("PartitionDesk", "memory", "[I", true)
  | 1 => ("PartitionDesk", "partitions", "[LPartitionDesk$Partition;", true)
  | 2 => ("PartitionDesk", "ports", "[LPartitionDesk$Port;", true)
  | 3 => ("PartitionDesk", "frame", "LPartitionDesk$Frame;", true)
  | 4 => ("PartitionDesk", "portCount", "I", false)
  | _ => ("PartitionDesk", "started", "Z", false)
def Rn1 : String := "PartitionDesk$Partition"
def Tn1 : u_T := fun k => match k with
  | 0 => ("PartitionDesk$Partition", "ops", "[I", true)
  | 1 => ("PartitionDesk$Partition", "firsts", "[I", true)
  | 2 => ("PartitionDesk$Partition", "seconds", "[I", true)
  | 3 => ("PartitionDesk$Partition", "actions", "[I", true)
  | 4 => ("PartitionDesk$Partition", "registers", "[I", true)
  | 5 => ("PartitionDesk$Partition", "inputs", "LPartitionDesk$ValueQueue;", true)
  | 6 => ("PartitionDesk$Partition", "outputs", "[I", true)
  | 7 => ("PartitionDesk$Partition", "from", "I", false)
  | 8 => ("PartitionDesk$Partition", "size", "I", false)
  | 9 => ("PartitionDesk$Partition", "place", "I", false)
  | 10 => ("PartitionDesk$Partition", "running", "Z", false)
  | 11 => ("PartitionDesk$Partition", "faults", "I", false)
  | _ => ("PartitionDesk$Partition", "outputCount", "I", false)
def Rn2 : String := "PartitionDesk$Port"
def Tn2 : u_T := fun k => match k with
  | 0 => ("PartitionDesk$Port", "values", "LPartitionDesk$ValueQueue;", true)
  | 1 => ("PartitionDesk$Port", "from", "I", false)
  | 2 => ("PartitionDesk$Port", "to", "I", false)
  | 3 => ("PartitionDesk$Port", "depth", "I", false)
  | _ => ("PartitionDesk$Port", "writtenAt", "I", false)
def Rn3 : String := "PartitionDesk$Frame"
def Tn3 : u_T := fun k => match k with
  | 0 => ("PartitionDesk$Frame", "owners", "[I", true)
  | 1 => ("PartitionDesk$Frame", "lengths", "[I", true)
  | 2 => ("PartitionDesk$Frame", "windows", "I", false)
  | 3 => ("PartitionDesk$Frame", "atHand", "I", false)
  | 4 => ("PartitionDesk$Frame", "over", "I", false)
  | 5 => ("PartitionDesk$Frame", "passed", "I", false)
  | _ => ("PartitionDesk$Frame", "waited", "Z", false)
def Rn4 : String := "PartitionDesk$ValueQueue"
def Tn4 : u_T := fun k => match k with
  | 0 => ("PartitionDesk$ValueQueue", "values", "[I", true)
  | 1 => ("PartitionDesk$ValueQueue", "first", "I", false)
  | _ => ("PartitionDesk$ValueQueue", "count", "I", false)
def Rn5 : String := "PartitionDeskModel"
def Tn5 : u_T := fun k => match k with
  | 0 => ("PartitionDeskModel", "from", "[I", true)
  | 1 => ("PartitionDeskModel", "size", "[I", true)
  | 2 => ("PartitionDeskModel", "whose", "[I", true)
  | 3 => ("PartitionDeskModel", "ticks", "[I", true)
  | 4 => ("PartitionDeskModel", "sender", "[I", true)
  | 5 => ("PartitionDeskModel", "taker", "[I", true)
  | 6 => ("PartitionDeskModel", "depth", "[I", true)
  | 7 => ("PartitionDeskModel", "held", "[I", true)
  | 8 => ("PartitionDeskModel", "written", "[I", true)
  | 9 => ("PartitionDeskModel", "value", "[I", true)
  | 10 => ("PartitionDeskModel", "action", "[I", true)
  | 11 => ("PartitionDeskModel", "op", "[I", true)
  | 12 => ("PartitionDeskModel", "first", "[I", true)
  | 13 => ("PartitionDeskModel", "second", "[I", true)
  | 14 => ("PartitionDeskModel", "memory", "[I", true)
  | 15 => ("PartitionDeskModel", "register", "[I", true)
  | 16 => ("PartitionDeskModel", "place", "[I", true)
  | 17 => ("PartitionDeskModel", "faults", "[I", true)
  | 18 => ("PartitionDeskModel", "runs", "[Z", true)
  | 19 => ("PartitionDeskModel", "waits", "[Z", true)
  | 20 => ("PartitionDeskModel", "inputs", "[I", true)
  | 21 => ("PartitionDeskModel", "input", "[I", true)
  | 22 => ("PartitionDeskModel", "outputs", "[I", true)
  | 23 => ("PartitionDeskModel", "output", "[I", true)
  | 24 => ("PartitionDeskModel", "windows", "I", false)
  | 25 => ("PartitionDeskModel", "ports", "I", false)
  | 26 => ("PartitionDeskModel", "started", "Z", false)
  | 27 => ("PartitionDeskModel", "window", "I", false)
  | 28 => ("PartitionDeskModel", "over", "I", false)
  | 29 => ("PartitionDeskModel", "time", "I", false)
  | _ => ("PartitionDeskModel", "done", "I", false)
def R_2 : String := "PartitionDesk$Partition"
def R_3 : String := "PartitionDesk$Port"
abbrev classes : List vw_C := [(Rn0, Tn0, 6), (Rn1, Tn1, 13), (Rn2, Tn2, 5), (Rn3, Tn3, 7), (Rn4, Tn4, 3), (Rn5, Tn5, 31)]
/-- how many references, how many fields -/
def nR : Nat → Nat := fun c => match c with
  | 0 => 4
  | 1 => 7
  | 2 => 1
  | 3 => 2
  | 4 => 1
  | _ => 24
def nF : Nat → Nat := fun c => match c with
  | 0 => 6
  | 1 => 13
  | 2 => 5
  | 3 => 7
  | 4 => 3
  | _ => 31
def fT : Nat → Nat → FieldType := fun c => match c with
  | 0 => fun k => match k with
    | 0 => .array .int
    | 1 => .array (.object "PartitionDesk$Partition")
    | 2 => .array (.object "PartitionDesk$Port")
    | 3 => .object "PartitionDesk$Frame"
    | 4 => .int
    | _ => .boolean
  | 1 => fun k => match k with
    | 0 => .array .int
    | 1 => .array .int
    | 2 => .array .int
    | 3 => .array .int
    | 4 => .array .int
    | 5 => .object "PartitionDesk$ValueQueue"
    | 6 => .array .int
    | 7 => .int
    | 8 => .int
    | 9 => .int
    | 10 => .boolean
    | 11 => .int
    | _ => .int
  | 2 => fun k => match k with
    | 0 => .object "PartitionDesk$ValueQueue"
    | 1 => .int
    | 2 => .int
    | 3 => .int
    | _ => .int
  | 3 => fun k => match k with
    | 0 => .array .int
    | 1 => .array .int
    | 2 => .int
    | 3 => .int
    | 4 => .int
    | 5 => .int
    | _ => .boolean
  | 4 => fun k => match k with
    | 0 => .array .int
    | 1 => .int
    | _ => .int
  | _ => fun k => match k with
    | 0 => .array .int
    | 1 => .array .int
    | 2 => .array .int
    | 3 => .array .int
    | 4 => .array .int
    | 5 => .array .int
    | 6 => .array .int
    | 7 => .array .int
    | 8 => .array .int
    | 9 => .array .int
    | 10 => .array .int
    | 11 => .array .int
    | 12 => .array .int
    | 13 => .array .int
    | 14 => .array .int
    | 15 => .array .int
    | 16 => .array .int
    | 17 => .array .int
    | 18 => .array .boolean
    | 19 => .array .boolean
    | 20 => .array .int
    | 21 => .array .int
    | 22 => .array .int
    | 23 => .array .int
    | 24 => .int
    | 25 => .int
    | 26 => .boolean
    | 27 => .int
    | 28 => .int
    | 29 => .int
    | _ => .int
def AllW : List Cond := lw_tbl.filter goodWord
theorem AllW_good (x : Cond) (h : x ∈ AllW) : (x.onTables && x.keeps) = true ∨ ∃ ty, x = .arrayClass ty := good_of_word (List.mem_filter.mp h).2
theorem AllW_tbl (x : Cond) (h : x ∈ AllW) : x ∈ lw_tbl := (List.mem_filter.mp h).1
theorem aw {x : Cond} (i : Nat) (h : lw_tbl[i]? = some x) (g : goodWord x = true) : x ∈ AllW := List.mem_filter.mpr ⟨List.mem_of_getElem? h, g⟩
def NestW : List Cond := [.methodLinkNest "PartitionDesk$Partition" 63 ⟨"PartitionDesk", "registerNamed", "(I)I"⟩ "PartitionDesk"]
theorem NestW_tab (x : Cond) (h : x ∈ NestW) : x.onTables = true := by
  rw [List.mem_singleton.mp h]
  rfl
theorem NestW_warm {s U : State} (hW : s.WarmedH U.vm) (h : ∀ x ∈ NestW, va_Nw x s) : ∀ x ∈ NestW, va_Nw x U := by
  intro x hx
  have h1 := h x hx
  rw [List.mem_singleton.mp hx] at h1 ⊢
  exact va_Nw.warmM hW h1
theorem q_0 : (.laysFinal "PartitionDesk" "PartitionDesk" "memory" "[I" : Cond) ∈ AllW := aw 180 (by decide +kernel) rfl
theorem q_1 : (.laysFinal "PartitionDesk" "PartitionDesk" "partitions" "[LPartitionDesk$Partition;" : Cond) ∈ AllW := aw 182 (by decide +kernel) rfl
theorem q_2 : (.laysFinal "PartitionDesk" "PartitionDesk" "ports" "[LPartitionDesk$Port;" : Cond) ∈ AllW := aw 184 (by decide +kernel) rfl
theorem q_3 : (.laysFinal "PartitionDesk" "PartitionDesk" "frame" "LPartitionDesk$Frame;" : Cond) ∈ AllW := aw 186 (by decide +kernel) rfl
theorem q_4 : (.lays "PartitionDesk" "PartitionDesk" "portCount" "I" : Cond) ∈ AllW := aw 188 (by decide +kernel) rfl
theorem q_5 : (.lays "PartitionDesk" "PartitionDesk" "started" "Z" : Cond) ∈ AllW := aw 190 (by decide +kernel) rfl
theorem lay0_w : ∀ w ∈ u_ws Rn0 Tn0 6, w ∈ AllW := by
  show ∀ w ∈ [u_lay Rn0 Tn0 0, u_lay Rn0 Tn0 1, u_lay Rn0 Tn0 2, u_lay Rn0 Tn0 3, u_lay Rn0 Tn0 4, u_lay Rn0 Tn0 5], w ∈ AllW
  exact List.forall_mem_cons.mpr ⟨q_0, List.forall_mem_cons.mpr ⟨q_1, List.forall_mem_cons.mpr ⟨q_2, List.forall_mem_cons.mpr ⟨q_3, List.forall_mem_cons.mpr ⟨q_4, List.forall_mem_cons.mpr ⟨q_5, fun _ h => absurd h List.not_mem_nil⟩⟩⟩⟩⟩⟩
theorem q_6 : (.laysFinal "PartitionDesk$Partition" "PartitionDesk$Partition" "ops" "[I" : Cond) ∈ AllW := aw 94 (by decide +kernel) rfl
theorem q_7 : (.laysFinal "PartitionDesk$Partition" "PartitionDesk$Partition" "firsts" "[I" : Cond) ∈ AllW := aw 96 (by decide +kernel) rfl
theorem q_8 : (.laysFinal "PartitionDesk$Partition" "PartitionDesk$Partition" "seconds" "[I" : Cond) ∈ AllW := aw 98 (by decide +kernel) rfl
theorem q_9 : (.laysFinal "PartitionDesk$Partition" "PartitionDesk$Partition" "actions" "[I" : Cond) ∈ AllW := aw 100 (by decide +kernel) rfl
theorem q_10 : (.laysFinal "PartitionDesk$Partition" "PartitionDesk$Partition" "registers" "[I" : Cond) ∈ AllW := aw 102 (by decide +kernel) rfl
theorem q_11 : (.laysFinal "PartitionDesk$Partition" "PartitionDesk$Partition" "inputs" "LPartitionDesk$ValueQueue;" : Cond) ∈ AllW := aw 110 (by decide +kernel) rfl
theorem q_12 : (.laysFinal "PartitionDesk$Partition" "PartitionDesk$Partition" "outputs" "[I" : Cond) ∈ AllW := aw 112 (by decide +kernel) rfl
theorem q_13 : (.lays "PartitionDesk$Partition" "PartitionDesk$Partition" "from" "I" : Cond) ∈ AllW := aw 90 (by decide +kernel) rfl
theorem q_14 : (.lays "PartitionDesk$Partition" "PartitionDesk$Partition" "size" "I" : Cond) ∈ AllW := aw 92 (by decide +kernel) rfl
theorem q_15 : (.lays "PartitionDesk$Partition" "PartitionDesk$Partition" "place" "I" : Cond) ∈ AllW := aw 104 (by decide +kernel) rfl
theorem q_16 : (.lays "PartitionDesk$Partition" "PartitionDesk$Partition" "running" "Z" : Cond) ∈ AllW := aw 106 (by decide +kernel) rfl
theorem q_17 : (.lays "PartitionDesk$Partition" "PartitionDesk$Partition" "faults" "I" : Cond) ∈ AllW := aw 108 (by decide +kernel) rfl
theorem q_18 : (.lays "PartitionDesk$Partition" "PartitionDesk$Partition" "outputCount" "I" : Cond) ∈ AllW := aw 114 (by decide +kernel) rfl
theorem lay1_w : ∀ w ∈ u_ws Rn1 Tn1 13, w ∈ AllW := by
  show ∀ w ∈ [u_lay Rn1 Tn1 0, u_lay Rn1 Tn1 1, u_lay Rn1 Tn1 2, u_lay Rn1 Tn1 3, u_lay Rn1 Tn1 4, u_lay Rn1 Tn1 5, u_lay Rn1 Tn1 6, u_lay Rn1 Tn1 7, u_lay Rn1 Tn1 8, u_lay Rn1 Tn1 9, u_lay Rn1 Tn1 10, u_lay Rn1 Tn1 11, u_lay Rn1 Tn1 12], w ∈ AllW
  exact List.forall_mem_cons.mpr ⟨q_6, List.forall_mem_cons.mpr ⟨q_7, List.forall_mem_cons.mpr ⟨q_8, List.forall_mem_cons.mpr ⟨q_9, List.forall_mem_cons.mpr ⟨q_10, List.forall_mem_cons.mpr ⟨q_11, List.forall_mem_cons.mpr ⟨q_12, List.forall_mem_cons.mpr ⟨q_13, List.forall_mem_cons.mpr ⟨q_14, List.forall_mem_cons.mpr ⟨q_15, List.forall_mem_cons.mpr ⟨q_16, List.forall_mem_cons.mpr ⟨q_17, List.forall_mem_cons.mpr ⟨q_18, fun _ h => absurd h List.not_mem_nil⟩⟩⟩⟩⟩⟩⟩⟩⟩⟩⟩⟩⟩
theorem q_19 : (.laysFinal "PartitionDesk$Port" "PartitionDesk$Port" "values" "LPartitionDesk$ValueQueue;" : Cond) ∈ AllW := aw 139 (by decide +kernel) rfl
theorem q_20 : (.lays "PartitionDesk$Port" "PartitionDesk$Port" "from" "I" : Cond) ∈ AllW := aw 133 (by decide +kernel) rfl
theorem q_21 : (.lays "PartitionDesk$Port" "PartitionDesk$Port" "to" "I" : Cond) ∈ AllW := aw 135 (by decide +kernel) rfl
theorem q_22 : (.lays "PartitionDesk$Port" "PartitionDesk$Port" "depth" "I" : Cond) ∈ AllW := aw 137 (by decide +kernel) rfl
theorem q_23 : (.lays "PartitionDesk$Port" "PartitionDesk$Port" "writtenAt" "I" : Cond) ∈ AllW := aw 141 (by decide +kernel) rfl
theorem lay2_w : ∀ w ∈ u_ws Rn2 Tn2 5, w ∈ AllW := by
  show ∀ w ∈ [u_lay Rn2 Tn2 0, u_lay Rn2 Tn2 1, u_lay Rn2 Tn2 2, u_lay Rn2 Tn2 3, u_lay Rn2 Tn2 4], w ∈ AllW
  exact List.forall_mem_cons.mpr ⟨q_19, List.forall_mem_cons.mpr ⟨q_20, List.forall_mem_cons.mpr ⟨q_21, List.forall_mem_cons.mpr ⟨q_22, List.forall_mem_cons.mpr ⟨q_23, fun _ h => absurd h List.not_mem_nil⟩⟩⟩⟩⟩
theorem q_24 : (.laysFinal "PartitionDesk$Frame" "PartitionDesk$Frame" "owners" "[I" : Cond) ∈ AllW := aw 159 (by decide +kernel) rfl
theorem q_25 : (.laysFinal "PartitionDesk$Frame" "PartitionDesk$Frame" "lengths" "[I" : Cond) ∈ AllW := aw 161 (by decide +kernel) rfl
theorem q_26 : (.lays "PartitionDesk$Frame" "PartitionDesk$Frame" "windows" "I" : Cond) ∈ AllW := aw 163 (by decide +kernel) rfl
theorem q_27 : (.lays "PartitionDesk$Frame" "PartitionDesk$Frame" "atHand" "I" : Cond) ∈ AllW := aw 165 (by decide +kernel) rfl
theorem q_28 : (.lays "PartitionDesk$Frame" "PartitionDesk$Frame" "over" "I" : Cond) ∈ AllW := aw 167 (by decide +kernel) rfl
theorem q_29 : (.lays "PartitionDesk$Frame" "PartitionDesk$Frame" "passed" "I" : Cond) ∈ AllW := aw 169 (by decide +kernel) rfl
theorem q_30 : (.lays "PartitionDesk$Frame" "PartitionDesk$Frame" "waited" "Z" : Cond) ∈ AllW := aw 171 (by decide +kernel) rfl
theorem lay3_w : ∀ w ∈ u_ws Rn3 Tn3 7, w ∈ AllW := by
  show ∀ w ∈ [u_lay Rn3 Tn3 0, u_lay Rn3 Tn3 1, u_lay Rn3 Tn3 2, u_lay Rn3 Tn3 3, u_lay Rn3 Tn3 4, u_lay Rn3 Tn3 5, u_lay Rn3 Tn3 6], w ∈ AllW
  exact List.forall_mem_cons.mpr ⟨q_24, List.forall_mem_cons.mpr ⟨q_25, List.forall_mem_cons.mpr ⟨q_26, List.forall_mem_cons.mpr ⟨q_27, List.forall_mem_cons.mpr ⟨q_28, List.forall_mem_cons.mpr ⟨q_29, List.forall_mem_cons.mpr ⟨q_30, fun _ h => absurd h List.not_mem_nil⟩⟩⟩⟩⟩⟩⟩
theorem q_31 : (.laysFinal "PartitionDesk$ValueQueue" "PartitionDesk$ValueQueue" "values" "[I" : Cond) ∈ AllW := aw 58 (by decide +kernel) rfl
theorem q_32 : (.lays "PartitionDesk$ValueQueue" "PartitionDesk$ValueQueue" "first" "I" : Cond) ∈ AllW := aw 60 (by decide +kernel) rfl
theorem q_33 : (.lays "PartitionDesk$ValueQueue" "PartitionDesk$ValueQueue" "count" "I" : Cond) ∈ AllW := aw 62 (by decide +kernel) rfl
theorem lay4_w : ∀ w ∈ u_ws Rn4 Tn4 3, w ∈ AllW := by
  show ∀ w ∈ [u_lay Rn4 Tn4 0, u_lay Rn4 Tn4 1, u_lay Rn4 Tn4 2], w ∈ AllW
  exact List.forall_mem_cons.mpr ⟨q_31, List.forall_mem_cons.mpr ⟨q_32, List.forall_mem_cons.mpr ⟨q_33, fun _ h => absurd h List.not_mem_nil⟩⟩⟩
theorem q_34 : (.laysFinal "PartitionDeskModel" "PartitionDeskModel" "from" "[I" : Cond) ∈ AllW := aw 455 (by decide +kernel) rfl
theorem q_35 : (.laysFinal "PartitionDeskModel" "PartitionDeskModel" "size" "[I" : Cond) ∈ AllW := aw 457 (by decide +kernel) rfl
theorem q_36 : (.laysFinal "PartitionDeskModel" "PartitionDeskModel" "whose" "[I" : Cond) ∈ AllW := aw 463 (by decide +kernel) rfl
theorem q_37 : (.laysFinal "PartitionDeskModel" "PartitionDeskModel" "ticks" "[I" : Cond) ∈ AllW := aw 465 (by decide +kernel) rfl
theorem q_38 : (.laysFinal "PartitionDeskModel" "PartitionDeskModel" "sender" "[I" : Cond) ∈ AllW := aw 467 (by decide +kernel) rfl
theorem q_39 : (.laysFinal "PartitionDeskModel" "PartitionDeskModel" "taker" "[I" : Cond) ∈ AllW := aw 469 (by decide +kernel) rfl
theorem q_40 : (.laysFinal "PartitionDeskModel" "PartitionDeskModel" "depth" "[I" : Cond) ∈ AllW := aw 471 (by decide +kernel) rfl
theorem q_41 : (.laysFinal "PartitionDeskModel" "PartitionDeskModel" "held" "[I" : Cond) ∈ AllW := aw 473 (by decide +kernel) rfl
theorem q_42 : (.laysFinal "PartitionDeskModel" "PartitionDeskModel" "written" "[I" : Cond) ∈ AllW := aw 475 (by decide +kernel) rfl
theorem q_43 : (.laysFinal "PartitionDeskModel" "PartitionDeskModel" "value" "[I" : Cond) ∈ AllW := aw 477 (by decide +kernel) rfl
theorem q_44 : (.laysFinal "PartitionDeskModel" "PartitionDeskModel" "action" "[I" : Cond) ∈ AllW := aw 479 (by decide +kernel) rfl
theorem q_45 : (.laysFinal "PartitionDeskModel" "PartitionDeskModel" "op" "[I" : Cond) ∈ AllW := aw 481 (by decide +kernel) rfl
theorem q_46 : (.laysFinal "PartitionDeskModel" "PartitionDeskModel" "first" "[I" : Cond) ∈ AllW := aw 483 (by decide +kernel) rfl
theorem q_47 : (.laysFinal "PartitionDeskModel" "PartitionDeskModel" "second" "[I" : Cond) ∈ AllW := aw 485 (by decide +kernel) rfl
theorem q_48 : (.laysFinal "PartitionDeskModel" "PartitionDeskModel" "memory" "[I" : Cond) ∈ AllW := aw 497 (by decide +kernel) rfl
theorem q_49 : (.laysFinal "PartitionDeskModel" "PartitionDeskModel" "register" "[I" : Cond) ∈ AllW := aw 499 (by decide +kernel) rfl
theorem q_50 : (.laysFinal "PartitionDeskModel" "PartitionDeskModel" "place" "[I" : Cond) ∈ AllW := aw 501 (by decide +kernel) rfl
theorem q_51 : (.laysFinal "PartitionDeskModel" "PartitionDeskModel" "faults" "[I" : Cond) ∈ AllW := aw 503 (by decide +kernel) rfl
theorem q_52 : (.laysFinal "PartitionDeskModel" "PartitionDeskModel" "runs" "[Z" : Cond) ∈ AllW := aw 505 (by decide +kernel) rfl
theorem q_53 : (.laysFinal "PartitionDeskModel" "PartitionDeskModel" "waits" "[Z" : Cond) ∈ AllW := aw 507 (by decide +kernel) rfl
theorem q_54 : (.laysFinal "PartitionDeskModel" "PartitionDeskModel" "inputs" "[I" : Cond) ∈ AllW := aw 509 (by decide +kernel) rfl
theorem q_55 : (.laysFinal "PartitionDeskModel" "PartitionDeskModel" "input" "[I" : Cond) ∈ AllW := aw 511 (by decide +kernel) rfl
theorem q_56 : (.laysFinal "PartitionDeskModel" "PartitionDeskModel" "outputs" "[I" : Cond) ∈ AllW := aw 513 (by decide +kernel) rfl
theorem q_57 : (.laysFinal "PartitionDeskModel" "PartitionDeskModel" "output" "[I" : Cond) ∈ AllW := aw 515 (by decide +kernel) rfl
theorem q_58 : (.lays "PartitionDeskModel" "PartitionDeskModel" "windows" "I" : Cond) ∈ AllW := aw 459 (by decide +kernel) rfl
theorem q_59 : (.lays "PartitionDeskModel" "PartitionDeskModel" "ports" "I" : Cond) ∈ AllW := aw 461 (by decide +kernel) rfl
theorem q_60 : (.lays "PartitionDeskModel" "PartitionDeskModel" "started" "Z" : Cond) ∈ AllW := aw 487 (by decide +kernel) rfl
theorem q_61 : (.lays "PartitionDeskModel" "PartitionDeskModel" "window" "I" : Cond) ∈ AllW := aw 489 (by decide +kernel) rfl
theorem q_62 : (.lays "PartitionDeskModel" "PartitionDeskModel" "over" "I" : Cond) ∈ AllW := aw 491 (by decide +kernel) rfl
theorem q_63 : (.lays "PartitionDeskModel" "PartitionDeskModel" "time" "I" : Cond) ∈ AllW := aw 493 (by decide +kernel) rfl
theorem q_64 : (.lays "PartitionDeskModel" "PartitionDeskModel" "done" "I" : Cond) ∈ AllW := aw 495 (by decide +kernel) rfl
theorem lay5_w : ∀ w ∈ u_ws Rn5 Tn5 31, w ∈ AllW := by
  show ∀ w ∈ [u_lay Rn5 Tn5 0, u_lay Rn5 Tn5 1, u_lay Rn5 Tn5 2, u_lay Rn5 Tn5 3, u_lay Rn5 Tn5 4, u_lay Rn5 Tn5 5, u_lay Rn5 Tn5 6, u_lay Rn5 Tn5 7, u_lay Rn5 Tn5 8, u_lay Rn5 Tn5 9, u_lay Rn5 Tn5 10, u_lay Rn5 Tn5 11, u_lay Rn5 Tn5 12, u_lay Rn5 Tn5 13, u_lay Rn5 Tn5 14, u_lay Rn5 Tn5 15, u_lay Rn5 Tn5 16, u_lay Rn5 Tn5 17, u_lay Rn5 Tn5 18, u_lay Rn5 Tn5 19, u_lay Rn5 Tn5 20, u_lay Rn5 Tn5 21, u_lay Rn5 Tn5 22, u_lay Rn5 Tn5 23, u_lay Rn5 Tn5 24, u_lay Rn5 Tn5 25, u_lay Rn5 Tn5 26, u_lay Rn5 Tn5 27, u_lay Rn5 Tn5 28, u_lay Rn5 Tn5 29, u_lay Rn5 Tn5 30], w ∈ AllW
  exact List.forall_mem_cons.mpr ⟨q_34, List.forall_mem_cons.mpr ⟨q_35, List.forall_mem_cons.mpr ⟨q_36, List.forall_mem_cons.mpr ⟨q_37, List.forall_mem_cons.mpr ⟨q_38, List.forall_mem_cons.mpr ⟨q_39, List.forall_mem_cons.mpr ⟨q_40, List.forall_mem_cons.mpr ⟨q_41, List.forall_mem_cons.mpr ⟨q_42, List.forall_mem_cons.mpr ⟨q_43, List.forall_mem_cons.mpr ⟨q_44, List.forall_mem_cons.mpr ⟨q_45, List.forall_mem_cons.mpr ⟨q_46, List.forall_mem_cons.mpr ⟨q_47, List.forall_mem_cons.mpr ⟨q_48, List.forall_mem_cons.mpr ⟨q_49, List.forall_mem_cons.mpr ⟨q_50, List.forall_mem_cons.mpr ⟨q_51, List.forall_mem_cons.mpr ⟨q_52, List.forall_mem_cons.mpr ⟨q_53, List.forall_mem_cons.mpr ⟨q_54, List.forall_mem_cons.mpr ⟨q_55, List.forall_mem_cons.mpr ⟨q_56, List.forall_mem_cons.mpr ⟨q_57, List.forall_mem_cons.mpr ⟨q_58, List.forall_mem_cons.mpr ⟨q_59, List.forall_mem_cons.mpr ⟨q_60, List.forall_mem_cons.mpr ⟨q_61, List.forall_mem_cons.mpr ⟨q_62, List.forall_mem_cons.mpr ⟨q_63, List.forall_mem_cons.mpr ⟨q_64, fun _ h => absurd h List.not_mem_nil⟩⟩⟩⟩⟩⟩⟩⟩⟩⟩⟩⟩⟩⟩⟩⟩⟩⟩⟩⟩⟩⟩⟩⟩⟩⟩⟩⟩⟩⟩⟩
/-! methods: name, code, locals, answer -/
def u_D_init : MethodName × ByteArray × Nat × Option FieldType := (⟨"PartitionDesk", "<init>", "()V"⟩, prog_1_method_1_code, 2, none)
def u_D_region : MethodName × ByteArray × Nat × Option FieldType := (⟨"PartitionDesk", "region", "(III)Z"⟩, prog_1_method_2_code, 4, (some .boolean))
def u_D_window : MethodName × ByteArray × Nat × Option FieldType := (⟨"PartitionDesk", "window", "(II)Z"⟩, prog_1_method_3_code, 3, (some .boolean))
def u_D_port : MethodName × ByteArray × Nat × Option FieldType := (⟨"PartitionDesk", "port", "(III)I"⟩, prog_1_method_4_code, 5, (some .int))
def u_D_action : MethodName × ByteArray × Nat × Option FieldType := (⟨"PartitionDesk", "action", "(III)Z"⟩, prog_1_method_5_code, 4, (some .boolean))
def u_D_code : MethodName × ByteArray × Nat × Option FieldType := (⟨"PartitionDesk", "code", "(IIIII)Z"⟩, prog_1_method_6_code, 6, (some .boolean))
def u_D_start : MethodName × ByteArray × Nat × Option FieldType := (⟨"PartitionDesk", "start", "()I"⟩, prog_1_method_7_code, 2, (some .int))
def u_D_input : MethodName × ByteArray × Nat × Option FieldType := (⟨"PartitionDesk", "input", "(II)I"⟩, prog_1_method_8_code, 4, (some .int))
def u_D_run : MethodName × ByteArray × Nat × Option FieldType := (⟨"PartitionDesk", "run", "(I)I"⟩, prog_1_method_9_code, 4, (some .int))
def u_D_output : MethodName × ByteArray × Nat × Option FieldType := (⟨"PartitionDesk", "output", "(II)I"⟩, prog_1_method_10_code, 3, (some .int))
def u_D_about : MethodName × ByteArray × Nat × Option FieldType := (⟨"PartitionDesk", "about", "(II)I"⟩, prog_1_method_11_code, 3, (some .int))
def u_D_word : MethodName × ByteArray × Nat × Option FieldType := (⟨"PartitionDesk", "word", "(I)I"⟩, prog_1_method_12_code, 2, (some .int))
def u_D_waiting : MethodName × ByteArray × Nat × Option FieldType := (⟨"PartitionDesk", "waiting", "(I)I"⟩, prog_1_method_13_code, 2, (some .int))
def u_D_clock : MethodName × ByteArray × Nat × Option FieldType := (⟨"PartitionDesk", "clock", "(I)I"⟩, prog_1_method_14_code, 2, (some .int))
def u_D_isPartition : MethodName × ByteArray × Nat × Option FieldType := (⟨"PartitionDesk", "isPartition", "(I)Z"⟩, prog_1_method_15_code, 1, (some .boolean))
def u_D_isPort : MethodName × ByteArray × Nat × Option FieldType := (⟨"PartitionDesk", "isPort", "(I)Z"⟩, prog_1_method_16_code, 2, (some .boolean))
def u_D_checkTable : MethodName × ByteArray × Nat × Option FieldType := (⟨"PartitionDesk", "checkTable", "()I"⟩, prog_1_method_17_code, 1, (some .int))
def u_D_somebodyTakesPart : MethodName × ByteArray × Nat × Option FieldType := (⟨"PartitionDesk", "somebodyTakesPart", "()Z"⟩, prog_1_method_18_code, 2, (some .boolean))
def u_D_someRegionsOverlap : MethodName × ByteArray × Nat × Option FieldType := (⟨"PartitionDesk", "someRegionsOverlap", "()Z"⟩, prog_1_method_19_code, 3, (some .boolean))
def u_D_windowsFit : MethodName × ByteArray × Nat × Option FieldType := (⟨"PartitionDesk", "windowsFit", "()Z"⟩, prog_1_method_20_code, 2, (some .boolean))
def u_D_portsFit : MethodName × ByteArray × Nat × Option FieldType := (⟨"PartitionDesk", "portsFit", "()Z"⟩, prog_1_method_21_code, 2, (some .boolean))
def u_D_beginAnew : MethodName × ByteArray × Nat × Option FieldType := (⟨"PartitionDesk", "beginAnew", "()V"⟩, prog_1_method_22_code, 2, none)
def u_D_passTick : MethodName × ByteArray × Nat × Option FieldType := (⟨"PartitionDesk", "passTick", "()Z"⟩, prog_1_method_23_code, 3, (some .boolean))
def u_D_doInstruction : MethodName × ByteArray × Nat × Option FieldType := (⟨"PartitionDesk", "doInstruction", "(I)V"⟩, prog_1_method_24_code, 5, none)
def u_D_faultAhead : MethodName × ByteArray × Nat × Option FieldType := (⟨"PartitionDesk", "faultAhead", "(IIII)I"⟩, prog_1_method_25_code, 5, (some .int))
def u_D_carryOut : MethodName × ByteArray × Nat × Option FieldType := (⟨"PartitionDesk", "carryOut", "(LPartitionDesk$Partition;III)V"⟩, prog_1_method_26_code, 5, none)
def u_D_compute : MethodName × ByteArray × Nat × Option FieldType := (⟨"PartitionDesk", "compute", "(LPartitionDesk$Partition;III)V"⟩, prog_1_method_27_code, 8, none)
def u_D_jump : MethodName × ByteArray × Nat × Option FieldType := (⟨"PartitionDesk", "jump", "(LPartitionDesk$Partition;III)V"⟩, prog_1_method_28_code, 4, none)
def u_D_communicate : MethodName × ByteArray × Nat × Option FieldType := (⟨"PartitionDesk", "communicate", "(LPartitionDesk$Partition;III)V"⟩, prog_1_method_29_code, 7, none)
def u_D_registerNamed : MethodName × ByteArray × Nat × Option FieldType := (⟨"PartitionDesk", "registerNamed", "(I)I"⟩, prog_1_method_30_code, 1, (some .int))
def u_D_answerFault : MethodName × ByteArray × Nat × Option FieldType := (⟨"PartitionDesk", "answerFault", "(II)V"⟩, prog_1_method_31_code, 4, none)
def u_D_restart : MethodName × ByteArray × Nat × Option FieldType := (⟨"PartitionDesk", "restart", "(I)V"⟩, prog_1_method_32_code, 4, none)
def u_P_init : MethodName × ByteArray × Nat × Option FieldType := (⟨"PartitionDesk$Partition", "<init>", "()V"⟩, prog_3_method_1_code, 1, none)
def u_P_takesPart : MethodName × ByteArray × Nat × Option FieldType := (⟨"PartitionDesk$Partition", "takesPart", "()Z"⟩, prog_3_method_2_code, 1, (some .boolean))
def u_P_overlaps : MethodName × ByteArray × Nat × Option FieldType := (⟨"PartitionDesk$Partition", "overlaps", "(LPartitionDesk$Partition;)Z"⟩, prog_3_method_3_code, 2, (some .boolean))
def u_P_beginAnew : MethodName × ByteArray × Nat × Option FieldType := (⟨"PartitionDesk$Partition", "beginAnew", "()V"⟩, prog_3_method_4_code, 1, none)
def u_P_clearRegistersAndPlace : MethodName × ByteArray × Nat × Option FieldType := (⟨"PartitionDesk$Partition", "clearRegistersAndPlace", "()V"⟩, prog_3_method_5_code, 2, none)
def u_P_hasWord : MethodName × ByteArray × Nat × Option FieldType := (⟨"PartitionDesk$Partition", "hasWord", "(I)Z"⟩, prog_3_method_6_code, 3, (some .boolean))
def u_P_takeInput : MethodName × ByteArray × Nat × Option FieldType := (⟨"PartitionDesk$Partition", "takeInput", "(I)V"⟩, prog_3_method_7_code, 3, none)
def u_P_putOut : MethodName × ByteArray × Nat × Option FieldType := (⟨"PartitionDesk$Partition", "putOut", "(I)V"⟩, prog_3_method_8_code, 2, none)
def u_P_outputAt : MethodName × ByteArray × Nat × Option FieldType := (⟨"PartitionDesk$Partition", "outputAt", "(I)I"⟩, prog_3_method_9_code, 2, (some .int))
def u_P_tell : MethodName × ByteArray × Nat × Option FieldType := (⟨"PartitionDesk$Partition", "tell", "(I)I"⟩, prog_3_method_10_code, 2, (some .int))
def u_Q_init : MethodName × ByteArray × Nat × Option FieldType := (⟨"PartitionDesk$Port", "<init>", "()V"⟩, prog_4_method_1_code, 1, none)
def u_Q_isSampling : MethodName × ByteArray × Nat × Option FieldType := (⟨"PartitionDesk$Port", "isSampling", "()Z"⟩, prog_4_method_2_code, 1, (some .boolean))
def u_Q_send : MethodName × ByteArray × Nat × Option FieldType := (⟨"PartitionDesk$Port", "send", "([III)V"⟩, prog_4_method_3_code, 4, none)
def u_Q_receive : MethodName × ByteArray × Nat × Option FieldType := (⟨"PartitionDesk$Port", "receive", "([III)V"⟩, prog_4_method_4_code, 4, none)
def u_F_init : MethodName × ByteArray × Nat × Option FieldType := (⟨"PartitionDesk$Frame", "<init>", "()V"⟩, prog_2_method_1_code, 1, none)
def u_F_isFull : MethodName × ByteArray × Nat × Option FieldType := (⟨"PartitionDesk$Frame", "isFull", "()Z"⟩, prog_2_method_2_code, 1, (some .boolean))
def u_F_append : MethodName × ByteArray × Nat × Option FieldType := (⟨"PartitionDesk$Frame", "append", "(II)V"⟩, prog_2_method_3_code, 3, none)
def u_F_hasWindowOf : MethodName × ByteArray × Nat × Option FieldType := (⟨"PartitionDesk$Frame", "hasWindowOf", "(I)Z"⟩, prog_2_method_4_code, 3, (some .boolean))
def u_F_beginAnew : MethodName × ByteArray × Nat × Option FieldType := (⟨"PartitionDesk$Frame", "beginAnew", "()V"⟩, prog_2_method_5_code, 1, none)
def u_F_partitionAtHand : MethodName × ByteArray × Nat × Option FieldType := (⟨"PartitionDesk$Frame", "partitionAtHand", "()I"⟩, prog_2_method_6_code, 1, (some .int))
def u_F_endTick : MethodName × ByteArray × Nat × Option FieldType := (⟨"PartitionDesk$Frame", "endTick", "()V"⟩, prog_2_method_7_code, 1, none)
def u_F_tell : MethodName × ByteArray × Nat × Option FieldType := (⟨"PartitionDesk$Frame", "tell", "(I)I"⟩, prog_2_method_8_code, 2, (some .int))
def u_V_init : MethodName × ByteArray × Nat × Option FieldType := (⟨"PartitionDesk$ValueQueue", "<init>", "(I)V"⟩, prog_5_method_1_code, 2, none)
def u_V_put : MethodName × ByteArray × Nat × Option FieldType := (⟨"PartitionDesk$ValueQueue", "put", "(II)Z"⟩, prog_5_method_2_code, 4, (some .boolean))
def u_V_peek : MethodName × ByteArray × Nat × Option FieldType := (⟨"PartitionDesk$ValueQueue", "peek", "()I"⟩, prog_5_method_3_code, 1, (some .int))
def u_V_take : MethodName × ByteArray × Nat × Option FieldType := (⟨"PartitionDesk$ValueQueue", "take", "()I"⟩, prog_5_method_4_code, 2, (some .int))
def u_V_clear : MethodName × ByteArray × Nat × Option FieldType := (⟨"PartitionDesk$ValueQueue", "clear", "()V"⟩, prog_5_method_5_code, 1, none)
def u_M_init : MethodName × ByteArray × Nat × Option FieldType := (⟨"PartitionDeskModel", "<init>", "()V"⟩, prog_7_method_1_code, 1, none)
def u_M_in : MethodName × ByteArray × Nat × Option FieldType := (⟨"PartitionDeskModel", "in", "(III)Z"⟩, prog_7_method_2_code, 3, (some .boolean))
def u_M_isOne : MethodName × ByteArray × Nat × Option FieldType := (⟨"PartitionDeskModel", "isOne", "(I)Z"⟩, prog_7_method_3_code, 1, (some .boolean))
def u_M_region : MethodName × ByteArray × Nat × Option FieldType := (⟨"PartitionDeskModel", "region", "(III)Z"⟩, prog_7_method_4_code, 4, (some .boolean))
def u_M_window : MethodName × ByteArray × Nat × Option FieldType := (⟨"PartitionDeskModel", "window", "(II)Z"⟩, prog_7_method_5_code, 3, (some .boolean))
def u_M_port : MethodName × ByteArray × Nat × Option FieldType := (⟨"PartitionDeskModel", "port", "(III)I"⟩, prog_7_method_6_code, 4, (some .int))
def u_M_action : MethodName × ByteArray × Nat × Option FieldType := (⟨"PartitionDeskModel", "action", "(III)Z"⟩, prog_7_method_7_code, 4, (some .boolean))
def u_M_code : MethodName × ByteArray × Nat × Option FieldType := (⟨"PartitionDeskModel", "code", "(IIIII)Z"⟩, prog_7_method_8_code, 7, (some .boolean))
def u_M_takesPart : MethodName × ByteArray × Nat × Option FieldType := (⟨"PartitionDeskModel", "takesPart", "(I)Z"⟩, prog_7_method_9_code, 2, (some .boolean))
def u_M_wrong : MethodName × ByteArray × Nat × Option FieldType := (⟨"PartitionDeskModel", "wrong", "()I"⟩, prog_7_method_10_code, 9, (some .int))
def u_M_start : MethodName × ByteArray × Nat × Option FieldType := (⟨"PartitionDeskModel", "start", "()I"⟩, prog_7_method_11_code, 3, (some .int))
def u_M_input : MethodName × ByteArray × Nat × Option FieldType := (⟨"PartitionDeskModel", "input", "(II)I"⟩, prog_7_method_12_code, 3, (some .int))
def u_M_run : MethodName × ByteArray × Nat × Option FieldType := (⟨"PartitionDeskModel", "run", "(I)I"⟩, prog_7_method_13_code, 4, (some .int))
def u_M_step : MethodName × ByteArray × Nat × Option FieldType := (⟨"PartitionDeskModel", "step", "(I)V"⟩, prog_7_method_14_code, 5, none)
def u_M_goOn : MethodName × ByteArray × Nat × Option FieldType := (⟨"PartitionDeskModel", "goOn", "(I)V"⟩, prog_7_method_15_code, 2, none)
def u_M_simple : MethodName × ByteArray × Nat × Option FieldType := (⟨"PartitionDeskModel", "simple", "(IIII)I"⟩, prog_7_method_16_code, 9, (some .int))
def u_M_inside : MethodName × ByteArray × Nat × Option FieldType := (⟨"PartitionDeskModel", "inside", "(IIII)I"⟩, prog_7_method_17_code, 7, (some .int))
def u_M_message : MethodName × ByteArray × Nat × Option FieldType := (⟨"PartitionDeskModel", "message", "(IIII)I"⟩, prog_7_method_18_code, 8, (some .int))
def u_M_react : MethodName × ByteArray × Nat × Option FieldType := (⟨"PartitionDeskModel", "react", "(II)V"⟩, prog_7_method_19_code, 5, none)
def u_M_output : MethodName × ByteArray × Nat × Option FieldType := (⟨"PartitionDeskModel", "output", "(II)I"⟩, prog_7_method_20_code, 3, (some .int))
def u_M_about : MethodName × ByteArray × Nat × Option FieldType := (⟨"PartitionDeskModel", "about", "(II)I"⟩, prog_7_method_21_code, 3, (some .int))
def u_M_word : MethodName × ByteArray × Nat × Option FieldType := (⟨"PartitionDeskModel", "word", "(I)I"⟩, prog_7_method_22_code, 2, (some .int))
def u_M_waiting : MethodName × ByteArray × Nat × Option FieldType := (⟨"PartitionDeskModel", "waiting", "(I)I"⟩, prog_7_method_23_code, 2, (some .int))
def u_M_clock : MethodName × ByteArray × Nat × Option FieldType := (⟨"PartitionDeskModel", "clock", "(I)I"⟩, prog_7_method_24_code, 2, (some .int))
def u_J_floorMod : MethodName × ByteArray × Nat × Option FieldType := (⟨"java/lang/Math", "floorMod", "(II)I"⟩, prog_8_method_50_code, 3, (some .int))
def u_J_min : MethodName × ByteArray × Nat × Option FieldType := (⟨"java/lang/Math", "min", "(II)I"⟩, prog_8_method_69_code, 2, (some .int))
def u_L_law : MethodName × ByteArray × Nat × Option FieldType := (⟨"PartitionDeskLaw", "law", "([I)Z"⟩, code, 4, ret)
end
section
/-! the X layer: all cells of one world by their numbers; a row an instruction -/
abbrev AV : Type := Int32 ⊕ Option Nat
def cv (ad : Nat → Nat) (v : AV) : Value := match v with
  | .inl x => .int x
  | .inr o => va_rf (o.map ad)
theorem cv_cat (ad : Nat → Nat) (v : AV) : (cv ad v).category = 1 := by
  rcases v with x | o
  · rfl
  · cases o <;> rfl
abbrev Wd : Type := Nat × (Nat → Nat × Nat) × (Nat → Nat → Option Nat) × (Nat → Nat → Int32)
def fsl {α : Type} (f : Nat → α) (n : Nat) : List α := (List.range n).map f
theorem fsl_get {α : Type} {f : Nat → α} {n k : Nat} (h : k < n) : (fsl f n)[k]? = some (f k) := by simp [fsl, h]
theorem fsl_len {α : Type} (f : Nat → α) (n : Nat) : (fsl f n).length = n := by simp [fsl]
theorem fsl_congr {α : Type} {f g : Nat → α} {n : Nat} (h : ∀ j, j < n → f j = g j) : fsl f n = fsl g n := List.map_congr_left (fun j hj => h j (List.mem_range.mp hj))
theorem fsl_set {α : Type} (f : Nat → α) (n k : Nat) (v : α) : (fsl f n).set k v = fsl (fun j => if j = k then v else f j) n := by
  apply List.ext_getElem?
  intro i
  by_cases hi : i < n
  · rw [fsl_get hi]
    by_cases hk : i = k
    · subst hk
      rw [List.getElem?_set_self (by rw [fsl_len]; exact hi), if_pos rfl]
    · rw [List.getElem?_set_ne (Ne.symm hk), fsl_get hi, if_neg hk]
  · rw [List.getElem?_eq_none (by rw [List.length_set, fsl_len]; omega), List.getElem?_eq_none (by rw [fsl_len]; omega)]
theorem fsl_succ {α : Type} (f : Nat → α) (n : Nat) : fsl f (n + 1) = fsl f n ++ [f n] := by
  simp [fsl, List.range_succ]
/-- a cell: arrays of ints (0), of booleans (1), of references (2, 3); objects (number + 4): references first, then ints -/
def ent (cA : Nat → ClassId) (ad : Nat → Nat) (k : Nat × Nat) (r : Nat → Option Nat) (h : Nat → Int32) : va_E := match k with
  | (0, n) => .inl (cA 0, n, .inl h)
  | (1, n) => .inl (cA 1, n, .inl h)
  | (2, n) => .inl (cA 2, n, .inr (.inr (.inr (.inr (fun i => (r i).map ad)))))
  | (3, n) => .inl (cA 3, n, .inr (.inr (.inr (.inr (fun i => (r i).map ad)))))
  | (c + 4, _) => .inr (c, fsl (fun j => if j < nR c then va_rf ((r j).map ad) else .int (h j)) (nF c))
def wsf (cA : Nat → ClassId) (ad : Nat → Nat) (w : Wd) (o : Nat) : Nat × va_E := (ad o, ent cA ad (w.2.1 o) (w.2.2.1 o) (w.2.2.2 o))
def ws (cA : Nat → ClassId) (ad : Nat → Nat) (w : Wd) : va_W := fsl (wsf cA ad w) w.1
theorem ws_at {cA : Nat → ClassId} {ad : Nat → Nat} {w : Wd} {o : Nat} (h : o < w.1) : (ws cA ad w)[o]? = some (ad o, ent cA ad (w.2.1 o) (w.2.2.1 o) (w.2.2.2 o)) := fsl_get h
def up2 (h : Nat → Nat → Int32) (o k : Nat) (x : Int32) : Nat → Nat → Int32 := fun a => if a = o then upd (h o) k x else h a
def upR (r : Nat → Nat → Option Nat) (o k : Nat) (x : Option Nat) : Nat → Nat → Option Nat := fun a => if a = o then va_up (r o) k x else r a
theorem ws_put {cA : Nat → ClassId} {ad : Nat → Nat} {n : Nat} {kd : Nat → Nat × Nat} {r : Nat → Nat → Option Nat} {h : Nat → Nat → Int32} {o k : Nat} {x : Int32} {e : va_E} (he : ent cA ad (kd o) (r o) (upd (h o) k x) = e) : (ws cA ad (n, kd, r, h)).set o (ad o, e) = ws cA ad (n, kd, r, up2 h o k x) := by
  unfold ws
  rw [fsl_set]
  refine fsl_congr (fun j _ => ?_)
  by_cases hj : j = o
  · subst hj
    simp [wsf, up2, he]
  · simp [wsf, up2, hj]
theorem ws_putR {cA : Nat → ClassId} {ad : Nat → Nat} {n : Nat} {kd : Nat → Nat × Nat} {r : Nat → Nat → Option Nat} {h : Nat → Nat → Int32} {o k : Nat} {x : Option Nat} {e : va_E} (he : ent cA ad (kd o) (va_up (r o) k x) (h o) = e) : (ws cA ad (n, kd, r, h)).set o (ad o, e) = ws cA ad (n, kd, upR r o k x, h) := by
  unfold ws
  rw [fsl_set]
  refine fsl_congr (fun j _ => ?_)
  by_cases hj : j = o
  · subst hj
    simp [wsf, upR, he]
  · simp [wsf, upR, hj]
/-- references lead to cells of the world -/
def RefsOK (w : Wd) : Prop := ∀ j i o, w.2.2.1 j i = some o → o < w.1
theorem ws_push {cA : Nat → ClassId} {ad : Nat → Nat} {n q : Nat} {kd : Nat → Nat × Nat} {r : Nat → Nat → Option Nat} {h : Nat → Nat → Int32} {k : Nat × Nat} (hr : RefsOK (n, kd, r, h)) : ws cA (va_up ad n q) (n + 1, va_up kd n k, va_up r n (fun _ => none), va_up h n (fun _ => 0)) = ws cA ad (n, kd, r, h) ++ [(q, ent cA ad k (fun _ => none) (fun _ => 0))] := by
  have hm : ∀ (x : Option Nat), (∀ o, x = some o → o < n) → x.map (va_up ad n q) = x.map ad := by
    intro x hx
    cases x with
    | none => rfl
    | some o =>
      have := hx o rfl
      simp [va_up, Nat.ne_of_lt this]
  unfold ws
  show fsl _ (n + 1) = _
  rw [fsl_succ]
  congr 1
  · refine fsl_congr (fun j hj => ?_)
    have hj : j < n := hj
    have hne := Nat.ne_of_lt hj
    have hmm : ∀ i, (r j i).map (va_up ad n q) = (r j i).map ad := fun i => hm _ (fun o ho => hr j i o ho)
    simp only [wsf, va_up_ne _ _ hne]
    congr 1
    rcases hk : kd j with ⟨t, m⟩
    rcases t with _ | _ | _ | _ | c <;> simp only [ent, hmm]
  · simp only [wsf, va_up_self]
    congr 2
/-! the surroundings of a frame -/
abbrev En := Program × Launch × Env × Room × State × MethodId × Array Value × List Frame × Method × Code × va_G × (Nat → ClassId) × (Nat → Prop) × (State → Prop)
abbrev eP (E : En) := E.1
abbrev eL (E : En) := E.2.1
abbrev eE (E : En) := E.2.2.1
abbrev eR (E : En) := E.2.2.2.1
abbrev eS (E : En) := E.2.2.2.2.1
abbrev eM (E : En) := E.2.2.2.2.2.1
abbrev eA (E : En) := E.2.2.2.2.2.2.1
abbrev eB (E : En) := E.2.2.2.2.2.2.2.1
abbrev eT (E : En) := E.2.2.2.2.2.2.2.2.1
abbrev eC (E : En) := E.2.2.2.2.2.2.2.2.2.1
abbrev eD (E : En) := E.2.2.2.2.2.2.2.2.2.2.1
abbrev eK (E : En) := E.2.2.2.2.2.2.2.2.2.2.2.1
abbrev eF (E : En) := E.2.2.2.2.2.2.2.2.2.2.2.2.1
abbrev eQ (E : En) := E.2.2.2.2.2.2.2.2.2.2.2.2.2
abbrev Mi : Type := MethodName × ByteArray × Nat × Option FieldType
def tyL (cA : Nat → ClassId) : List (ClassId × FieldType) := [(cA 0, .int), (cA 1, .boolean), (cA 2, .object R_2), (cA 3, .object R_3)]
/-- what stands fast while a method runs -/
def Amb (u : Mi) (d : Nat) (E : En) : Prop :=
  (eP E).tables.exec = Jvm.exec ∧ (eC E).code = u.2.1 ∧ (eT E).sig.returnType = u.2.2.2 ∧ (eC E).maxLocals = u.2.2.1 ∧ (eT E).locks = false ∧ (eT E).name = u.1.name ∧
  (eS E).vm.findClass u.1.cls = some (eM E).cls ∧ (∀ w ∈ AllW, w.before (eA E) (eS E) = true) ∧ (∀ w ∈ NestW, va_Nw w (eS E)) ∧ va_K (eD E) classes (tyL (eK E)) (eS E) ∧
  (∀ q, (eS E).heap.size ≤ q → eF E q) ∧ d ≤ (eR E).frames ∧ 40 * d ≤ (eR E).locals
section AMB
variable {u : Mi} {d : Nat} {E : En}
theorem Amb.x (a : Amb u d E) : (eP E).tables.exec = Jvm.exec := a.1
theorem Amb.b (a : Amb u d E) : (eC E).code = u.2.1 := a.2.1
theorem Amb.r (a : Amb u d E) : (eT E).sig.returnType = u.2.2.2 := a.2.2.1
theorem Amb.ml (a : Amb u d E) : (eC E).maxLocals = u.2.2.1 := a.2.2.2.1
theorem Amb.lk (a : Amb u d E) : (eT E).locks = false := a.2.2.2.2.1
theorem Amb.nm (a : Amb u d E) : (eT E).name = u.1.name := a.2.2.2.2.2.1
theorem Amb.own (a : Amb u d E) : (eS E).vm.findClass u.1.cls = some (eM E).cls := a.2.2.2.2.2.2.1
theorem Amb.ts (a : Amb u d E) : ∀ w ∈ AllW, w.before (eA E) (eS E) = true := a.2.2.2.2.2.2.2.1
theorem Amb.ns (a : Amb u d E) : ∀ w ∈ NestW, va_Nw w (eS E) := a.2.2.2.2.2.2.2.2.1
theorem Amb.k (a : Amb u d E) : va_K (eD E) classes (tyL (eK E)) (eS E) := a.2.2.2.2.2.2.2.2.2.1
theorem Amb.fr (a : Amb u d E) : ∀ q, (eS E).heap.size ≤ q → eF E q := a.2.2.2.2.2.2.2.2.2.2.1
theorem Amb.fd (a : Amb u d E) : d ≤ (eR E).frames := a.2.2.2.2.2.2.2.2.2.2.2.1
theorem Amb.l (a : Amb u d E) : 40 * d ≤ (eR E).locals := a.2.2.2.2.2.2.2.2.2.2.2.2
end AMB
def lvc (ad : Nat → Nat) (lv : List (Nat × AV)) : List (Nat × Value) := lv.map (fun q => (q.1, cv ad q.2))
def look (lv : List (Nat × AV)) (i : Nat) : Option AV := (lv.find? (fun q => q.1 == i)).map (fun q => q.2)
def setL (lv : List (Nat × AV)) (i : Nat) (v : AV) : List (Nat × AV) := (i, v) :: lv.filter (fun q => !(q.1 == i))
theorem look_at {ad : Nat → Nat} {ls : Array Slot} {n i : Nat} {lv : List (Nat × AV)} {v : AV} (h : lv_has ls n (lvc ad lv)) (hl : look lv i = some v) : ls[i]? = some (.val (cv ad v)) := by
  unfold look at hl
  obtain ⟨q, hq, rfl⟩ := Option.map_eq_some_iff.mp hl
  have h1 := List.mem_of_find?_eq_some hq
  have h2 := List.find?_some hq
  have h3 : q.1 = i := by simpa using h2
  subst h3
  exact h.2.2 (q.1, cv ad q.2) (List.mem_map.mpr ⟨q, h1, rfl⟩)
theorem lvc_set (ad : Nat → Nat) (lv : List (Nat × AV)) (i : Nat) (v : AV) : (i, cv ad v) :: (lvc ad lv).filter (fun q => !(q.1 == i) && !(q.1 + 1 == i && q.2.category == 2)) = lvc ad (setL lv i v) := by
  unfold lvc setL
  rw [List.map_cons, List.filter_map]
  congr 2
  refine List.filter_congr (fun q _ => ?_)
  simp [cv_cat]
/-- from this frame and this world the machine comes to the end that is asked -/
def X (E : En) (cl sl : Nat) (ad : Nat → Nat) (w : Wd) (pc : Nat) (lv : List (Nat × AV)) (st : List AV) : Prop :=
  ∀ (H : Heap) (locs : List Loc) (ls : Array Slot), RefsOK w → va_P (eD E) classes (ws (eK E) ad w) H → va_D (eF E) (ws (eK E) ad w) → va_S (eF E) (eS E).heap H locs → lv_has ls (eC E).maxLocals (lvc ad lv) →
    W (eP E) (eL E) (eE E) (eR E) (eS E) (eM E) (eA E) (eB E) (eT E) (eC E) H locs cl sl (eQ E) (F0 (eM E) pc ls (st.map (cv ad)))
section XR
variable {u : Mi} {d : Nat} {E : En} {cl sl : Nat} {ad : Nat → Nat} {w : Wd} {lv : List (Nat × AV)} {st : List AV}
/-- fewer locals -/
theorem x_lv {pc : Nat} (lv' : List (Nat × AV)) (h : ∀ q ∈ lv', look lv q.1 = some q.2) (k : X E cl sl ad w pc lv' st) : X E cl sl ad w pc lv st := fun H locs ls hR hP hD hS hl => k H locs ls hR hP hD hS ⟨hl.1, hl.2.1, fun q hq => by
  obtain ⟨q', h1, rfl⟩ := List.mem_map.mp hq
  exact look_at hl (h q' h1)⟩
theorem x_widen {pc cl' sl' : Nat} (h1 : cl ≤ cl') (h2 : sl ≤ sl') (k : X E cl' sl' ad w pc lv st) : X E cl sl ad w pc lv st := fun H locs ls hR hP hD hS hl => W.widen h1 h2 (k H locs ls hR hP hD hS hl)
theorem x_iconst (a : Amb u d E) (pc : Nat) {n : Int} (v : Int32) (hdg : decode u.2.1 pc = .ok (.iconst n, 1)) (hv : Int32.ofInt n = v) (k : X E cl sl ad w (pc + 1) lv (.inl v :: st)) : X E cl sl ad w pc lv st :=
  fun H locs ls hR hP hD hS hl => lv_iconst a.x a.b hdg hv (k H locs ls hR hP hD hS hl)
theorem x_bipush (a : Amb u d E) (pc : Nat) {n : Int} (v : Int32) (hdg : decode u.2.1 pc = .ok (.bipush n, 2)) (hv : (Int8.ofInt n).toInt32 = v) (k : X E cl sl ad w (pc + 2) lv (.inl v :: st)) : X E cl sl ad w pc lv st :=
  fun H locs ls hR hP hD hS hl => lv_bipush a.x a.b hdg hv (k H locs ls hR hP hD hS hl)
theorem x_sipush (a : Amb u d E) (pc : Nat) {n : Int} (v : Int32) (hdg : decode u.2.1 pc = .ok (.sipush n, 3)) (hv : (Int16.ofInt n).toInt32 = v) (k : X E cl sl ad w (pc + 3) lv (.inl v :: st)) : X E cl sl ad w pc lv st :=
  fun H locs ls hR hP hD hS hl => lv_sipush a.x a.b hdg hv (k H locs ls hR hP hD hS hl)
theorem x_iload_n (a : Amb u d E) (pc : Nat) {i : Fin 4} {x : Int32} (hdg : decode u.2.1 pc = .ok (.iload_n i, 1)) (hi : look lv i = some (.inl x)) (k : X E cl sl ad w (pc + 1) lv (.inl x :: st)) : X E cl sl ad w pc lv st :=
  fun H locs ls hR hP hD hS hl => lv_iload_n a.x a.b hdg rfl (look_at hl hi) (k H locs ls hR hP hD hS hl)
theorem x_iload (a : Amb u d E) (pc : Nat) {i : Nat} {x : Int32} (hdg : decode u.2.1 pc = .ok (.iload i, 2)) (hi : look lv i = some (.inl x)) (k : X E cl sl ad w (pc + 2) lv (.inl x :: st)) : X E cl sl ad w pc lv st :=
  fun H locs ls hR hP hD hS hl => lv_iload a.x a.b hdg (look_at hl hi) (k H locs ls hR hP hD hS hl)
theorem x_aload_n (a : Amb u d E) (pc : Nat) {i : Fin 4} {o : Nat} (hdg : decode u.2.1 pc = .ok (.aload_n i, 1)) (hi : look lv i = some (.inr (some o))) (k : X E cl sl ad w (pc + 1) lv (.inr (some o) :: st)) : X E cl sl ad w pc lv st :=
  fun H locs ls hR hP hD hS hl => lv_aload_n a.x a.b hdg rfl (look_at hl hi) (k H locs ls hR hP hD hS hl)
theorem x_aload (a : Amb u d E) (pc : Nat) {i : Nat} {o : Nat} (hdg : decode u.2.1 pc = .ok (.aload i, 2)) (hi : look lv i = some (.inr (some o))) (k : X E cl sl ad w (pc + 2) lv (.inr (some o) :: st)) : X E cl sl ad w pc lv st :=
  fun H locs ls hR hP hD hS hl => lv_aload a.x a.b hdg (look_at hl hi) (k H locs ls hR hP hD hS hl)
theorem x_istore_n (a : Amb u d E) (pc : Nat) {i : Fin 4} {x : Int32} (hdg : decode u.2.1 pc = .ok (.istore_n i, 1)) (hn : (i : Nat) < u.2.2.1) (k : X E cl sl ad w (pc + 1) (setL lv i (.inl x)) st) : X E cl sl ad w pc lv (.inl x :: st) :=
  fun H locs ls hR hP hD hS hl => lv_istore_n a.x a.b hdg rfl hl (by rw [a.ml]; exact hn) (lvc_set ad lv i (.inl x)) (fun ls' hl' => k H locs ls' hR hP hD hS hl')
theorem x_istore (a : Amb u d E) (pc : Nat) {i : Nat} {x : Int32} (hdg : decode u.2.1 pc = .ok (.istore i, 2)) (hn : i < u.2.2.1) (k : X E cl sl ad w (pc + 2) (setL lv i (.inl x)) st) : X E cl sl ad w pc lv (.inl x :: st) :=
  fun H locs ls hR hP hD hS hl => lv_istore a.x a.b hdg hl (by rw [a.ml]; exact hn) (lvc_set ad lv i (.inl x)) (fun ls' hl' => k H locs ls' hR hP hD hS hl')
theorem x_astore_n (a : Amb u d E) (pc : Nat) {i : Fin 4} {o : Nat} (hdg : decode u.2.1 pc = .ok (.astore_n i, 1)) (hn : (i : Nat) < u.2.2.1) (k : X E cl sl ad w (pc + 1) (setL lv i (.inr (some o))) st) : X E cl sl ad w pc lv (.inr (some o) :: st) :=
  fun H locs ls hR hP hD hS hl => lv_astore_n a.x a.b hdg rfl hl (by rw [a.ml]; exact hn) (lvc_set ad lv i (.inr (some o))) (fun ls' hl' => k H locs ls' hR hP hD hS hl')
theorem x_astore (a : Amb u d E) (pc : Nat) {i : Nat} {o : Nat} (hdg : decode u.2.1 pc = .ok (.astore i, 2)) (hn : i < u.2.2.1) (k : X E cl sl ad w (pc + 2) (setL lv i (.inr (some o))) st) : X E cl sl ad w pc lv (.inr (some o) :: st) :=
  fun H locs ls hR hP hD hS hl => lv_astore a.x a.b hdg hl (by rw [a.ml]; exact hn) (lvc_set ad lv i (.inr (some o))) (fun ls' hl' => k H locs ls' hR hP hD hS hl')
theorem x_iinc (a : Amb u d E) (pc : Nat) {i : Nat} {n : Int} {x : Int32} (v : Int32) (hdg : decode u.2.1 pc = .ok (.iinc i n, 3)) (hi : look lv i = some (.inl x)) (hv : x + Int32.ofInt n = v) (hn : i < u.2.2.1) (k : X E cl sl ad w (pc + 3) (setL lv i (.inl v)) st) : X E cl sl ad w pc lv st := by
  intro H locs ls hR hP hD hS hl
  have hl2 : lv_has ls (eC E).maxLocals ((i, .int x) :: lvc ad lv) := ⟨hl.1, hl.2.1, fun q hq => by
    rcases List.mem_cons.mp hq with rfl | hq
    · exact look_at hl hi
    · exact hl.2.2 q hq⟩
  refine lv_iinc (k := 0) a.x a.b hdg hl2 rfl hv (by rw [a.ml]; exact hn) (lv' := lvc ad (setL lv i (.inl v))) ?_ (fun ls' hl' => k H locs ls' hR hP hD hS hl')
  rw [← lvc_set]
  simp [cv]
theorem x_iadd (a : Amb u d E) (pc : Nat) {x y : Int32} (hdg : decode u.2.1 pc = .ok (.iadd, 1)) (k : X E cl sl ad w (pc + 1) lv (.inl (x + y) :: st)) : X E cl sl ad w pc lv (.inl y :: .inl x :: st) :=
  fun H locs ls hR hP hD hS hl => lv_iadd a.x a.b hdg (k H locs ls hR hP hD hS hl)
theorem x_isub (a : Amb u d E) (pc : Nat) {x y : Int32} (hdg : decode u.2.1 pc = .ok (.isub, 1)) (k : X E cl sl ad w (pc + 1) lv (.inl (x - y) :: st)) : X E cl sl ad w pc lv (.inl y :: .inl x :: st) :=
  fun H locs ls hR hP hD hS hl => lv_isub a.x a.b hdg (k H locs ls hR hP hD hS hl)
theorem x_imul (a : Amb u d E) (pc : Nat) {x y : Int32} (hdg : decode u.2.1 pc = .ok (.imul, 1)) (k : X E cl sl ad w (pc + 1) lv (.inl (x * y) :: st)) : X E cl sl ad w pc lv (.inl y :: .inl x :: st) :=
  fun H locs ls hR hP hD hS hl => lv_imul a.x a.b hdg (k H locs ls hR hP hD hS hl)
theorem x_iand (a : Amb u d E) (pc : Nat) {x y : Int32} (hdg : decode u.2.1 pc = .ok (.iand, 1)) (k : X E cl sl ad w (pc + 1) lv (.inl (x &&& y) :: st)) : X E cl sl ad w pc lv (.inl y :: .inl x :: st) :=
  fun H locs ls hR hP hD hS hl => lv_iand a.x a.b hdg (k H locs ls hR hP hD hS hl)
theorem x_ixor (a : Amb u d E) (pc : Nat) {x y : Int32} (hdg : decode u.2.1 pc = .ok (.ixor, 1)) (k : X E cl sl ad w (pc + 1) lv (.inl (x ^^^ y) :: st)) : X E cl sl ad w pc lv (.inl y :: .inl x :: st) :=
  fun H locs ls hR hP hD hS hl => lv_ixor a.x a.b hdg (k H locs ls hR hP hD hS hl)
theorem x_irem (a : Amb u d E) (pc : Nat) {x y : Int32} (hdg : decode u.2.1 pc = .ok (.irem, 1)) (hne : ¬ y = 0) (k : X E cl sl ad w (pc + 1) lv (.inl (x - x / y * y) :: st)) : X E cl sl ad w pc lv (.inl y :: .inl x :: st) :=
  fun H locs ls hR hP hD hS hl => lv_irem a.x a.b hdg hne (k H locs ls hR hP hD hS hl)
theorem x_dup (a : Amb u d E) (pc : Nat) {x : AV} (hdg : decode u.2.1 pc = .ok (.dup, 1)) (k : X E cl sl ad w (pc + 1) lv (x :: x :: st)) : X E cl sl ad w pc lv (x :: st) :=
  fun H locs ls hR hP hD hS hl => lv_dup a.x a.b hdg (cv_cat ad x) (k H locs ls hR hP hD hS hl)
theorem x_pop (a : Amb u d E) (pc : Nat) {x : AV} (hdg : decode u.2.1 pc = .ok (.pop, 1)) (k : X E cl sl ad w (pc + 1) lv st) : X E cl sl ad w pc lv (x :: st) :=
  fun H locs ls hR hP hD hS hl => lv_pop a.x a.b hdg (cv_cat ad x) (k H locs ls hR hP hD hS hl)
theorem x_dup_x1 (a : Amb u d E) (pc : Nat) {x y : AV} (hdg : decode u.2.1 pc = .ok (.dup_x1, 1)) (k : X E cl sl ad w (pc + 1) lv (x :: y :: x :: st)) : X E cl sl ad w pc lv (x :: y :: st) :=
  fun H locs ls hR hP hD hS hl => lv_dup_x1 a.x a.b hdg (cv_cat ad x) (cv_cat ad y) (k H locs ls hR hP hD hS hl)
theorem x_dup_x2 (a : Amb u d E) (pc : Nat) {x y z : AV} (hdg : decode u.2.1 pc = .ok (.dup_x2, 1)) (k : X E cl sl ad w (pc + 1) lv (x :: y :: z :: x :: st)) : X E cl sl ad w pc lv (x :: y :: z :: st) :=
  fun H locs ls hR hP hD hS hl => lv_dup_x2 a.x a.b hdg (cv_cat ad x) (cv_cat ad y) (cv_cat ad z) (k H locs ls hR hP hD hS hl)
theorem x_dup2 (a : Amb u d E) (pc : Nat) {x y : AV} (hdg : decode u.2.1 pc = .ok (.dup2, 1)) (k : X E cl sl ad w (pc + 1) lv (x :: y :: x :: y :: st)) : X E cl sl ad w pc lv (x :: y :: st) :=
  fun H locs ls hR hP hD hS hl => lv_dup2_11 a.x a.b hdg (cv_cat ad x) (cv_cat ad y) (k H locs ls hR hP hD hS hl)
theorem x_goto (a : Amb u d E) (pc tgt : Nat) {off : Int} (hdg : decode u.2.1 pc = .ok (.goto off, 3)) (ht : (pc : Int) + off = (tgt : Int)) (k : X E cl sl ad w tgt lv st) : X E cl sl ad w pc lv st :=
  fun H locs ls hR hP hD hS hl => lv_goto a.x a.b hdg ht (k H locs ls hR hP hD hS hl)
theorem x_if_eq (a : Amb u d E) (pc tgt : Nat) {off : Int} {x : Int32} (hdg : decode u.2.1 pc = .ok (.ifCond .eq off, 3)) (ht : (pc : Int) + off = (tgt : Int)) (kt : x = 0 → X E cl sl ad w tgt lv st) (kf : ¬ x = 0 → X E cl sl ad w (pc + 3) lv st) : X E cl sl ad w pc lv (.inl x :: st) :=
  fun H locs ls hR hP hD hS hl => lv_if_eq a.x a.b hdg ht (fun z => kt z H locs ls hR hP hD hS hl) (fun z => kf z H locs ls hR hP hD hS hl)
theorem x_icmp_eq (a : Amb u d E) (pc tgt : Nat) {off : Int} {x y : Int32} (hdg : decode u.2.1 pc = .ok (.if_icmp .eq off, 3)) (ht : (pc : Int) + off = (tgt : Int)) (kt : x = y → X E cl sl ad w tgt lv st) (kf : ¬ x = y → X E cl sl ad w (pc + 3) lv st) : X E cl sl ad w pc lv (.inl y :: .inl x :: st) :=
  fun H locs ls hR hP hD hS hl => lv_icmp_eq a.x a.b hdg ht (fun z => kt z H locs ls hR hP hD hS hl) (fun z => kf z H locs ls hR hP hD hS hl)
theorem x_if_ne (a : Amb u d E) (pc tgt : Nat) {off : Int} {x : Int32} (hdg : decode u.2.1 pc = .ok (.ifCond .ne off, 3)) (ht : (pc : Int) + off = (tgt : Int)) (kt : ¬ x = 0 → X E cl sl ad w tgt lv st) (kf : x = 0 → X E cl sl ad w (pc + 3) lv st) : X E cl sl ad w pc lv (.inl x :: st) :=
  fun H locs ls hR hP hD hS hl => lv_if_ne a.x a.b hdg ht (fun z => kt z H locs ls hR hP hD hS hl) (fun z => kf z H locs ls hR hP hD hS hl)
theorem x_icmp_ne (a : Amb u d E) (pc tgt : Nat) {off : Int} {x y : Int32} (hdg : decode u.2.1 pc = .ok (.if_icmp .ne off, 3)) (ht : (pc : Int) + off = (tgt : Int)) (kt : ¬ x = y → X E cl sl ad w tgt lv st) (kf : x = y → X E cl sl ad w (pc + 3) lv st) : X E cl sl ad w pc lv (.inl y :: .inl x :: st) :=
  fun H locs ls hR hP hD hS hl => lv_icmp_ne a.x a.b hdg ht (fun z => kt z H locs ls hR hP hD hS hl) (fun z => kf z H locs ls hR hP hD hS hl)
theorem x_if_lt (a : Amb u d E) (pc tgt : Nat) {off : Int} {x : Int32} (hdg : decode u.2.1 pc = .ok (.ifCond .lt off, 3)) (ht : (pc : Int) + off = (tgt : Int)) (kt : x < 0 → X E cl sl ad w tgt lv st) (kf : ¬ x < 0 → X E cl sl ad w (pc + 3) lv st) : X E cl sl ad w pc lv (.inl x :: st) :=
  fun H locs ls hR hP hD hS hl => lv_if_lt a.x a.b hdg ht (fun z => kt z H locs ls hR hP hD hS hl) (fun z => kf z H locs ls hR hP hD hS hl)
theorem x_icmp_lt (a : Amb u d E) (pc tgt : Nat) {off : Int} {x y : Int32} (hdg : decode u.2.1 pc = .ok (.if_icmp .lt off, 3)) (ht : (pc : Int) + off = (tgt : Int)) (kt : x < y → X E cl sl ad w tgt lv st) (kf : ¬ x < y → X E cl sl ad w (pc + 3) lv st) : X E cl sl ad w pc lv (.inl y :: .inl x :: st) :=
  fun H locs ls hR hP hD hS hl => lv_icmp_lt a.x a.b hdg ht (fun z => kt z H locs ls hR hP hD hS hl) (fun z => kf z H locs ls hR hP hD hS hl)
theorem x_if_ge (a : Amb u d E) (pc tgt : Nat) {off : Int} {x : Int32} (hdg : decode u.2.1 pc = .ok (.ifCond .ge off, 3)) (ht : (pc : Int) + off = (tgt : Int)) (kt : 0 ≤ x → X E cl sl ad w tgt lv st) (kf : ¬ 0 ≤ x → X E cl sl ad w (pc + 3) lv st) : X E cl sl ad w pc lv (.inl x :: st) :=
  fun H locs ls hR hP hD hS hl => lv_if_ge a.x a.b hdg ht (fun z => kt z H locs ls hR hP hD hS hl) (fun z => kf z H locs ls hR hP hD hS hl)
theorem x_icmp_ge (a : Amb u d E) (pc tgt : Nat) {off : Int} {x y : Int32} (hdg : decode u.2.1 pc = .ok (.if_icmp .ge off, 3)) (ht : (pc : Int) + off = (tgt : Int)) (kt : y ≤ x → X E cl sl ad w tgt lv st) (kf : ¬ y ≤ x → X E cl sl ad w (pc + 3) lv st) : X E cl sl ad w pc lv (.inl y :: .inl x :: st) :=
  fun H locs ls hR hP hD hS hl => lv_icmp_ge a.x a.b hdg ht (fun z => kt z H locs ls hR hP hD hS hl) (fun z => kf z H locs ls hR hP hD hS hl)
theorem x_if_gt (a : Amb u d E) (pc tgt : Nat) {off : Int} {x : Int32} (hdg : decode u.2.1 pc = .ok (.ifCond .gt off, 3)) (ht : (pc : Int) + off = (tgt : Int)) (kt : 0 < x → X E cl sl ad w tgt lv st) (kf : ¬ 0 < x → X E cl sl ad w (pc + 3) lv st) : X E cl sl ad w pc lv (.inl x :: st) :=
  fun H locs ls hR hP hD hS hl => lv_if_gt a.x a.b hdg ht (fun z => kt z H locs ls hR hP hD hS hl) (fun z => kf z H locs ls hR hP hD hS hl)
theorem x_icmp_gt (a : Amb u d E) (pc tgt : Nat) {off : Int} {x y : Int32} (hdg : decode u.2.1 pc = .ok (.if_icmp .gt off, 3)) (ht : (pc : Int) + off = (tgt : Int)) (kt : y < x → X E cl sl ad w tgt lv st) (kf : ¬ y < x → X E cl sl ad w (pc + 3) lv st) : X E cl sl ad w pc lv (.inl y :: .inl x :: st) :=
  fun H locs ls hR hP hD hS hl => lv_icmp_gt a.x a.b hdg ht (fun z => kt z H locs ls hR hP hD hS hl) (fun z => kf z H locs ls hR hP hD hS hl)
theorem x_if_le (a : Amb u d E) (pc tgt : Nat) {off : Int} {x : Int32} (hdg : decode u.2.1 pc = .ok (.ifCond .le off, 3)) (ht : (pc : Int) + off = (tgt : Int)) (kt : x ≤ 0 → X E cl sl ad w tgt lv st) (kf : ¬ x ≤ 0 → X E cl sl ad w (pc + 3) lv st) : X E cl sl ad w pc lv (.inl x :: st) :=
  fun H locs ls hR hP hD hS hl => lv_if_le a.x a.b hdg ht (fun z => kt z H locs ls hR hP hD hS hl) (fun z => kf z H locs ls hR hP hD hS hl)
theorem x_icmp_le (a : Amb u d E) (pc tgt : Nat) {off : Int} {x y : Int32} (hdg : decode u.2.1 pc = .ok (.if_icmp .le off, 3)) (ht : (pc : Int) + off = (tgt : Int)) (kt : x ≤ y → X E cl sl ad w tgt lv st) (kf : ¬ x ≤ y → X E cl sl ad w (pc + 3) lv st) : X E cl sl ad w pc lv (.inl y :: .inl x :: st) :=
  fun H locs ls hR hP hD hS hl => lv_icmp_le a.x a.b hdg ht (fun z => kt z H locs ls hR hP hD hS hl) (fun z => kf z H locs ls hR hP hD hS hl)
theorem x_tableOut (a : Amb u d E) (pc tgt : Nat) {dflt lo hi : Int} {offs : Array Int} {len : Nat} {x : Int32} (hdg : decode u.2.1 pc = .ok (.tableswitch dflt lo hi offs, len)) (h : x.toInt < lo ∨ hi < x.toInt) (ht : (pc : Int) + dflt = (tgt : Int)) (k : X E cl sl ad w tgt lv st) : X E cl sl ad w pc lv (.inl x :: st) :=
  fun H locs ls hR hP hD hS hl => lv_tableOut a.x a.b hdg h ht (k H locs ls hR hP hD hS hl)
theorem x_tableIn (a : Amb u d E) (pc tgt : Nat) {dflt lo hi : Int} {offs : Array Int} {len : Nat} {x : Int32} (off : Int) (hdg : decode u.2.1 pc = .ok (.tableswitch dflt lo hi offs, len)) (h1 : ¬ x.toInt < lo) (h2 : ¬ hi < x.toInt) (ho : offs[(x.toInt - lo).toNat]? = some off) (ht : (pc : Int) + off = (tgt : Int)) (k : X E cl sl ad w tgt lv st) : X E cl sl ad w pc lv (.inl x :: st) :=
  fun H locs ls hR hP hD hS hl => lv_tableIn a.x a.b hdg h1 h2 ho ht (k H locs ls hR hP hD hS hl)
theorem x_lookup (a : Amb u d E) (pc tgt : Nat) {dflt : Int} {ps : Array (Int × Int)} {len : Nat} {x : Int32} (off : Int) (hdg : decode u.2.1 pc = .ok (.lookupswitch dflt ps, len)) (hp : (ps.toList.zip (ps.toList.drop 1)).all (fun (a, next) => a.1 < next.1) = true) (ho : Op.lookupswitch.offset ps.toList dflt x.toInt = off) (ht : (pc : Int) + off = (tgt : Int)) (k : X E cl sl ad w tgt lv st) : X E cl sl ad w pc lv (.inl x :: st) :=
  fun H locs ls hR hP hD hS hl => lv_lookup a.x a.b hdg hp ho ht (k H locs ls hR hP hD hS hl)
end XR
/-! fields -/
def cls (ci : Nat) : vw_C := classes.getD ci ("", fun _ => ("", "", "", false), 0)
def LayOK (ci : Nat) : Prop := classes[ci]? = some (cls ci) ∧ (∀ w ∈ u_ws (cls ci).1 (cls ci).2.1 (cls ci).2.2, w ∈ AllW) ∧ (∀ j, j < (cls ci).2.2 → parseFieldDescriptor ((cls ci).2.1 j).2.2.1 = some (fT ci j)) ∧
  (∀ a, a < (cls ci).2.2 → ∀ b, b < (cls ci).2.2 → a ≠ b → ((cls ci).2.1 a).2.1 ≠ ((cls ci).2.1 b).2.1) ∧ (cls ci).2.2 = nF ci
/-- the field link at this place of the pool of own is field k of the objects of number ci -/
def FR (own : String) (index ci k : Nat) : Prop := LayOK ci ∧ k < nF ci ∧ Cond.fieldLink own index ((cls ci).2.1 k).1 ((cls ci).2.1 k).2.1 ((cls ci).2.1 k).2.2.1 ∈ AllW
section XF
variable {u : Mi} {d : Nat} {E : En} {cl sl : Nat} {ad : Nat → Nat} {n : Nat} {kd : Nat → Nat × Nat} {r : Nat → Nat → Option Nat} {h : Nat → Nat → Int32} {lv : List (Nat × AV)} {st : List AV}
theorem ent_obj {cA : Nat → ClassId} {k : Nat × Nat} {ci : Nat} {r : Nat → Option Nat} {h : Nat → Int32} (hk : k.1 = ci + 4) : ent cA ad k r h = .inr (ci, fsl (fun j => if j < nR ci then va_rf ((r j).map ad) else .int (h j)) (nF ci)) := by
  obtain ⟨t, m⟩ := k
  have hk : t = ci + 4 := hk
  subst hk
  rfl
theorem x_getI (a : Amb u d E) (pc : Nat) {index ci k o : Nat} (f : FR u.1.cls index ci k) (hdg : decode u.2.1 pc = .ok (.getfield index, 3)) (hk : (kd o).1 = ci + 4) (ho : o < n) (hn : ¬ k < nR ci) {v : Int32} (hv : h o k = v) (kk : X E cl sl ad (n, kd, r, h) (pc + 3) lv (.inl v :: st)) : X E cl sl ad (n, kd, r, h) pc lv (.inr (some o) :: st) := by
  intro H locs ls hR hP hD hS hl
  subst hv
  obtain ⟨⟨hc, hin, hty, hnm, hN⟩, hkn, hlink⟩ := f
  refine va_get (D := eD E) (ci := ci) (C := (cls ci).1) (T := (cls ci).2.1) (N := (cls ci).2.2) (v := .int (h o k)) (fs := fsl (fun j => if j < nR ci then va_rf ((r o j).map ad) else .int (h o j)) (nF ci)) a.x a.b a.ts hin a.own a.k hP o ?_ hc k (by rw [hN]; exact hkn) (a.ts _ hlink) (fun _ z => z) ?_ hdg (kk H locs ls hR hP hD hS hl)
  · rw [ws_at ho]
    show some (ad o, ent _ _ (kd o) _ _) = _
    rw [ent_obj hk]
  · rw [fsl_get hkn, if_neg hn]
theorem x_getR (a : Amb u d E) (pc : Nat) {index ci k o o' : Nat} (f : FR u.1.cls index ci k) (hdg : decode u.2.1 pc = .ok (.getfield index, 3)) (hk : (kd o).1 = ci + 4) (ho : o < n) (hn : k < nR ci) (hr : r o k = some o') (kk : X E cl sl ad (n, kd, r, h) (pc + 3) lv (.inr (some o') :: st)) : X E cl sl ad (n, kd, r, h) pc lv (.inr (some o) :: st) := by
  intro H locs ls hR hP hD hS hl
  obtain ⟨⟨hc, hin, hty, hnm, hN⟩, hkn, hlink⟩ := f
  refine va_get (D := eD E) (ci := ci) (C := (cls ci).1) (T := (cls ci).2.1) (N := (cls ci).2.2) (v := .ref (ad o')) (fs := fsl (fun j => if j < nR ci then va_rf ((r o j).map ad) else .int (h o j)) (nF ci)) a.x a.b a.ts hin a.own a.k hP o ?_ hc k (by rw [hN]; exact hkn) (a.ts _ hlink) (fun _ z => z) ?_ hdg (kk H locs ls hR hP hD hS hl)
  · rw [ws_at ho]
    show some (ad o, ent _ _ (kd o) _ _) = _
    rw [ent_obj hk]
  · rw [fsl_get hkn, if_pos hn, hr]
    rfl
theorem ent_putI {cA : Nat → ClassId} {k : Nat × Nat} {ci i : Nat} {r : Nat → Option Nat} {h : Nat → Int32} {x : Int32} (hk : k.1 = ci + 4) (hn : ¬ i < nR ci) : ent cA ad k r (upd h i x) = .inr (ci, (fsl (fun j => if j < nR ci then va_rf ((r j).map ad) else .int (h j)) (nF ci)).set i (.int x)) := by
  rw [ent_obj hk, fsl_set]
  congr 2
  refine fsl_congr (fun j _ => ?_)
  by_cases hj : j = i
  · subst hj
    simp [hn, upd]
  · simp [hj, upd]
theorem x_putI (a : Amb u d E) (pc : Nat) {index ci k o : Nat} {x : Int32} (f : FR u.1.cls index ci k) (hdg : decode u.2.1 pc = .ok (.putfield index, 3)) (hk : (kd o).1 = ci + 4) (ho : o < n) (hn : ¬ k < nR ci) (hfin : ((cls ci).2.1 k).2.2.2 = false) (hnar : narrow (fT ci k) (.int x) = .int x) (hfit : fits (fT ci k) (.int x) = true) (kk : X E cl sl ad (n, kd, r, up2 h o k x) (pc + 3) lv st) : X E cl sl ad (n, kd, r, h) pc lv (.inl x :: .inr (some o) :: st) := by
  intro H locs ls hR hP hD hS hl
  obtain ⟨⟨hc, hin, hty, hnm, hN⟩, hkn, hlink⟩ := f
  refine va_put (D := eD E) (ci := ci) (C := (cls ci).1) (T := (cls ci).2.1) (N := (cls ci).2.2) (v := .int x) (fs := fsl (fun j => if j < nR ci then va_rf ((r o j).map ad) else .int (h o j)) (nF ci)) a.x a.b a.ts hin (fT ci) hty hnm a.own a.k hP hD hS o ?_ hc k (by rw [hN]; exact hkn) (a.ts _ hlink) (fun _ z => z) hfin (hty k (by rw [hN]; exact hkn)) hnar hfit (by rw [fsl_len]; exact hkn) hdg (fun H1 locs1 hP1 hD1 hS1 => ?_)
  · rw [ws_at ho]
    show some (ad o, ent _ _ (kd o) _ _) = _
    rw [ent_obj hk]
  · rw [ws_put (ent_putI hk hn)] at hP1 hD1
    exact kk H1 locs1 ls hR hP1 hD1 hS1 hl
theorem x_putFI (a : Amb u d E) (pc : Nat) {index ci k o : Nat} {x : Int32} (f : FR u.1.cls index ci k) (hdg : decode u.2.1 pc = .ok (.putfield index, 3)) (hk : (kd o).1 = ci + 4) (ho : o < n) (hn : ¬ k < nR ci) (hfin : ((cls ci).2.1 k).2.2.2 = true) (hin2 : u.1.name = "<init>") (hdecl : ((cls ci).2.1 k).1 = u.1.cls) (hnar : narrow (fT ci k) (.int x) = .int x) (hfit : fits (fT ci k) (.int x) = true) (kk : X E cl sl ad (n, kd, r, up2 h o k x) (pc + 3) lv st) : X E cl sl ad (n, kd, r, h) pc lv (.inl x :: .inr (some o) :: st) := by
  intro H locs ls hR hP hD hS hl
  obtain ⟨⟨hc, hin, hty, hnm, hN⟩, hkn, hlink⟩ := f
  refine va_putF (D := eD E) (ci := ci) (C := (cls ci).1) (T := (cls ci).2.1) (N := (cls ci).2.2) (v := .int x) (fs := fsl (fun j => if j < nR ci then va_rf ((r o j).map ad) else .int (h o j)) (nF ci)) a.x a.b a.ts hin (fT ci) hty hnm a.own a.k hP hD hS o ?_ hc k (by rw [hN]; exact hkn) (a.ts _ hlink) (fun _ z => z) hfin (a.nm.trans hin2) hdecl (hty k (by rw [hN]; exact hkn)) hnar hfit (by rw [fsl_len]; exact hkn) hdg (fun H1 locs1 hP1 hD1 hS1 => ?_)
  · rw [ws_at ho]
    show some (ad o, ent _ _ (kd o) _ _) = _
    rw [ent_obj hk]
  · rw [ws_put (ent_putI hk hn)] at hP1 hD1
    exact kk H1 locs1 ls hR hP1 hD1 hS1 hl
theorem ent_putR {cA : Nat → ClassId} {k : Nat × Nat} {ci i o' : Nat} {r : Nat → Option Nat} {h : Nat → Int32} (hk : k.1 = ci + 4) (hn : i < nR ci) : ent cA ad k (va_up r i (some o')) h = .inr (ci, (fsl (fun j => if j < nR ci then va_rf ((r j).map ad) else .int (h j)) (nF ci)).set i (.ref (ad o'))) := by
  rw [ent_obj hk, fsl_set]
  congr 2
  refine fsl_congr (fun j _ => ?_)
  by_cases hj : j = i
  · subst hj
    simp [hn, va_up, va_rf]
  · simp [hj, va_up]
theorem refs_up {o k o' : Nat} (hR : RefsOK (n, kd, r, h)) (ho' : o' < n) : RefsOK (n, kd, upR r o k (some o'), h) := by
  intro j i q hq
  have hq : upR r o k (some o') j i = some q := hq
  show q < n
  unfold upR at hq
  by_cases hj : j = o
  · rw [if_pos hj] at hq
    by_cases hi : i = k
    · subst hi
      rw [va_up_self] at hq
      cases hq
      exact ho'
    · rw [va_up_ne _ _ hi] at hq
      exact hR o i q hq
  · rw [if_neg hj] at hq
    exact hR j i q hq
/-- a final reference, in a constructor -/
theorem x_putFR (a : Amb u d E) (pc : Nat) {index ci k o o' : Nat} (f : FR u.1.cls index ci k) (hdg : decode u.2.1 pc = .ok (.putfield index, 3)) (hk : (kd o).1 = ci + 4) (ho : o < n) (hn : k < nR ci) (ho' : o' < n) (hfin : ((cls ci).2.1 k).2.2.2 = true) (hin2 : u.1.name = "<init>") (hdecl : ((cls ci).2.1 k).1 = u.1.cls) (hnar : ∀ q, narrow (fT ci k) (.ref q) = .ref q) (hfit : ∀ q, fits (fT ci k) (.ref q) = true) (kk : X E cl sl ad (n, kd, upR r o k (some o'), h) (pc + 3) lv st) : X E cl sl ad (n, kd, r, h) pc lv (.inr (some o') :: .inr (some o) :: st) := by
  intro H locs ls hR hP hD hS hl
  obtain ⟨⟨hc, hin, hty, hnm, hN⟩, hkn, hlink⟩ := f
  refine va_putF (D := eD E) (ci := ci) (C := (cls ci).1) (T := (cls ci).2.1) (N := (cls ci).2.2) (v := .ref (ad o')) (fs := fsl (fun j => if j < nR ci then va_rf ((r o j).map ad) else .int (h o j)) (nF ci)) a.x a.b a.ts hin (fT ci) hty hnm a.own a.k hP hD hS o ?_ hc k (by rw [hN]; exact hkn) (a.ts _ hlink) (fun _ z => z) hfin (a.nm.trans hin2) hdecl (hty k (by rw [hN]; exact hkn)) (hnar _) (hfit _) (by rw [fsl_len]; exact hkn) hdg (fun H1 locs1 hP1 hD1 hS1 => ?_)
  · rw [ws_at ho]
    show some (ad o, ent _ _ (kd o) _ _) = _
    rw [ent_obj hk]
  · rw [ws_putR (ent_putR hk hn)] at hP1 hD1
    exact kk H1 locs1 ls (refs_up hR ho') hP1 hD1 hS1 hl
/-! arrays -/
theorem x_iald (a : Amb u d E) (pc : Nat) {o len j : Nat} {i : Int32} (hdg : decode u.2.1 pc = .ok (.iaload, 1)) (hk : kd o = (0, len)) (ho : o < n) (hi : i = nI j) (hj : j < len) (hlen : len < 2 ^ 31) {v : Int32} (hv : h o j = v) (kk : X E cl sl ad (n, kd, r, h) (pc + 1) lv (.inl v :: st)) : X E cl sl ad (n, kd, r, h) pc lv (.inl i :: .inr (some o) :: st) := by
  intro H locs ls hR hP hD hS hl
  subst hv
  subst hi
  have e : (nI j).toNatClampNeg = j := nI_clamp (by omega)
  refine va_iald (n := len) (f := h o) (cA := eK E 0) a.x a.b a.k hP o 0 ?_ rfl (nI_in hj hlen) hdg ?_
  · rw [ws_at ho]
    show some (ad o, ent _ _ (kd o) _ _) = _
    rw [hk]
    rfl
  · rw [e]
    exact kk H locs ls hR hP hD hS hl
theorem x_zald (a : Amb u d E) (pc : Nat) {o len j : Nat} {i : Int32} (hdg : decode u.2.1 pc = .ok (.baload, 1)) (hk : kd o = (1, len)) (ho : o < n) (hi : i = nI j) (hj : j < len) (hlen : len < 2 ^ 31) {v : Int32} (hv : h o j = v) (kk : X E cl sl ad (n, kd, r, h) (pc + 1) lv (.inl v :: st)) : X E cl sl ad (n, kd, r, h) pc lv (.inl i :: .inr (some o) :: st) := by
  intro H locs ls hR hP hD hS hl
  subst hv
  subst hi
  have e : (nI j).toNatClampNeg = j := nI_clamp (by omega)
  refine va_zald (n := len) (f := h o) (cA := eK E 1) a.x a.b a.k hP o 1 ?_ rfl (nI_in hj hlen) hdg ?_
  · rw [ws_at ho]
    show some (ad o, ent _ _ (kd o) _ _) = _
    rw [hk]
    rfl
  · rw [e]
    exact kk H locs ls hR hP hD hS hl
theorem x_iast (a : Amb u d E) (pc : Nat) {o len j : Nat} {i x : Int32} (hdg : decode u.2.1 pc = .ok (.iastore, 1)) (hk : kd o = (0, len)) (ho : o < n) (hi : i = nI j) (hj : j < len) (hlen : len < 2 ^ 31) (kk : X E cl sl ad (n, kd, r, up2 h o j x) (pc + 1) lv st) : X E cl sl ad (n, kd, r, h) pc lv (.inl x :: .inl i :: .inr (some o) :: st) := by
  intro H locs ls hR hP hD hS hl
  subst hi
  have e : (nI j).toNatClampNeg = j := nI_clamp (by omega)
  refine va_iast (n := len) (f := h o) (cA := eK E 0) a.x a.b a.k hP hD hS o 0 ?_ rfl (nI_in hj hlen) hdg (fun H1 locs1 hP1 hD1 hS1 => ?_)
  · rw [ws_at ho]
    show some (ad o, ent _ _ (kd o) _ _) = _
    rw [hk]
    rfl
  · rw [e, ws_put (by rw [hk]; rfl)] at hP1 hD1
    exact kk H1 locs1 ls hR hP1 hD1 hS1 hl
theorem x_zast (a : Amb u d E) (pc : Nat) {o len j : Nat} {i x : Int32} (hdg : decode u.2.1 pc = .ok (.bastore, 1)) (hk : kd o = (1, len)) (ho : o < n) (hi : i = nI j) (hj : j < len) (hlen : len < 2 ^ 31) (hx : vp_nar .boolean x = x) (kk : X E cl sl ad (n, kd, r, up2 h o j x) (pc + 1) lv st) : X E cl sl ad (n, kd, r, h) pc lv (.inl x :: .inl i :: .inr (some o) :: st) := by
  intro H locs ls hR hP hD hS hl
  subst hi
  have e : (nI j).toNatClampNeg = j := nI_clamp (by omega)
  refine va_zast (n := len) (f := h o) (cA := eK E 1) a.x a.b a.k hP hD hS o 1 ?_ rfl (nI_in hj hlen) hdg (fun H1 locs1 hP1 hD1 hS1 => ?_)
  · rw [ws_at ho]
    show some (ad o, ent _ _ (kd o) _ _) = _
    rw [hk]
    rfl
  · rw [e, hx, ws_put (by rw [hk]; rfl)] at hP1 hD1
    exact kk H1 locs1 ls hR hP1 hD1 hS1 hl
theorem x_aald2 (a : Amb u d E) (pc : Nat) {o len j o' : Nat} {i : Int32} (hdg : decode u.2.1 pc = .ok (.aaload, 1)) (hk : kd o = (2, len)) (ho : o < n) (hi : i = nI j) (hj : j < len) (hlen : len < 2 ^ 31) (hr : r o j = some o') (kk : X E cl sl ad (n, kd, r, h) (pc + 1) lv (.inr (some o') :: st)) : X E cl sl ad (n, kd, r, h) pc lv (.inl i :: .inr (some o) :: st) := by
  intro H locs ls hR hP hD hS hl
  subst hi
  have e : (nI j).toNatClampNeg = j := nI_clamp (by omega)
  refine va_aldq (n := len) (f := fun i => (r o i).map ad) (cA := eK E 2) a.x a.b a.k hP o 2 ?_ rfl (nI_in hj hlen) hdg ?_
  · rw [ws_at ho]
    show some (ad o, ent _ _ (kd o) _ _) = _
    rw [hk]
    rfl
  · rw [e, hr]
    exact kk H locs ls hR hP hD hS hl
theorem x_aald3 (a : Amb u d E) (pc : Nat) {o len j o' : Nat} {i : Int32} (hdg : decode u.2.1 pc = .ok (.aaload, 1)) (hk : kd o = (3, len)) (ho : o < n) (hi : i = nI j) (hj : j < len) (hlen : len < 2 ^ 31) (hr : r o j = some o') (kk : X E cl sl ad (n, kd, r, h) (pc + 1) lv (.inr (some o') :: st)) : X E cl sl ad (n, kd, r, h) pc lv (.inl i :: .inr (some o) :: st) := by
  intro H locs ls hR hP hD hS hl
  subst hi
  have e : (nI j).toNatClampNeg = j := nI_clamp (by omega)
  refine va_aldq (n := len) (f := fun i => (r o i).map ad) (cA := eK E 3) a.x a.b a.k hP o 3 ?_ rfl (nI_in hj hlen) hdg ?_
  · rw [ws_at ho]
    show some (ad o, ent _ _ (kd o) _ _) = _
    rw [hk]
    rfl
  · rw [e, hr]
    exact kk H locs ls hR hP hD hS hl
theorem x_aast2 (a : Amb u d E) (pc : Nat) {o len j o' ci : Nat} {i : Int32} (hdg : decode u.2.1 pc = .ok (.aastore, 1)) (hk : kd o = (2, len)) (ho : o < n) (hi : i = nI j) (hj : j < len) (hlen : len < 2 ^ 31) (hk' : (kd o').1 = ci + 4) (ho' : o' < n) (hc : classes[ci]? = some (cls ci)) (hR2 : (cls ci).1 = R_2) (kk : X E cl sl ad (n, kd, upR r o j (some o'), h) (pc + 1) lv st) : X E cl sl ad (n, kd, r, h) pc lv (.inr (some o') :: .inl i :: .inr (some o) :: st) := by
  intro H locs ls hR hP hD hS hl
  subst hi
  have e : (nI j).toNatClampNeg = j := nI_clamp (by omega)
  have he : (ws (eK E) ad (n, kd, r, h))[o]? = some (ad o, .inl (eK E 2, len, .inr (.inr (.inr (.inr (fun i => (r o i).map ad)))))) := by
    rw [ws_at ho]
    show some (ad o, ent _ _ (kd o) _ _) = _
    rw [hk]
    rfl
  have hv : (ws (eK E) ad (n, kd, r, h))[o']? = some (ad o', .inr (ci, fsl (fun j => if j < nR ci then va_rf ((r o' j).map ad) else .int (h o' j)) (nF ci))) := by
    rw [ws_at ho']
    show some (ad o', ent _ _ (kd o') _ _) = _
    rw [ent_obj hk']
  refine va_astq (r := cls ci) a.x a.b a.k hP hD hS o 2 o' ci he (by rw [hR2]; rfl) hv hc (nI_in hj hlen) hdg (fun H1 locs1 hP1 hD1 hS1 => ?_)
  have e2 : ent (eK E) ad (kd o) (va_up (r o) j (some o')) (h o) = .inl (eK E 2, len, .inr (.inr (.inr (.inr (va_up (fun i => (r o i).map ad) j (some (ad o'))))))) := by
    rw [hk]
    show Sum.inl (eK E 2, len, _) = _
    congr 7
    funext z
    by_cases hz : z = j
    · subst hz
      simp [va_up]
    · simp [va_up, hz]
  rw [e, ws_putR e2] at hP1 hD1
  exact kk H1 locs1 ls (refs_up hR ho') hP1 hD1 hS1 hl
theorem x_aast3 (a : Amb u d E) (pc : Nat) {o len j o' ci : Nat} {i : Int32} (hdg : decode u.2.1 pc = .ok (.aastore, 1)) (hk : kd o = (3, len)) (ho : o < n) (hi : i = nI j) (hj : j < len) (hlen : len < 2 ^ 31) (hk' : (kd o').1 = ci + 4) (ho' : o' < n) (hc : classes[ci]? = some (cls ci)) (hR2 : (cls ci).1 = R_3) (kk : X E cl sl ad (n, kd, upR r o j (some o'), h) (pc + 1) lv st) : X E cl sl ad (n, kd, r, h) pc lv (.inr (some o') :: .inl i :: .inr (some o) :: st) := by
  intro H locs ls hR hP hD hS hl
  subst hi
  have e : (nI j).toNatClampNeg = j := nI_clamp (by omega)
  have he : (ws (eK E) ad (n, kd, r, h))[o]? = some (ad o, .inl (eK E 3, len, .inr (.inr (.inr (.inr (fun i => (r o i).map ad)))))) := by
    rw [ws_at ho]
    show some (ad o, ent _ _ (kd o) _ _) = _
    rw [hk]
    rfl
  have hv : (ws (eK E) ad (n, kd, r, h))[o']? = some (ad o', .inr (ci, fsl (fun j => if j < nR ci then va_rf ((r o' j).map ad) else .int (h o' j)) (nF ci))) := by
    rw [ws_at ho']
    show some (ad o', ent _ _ (kd o') _ _) = _
    rw [ent_obj hk']
  refine va_astq (r := cls ci) a.x a.b a.k hP hD hS o 3 o' ci he (by rw [hR2]; rfl) hv hc (nI_in hj hlen) hdg (fun H1 locs1 hP1 hD1 hS1 => ?_)
  have e2 : ent (eK E) ad (kd o) (va_up (r o) j (some o')) (h o) = .inl (eK E 3, len, .inr (.inr (.inr (.inr (va_up (fun i => (r o i).map ad) j (some (ad o'))))))) := by
    rw [hk]
    show Sum.inl (eK E 3, len, _) = _
    congr 7
    funext z
    by_cases hz : z = j
    · subst hz
      simp [va_up]
    · simp [va_up, hz]
  rw [e, ws_putR e2] at hP1 hD1
  exact kk H1 locs1 ls (refs_up hR ho') hP1 hD1 hS1 hl
theorem x_alen (a : Amb u d E) (pc : Nat) {o len : Nat} (hdg : decode u.2.1 pc = .ok (.arraylength, 1)) (hk : kd o = (0, len)) (ho : o < n) (kk : X E cl sl ad (n, kd, r, h) (pc + 1) lv (.inl (nI len) :: st)) : X E cl sl ad (n, kd, r, h) pc lv (.inr (some o) :: st) := by
  intro H locs ls hR hP hD hS hl
  refine va_alen (x := (len, .inl (h o))) (cA := eK E 0) a.x a.b a.k hP o 0 ?_ (ty := .int) rfl (v := nI len) rfl hdg (kk H locs ls hR hP hD hS hl)
  rw [ws_at ho]
  show some (ad o, ent _ _ (kd o) _ _) = _
  rw [hk]
  rfl
end XF
end
section
/-! making cells -/
section XN
variable {u : Mi} {d : Nat} {E : En} {cl sl : Nat} {ad : Nat → Nat} {n : Nat} {kd : Nat → Nat × Nat} {r : Nat → Nat → Option Nat} {h : Nat → Nat → Int32} {lv : List (Nat × AV)} {st : List AV}
/-- the frame's values speak of cells of the world, or of the script's (from 1000 on) -/
def okV (n : Nat) (v : AV) : Prop := ∀ o, v = .inr (some o) → o < n ∨ 1000 ≤ o
def okF (n : Nat) (lv : List (Nat × AV)) (st : List AV) : Prop := (∀ q ∈ lv, okV n q.2) ∧ ∀ v ∈ st, okV n v
theorem cv_okV {ad ad' : Nat → Nat} {v : AV} (hv : okV n v) (ha : ∀ o, o < n ∨ 1000 ≤ o → ad' o = ad o) : cv ad' v = cv ad v := by
  rcases v with x | o
  · rfl
  · cases o with
    | none => rfl
    | some o =>
      show Value.ref (ad' o) = Value.ref (ad o)
      rw [ha o (hv o rfl)]
theorem lvc_okF {ad ad' : Nat → Nat} {lv : List (Nat × AV)} (hv : ∀ q ∈ lv, okV n q.2) (ha : ∀ o, o < n ∨ 1000 ≤ o → ad' o = ad o) : lvc ad' lv = lvc ad lv := List.map_congr_left (fun q hq => by rw [cv_okV (hv q hq) ha])
theorem stc_okF {ad ad' : Nat → Nat} {st : List AV} (hv : ∀ v ∈ st, okV n v) (ha : ∀ o, o < n ∨ 1000 ≤ o → ad' o = ad o) : st.map (cv ad') = st.map (cv ad) := List.map_congr_left (fun q hq => cv_okV (hv q hq) ha)
theorem refs_new {k : Nat × Nat} (hR : RefsOK (n, kd, r, h)) : RefsOK (n + 1, va_up kd n k, va_up r n (fun _ => none), va_up h n (fun _ => 0)) := by
  intro j i o ho
  have ho : va_up r n (fun _ => none) j i = some o := ho
  show o < n + 1
  by_cases hj : j = n
  · subst hj
    rw [va_up_self] at ho
    cases ho
  · rw [va_up_ne _ _ hj] at ho
    exact Nat.lt_succ_of_lt (hR j i o ho)
theorem ad_new {q : Nat} (hn : n < 1000) : ∀ o, o < n ∨ 1000 ≤ o → va_up ad n q o = ad o := fun o ho => va_up_ne _ _ (by omega)
/-- the world with one cell more -/
def wNew (w : Wd) (k : Nat × Nat) : Wd := (w.1 + 1, va_up w.2.1 w.1 k, va_up w.2.2.1 w.1 (fun _ => none), va_up w.2.2.2 w.1 (fun _ => 0))
theorem x_new (a : Amb u d E) (pc : Nat) {index ci : Nat} (hdg : decode u.2.1 pc = .ok (.new index, 3)) (hlay : LayOK ci) (hcl : Cond.classLink u.1.cls index (cls ci).1 ∈ AllW) (hinst : Cond.instantiable (cls ci).1 (cls ci).2.2 ∈ AllW) (hini : Cond.initialized (cls ci).1 ∈ AllW)
    (hdf : ∀ j, j < (cls ci).2.2 → defaultValue (fT ci j) = vp_V (fsl (fun j => if j < nR ci then Value.null else .int 0) (nF ci)) j) (hn : n < 1000) (hok : okF n lv st) (hc : cl + 1 ≤ (eR E).cells) (hs : sl + (cls ci).2.2 ≤ (eR E).slots)
    (kk : ∀ ad', (∀ o, o < n ∨ 1000 ≤ o → ad' o = ad o) → X E (cl + 1) (sl + (cls ci).2.2) ad' (wNew (n, kd, r, h) (ci + 4, 0)) (pc + 3) lv (.inr (some n) :: st)) : X E cl sl ad (n, kd, r, h) pc lv st := by
  intro H locs ls hR hP hD hS hl
  obtain ⟨hcc, hin, hty, hnm, hN⟩ := hlay
  refine va_new (D := eD E) (ci := ci) (C := (cls ci).1) (T := (cls ci).2.1) (N := (cls ci).2.2) (fs := fsl (fun j => if j < nR ci then Value.null else .int 0) (nF ci)) a.x a.b a.ts hin (fT ci) hty a.own (a.ts _ hcl) (a.ts _ hinst) (a.ts _ hini) a.k hP hD hS a.fr hcc hdf hc hs hdg (fun q H1 hP1 hD1 hS1 => ?_)
  have had := ad_new (ad := ad) (q := q) hn
  have he : ent (eK E) ad (ci + 4, 0) (fun _ => none) (fun _ => 0) = .inr (ci, fsl (fun j => if j < nR ci then Value.null else .int 0) (nF ci)) := rfl
  rw [← he, ← ws_push (n := n) (q := q) (k := (ci + 4, 0)) hR] at hP1 hD1
  have e1 : (.ref q :: st.map (cv ad) : List Value) = ((.inr (some n) :: st : List AV)).map (cv (va_up ad n q)) := by
    rw [List.map_cons, stc_okF hok.2 had]
    show _ = Value.ref (va_up ad n q n) :: _
    rw [va_up_self]
  rw [e1]
  exact kk (va_up ad n q) had H1 locs ls (refs_new hR) hP1 hD1 hS1 (by rw [lvc_okF hok.1 had]; exact hl)
theorem tyL_int {cA : Nat → ClassId} {cB : ClassId} {D : va_G} {s : State} {ty : FieldType} (hK : va_K D classes (tyL cA) s) (hK1 : va_K D classes (tyL cA ++ [(cB, ty)]) s) (t : Nat) (ht : (tyL cA)[t]? = some (cA t, ty)) : cB = cA t := by
  have h1 := (hK.2 t _ ht).2
  have h2 := (hK1.2 4 (cB, ty) rfl).2
  cases ty with
  | object C =>
    obtain ⟨_, _, _, _, _, g1⟩ := h1
    obtain ⟨_, _, _, _, _, g2⟩ := h2
    exact Option.some.inj (g2.symm.trans g1)
  | _ => exact Option.some.inj (h2.symm.trans h1)
theorem x_newa (a : Amb u d E) (pc : Nat) {t N : Nat} {i : Int32} {atype : ArrayType} {ty : FieldType} (hdg : decode u.2.1 pc = .ok (.newarray atype, 2)) (hty : newarray.typeOf atype = ty) (ht : (t = 0 ∧ ty = .int) ∨ (t = 1 ∧ ty = .boolean)) (harr : Cond.arrayClass ty ∈ AllW) (hi : i = nI N) (hN : N ≤ 1000)
    (hn : n < 1000) (hok : okF n lv st) (hc : cl + 1 ≤ (eR E).cells) (hs : sl + N ≤ (eR E).slots)
    (kk : ∀ ad', (∀ o, o < n ∨ 1000 ≤ o → ad' o = ad o) → X E (cl + 1) (sl + N) ad' (wNew (n, kd, r, h) (t, N)) (pc + 2) lv (.inr (some n) :: st)) : X E cl sl ad (n, kd, r, h) pc lv (.inl i :: st) := by
  intro H locs ls hR hP hD hS hl
  subst hi
  have hcl : (nI N).toNatClampNeg = N := nI_clamp (by omega)
  have hdv : ∀ cA : ClassId, vp_cell cA ((N, .inl (fun _ => 0)) : vp_A) = arrV cA N (fun _ => defaultValue ty) := by
    intro cA
    rcases ht with ⟨-, rfl⟩ | ⟨-, rfl⟩ <;> rfl
  have hbytes : N * componentBytes ty ≤ 536870912 := by
    rcases ht with ⟨-, rfl⟩ | ⟨-, rfl⟩
    · show N * 4 ≤ _
      omega
    · show N * 1 ≤ _
      omega
  refine va_newa (a0 := (N, .inl (fun _ => 0))) a.x a.b (by rw [hty]; exact a.ts _ harr) hty a.k hP hD hS a.fr hdv (nI_pos (by omega)) hcl hbytes hc hs hdg (fun q cB H1 hK1 hP1 hD1 hS1 => ?_)
  have had := ad_new (ad := ad) (q := q) hn
  have hcB : cB = eK E t := tyL_int a.k hK1 t (by rcases ht with ⟨rfl, rfl⟩ | ⟨rfl, rfl⟩ <;> rfl)
  have he : ent (eK E) ad (t, N) (fun _ => none) (fun _ => 0) = .inl (cB, N, .inl (fun _ => 0)) := by
    rw [hcB]
    rcases ht with ⟨rfl, rfl⟩ | ⟨rfl, rfl⟩ <;> rfl
  rw [← he, ← ws_push (n := n) (q := q) (k := (t, N)) hR] at hP1 hD1
  have e1 : (.ref q :: st.map (cv ad) : List Value) = ((.inr (some n) :: st : List AV)).map (cv (va_up ad n q)) := by
    rw [List.map_cons, stc_okF hok.2 had]
    show _ = Value.ref (va_up ad n q n) :: _
    rw [va_up_self]
  rw [e1]
  exact kk (va_up ad n q) had H1 locs ls (refs_new hR) hP1 hD1 hS1 (by rw [lvc_okF hok.1 had]; exact hl)
theorem x_newq (a : Amb u d E) (pc : Nat) {index t N : Nat} {i : Int32} {C : String} (hdg : decode u.2.1 pc = .ok (.anewarray index, 3)) (hcl : Cond.classLink u.1.cls index C ∈ AllW) (hover : va_AO C (eS E)) (ht : (t = 2 ∧ C = R_2) ∨ (t = 3 ∧ C = R_3)) (hi : i = nI N) (hN : N ≤ 1000)
    (hn : n < 1000) (hok : okF n lv st) (hc : cl + 1 ≤ (eR E).cells) (hs : sl + N ≤ (eR E).slots)
    (kk : ∀ ad', (∀ o, o < n ∨ 1000 ≤ o → ad' o = ad o) → X E (cl + 1) (sl + N) ad' (wNew (n, kd, r, h) (t, N)) (pc + 3) lv (.inr (some n) :: st)) : X E cl sl ad (n, kd, r, h) pc lv (.inl i :: st) := by
  intro H locs ls hR hP hD hS hl
  subst hi
  have hcn : (nI N).toNatClampNeg = N := nI_clamp (by omega)
  refine va_newq a.x a.b a.own (a.ts _ hcl) hover a.k hP hD hS a.fr (nI_pos (by omega)) hcn (by omega) hc hs hdg (fun q cB H1 hK1 hP1 hD1 hS1 => ?_)
  have had := ad_new (ad := ad) (q := q) hn
  have hcB : cB = eK E t := tyL_int a.k hK1 t (by rcases ht with ⟨rfl, rfl⟩ | ⟨rfl, rfl⟩ <;> rfl)
  have he : ent (eK E) ad (t, N) (fun _ => none) (fun _ => 0) = .inl (cB, N, .inr (.inr (.inr (.inr (fun _ => none))))) := by
    rw [hcB]
    rcases ht with ⟨rfl, rfl⟩ | ⟨rfl, rfl⟩ <;> rfl
  rw [← he, ← ws_push (n := n) (q := q) (k := (t, N)) hR] at hP1 hD1
  have e1 : (.ref q :: st.map (cv ad) : List Value) = ((.inr (some n) :: st : List AV)).map (cv (va_up ad n q)) := by
    rw [List.map_cons, stc_okF hok.2 had]
    show _ = Value.ref (va_up ad n q n) :: _
    rw [va_up_self]
  rw [e1]
  exact kk (va_up ad n q) had H1 locs ls (refs_new hR) hP1 hD1 hS1 (by rw [lvc_okF hok.1 had]; exact hl)
end XN
/-! a method's contract -/
def QB (n0 mc : Nat) (D : va_G) (cA : Nat → ClassId) (ad0 : Nat → Nat) (A : Nat → Prop) (w : Wd) (t : State) : Prop := ∃ ad : Nat → Nat, (∀ o, o < n0 ∨ 1000 ≤ o → ad o = ad0 o) ∧ (mc = 0 → ad = ad0) ∧ RefsOK w ∧ va_P D classes (ws cA ad w) t.heap ∧ va_K D classes (tyL cA) t ∧ va_D A (ws cA ad w)
def QC (Post : Option Int32 → Wd → Prop) (B : Wd → State → Prop) (A : Nat → Prop) : Array Value → State → Outcome → State → Prop := fun _ s oc t => (∃ (v : Option Int32) (w : Wd), oc = .returned (v.map Value.int) ∧ Post v w ∧ B w t) ∧ va_F A s t
def PCo (D : va_G) (cA : Nat → ClassId) (ad : Nat → Nat) (w : Wd) (U : State) : Prop := RefsOK w ∧ va_P D classes (ws cA ad w) U.heap ∧ va_K D classes (tyL cA) U ∧ va_D (fun _ => True) (ws cA ad w) ∧ (∀ x ∈ NestW, va_Nw x U) ∧ va_AO R_2 U ∧ va_AO R_3 U
def wds (u : Mi) : List Cond := .code u.1 u.2.1 u.2.2.1 u.2.2.2 :: AllW
def Cn (u : Mi) (d mc ms : Nat) (w : Wd) (as : List AV) (Post : Option Int32 → Wd → Prop) : Prop :=
  ∀ (l : Launch) (D : va_G) (cA : Nat → ClassId) (ad : Nat → Nat) (sz : Nat), Met l u.1 (wds u) { frames := d, cells := mc, slots := ms, locals := 40 * d } (va_Pc (as.map (cv ad)) (fun U => U.heap.size = sz ∧ PCo D cA ad w U)) (QC Post (QB w.1 mc D cA ad (va_A (ws cA ad w) sz)) (va_A (ws cA ad w) sz)) mc ms (va_A (ws cA ad w) sz)
/-- the end that a method's contract asks -/
def Fin (Post : Option Int32 → Wd → Prop) (n0 : Nat) (ad0 : Nat → Nat) (mc ms : Nat) (E : En) : Prop := eQ E = MQ (eB E) (QC Post (QB n0 mc (eD E) (eK E) ad0 (eF E)) (eF E)) (eA E) (eS E) mc ms (eF E) ∧ mc ≤ (eR E).cells ∧ ms ≤ (eR E).slots ∧ va_AO R_2 (eS E) ∧ va_AO R_3 (eS E)
def argsL : Nat → List AV → List (Nat × AV)
  | _, [] => []
  | i, v :: vs => (i, v) :: argsL (i + 1) vs
theorem lvc_args (ad : Nat → Nat) : ∀ (as : List AV) (i : Nat), lv_args i (as.map (cv ad)) = lvc ad (argsL i as)
  | [], _ => rfl
  | v :: vs, i => by
    rw [List.map_cons]
    simp only [lv_args, cv_cat]
    rw [if_neg (by decide), lvc_args ad vs (i + 1)]
    rfl
theorem lg_len (ad : Nat → Nat) : ∀ as : List AV, (lg_sl (as.map (cv ad))).length = as.length
  | [] => rfl
  | v :: vs => by
    have ih := lg_len ad vs
    unfold lg_sl at ih ⊢
    rw [List.map_cons, List.flatMap_cons, cv_cat, if_neg (by decide), List.length_append, ih]
    simp
    omega
theorem Cn.of {u : Mi} {d mc ms : Nat} {w : Wd} {as : List AV} {Post : Option Int32 → Wd → Prop} (hy : plainName u.1.cls = true) (hlen : as.length ≤ u.2.2.1) (body : ∀ (E : En) (ad : Nat → Nat), Amb u d E → Fin Post w.1 ad mc ms E → X E 0 0 ad w 0 (argsL 0 as) []) : Cn u d mc ms w as Post := by
  intro l D cA ad sz
  refine Met.ofW (cc := u.2.1) (maxL := u.2.2.1) (ret := u.2.2.2) hy rfl ?_
  intro p e s m args below meth c s₁ B hml hv
  obtain ⟨rfl, hsz, hR, hP, hK, hD0, hns, h2, h3⟩ := hv
  have hts := atoms_spec (ws := wds u) B.pre
  subst hsz
  have hD := hD0.self (sz := s.heap.size)
  have a : Amb u d (p, l, e, (headSpec (wds u) { frames := d, cells := mc, slots := ms, locals := 40 * d }).room, s, m, (as.map (cv ad)).toArray, below, meth, c, D, cA, va_A (ws cA ad w) s.heap.size, MQ below (QC Post (QB w.1 mc D cA ad (va_A (ws cA ad w) s.heap.size)) (va_A (ws cA ad w) s.heap.size)) (as.map (cv ad)).toArray s mc ms (va_A (ws cA ad w) s.heap.size)) :=
    ⟨B.exec, B.bytes, B.returns, hml, B.notSynchronized, (name_of_methodNamed B.named B.method).1, findClass_of_methodNamed B.named, fun x hx => hts x (List.mem_cons_of_mem _ hx), hns, hK, fun q hq => Or.inr hq, Nat.le_refl _, Nat.le_refl _⟩
  have hl := lv_entry (as.map (cv ad)) (n := u.2.2.1) (by rw [lg_len]; exact hlen)
  rw [lg_entry_eq]
  rw [lvc_args] at hl
  exact body _ ad a ⟨rfl, Nat.le_refl _, Nat.le_refl _, h2, h3⟩ s.heap [] _ hR hP hD va_S.rf (by rw [a.ml]; exact hl)
section XE
variable {u : Mi} {d mc ms n0 : Nat} {E : En} {cl sl : Nat} {ad ad0 : Nat → Nat} {w : Wd} {lv : List (Nat × AV)} {Post : Option Int32 → Wd → Prop}
theorem x_end {H : Heap} {locs : List Loc} {v : Option Int32} (a : Amb u d E) (had : ∀ o, o < n0 ∨ 1000 ≤ o → ad o = ad0 o) (hm : mc = 0 → ad = ad0) (hp : Post v w) (hR : RefsOK w) (hP : va_P (eD E) classes (ws (eK E) ad w) H) (hD : va_D (eF E) (ws (eK E) ad w)) (hS : va_S (eF E) (eS E).heap H locs) : ∀ t : State, t.heap = H → (eS E).WarmedH t.vm → QC Post (QB n0 mc (eD E) (eK E) ad0 (eF E)) (eF E) (eA E) (eS E) (.returned (v.map Value.int)) t :=
  fun t ht hW => ⟨⟨v, w, rfl, hp, ad, had, hm, hR, by rw [ht]; exact hP, va_K.moved hW.alike a.k, hD⟩, hS.F ht⟩
/-- ends of methods that make nothing -/
theorem x_iret (a : Amb u d E) (q : Fin Post n0 ad 0 0 E) (pc : Nat) {v : Int32} (hdg : decode u.2.1 pc = .ok (.ireturn, 1)) (hr : u.2.2.2 = some .int) (hp : Post (some v) w) : X E 0 0 ad w pc lv [.inl v] := by
  intro H locs ls hR hP hD hS hl
  rw [q.1]
  exact W.iret a.x a.b (a.r.trans hr) (x_end (v := some v) a (fun _ _ => rfl) (fun _ => rfl) hp hR hP hD hS) hS.2.2 hdg a.lk
theorem x_zret (a : Amb u d E) (q : Fin Post n0 ad 0 0 E) (pc : Nat) {v : Int32} (hdg : decode u.2.1 pc = .ok (.ireturn, 1)) (hr : u.2.2.2 = some .boolean) (hv : narrow .boolean (.int v) = .int v) (hp : Post (some v) w) : X E 0 0 ad w pc lv [.inl v] := by
  intro H locs ls hR hP hD hS hl
  rw [q.1]
  exact W.zret a.x a.b (a.r.trans hr) hv (x_end (v := some v) a (fun _ _ => rfl) (fun _ => rfl) hp hR hP hD hS) hS.2.2 hdg a.lk
theorem x_vret (a : Amb u d E) (q : Fin Post n0 ad 0 0 E) (pc : Nat) (hdg : decode u.2.1 pc = .ok (.return_, 1)) (hr : u.2.2.2 = none) (hp : Post none w) : X E 0 0 ad w pc lv [] := by
  intro H locs ls hR hP hD hS hl
  rw [q.1]
  exact W.vret a.x a.b (a.r.trans hr) (x_end (v := none) a (fun _ _ => rfl) (fun _ => rfl) hp hR hP hD hS) hS.2.2 hdg a.lk
/-- the end of a constructor that makes cells -/
theorem x_vretN (a : Amb u d E) (q : Fin Post n0 ad0 mc ms E) (pc : Nat) (hdg : decode u.2.1 pc = .ok (.return_, 1)) (hr : u.2.2.2 = none) (had : ∀ o, o < n0 ∨ 1000 ≤ o → ad o = ad0 o) (hm : 0 < mc) (hc : cl ≤ mc) (hs : sl ≤ ms) (hp : Post none w) : X E cl sl ad w pc lv [] := by
  refine x_widen hc hs ?_
  intro H locs ls hR hP hD hS hl
  rw [q.1]
  exact W.vret a.x a.b (a.r.trans hr) (x_end (v := none) a had (fun z => by omega) hp hR hP hD hS) hS.2.2 hdg a.lk
end XE
/-! calls -/
theorem nest_warm {s U : State} (hW : s.WarmedH U.vm) (h : ∀ x ∈ NestW, va_Nw x s) : ∀ x ∈ NestW, va_Nw x U := NestW_warm hW h
theorem nest_same {s U : State} (hv : s.vm = U.vm) (h : ∀ x ∈ NestW, va_Nw x s) : ∀ x ∈ NestW, va_Nw x U := fun x hx => va_Nw.same (NestW_tab x hx) hv (h x hx)
theorem good_wds {u : Mi} (hc : Cond.code u.1 u.2.1 u.2.2.1 u.2.2.2 ∈ AllW) : GoodIn AllW (wds u) := by
  intro x hx
  rcases List.mem_cons.mp hx with rfl | hx
  · exact ⟨hc, Or.inl rfl⟩
  · exact ⟨hx, AllW_good x hx⟩
theorem pco_blind {D : va_G} {cA : Nat → ClassId} {ad : Nat → Nat} {w : Wd} {as : List AV} {sz : Nat} : FrameBlind (va_Pc (as.map (cv ad)) (fun U => U.heap.size = sz ∧ PCo D cA ad w U)) := by
  intro a U g mk q
  obtain ⟨q0, q1, qR, qP, qK, qD, qN, q2, q3⟩ := q
  exact ⟨q0, q1, qR, qP, va_K.moved (u := U) (U := U.calling g mk a) (Vm.Alike.refl U.vm) qK, qD, nest_same (s := U) (U := U.calling g mk a) rfl qN, va_AO.moved (u := U) (U := U.calling g mk a) (Vm.Alike.refl U.vm) q2, va_AO.moved (u := U) (U := U.calling g mk a) (Vm.Alike.refl U.vm) q3⟩
section XC
variable {u u' : Mi} {d d' mc ms mc' ms' n0 : Nat} {E : En} {cl sl : Nat} {ad ad0 : Nat → Nat} {w : Wd} {lv : List (Nat × AV)} {Post Post' : Option Int32 → Wd → Prop} {rest as : List AV}
theorem pco_here {H : Heap} (a : Amb u d E) (q2 : va_AO R_2 (eS E)) (q3 : va_AO R_3 (eS E)) (hR : RefsOK w) (hP : va_P (eD E) classes (ws (eK E) ad w) H) (hD : va_D (eF E) (ws (eK E) ad w)) : ∀ U : State, U.heap = H → (eS E).WarmedH U.vm → va_Pc (as.map (cv ad)) (fun U => U.heap.size = H.size ∧ PCo (eD E) (eK E) ad w U) (as.map (cv ad)).toArray U :=
  fun U hU hW => ⟨rfl, by rw [hU], hR, by rw [hU]; exact hP, va_K.moved hW.alike a.k, hD.weaken (fun _ _ _ _ => trivial), nest_warm hW a.ns, va_AO.moved hW.alike q2, va_AO.moved hW.alike q3⟩
/-- behind a call -/
theorem x_back {H : Heap} {locs : List Loc} {ls : Array Slot} {pc : Nat} {st0 : List Value} {av : Array Value} (a : Amb u d E) (hD : va_D (eF E) (ws (eK E) ad w)) (hS : va_S (eF E) (eS E).heap H locs) (hl : lv_has ls (eC E).maxLocals (lvc ad lv))
    (hr : va_Run (eP E) (eL E) (eE E) (eR E) (eS E) (eM E) (eA E) (eB E) (eT E) (eC E) H locs cl sl mc' ms' (F0 (eM E) pc ls st0) (rest.map (cv ad)) (QC Post' (QB w.1 mc' (eD E) (eK E) ad (va_A (ws (eK E) ad w) H.size)) (va_A (ws (eK E) ad w) H.size) av) (va_A (ws (eK E) ad w) H.size))
    (kk : ∀ v w' ad', (∀ o, o < w.1 ∨ 1000 ≤ o → ad' o = ad o) → (mc' = 0 → ad' = ad) → Post' v w' → lvc ad' lv = lvc ad lv ∧ rest.map (cv ad') = rest.map (cv ad) ∧ X E (cl + mc') (sl + ms') ad' w' (pc + 3) lv (v.toList.map .inl ++ rest)) :
    W (eP E) (eL E) (eE E) (eR E) (eS E) (eM E) (eA E) (eB E) (eT E) (eC E) H locs cl sl (eQ E) (F0 (eM E) pc ls st0) := by
  intro T hT Xs
  have hA : ∀ q, va_A (ws (eK E) ad w) H.size q → eF E q := by
    intro q hq
    rcases hq with ⟨k, e, hk⟩ | hq
    · exact hD.2 k _ hk
    · exact a.fr q (Nat.le_trans hS.1 hq)
  obtain ⟨v, st₀, t, T', L, h0, X', hL, e1, e2, ⟨⟨v', w', hv, hp, ad', g1, g2, g3, g4, g5, g6⟩, hz, hk⟩, st⟩ := hr T hT Xs
  cases hv
  rw [h0] at hz hk
  obtain ⟨k1, k2, k3⟩ := kk v' w' ad' g1 g2 hp
  have hS' : va_S (eF E) (eS E).heap T'.heap (locs ++ L) := ⟨Nat.le_trans hS.1 (by rw [e1]; exact hz), fun q h1 h2 => by rw [e1, hk q (Nat.lt_of_lt_of_le h1 hS.1) (fun z => h2 (hA q z))]; exact hS.2.1 q h1 h2, fun q hq => by
    rcases List.mem_append.mp hq with h | h
    · exact hS.2.2 q h
    · exact hA _ (hL q h)⟩
  have k4 := k3 T'.heap (locs ++ L) ls g3 (by rw [e1]; exact g4) (g6.weaken (fun _ q _ h => hA q.1 h)) hS' (by rw [k1]; exact hl)
  rw [List.map_append, k2] at k4
  have k5 : (v'.toList.map (Sum.inl : Int32 → AV)).map (cv ad') = (v'.map Value.int).toList := by cases v' <;> rfl
  rw [k5] at k4
  obtain ⟨t2, a1, b1⟩ := k4 T' rfl X'
  exact ⟨t2, st t2 a1, b1⟩
end XC
def CodeOK (u' : Mi) (n : Nat) : Prop := Cond.code u'.1 u'.2.1 u'.2.2.1 u'.2.2.2 ∈ AllW ∧ Cond.initialized u'.1.cls ∈ AllW ∧ u'.2.2.1 ≤ 21 ∧ u'.1.cls ≠ "java/lang/invoke/MethodHandle" ∧ u'.1.cls ≠ "java/lang/invoke/VarHandle" ∧ (parseMethodDescriptor u'.1.desc).map (fun d => d.parameters.length) = some n
def CallS (own : String) (index : Nat) (u' : Mi) (n : Nat) : Prop := CodeOK u' n ∧ Cond.methodLink own index u'.1 ∈ AllW ∧ Cond.static u'.1 ∈ AllW
def CallSN (own host : String) (index : Nat) (u' : Mi) (n : Nat) : Prop := CodeOK u' n ∧ Cond.methodLinkNest own index u'.1 host ∈ NestW ∧ Cond.static u'.1 ∈ AllW
def CallV (own : String) (index : Nat) (u' : Mi) (n ci : Nat) : Prop := CodeOK u' n ∧ Cond.methodLink own index u'.1 ∈ AllW ∧ Cond.instanceMethod u'.1 ∈ AllW ∧ Cond.selects u'.1.cls u'.1 u'.1 ∈ AllW ∧ classes[ci]? = some (cls ci) ∧ (cls ci).1 = u'.1.cls
def CallI (own : String) (index : Nat) (u' : Mi) (n : Nat) : Prop := CodeOK u' n ∧ Cond.methodLink own index u'.1 ∈ AllW ∧ Cond.instanceMethod u'.1 ∈ AllW ∧ u'.1.name = "<init>" ∧ u'.2.2.2 = none
theorem cat_sum (ad : Nat → Nat) : ∀ st : List AV, ((st.map (cv ad)).map fun v => v.category).sum = st.length
  | [] => rfl
  | v :: vs => by
    rw [List.map_cons, List.map_cons, List.sum_cons, cv_cat, cat_sum ad vs, List.length_cons]
    omega
section XC2
variable {u u' : Mi} {d d' mc' ms' : Nat} {E : En} {cl sl : Nat} {ad : Nat → Nat} {w : Wd} {lv : List (Nat × AV)} {Post' : Option Int32 → Wd → Prop} {rest as stk : List AV}
theorem x_callB {index n : Nat} {rm : Room} (a : Amb u d E) (hk : CodeOK u' n) (hl : (Cond.methodLink u.1.cls index u'.1).before (eA E) (eS E) = true) (hrm : rm = { frames := d', cells := mc', slots := ms', locals := 40 * d' }) (hd : d' + 1 ≤ d) : CallB (eR E) (eS E) (eA E) u.1.cls index u'.1 u'.2.1 u'.2.2.1 u'.2.2.2 (wds u') rm mc' ms' n := by
  obtain ⟨h1, h2, h3, h4⟩ := hk
  subst hrm
  have := a.fd
  have := a.l
  exact callB_of n a.ts (good_wds h1) rfl rfl rfl (a.ts _ h2) hl h4 ⟨by show d' + 1 ≤ _; omega, by show 8 + (u'.2.2.1 + 11) + 40 * d' ≤ _; omega⟩
theorem x_rev (ad : Nat → Nat) (hst : stk = as.reverse ++ rest) : stk.map (cv ad) = (as.map (cv ad)).reverse ++ rest.map (cv ad) := by
  rw [hst, List.map_append, List.map_reverse]
/-- a static call of a method that makes nothing -/
theorem x_callS (a : Amb u d E) (qa : va_AO R_2 (eS E) ∧ va_AO R_3 (eS E)) (pc : Nat) {index n : Nat} (hw : CallS u.1.cls index u' n) (hdg : decode u.2.1 pc = .ok (.invokestatic index, 3)) (hc : Cn u' d' 0 0 w as Post') (hst : stk = as.reverse ++ rest) (hn : as.length = n) (hd : d' + 1 ≤ d) (hrest : rest.length ≤ 8) (hcs : cl ≤ (eR E).cells ∧ sl ≤ (eR E).slots)
    (kk : ∀ v w', Post' v w' → X E cl sl ad w' (pc + 3) lv (v.toList.map .inl ++ rest)) : X E cl sl ad w pc lv stk := by
  intro H locs ls hR hP hD hS hl
  refine x_back (mc' := 0) (ms' := 0) (rest := rest) (Post' := Post') (w := w) (ad := ad) (lv := lv) (av := (as.map (cv ad)).toArray) a hD hS hl ?_ (fun v w' ad' _ h2 hp => by
    have h2 := h2 rfl
    subst h2
    exact ⟨rfl, rfl, kk v w' hp⟩)
  exact va_runS (Ts := AllW) (n := n) (nL := (eC E).maxLocals) ⟨a.x, a.b, rfl, a.own, a.ts⟩ (hc (eL E) (eD E) (eK E) ad H.size) ⟨x_callB a hw.1 (a.ts _ hw.2.1) rfl hd, a.ts _ hw.2.2⟩ ⟨pco_blind, pco_here a qa.1 qa.2 hR hP hD⟩ rfl (by rw [List.length_map]; exact hn) hl.1 (x_rev ad hst) (lv_room (by rw [cat_sum]; exact hrest)) hdg hcs
/-- the same, of a nest mate -/
theorem x_callSN (a : Amb u d E) (qa : va_AO R_2 (eS E) ∧ va_AO R_3 (eS E)) (pc : Nat) {index n : Nat} {host : String} (hw : CallSN u.1.cls host index u' n) (hdg : decode u.2.1 pc = .ok (.invokestatic index, 3)) (hc : Cn u' d' 0 0 w as Post') (hst : stk = as.reverse ++ rest) (hn : as.length = n) (hd : d' + 1 ≤ d) (hrest : rest.length ≤ 8) (hcs : cl ≤ (eR E).cells ∧ sl ≤ (eR E).slots)
    (kk : ∀ v w', Post' v w' → X E cl sl ad w' (pc + 3) lv (v.toList.map .inl ++ rest)) : X E cl sl ad w pc lv stk := by
  intro H locs ls hR hP hD hS hl
  refine x_back (mc' := 0) (ms' := 0) (rest := rest) (Post' := Post') (w := w) (ad := ad) (lv := lv) (av := (as.map (cv ad)).toArray) a hD hS hl ?_ (fun v w' ad' _ h2 hp => by
    have h2 := h2 rfl
    subst h2
    exact ⟨rfl, rfl, kk v w' hp⟩)
  obtain ⟨⟨h1, h2, h3, h4⟩, h5, h6⟩ := hw
  have hA := a.fd
  have hB := a.l
  exact va_runSN (Ts := AllW) (n := n) (nL := (eC E).maxLocals) ⟨a.x, a.b, rfl, a.own, a.ts⟩ (hc (eL E) (eD E) (eK E) ad H.size) ⟨va_cnB n a.ts (good_wds h1) rfl rfl rfl (a.ns _ h5) (a.ts _ h2) h4 ⟨by show d' + 1 ≤ _; omega, by show 8 + (u'.2.2.1 + 11) + 40 * d' ≤ _; omega⟩, a.ts _ h6, trivial⟩ ⟨pco_blind, pco_here a qa.1 qa.2 hR hP hD⟩ rfl (by rw [List.length_map]; exact hn) hl.1 (x_rev ad hst) (lv_room (by rw [cat_sum]; exact hrest)) hdg hcs
/-- a call of an object's method that makes nothing -/
theorem x_callV (a : Amb u d E) (qa : va_AO R_2 (eS E) ∧ va_AO R_3 (eS E)) (pc : Nat) {index n ci o : Nat} (hw : CallV u.1.cls index u' n ci) (hdg : decode u.2.1 pc = .ok (.invokevirtual index, 3)) (hc : Cn u' d' 0 0 w (.inr (some o) :: as) Post') (hst : stk = as.reverse ++ .inr (some o) :: rest) (hn : as.length = n) (hk : (w.2.1 o).1 = ci + 4) (ho : o < w.1) (hd : d' + 1 ≤ d) (hrest : rest.length ≤ 8) (hcs : cl ≤ (eR E).cells ∧ sl ≤ (eR E).slots)
    (kk : ∀ v w', Post' v w' → X E cl sl ad w' (pc + 3) lv (v.toList.map .inl ++ rest)) : X E cl sl ad w pc lv stk := by
  intro H locs ls hR hP hD hS hl
  refine x_back (mc' := 0) (ms' := 0) (rest := rest) (Post' := Post') (w := w) (ad := ad) (lv := lv) (av := ((.inr (some o) :: as : List AV).map (cv ad)).toArray) a hD hS hl ?_ (fun v w' ad' _ h2 hp => by
    have h2 := h2 rfl
    subst h2
    exact ⟨rfl, rfl, kk v w' hp⟩)
  obtain ⟨hcd, h5, h6, h7, h8, h9⟩ := hw
  have hcell := va_recv (q0 := o) (ci := ci) (q := cls ci) (fs := fsl (fun j => if j < nR ci then va_rf ((w.2.2.1 o j).map ad) else .int (w.2.2.2 o j)) (nF ci)) a.k hP h8 (by rw [ws_at ho, ent_obj hk])
  rw [h9] at hcell
  exact va_runV (Ts := AllW) (n := n) (nL := (eC E).maxLocals) (As := as.map (cv ad)) (b := ad o) (C := u'.1.cls) ⟨a.x, a.b, rfl, a.own, a.ts⟩ (hc (eL E) (eD E) (eK E) ad H.size) ⟨x_callB a hcd (a.ts _ h5) rfl hd, a.ts _ h6, a.ts _ h7⟩ ⟨pco_blind, hcell, pco_here a qa.1 qa.2 hR hP hD⟩ rfl (by rw [List.length_map]; exact hn) hl.1 (by rw [hst, List.map_append, List.map_reverse]; rfl) (lv_room (by rw [cat_sum]; exact hrest)) hdg hcs
/-- a constructor: cells may come -/
theorem x_callI (a : Amb u d E) (qa : va_AO R_2 (eS E) ∧ va_AO R_3 (eS E)) (pc : Nat) {index n o : Nat} (hw : CallI u.1.cls index u' n) (hdg : decode u.2.1 pc = .ok (.invokespecial index, 3)) (hc : Cn u' d' mc' ms' w (.inr (some o) :: as) Post') (hst : stk = as.reverse ++ .inr (some o) :: rest) (hn : as.length = n) (hd : d' + 1 ≤ d) (hrest : rest.length ≤ 8) (hok : okF w.1 lv rest) (hcs : cl + mc' ≤ (eR E).cells ∧ sl + ms' ≤ (eR E).slots)
    (kk : ∀ v w' ad', (∀ o, o < w.1 ∨ 1000 ≤ o → ad' o = ad o) → Post' v w' → X E (cl + mc') (sl + ms') ad' w' (pc + 3) lv (v.toList.map .inl ++ rest)) : X E cl sl ad w pc lv stk := by
  intro H locs ls hR hP hD hS hl
  refine x_back (mc' := mc') (ms' := ms') (rest := rest) (Post' := Post') (w := w) (ad := ad) (lv := lv) (av := ((.inr (some o) :: as : List AV).map (cv ad)).toArray) a hD hS hl ?_ (fun v w' ad' h1 _ hp => ⟨lvc_okF hok.1 h1, stc_okF hok.2 h1, kk v w' ad' h1 hp⟩)
  obtain ⟨hcd, h5, h6, h7, h8⟩ := hw
  have hB := x_callB (mc' := mc') (ms' := ms') (d' := d') a hcd (a.ts _ h5) rfl hd
  rw [h8] at hB
  exact va_runI (Ts := AllW) (n := n) (nL := (eC E).maxLocals) (As := as.map (cv ad)) (b := ad o) ⟨a.x, a.b, rfl, a.own, a.ts⟩ (hc (eL E) (eD E) (eK E) ad H.size) ⟨hB, h7, a.ts _ h6⟩ ⟨pco_blind, pco_here a qa.1 qa.2 hR hP hD⟩ rfl (by rw [List.length_map]; exact hn) hl.1 (by rw [hst, List.map_append, List.map_reverse]; rfl) (lv_room (by rw [cat_sum]; exact hrest)) hdg hcs
/-- Object's own constructor -/
theorem x_objInit (a : Amb u d E) (pc : Nat) {index o : Nat} (hdg : decode u.2.1 pc = .ok (.invokespecial index, 3)) (hl1 : Cond.methodLink u.1.cls index Lib.objectInit ∈ AllW) (hl2 : Cond.instanceMethod Lib.objectInit ∈ AllW) (hl3 : Cond.code Lib.objectInit ⟨#[0xb1]⟩ 1 none ∈ AllW) (hd : 1 ≤ d) (hrest : rest.length ≤ 8) (kk : X E cl sl ad w (pc + 3) lv rest) : X E cl sl ad w pc lv (.inr (some o) :: rest) := by
  intro H locs ls hR hP hD hS hl
  have hA := a.fd
  have hB := a.l
  refine W.objInit a.x a.b a.own (a.ts _ hl1) (a.ts _ hl2) (a.ts _ hl3) rfl hl.1 rfl hdg (by omega) ?_ (kk H locs ls hR hP hD hS hl)
  show 2 * 0 + ((rest.map (cv ad)).map fun v => v.category).sum + 12 ≤ _
  rw [cat_sum]
  omega
theorem x_min (a : Amb u d E) (pc : Nat) {index : Nat} {x y : Int32} (hdg : decode u.2.1 pc = .ok (.invokestatic index, 3)) (hl1 : Cond.methodLink u.1.cls index Lib.Math.min.name ∈ AllW) (hl2 : Cond.static Lib.Math.min.name ∈ AllW) (hl3 : Cond.initialized "java/lang/Math" ∈ AllW) (hl4 : Cond.code Lib.Math.min.name Lib.Math.min.code 2 (some .int) ∈ AllW) (hd : 1 ≤ d) (hrest : rest.length ≤ 8) (hcs : cl ≤ (eR E).cells ∧ sl ≤ (eR E).slots) (kk : X E cl sl ad w (pc + 3) lv (.inl (if y < x then y else x) :: rest)) : X E cl sl ad w pc lv (.inl y :: .inl x :: rest) := by
  intro H locs ls hR hP hD hS hl
  have hA := a.fd
  have hB := a.l
  refine va_mmin a.x a.b hl.1.symm a.own (a.ts _ hl1) (a.ts _ hl2) (a.ts _ hl3) (a.ts _ hl4) (by omega) ?_ hcs.1 hcs.2 hdg (kk H locs ls hR hP hD hS hl)
  rw [cat_sum]
  omega
end XC2
end
section
theorem d_D_init_0 : decode u_D_init.2.1 0 = .ok (.aload_n 0, 1) := by decide +kernel
theorem d_D_init_1 : decode u_D_init.2.1 1 = .ok (.invokespecial 1, 3) := by decide +kernel
theorem d_D_init_4 : decode u_D_init.2.1 4 = .ok (.aload_n 0, 1) := by decide +kernel
theorem d_D_init_5 : decode u_D_init.2.1 5 = .ok (.bipush 64, 2) := by decide +kernel
theorem d_D_init_7 : decode u_D_init.2.1 7 = .ok (.newarray .int, 2) := by decide +kernel
theorem d_D_init_9 : decode u_D_init.2.1 9 = .ok (.putfield 9, 3) := by decide +kernel
theorem d_D_init_12 : decode u_D_init.2.1 12 = .ok (.aload_n 0, 1) := by decide +kernel
theorem d_D_init_13 : decode u_D_init.2.1 13 = .ok (.iconst 4, 1) := by decide +kernel
theorem d_D_init_14 : decode u_D_init.2.1 14 = .ok (.anewarray 13, 3) := by decide +kernel
theorem d_D_init_17 : decode u_D_init.2.1 17 = .ok (.putfield 15, 3) := by decide +kernel
theorem d_D_init_20 : decode u_D_init.2.1 20 = .ok (.iconst 0, 1) := by decide +kernel
theorem d_D_init_21 : decode u_D_init.2.1 21 = .ok (.istore_n 1, 1) := by decide +kernel
theorem d_D_init_22 : decode u_D_init.2.1 22 = .ok (.iload_n 1, 1) := by decide +kernel
theorem d_D_init_23 : decode u_D_init.2.1 23 = .ok (.iconst 4, 1) := by decide +kernel
theorem d_D_init_24 : decode u_D_init.2.1 24 = .ok (.if_icmp .ge 22, 3) := by decide +kernel
theorem d_D_init_27 : decode u_D_init.2.1 27 = .ok (.aload_n 0, 1) := by decide +kernel
theorem d_D_init_28 : decode u_D_init.2.1 28 = .ok (.getfield 15, 3) := by decide +kernel
theorem d_D_init_31 : decode u_D_init.2.1 31 = .ok (.iload_n 1, 1) := by decide +kernel
theorem d_D_init_32 : decode u_D_init.2.1 32 = .ok (.new 13, 3) := by decide +kernel
theorem d_D_init_35 : decode u_D_init.2.1 35 = .ok (.dup, 1) := by decide +kernel
theorem d_D_init_36 : decode u_D_init.2.1 36 = .ok (.invokespecial 19, 3) := by decide +kernel
theorem d_D_init_39 : decode u_D_init.2.1 39 = .ok (.aastore, 1) := by decide +kernel
theorem d_D_init_40 : decode u_D_init.2.1 40 = .ok (.iinc 1 1, 3) := by decide +kernel
theorem d_D_init_43 : decode u_D_init.2.1 43 = .ok (.goto (-21), 3) := by decide +kernel
theorem d_D_init_46 : decode u_D_init.2.1 46 = .ok (.aload_n 0, 1) := by decide +kernel
theorem d_D_init_47 : decode u_D_init.2.1 47 = .ok (.bipush 6, 2) := by decide +kernel
theorem d_D_init_49 : decode u_D_init.2.1 49 = .ok (.anewarray 20, 3) := by decide +kernel
theorem d_D_init_52 : decode u_D_init.2.1 52 = .ok (.putfield 22, 3) := by decide +kernel
theorem d_D_init_55 : decode u_D_init.2.1 55 = .ok (.iconst 0, 1) := by decide +kernel
theorem d_D_init_56 : decode u_D_init.2.1 56 = .ok (.istore_n 1, 1) := by decide +kernel
theorem d_D_init_57 : decode u_D_init.2.1 57 = .ok (.iload_n 1, 1) := by decide +kernel
theorem d_D_init_58 : decode u_D_init.2.1 58 = .ok (.bipush 6, 2) := by decide +kernel
theorem d_D_init_60 : decode u_D_init.2.1 60 = .ok (.if_icmp .ge 22, 3) := by decide +kernel
theorem d_D_init_63 : decode u_D_init.2.1 63 = .ok (.aload_n 0, 1) := by decide +kernel
theorem d_D_init_64 : decode u_D_init.2.1 64 = .ok (.getfield 22, 3) := by decide +kernel
theorem d_D_init_67 : decode u_D_init.2.1 67 = .ok (.iload_n 1, 1) := by decide +kernel
theorem d_D_init_68 : decode u_D_init.2.1 68 = .ok (.new 20, 3) := by decide +kernel
theorem d_D_init_71 : decode u_D_init.2.1 71 = .ok (.dup, 1) := by decide +kernel
theorem d_D_init_72 : decode u_D_init.2.1 72 = .ok (.invokespecial 26, 3) := by decide +kernel
theorem d_D_init_75 : decode u_D_init.2.1 75 = .ok (.aastore, 1) := by decide +kernel
theorem d_D_init_76 : decode u_D_init.2.1 76 = .ok (.iinc 1 1, 3) := by decide +kernel
theorem d_D_init_79 : decode u_D_init.2.1 79 = .ok (.goto (-22), 3) := by decide +kernel
theorem d_D_init_82 : decode u_D_init.2.1 82 = .ok (.aload_n 0, 1) := by decide +kernel
theorem d_D_init_83 : decode u_D_init.2.1 83 = .ok (.new 27, 3) := by decide +kernel
theorem d_D_init_86 : decode u_D_init.2.1 86 = .ok (.dup, 1) := by decide +kernel
theorem d_D_init_87 : decode u_D_init.2.1 87 = .ok (.invokespecial 29, 3) := by decide +kernel
theorem d_D_init_90 : decode u_D_init.2.1 90 = .ok (.putfield 30, 3) := by decide +kernel
theorem d_D_init_93 : decode u_D_init.2.1 93 = .ok (.aload_n 0, 1) := by decide +kernel
theorem d_D_init_94 : decode u_D_init.2.1 94 = .ok (.iconst 0, 1) := by decide +kernel
theorem d_D_init_95 : decode u_D_init.2.1 95 = .ok (.putfield 34, 3) := by decide +kernel
theorem d_D_init_98 : decode u_D_init.2.1 98 = .ok (.aload_n 0, 1) := by decide +kernel
theorem d_D_init_99 : decode u_D_init.2.1 99 = .ok (.iconst 0, 1) := by decide +kernel
theorem d_D_init_100 : decode u_D_init.2.1 100 = .ok (.putfield 38, 3) := by decide +kernel
theorem d_D_init_103 : decode u_D_init.2.1 103 = .ok (.return_, 1) := by decide +kernel
theorem d_D_region_0 : decode u_D_region.2.1 0 = .ok (.iload_n 1, 1) := by decide +kernel
theorem d_D_region_1 : decode u_D_region.2.1 1 = .ok (.invokestatic 42, 3) := by decide +kernel
theorem d_D_region_4 : decode u_D_region.2.1 4 = .ok (.ifCond .eq 14, 3) := by decide +kernel
theorem d_D_region_7 : decode u_D_region.2.1 7 = .ok (.iload_n 3, 1) := by decide +kernel
theorem d_D_region_8 : decode u_D_region.2.1 8 = .ok (.iconst 1, 1) := by decide +kernel
theorem d_D_region_9 : decode u_D_region.2.1 9 = .ok (.if_icmp .lt 9, 3) := by decide +kernel
theorem d_D_region_12 : decode u_D_region.2.1 12 = .ok (.iload_n 3, 1) := by decide +kernel
theorem d_D_region_13 : decode u_D_region.2.1 13 = .ok (.bipush 32, 2) := by decide +kernel
theorem d_D_region_15 : decode u_D_region.2.1 15 = .ok (.if_icmp .le 5, 3) := by decide +kernel
theorem d_D_region_18 : decode u_D_region.2.1 18 = .ok (.iconst 0, 1) := by decide +kernel
theorem d_D_region_19 : decode u_D_region.2.1 19 = .ok (.ireturn, 1) := by decide +kernel
theorem d_D_region_20 : decode u_D_region.2.1 20 = .ok (.iload_n 2, 1) := by decide +kernel
theorem d_D_region_21 : decode u_D_region.2.1 21 = .ok (.ifCond .lt 11, 3) := by decide +kernel
theorem d_D_region_24 : decode u_D_region.2.1 24 = .ok (.iload_n 2, 1) := by decide +kernel
theorem d_D_region_25 : decode u_D_region.2.1 25 = .ok (.bipush 64, 2) := by decide +kernel
theorem d_D_region_27 : decode u_D_region.2.1 27 = .ok (.iload_n 3, 1) := by decide +kernel
theorem d_D_region_28 : decode u_D_region.2.1 28 = .ok (.isub, 1) := by decide +kernel
theorem d_D_region_29 : decode u_D_region.2.1 29 = .ok (.if_icmp .le 5, 3) := by decide +kernel
theorem d_D_region_32 : decode u_D_region.2.1 32 = .ok (.iconst 0, 1) := by decide +kernel
theorem d_D_region_33 : decode u_D_region.2.1 33 = .ok (.ireturn, 1) := by decide +kernel
theorem d_D_region_34 : decode u_D_region.2.1 34 = .ok (.aload_n 0, 1) := by decide +kernel
theorem d_D_region_35 : decode u_D_region.2.1 35 = .ok (.getfield 15, 3) := by decide +kernel
theorem d_D_region_38 : decode u_D_region.2.1 38 = .ok (.iload_n 1, 1) := by decide +kernel
theorem d_D_region_39 : decode u_D_region.2.1 39 = .ok (.aaload, 1) := by decide +kernel
theorem d_D_region_40 : decode u_D_region.2.1 40 = .ok (.iload_n 2, 1) := by decide +kernel
theorem d_D_region_41 : decode u_D_region.2.1 41 = .ok (.putfield 46, 3) := by decide +kernel
theorem d_D_region_44 : decode u_D_region.2.1 44 = .ok (.aload_n 0, 1) := by decide +kernel
theorem d_D_region_45 : decode u_D_region.2.1 45 = .ok (.getfield 15, 3) := by decide +kernel
theorem d_D_region_48 : decode u_D_region.2.1 48 = .ok (.iload_n 1, 1) := by decide +kernel
theorem d_D_region_49 : decode u_D_region.2.1 49 = .ok (.aaload, 1) := by decide +kernel
theorem d_D_region_50 : decode u_D_region.2.1 50 = .ok (.iload_n 3, 1) := by decide +kernel
theorem d_D_region_51 : decode u_D_region.2.1 51 = .ok (.putfield 49, 3) := by decide +kernel
theorem d_D_region_54 : decode u_D_region.2.1 54 = .ok (.aload_n 0, 1) := by decide +kernel
theorem d_D_region_55 : decode u_D_region.2.1 55 = .ok (.iconst 0, 1) := by decide +kernel
theorem d_D_region_56 : decode u_D_region.2.1 56 = .ok (.putfield 38, 3) := by decide +kernel
theorem d_D_region_59 : decode u_D_region.2.1 59 = .ok (.iconst 1, 1) := by decide +kernel
theorem d_D_region_60 : decode u_D_region.2.1 60 = .ok (.ireturn, 1) := by decide +kernel
theorem d_D_window_0 : decode u_D_window.2.1 0 = .ok (.iload_n 1, 1) := by decide +kernel
theorem d_D_window_1 : decode u_D_window.2.1 1 = .ok (.invokestatic 42, 3) := by decide +kernel
theorem d_D_window_4 : decode u_D_window.2.1 4 = .ok (.ifCond .eq 24, 3) := by decide +kernel
theorem d_D_window_7 : decode u_D_window.2.1 7 = .ok (.iload_n 2, 1) := by decide +kernel
theorem d_D_window_8 : decode u_D_window.2.1 8 = .ok (.iconst 1, 1) := by decide +kernel
theorem d_D_window_9 : decode u_D_window.2.1 9 = .ok (.if_icmp .lt 19, 3) := by decide +kernel
theorem d_D_window_12 : decode u_D_window.2.1 12 = .ok (.iload_n 2, 1) := by decide +kernel
theorem d_D_window_13 : decode u_D_window.2.1 13 = .ok (.bipush 9, 2) := by decide +kernel
theorem d_D_window_15 : decode u_D_window.2.1 15 = .ok (.if_icmp .gt 13, 3) := by decide +kernel
theorem d_D_window_18 : decode u_D_window.2.1 18 = .ok (.aload_n 0, 1) := by decide +kernel
theorem d_D_window_19 : decode u_D_window.2.1 19 = .ok (.getfield 30, 3) := by decide +kernel
theorem d_D_window_22 : decode u_D_window.2.1 22 = .ok (.invokevirtual 52, 3) := by decide +kernel
theorem d_D_window_25 : decode u_D_window.2.1 25 = .ok (.ifCond .eq 5, 3) := by decide +kernel
theorem d_D_window_28 : decode u_D_window.2.1 28 = .ok (.iconst 0, 1) := by decide +kernel
theorem d_D_window_29 : decode u_D_window.2.1 29 = .ok (.ireturn, 1) := by decide +kernel
theorem d_D_window_30 : decode u_D_window.2.1 30 = .ok (.aload_n 0, 1) := by decide +kernel
theorem d_D_window_31 : decode u_D_window.2.1 31 = .ok (.getfield 30, 3) := by decide +kernel
theorem d_D_window_34 : decode u_D_window.2.1 34 = .ok (.iload_n 1, 1) := by decide +kernel
theorem d_D_window_35 : decode u_D_window.2.1 35 = .ok (.iload_n 2, 1) := by decide +kernel
theorem d_D_window_36 : decode u_D_window.2.1 36 = .ok (.invokevirtual 56, 3) := by decide +kernel
theorem d_D_window_39 : decode u_D_window.2.1 39 = .ok (.aload_n 0, 1) := by decide +kernel
theorem d_D_window_40 : decode u_D_window.2.1 40 = .ok (.iconst 0, 1) := by decide +kernel
theorem d_D_window_41 : decode u_D_window.2.1 41 = .ok (.putfield 38, 3) := by decide +kernel
theorem d_D_window_44 : decode u_D_window.2.1 44 = .ok (.iconst 1, 1) := by decide +kernel
theorem d_D_window_45 : decode u_D_window.2.1 45 = .ok (.ireturn, 1) := by decide +kernel
theorem d_D_port_0 : decode u_D_port.2.1 0 = .ok (.iload_n 1, 1) := by decide +kernel
theorem d_D_port_1 : decode u_D_port.2.1 1 = .ok (.invokestatic 42, 3) := by decide +kernel
theorem d_D_port_4 : decode u_D_port.2.1 4 = .ok (.ifCond .eq 15, 3) := by decide +kernel
theorem d_D_port_7 : decode u_D_port.2.1 7 = .ok (.iload_n 2, 1) := by decide +kernel
theorem d_D_port_8 : decode u_D_port.2.1 8 = .ok (.invokestatic 42, 3) := by decide +kernel
theorem d_D_port_11 : decode u_D_port.2.1 11 = .ok (.ifCond .eq 8, 3) := by decide +kernel
theorem d_D_port_14 : decode u_D_port.2.1 14 = .ok (.iload_n 1, 1) := by decide +kernel
theorem d_D_port_15 : decode u_D_port.2.1 15 = .ok (.iload_n 2, 1) := by decide +kernel
theorem d_D_port_16 : decode u_D_port.2.1 16 = .ok (.if_icmp .ne 5, 3) := by decide +kernel
theorem d_D_port_19 : decode u_D_port.2.1 19 = .ok (.iconst (-1), 1) := by decide +kernel
theorem d_D_port_20 : decode u_D_port.2.1 20 = .ok (.ireturn, 1) := by decide +kernel
theorem d_D_port_21 : decode u_D_port.2.1 21 = .ok (.iload_n 3, 1) := by decide +kernel
theorem d_D_port_22 : decode u_D_port.2.1 22 = .ok (.ifCond .lt 17, 3) := by decide +kernel
theorem d_D_port_25 : decode u_D_port.2.1 25 = .ok (.iload_n 3, 1) := by decide +kernel
theorem d_D_port_26 : decode u_D_port.2.1 26 = .ok (.iconst 4, 1) := by decide +kernel
theorem d_D_port_27 : decode u_D_port.2.1 27 = .ok (.if_icmp .gt 12, 3) := by decide +kernel
theorem d_D_port_30 : decode u_D_port.2.1 30 = .ok (.aload_n 0, 1) := by decide +kernel
theorem d_D_port_31 : decode u_D_port.2.1 31 = .ok (.getfield 34, 3) := by decide +kernel
theorem d_D_port_34 : decode u_D_port.2.1 34 = .ok (.bipush 6, 2) := by decide +kernel
theorem d_D_port_36 : decode u_D_port.2.1 36 = .ok (.if_icmp .lt 5, 3) := by decide +kernel
theorem d_D_port_39 : decode u_D_port.2.1 39 = .ok (.iconst (-1), 1) := by decide +kernel
theorem d_D_port_40 : decode u_D_port.2.1 40 = .ok (.ireturn, 1) := by decide +kernel
theorem d_D_port_41 : decode u_D_port.2.1 41 = .ok (.aload_n 0, 1) := by decide +kernel
theorem d_D_port_42 : decode u_D_port.2.1 42 = .ok (.getfield 34, 3) := by decide +kernel
theorem d_D_port_45 : decode u_D_port.2.1 45 = .ok (.istore 4, 2) := by decide +kernel
theorem d_D_port_47 : decode u_D_port.2.1 47 = .ok (.aload_n 0, 1) := by decide +kernel
theorem d_D_port_48 : decode u_D_port.2.1 48 = .ok (.getfield 22, 3) := by decide +kernel
theorem d_D_port_51 : decode u_D_port.2.1 51 = .ok (.iload 4, 2) := by decide +kernel
theorem d_D_port_53 : decode u_D_port.2.1 53 = .ok (.aaload, 1) := by decide +kernel
theorem d_D_port_54 : decode u_D_port.2.1 54 = .ok (.iload_n 1, 1) := by decide +kernel
theorem d_D_port_55 : decode u_D_port.2.1 55 = .ok (.putfield 60, 3) := by decide +kernel
theorem d_D_port_58 : decode u_D_port.2.1 58 = .ok (.aload_n 0, 1) := by decide +kernel
theorem d_D_port_59 : decode u_D_port.2.1 59 = .ok (.getfield 22, 3) := by decide +kernel
theorem d_D_port_62 : decode u_D_port.2.1 62 = .ok (.iload 4, 2) := by decide +kernel
theorem d_D_port_64 : decode u_D_port.2.1 64 = .ok (.aaload, 1) := by decide +kernel
theorem d_D_port_65 : decode u_D_port.2.1 65 = .ok (.iload_n 2, 1) := by decide +kernel
theorem d_D_port_66 : decode u_D_port.2.1 66 = .ok (.putfield 61, 3) := by decide +kernel
theorem d_D_port_69 : decode u_D_port.2.1 69 = .ok (.aload_n 0, 1) := by decide +kernel
theorem d_D_port_70 : decode u_D_port.2.1 70 = .ok (.getfield 22, 3) := by decide +kernel
theorem d_D_port_73 : decode u_D_port.2.1 73 = .ok (.iload 4, 2) := by decide +kernel
theorem d_D_port_75 : decode u_D_port.2.1 75 = .ok (.aaload, 1) := by decide +kernel
theorem d_D_port_76 : decode u_D_port.2.1 76 = .ok (.iload_n 3, 1) := by decide +kernel
theorem d_D_port_77 : decode u_D_port.2.1 77 = .ok (.putfield 64, 3) := by decide +kernel
theorem d_D_port_80 : decode u_D_port.2.1 80 = .ok (.aload_n 0, 1) := by decide +kernel
theorem d_D_port_81 : decode u_D_port.2.1 81 = .ok (.dup, 1) := by decide +kernel
theorem d_D_port_82 : decode u_D_port.2.1 82 = .ok (.getfield 34, 3) := by decide +kernel
theorem d_D_port_85 : decode u_D_port.2.1 85 = .ok (.iconst 1, 1) := by decide +kernel
theorem d_D_port_86 : decode u_D_port.2.1 86 = .ok (.iadd, 1) := by decide +kernel
theorem d_D_port_87 : decode u_D_port.2.1 87 = .ok (.putfield 34, 3) := by decide +kernel
theorem d_D_port_90 : decode u_D_port.2.1 90 = .ok (.aload_n 0, 1) := by decide +kernel
theorem d_D_port_91 : decode u_D_port.2.1 91 = .ok (.iconst 0, 1) := by decide +kernel
theorem d_D_port_92 : decode u_D_port.2.1 92 = .ok (.putfield 38, 3) := by decide +kernel
theorem d_D_port_95 : decode u_D_port.2.1 95 = .ok (.iload 4, 2) := by decide +kernel
theorem d_D_port_97 : decode u_D_port.2.1 97 = .ok (.ireturn, 1) := by decide +kernel
theorem d_D_action_0 : decode u_D_action.2.1 0 = .ok (.iload_n 1, 1) := by decide +kernel
theorem d_D_action_1 : decode u_D_action.2.1 1 = .ok (.invokestatic 42, 3) := by decide +kernel
theorem d_D_action_4 : decode u_D_action.2.1 4 = .ok (.ifCond .eq 22, 3) := by decide +kernel
theorem d_D_action_7 : decode u_D_action.2.1 7 = .ok (.iload_n 2, 1) := by decide +kernel
theorem d_D_action_8 : decode u_D_action.2.1 8 = .ok (.iconst 1, 1) := by decide +kernel
theorem d_D_action_9 : decode u_D_action.2.1 9 = .ok (.if_icmp .lt 17, 3) := by decide +kernel
theorem d_D_action_12 : decode u_D_action.2.1 12 = .ok (.iload_n 2, 1) := by decide +kernel
theorem d_D_action_13 : decode u_D_action.2.1 13 = .ok (.iconst 4, 1) := by decide +kernel
theorem d_D_action_14 : decode u_D_action.2.1 14 = .ok (.if_icmp .gt 12, 3) := by decide +kernel
theorem d_D_action_17 : decode u_D_action.2.1 17 = .ok (.iload_n 3, 1) := by decide +kernel
theorem d_D_action_18 : decode u_D_action.2.1 18 = .ok (.ifCond .lt 8, 3) := by decide +kernel
theorem d_D_action_21 : decode u_D_action.2.1 21 = .ok (.iload_n 3, 1) := by decide +kernel
theorem d_D_action_22 : decode u_D_action.2.1 22 = .ok (.iconst 2, 1) := by decide +kernel
theorem d_D_action_23 : decode u_D_action.2.1 23 = .ok (.if_icmp .le 5, 3) := by decide +kernel
theorem d_D_action_26 : decode u_D_action.2.1 26 = .ok (.iconst 0, 1) := by decide +kernel
theorem d_D_action_27 : decode u_D_action.2.1 27 = .ok (.ireturn, 1) := by decide +kernel
theorem d_D_action_28 : decode u_D_action.2.1 28 = .ok (.aload_n 0, 1) := by decide +kernel
theorem d_D_action_29 : decode u_D_action.2.1 29 = .ok (.getfield 15, 3) := by decide +kernel
theorem d_D_action_32 : decode u_D_action.2.1 32 = .ok (.iload_n 1, 1) := by decide +kernel
theorem d_D_action_33 : decode u_D_action.2.1 33 = .ok (.aaload, 1) := by decide +kernel
theorem d_D_action_34 : decode u_D_action.2.1 34 = .ok (.getfield 67, 3) := by decide +kernel
theorem d_D_action_37 : decode u_D_action.2.1 37 = .ok (.iload_n 2, 1) := by decide +kernel
theorem d_D_action_38 : decode u_D_action.2.1 38 = .ok (.iconst 1, 1) := by decide +kernel
theorem d_D_action_39 : decode u_D_action.2.1 39 = .ok (.isub, 1) := by decide +kernel
theorem d_D_action_40 : decode u_D_action.2.1 40 = .ok (.iload_n 3, 1) := by decide +kernel
theorem d_D_action_41 : decode u_D_action.2.1 41 = .ok (.iastore, 1) := by decide +kernel
theorem d_D_action_42 : decode u_D_action.2.1 42 = .ok (.aload_n 0, 1) := by decide +kernel
theorem d_D_action_43 : decode u_D_action.2.1 43 = .ok (.iconst 0, 1) := by decide +kernel
theorem d_D_action_44 : decode u_D_action.2.1 44 = .ok (.putfield 38, 3) := by decide +kernel
theorem d_D_action_47 : decode u_D_action.2.1 47 = .ok (.iconst 1, 1) := by decide +kernel
theorem d_D_action_48 : decode u_D_action.2.1 48 = .ok (.ireturn, 1) := by decide +kernel
theorem d_D_code_0 : decode u_D_code.2.1 0 = .ok (.iload_n 1, 1) := by decide +kernel
theorem d_D_code_1 : decode u_D_code.2.1 1 = .ok (.invokestatic 42, 3) := by decide +kernel
theorem d_D_code_4 : decode u_D_code.2.1 4 = .ok (.ifCond .eq 13, 3) := by decide +kernel
theorem d_D_code_7 : decode u_D_code.2.1 7 = .ok (.iload_n 2, 1) := by decide +kernel
theorem d_D_code_8 : decode u_D_code.2.1 8 = .ok (.ifCond .lt 9, 3) := by decide +kernel
theorem d_D_code_11 : decode u_D_code.2.1 11 = .ok (.iload_n 2, 1) := by decide +kernel
theorem d_D_code_12 : decode u_D_code.2.1 12 = .ok (.bipush 16, 2) := by decide +kernel
theorem d_D_code_14 : decode u_D_code.2.1 14 = .ok (.if_icmp .lt 5, 3) := by decide +kernel
theorem d_D_code_17 : decode u_D_code.2.1 17 = .ok (.iconst 0, 1) := by decide +kernel
theorem d_D_code_18 : decode u_D_code.2.1 18 = .ok (.ireturn, 1) := by decide +kernel
theorem d_D_code_19 : decode u_D_code.2.1 19 = .ok (.aload_n 0, 1) := by decide +kernel
theorem d_D_code_20 : decode u_D_code.2.1 20 = .ok (.getfield 15, 3) := by decide +kernel
theorem d_D_code_23 : decode u_D_code.2.1 23 = .ok (.iload_n 1, 1) := by decide +kernel
theorem d_D_code_24 : decode u_D_code.2.1 24 = .ok (.aaload, 1) := by decide +kernel
theorem d_D_code_25 : decode u_D_code.2.1 25 = .ok (.getfield 70, 3) := by decide +kernel
theorem d_D_code_28 : decode u_D_code.2.1 28 = .ok (.iload_n 2, 1) := by decide +kernel
theorem d_D_code_29 : decode u_D_code.2.1 29 = .ok (.iload_n 3, 1) := by decide +kernel
theorem d_D_code_30 : decode u_D_code.2.1 30 = .ok (.iastore, 1) := by decide +kernel
theorem d_D_code_31 : decode u_D_code.2.1 31 = .ok (.aload_n 0, 1) := by decide +kernel
theorem d_D_code_32 : decode u_D_code.2.1 32 = .ok (.getfield 15, 3) := by decide +kernel
theorem d_D_code_35 : decode u_D_code.2.1 35 = .ok (.iload_n 1, 1) := by decide +kernel
theorem d_D_code_36 : decode u_D_code.2.1 36 = .ok (.aaload, 1) := by decide +kernel
theorem d_D_code_37 : decode u_D_code.2.1 37 = .ok (.getfield 73, 3) := by decide +kernel
theorem d_D_code_40 : decode u_D_code.2.1 40 = .ok (.iload_n 2, 1) := by decide +kernel
theorem d_D_code_41 : decode u_D_code.2.1 41 = .ok (.iload 4, 2) := by decide +kernel
theorem d_D_code_43 : decode u_D_code.2.1 43 = .ok (.iastore, 1) := by decide +kernel
theorem d_D_code_44 : decode u_D_code.2.1 44 = .ok (.aload_n 0, 1) := by decide +kernel
theorem d_D_code_45 : decode u_D_code.2.1 45 = .ok (.getfield 15, 3) := by decide +kernel
theorem d_D_code_48 : decode u_D_code.2.1 48 = .ok (.iload_n 1, 1) := by decide +kernel
theorem d_D_code_49 : decode u_D_code.2.1 49 = .ok (.aaload, 1) := by decide +kernel
theorem d_D_code_50 : decode u_D_code.2.1 50 = .ok (.getfield 76, 3) := by decide +kernel
theorem d_D_code_53 : decode u_D_code.2.1 53 = .ok (.iload_n 2, 1) := by decide +kernel
theorem d_D_code_54 : decode u_D_code.2.1 54 = .ok (.iload 5, 2) := by decide +kernel
theorem d_D_code_56 : decode u_D_code.2.1 56 = .ok (.iastore, 1) := by decide +kernel
theorem d_D_code_57 : decode u_D_code.2.1 57 = .ok (.aload_n 0, 1) := by decide +kernel
theorem d_D_code_58 : decode u_D_code.2.1 58 = .ok (.iconst 0, 1) := by decide +kernel
theorem d_D_code_59 : decode u_D_code.2.1 59 = .ok (.putfield 38, 3) := by decide +kernel
theorem d_D_code_62 : decode u_D_code.2.1 62 = .ok (.iconst 1, 1) := by decide +kernel
theorem d_D_code_63 : decode u_D_code.2.1 63 = .ok (.ireturn, 1) := by decide +kernel
theorem d_D_start_0 : decode u_D_start.2.1 0 = .ok (.aload_n 0, 1) := by decide +kernel
theorem d_D_start_1 : decode u_D_start.2.1 1 = .ok (.invokevirtual 79, 3) := by decide +kernel
theorem d_D_start_4 : decode u_D_start.2.1 4 = .ok (.istore_n 1, 1) := by decide +kernel
theorem d_D_start_5 : decode u_D_start.2.1 5 = .ok (.iload_n 1, 1) := by decide +kernel
theorem d_D_start_6 : decode u_D_start.2.1 6 = .ok (.ifCond .ne 7, 3) := by decide +kernel
theorem d_D_start_9 : decode u_D_start.2.1 9 = .ok (.aload_n 0, 1) := by decide +kernel
theorem d_D_start_10 : decode u_D_start.2.1 10 = .ok (.invokevirtual 83, 3) := by decide +kernel
theorem d_D_start_13 : decode u_D_start.2.1 13 = .ok (.iload_n 1, 1) := by decide +kernel
theorem d_D_start_14 : decode u_D_start.2.1 14 = .ok (.ireturn, 1) := by decide +kernel
theorem d_D_input_0 : decode u_D_input.2.1 0 = .ok (.iload_n 1, 1) := by decide +kernel
theorem d_D_input_1 : decode u_D_input.2.1 1 = .ok (.invokestatic 42, 3) := by decide +kernel
theorem d_D_input_4 : decode u_D_input.2.1 4 = .ok (.ifCond .ne 5, 3) := by decide +kernel
theorem d_D_input_7 : decode u_D_input.2.1 7 = .ok (.iconst (-1), 1) := by decide +kernel
theorem d_D_input_8 : decode u_D_input.2.1 8 = .ok (.ireturn, 1) := by decide +kernel
theorem d_D_input_9 : decode u_D_input.2.1 9 = .ok (.aload_n 0, 1) := by decide +kernel
theorem d_D_input_10 : decode u_D_input.2.1 10 = .ok (.getfield 15, 3) := by decide +kernel
theorem d_D_input_13 : decode u_D_input.2.1 13 = .ok (.iload_n 1, 1) := by decide +kernel
theorem d_D_input_14 : decode u_D_input.2.1 14 = .ok (.aaload, 1) := by decide +kernel
theorem d_D_input_15 : decode u_D_input.2.1 15 = .ok (.getfield 86, 3) := by decide +kernel
theorem d_D_input_18 : decode u_D_input.2.1 18 = .ok (.astore_n 3, 1) := by decide +kernel
theorem d_D_input_19 : decode u_D_input.2.1 19 = .ok (.aload_n 3, 1) := by decide +kernel
theorem d_D_input_20 : decode u_D_input.2.1 20 = .ok (.iload_n 2, 1) := by decide +kernel
theorem d_D_input_21 : decode u_D_input.2.1 21 = .ok (.bipush 8, 2) := by decide +kernel
theorem d_D_input_23 : decode u_D_input.2.1 23 = .ok (.invokevirtual 90, 3) := by decide +kernel
theorem d_D_input_26 : decode u_D_input.2.1 26 = .ok (.ifCond .eq 10, 3) := by decide +kernel
theorem d_D_input_29 : decode u_D_input.2.1 29 = .ok (.aload_n 3, 1) := by decide +kernel
theorem d_D_input_30 : decode u_D_input.2.1 30 = .ok (.getfield 96, 3) := by decide +kernel
theorem d_D_input_33 : decode u_D_input.2.1 33 = .ok (.goto 4, 3) := by decide +kernel
theorem d_D_input_36 : decode u_D_input.2.1 36 = .ok (.iconst (-1), 1) := by decide +kernel
theorem d_D_input_37 : decode u_D_input.2.1 37 = .ok (.ireturn, 1) := by decide +kernel
theorem d_D_run_0 : decode u_D_run.2.1 0 = .ok (.aload_n 0, 1) := by decide +kernel
theorem d_D_run_1 : decode u_D_run.2.1 1 = .ok (.getfield 38, 3) := by decide +kernel
theorem d_D_run_4 : decode u_D_run.2.1 4 = .ok (.ifCond .eq 14, 3) := by decide +kernel
theorem d_D_run_7 : decode u_D_run.2.1 7 = .ok (.iload_n 1, 1) := by decide +kernel
theorem d_D_run_8 : decode u_D_run.2.1 8 = .ok (.ifCond .lt 10, 3) := by decide +kernel
theorem d_D_run_11 : decode u_D_run.2.1 11 = .ok (.iload_n 1, 1) := by decide +kernel
theorem d_D_run_12 : decode u_D_run.2.1 12 = .ok (.sipush 200, 3) := by decide +kernel
theorem d_D_run_15 : decode u_D_run.2.1 15 = .ok (.if_icmp .le 5, 3) := by decide +kernel
theorem d_D_run_18 : decode u_D_run.2.1 18 = .ok (.iconst (-1), 1) := by decide +kernel
theorem d_D_run_19 : decode u_D_run.2.1 19 = .ok (.ireturn, 1) := by decide +kernel
theorem d_D_run_20 : decode u_D_run.2.1 20 = .ok (.iconst 0, 1) := by decide +kernel
theorem d_D_run_21 : decode u_D_run.2.1 21 = .ok (.istore_n 2, 1) := by decide +kernel
theorem d_D_run_22 : decode u_D_run.2.1 22 = .ok (.iconst 0, 1) := by decide +kernel
theorem d_D_run_23 : decode u_D_run.2.1 23 = .ok (.istore_n 3, 1) := by decide +kernel
theorem d_D_run_24 : decode u_D_run.2.1 24 = .ok (.iload_n 3, 1) := by decide +kernel
theorem d_D_run_25 : decode u_D_run.2.1 25 = .ok (.iload_n 1, 1) := by decide +kernel
theorem d_D_run_26 : decode u_D_run.2.1 26 = .ok (.if_icmp .ge 19, 3) := by decide +kernel
theorem d_D_run_29 : decode u_D_run.2.1 29 = .ok (.aload_n 0, 1) := by decide +kernel
theorem d_D_run_30 : decode u_D_run.2.1 30 = .ok (.invokevirtual 99, 3) := by decide +kernel
theorem d_D_run_33 : decode u_D_run.2.1 33 = .ok (.ifCond .eq 6, 3) := by decide +kernel
theorem d_D_run_36 : decode u_D_run.2.1 36 = .ok (.iinc 2 1, 3) := by decide +kernel
theorem d_D_run_39 : decode u_D_run.2.1 39 = .ok (.iinc 3 1, 3) := by decide +kernel
theorem d_D_run_42 : decode u_D_run.2.1 42 = .ok (.goto (-18), 3) := by decide +kernel
theorem d_D_run_45 : decode u_D_run.2.1 45 = .ok (.iload_n 2, 1) := by decide +kernel
theorem d_D_run_46 : decode u_D_run.2.1 46 = .ok (.ireturn, 1) := by decide +kernel
theorem d_D_output_0 : decode u_D_output.2.1 0 = .ok (.iload_n 1, 1) := by decide +kernel
theorem d_D_output_1 : decode u_D_output.2.1 1 = .ok (.invokestatic 42, 3) := by decide +kernel
theorem d_D_output_4 : decode u_D_output.2.1 4 = .ok (.ifCond .eq 16, 3) := by decide +kernel
theorem d_D_output_7 : decode u_D_output.2.1 7 = .ok (.aload_n 0, 1) := by decide +kernel
theorem d_D_output_8 : decode u_D_output.2.1 8 = .ok (.getfield 15, 3) := by decide +kernel
theorem d_D_output_11 : decode u_D_output.2.1 11 = .ok (.iload_n 1, 1) := by decide +kernel
theorem d_D_output_12 : decode u_D_output.2.1 12 = .ok (.aaload, 1) := by decide +kernel
theorem d_D_output_13 : decode u_D_output.2.1 13 = .ok (.iload_n 2, 1) := by decide +kernel
theorem d_D_output_14 : decode u_D_output.2.1 14 = .ok (.invokevirtual 102, 3) := by decide +kernel
theorem d_D_output_17 : decode u_D_output.2.1 17 = .ok (.goto 4, 3) := by decide +kernel
theorem d_D_output_20 : decode u_D_output.2.1 20 = .ok (.iconst 0, 1) := by decide +kernel
theorem d_D_output_21 : decode u_D_output.2.1 21 = .ok (.ireturn, 1) := by decide +kernel
theorem d_D_about_0 : decode u_D_about.2.1 0 = .ok (.iload_n 1, 1) := by decide +kernel
theorem d_D_about_1 : decode u_D_about.2.1 1 = .ok (.invokestatic 42, 3) := by decide +kernel
theorem d_D_about_4 : decode u_D_about.2.1 4 = .ok (.ifCond .eq 16, 3) := by decide +kernel
theorem d_D_about_7 : decode u_D_about.2.1 7 = .ok (.aload_n 0, 1) := by decide +kernel
theorem d_D_about_8 : decode u_D_about.2.1 8 = .ok (.getfield 15, 3) := by decide +kernel
theorem d_D_about_11 : decode u_D_about.2.1 11 = .ok (.iload_n 1, 1) := by decide +kernel
theorem d_D_about_12 : decode u_D_about.2.1 12 = .ok (.aaload, 1) := by decide +kernel
theorem d_D_about_13 : decode u_D_about.2.1 13 = .ok (.iload_n 2, 1) := by decide +kernel
theorem d_D_about_14 : decode u_D_about.2.1 14 = .ok (.invokevirtual 106, 3) := by decide +kernel
theorem d_D_about_17 : decode u_D_about.2.1 17 = .ok (.goto 4, 3) := by decide +kernel
theorem d_D_about_20 : decode u_D_about.2.1 20 = .ok (.iconst (-1), 1) := by decide +kernel
theorem d_D_about_21 : decode u_D_about.2.1 21 = .ok (.ireturn, 1) := by decide +kernel
theorem d_D_word_0 : decode u_D_word.2.1 0 = .ok (.iload_n 1, 1) := by decide +kernel
theorem d_D_word_1 : decode u_D_word.2.1 1 = .ok (.ifCond .lt 18, 3) := by decide +kernel
theorem d_D_word_4 : decode u_D_word.2.1 4 = .ok (.iload_n 1, 1) := by decide +kernel
theorem d_D_word_5 : decode u_D_word.2.1 5 = .ok (.bipush 64, 2) := by decide +kernel
theorem d_D_word_7 : decode u_D_word.2.1 7 = .ok (.if_icmp .ge 12, 3) := by decide +kernel
theorem d_D_word_10 : decode u_D_word.2.1 10 = .ok (.aload_n 0, 1) := by decide +kernel
theorem d_D_word_11 : decode u_D_word.2.1 11 = .ok (.getfield 9, 3) := by decide +kernel
theorem d_D_word_14 : decode u_D_word.2.1 14 = .ok (.iload_n 1, 1) := by decide +kernel
theorem d_D_word_15 : decode u_D_word.2.1 15 = .ok (.iaload, 1) := by decide +kernel
theorem d_D_word_16 : decode u_D_word.2.1 16 = .ok (.goto 4, 3) := by decide +kernel
theorem d_D_word_19 : decode u_D_word.2.1 19 = .ok (.iconst 0, 1) := by decide +kernel
theorem d_D_word_20 : decode u_D_word.2.1 20 = .ok (.ireturn, 1) := by decide +kernel
theorem d_D_waiting_0 : decode u_D_waiting.2.1 0 = .ok (.aload_n 0, 1) := by decide +kernel
theorem d_D_waiting_1 : decode u_D_waiting.2.1 1 = .ok (.iload_n 1, 1) := by decide +kernel
theorem d_D_waiting_2 : decode u_D_waiting.2.1 2 = .ok (.invokevirtual 109, 3) := by decide +kernel
theorem d_D_waiting_5 : decode u_D_waiting.2.1 5 = .ok (.ifCond .eq 18, 3) := by decide +kernel
theorem d_D_waiting_8 : decode u_D_waiting.2.1 8 = .ok (.aload_n 0, 1) := by decide +kernel
theorem d_D_waiting_9 : decode u_D_waiting.2.1 9 = .ok (.getfield 22, 3) := by decide +kernel
theorem d_D_waiting_12 : decode u_D_waiting.2.1 12 = .ok (.iload_n 1, 1) := by decide +kernel
theorem d_D_waiting_13 : decode u_D_waiting.2.1 13 = .ok (.aaload, 1) := by decide +kernel
theorem d_D_waiting_14 : decode u_D_waiting.2.1 14 = .ok (.getfield 112, 3) := by decide +kernel
theorem d_D_waiting_17 : decode u_D_waiting.2.1 17 = .ok (.getfield 96, 3) := by decide +kernel
theorem d_D_waiting_20 : decode u_D_waiting.2.1 20 = .ok (.goto 4, 3) := by decide +kernel
theorem d_D_waiting_23 : decode u_D_waiting.2.1 23 = .ok (.iconst (-1), 1) := by decide +kernel
theorem d_D_waiting_24 : decode u_D_waiting.2.1 24 = .ok (.ireturn, 1) := by decide +kernel
theorem d_D_clock_0 : decode u_D_clock.2.1 0 = .ok (.aload_n 0, 1) := by decide +kernel
theorem d_D_clock_1 : decode u_D_clock.2.1 1 = .ok (.getfield 38, 3) := by decide +kernel
theorem d_D_clock_4 : decode u_D_clock.2.1 4 = .ok (.ifCond .eq 14, 3) := by decide +kernel
theorem d_D_clock_7 : decode u_D_clock.2.1 7 = .ok (.aload_n 0, 1) := by decide +kernel
theorem d_D_clock_8 : decode u_D_clock.2.1 8 = .ok (.getfield 30, 3) := by decide +kernel
theorem d_D_clock_11 : decode u_D_clock.2.1 11 = .ok (.iload_n 1, 1) := by decide +kernel
theorem d_D_clock_12 : decode u_D_clock.2.1 12 = .ok (.invokevirtual 115, 3) := by decide +kernel
theorem d_D_clock_15 : decode u_D_clock.2.1 15 = .ok (.goto 4, 3) := by decide +kernel
theorem d_D_clock_18 : decode u_D_clock.2.1 18 = .ok (.iconst (-1), 1) := by decide +kernel
theorem d_D_clock_19 : decode u_D_clock.2.1 19 = .ok (.ireturn, 1) := by decide +kernel
theorem d_D_isPartition_0 : decode u_D_isPartition.2.1 0 = .ok (.iload_n 0, 1) := by decide +kernel
theorem d_D_isPartition_1 : decode u_D_isPartition.2.1 1 = .ok (.ifCond .lt 12, 3) := by decide +kernel
theorem d_D_isPartition_4 : decode u_D_isPartition.2.1 4 = .ok (.iload_n 0, 1) := by decide +kernel
theorem d_D_isPartition_5 : decode u_D_isPartition.2.1 5 = .ok (.iconst 4, 1) := by decide +kernel
theorem d_D_isPartition_6 : decode u_D_isPartition.2.1 6 = .ok (.if_icmp .ge 7, 3) := by decide +kernel
theorem d_D_isPartition_9 : decode u_D_isPartition.2.1 9 = .ok (.iconst 1, 1) := by decide +kernel
theorem d_D_isPartition_10 : decode u_D_isPartition.2.1 10 = .ok (.goto 4, 3) := by decide +kernel
theorem d_D_isPartition_13 : decode u_D_isPartition.2.1 13 = .ok (.iconst 0, 1) := by decide +kernel
theorem d_D_isPartition_14 : decode u_D_isPartition.2.1 14 = .ok (.ireturn, 1) := by decide +kernel
theorem d_D_isPort_0 : decode u_D_isPort.2.1 0 = .ok (.iload_n 1, 1) := by decide +kernel
theorem d_D_isPort_1 : decode u_D_isPort.2.1 1 = .ok (.ifCond .lt 15, 3) := by decide +kernel
theorem d_D_isPort_4 : decode u_D_isPort.2.1 4 = .ok (.iload_n 1, 1) := by decide +kernel
theorem d_D_isPort_5 : decode u_D_isPort.2.1 5 = .ok (.aload_n 0, 1) := by decide +kernel
theorem d_D_isPort_6 : decode u_D_isPort.2.1 6 = .ok (.getfield 34, 3) := by decide +kernel
theorem d_D_isPort_9 : decode u_D_isPort.2.1 9 = .ok (.if_icmp .ge 7, 3) := by decide +kernel
theorem d_D_isPort_12 : decode u_D_isPort.2.1 12 = .ok (.iconst 1, 1) := by decide +kernel
theorem d_D_isPort_13 : decode u_D_isPort.2.1 13 = .ok (.goto 4, 3) := by decide +kernel
theorem d_D_isPort_16 : decode u_D_isPort.2.1 16 = .ok (.iconst 0, 1) := by decide +kernel
theorem d_D_isPort_17 : decode u_D_isPort.2.1 17 = .ok (.ireturn, 1) := by decide +kernel
theorem d_D_checkTable_0 : decode u_D_checkTable.2.1 0 = .ok (.aload_n 0, 1) := by decide +kernel
theorem d_D_checkTable_1 : decode u_D_checkTable.2.1 1 = .ok (.invokevirtual 116, 3) := by decide +kernel
theorem d_D_checkTable_4 : decode u_D_checkTable.2.1 4 = .ok (.ifCond .ne 5, 3) := by decide +kernel
theorem d_D_checkTable_7 : decode u_D_checkTable.2.1 7 = .ok (.iconst 1, 1) := by decide +kernel
theorem d_D_checkTable_8 : decode u_D_checkTable.2.1 8 = .ok (.ireturn, 1) := by decide +kernel
theorem d_D_checkTable_9 : decode u_D_checkTable.2.1 9 = .ok (.aload_n 0, 1) := by decide +kernel
theorem d_D_checkTable_10 : decode u_D_checkTable.2.1 10 = .ok (.invokevirtual 119, 3) := by decide +kernel
theorem d_D_checkTable_13 : decode u_D_checkTable.2.1 13 = .ok (.ifCond .eq 5, 3) := by decide +kernel
theorem d_D_checkTable_16 : decode u_D_checkTable.2.1 16 = .ok (.iconst 2, 1) := by decide +kernel
theorem d_D_checkTable_17 : decode u_D_checkTable.2.1 17 = .ok (.ireturn, 1) := by decide +kernel
theorem d_D_checkTable_18 : decode u_D_checkTable.2.1 18 = .ok (.aload_n 0, 1) := by decide +kernel
theorem d_D_checkTable_19 : decode u_D_checkTable.2.1 19 = .ok (.invokevirtual 122, 3) := by decide +kernel
theorem d_D_checkTable_22 : decode u_D_checkTable.2.1 22 = .ok (.ifCond .ne 5, 3) := by decide +kernel
theorem d_D_checkTable_25 : decode u_D_checkTable.2.1 25 = .ok (.iconst 3, 1) := by decide +kernel
theorem d_D_checkTable_26 : decode u_D_checkTable.2.1 26 = .ok (.ireturn, 1) := by decide +kernel
theorem d_D_checkTable_27 : decode u_D_checkTable.2.1 27 = .ok (.aload_n 0, 1) := by decide +kernel
theorem d_D_checkTable_28 : decode u_D_checkTable.2.1 28 = .ok (.invokevirtual 125, 3) := by decide +kernel
theorem d_D_checkTable_31 : decode u_D_checkTable.2.1 31 = .ok (.ifCond .eq 7, 3) := by decide +kernel
theorem d_D_checkTable_34 : decode u_D_checkTable.2.1 34 = .ok (.iconst 0, 1) := by decide +kernel
theorem d_D_checkTable_35 : decode u_D_checkTable.2.1 35 = .ok (.goto 4, 3) := by decide +kernel
theorem d_D_checkTable_38 : decode u_D_checkTable.2.1 38 = .ok (.iconst 4, 1) := by decide +kernel
theorem d_D_checkTable_39 : decode u_D_checkTable.2.1 39 = .ok (.ireturn, 1) := by decide +kernel
theorem d_D_somebodyTakesPart_0 : decode u_D_somebodyTakesPart.2.1 0 = .ok (.iconst 0, 1) := by decide +kernel
theorem d_D_somebodyTakesPart_1 : decode u_D_somebodyTakesPart.2.1 1 = .ok (.istore_n 1, 1) := by decide +kernel
theorem d_D_somebodyTakesPart_2 : decode u_D_somebodyTakesPart.2.1 2 = .ok (.iload_n 1, 1) := by decide +kernel
theorem d_D_somebodyTakesPart_3 : decode u_D_somebodyTakesPart.2.1 3 = .ok (.iconst 4, 1) := by decide +kernel
theorem d_D_somebodyTakesPart_4 : decode u_D_somebodyTakesPart.2.1 4 = .ok (.if_icmp .ge 23, 3) := by decide +kernel
theorem d_D_somebodyTakesPart_7 : decode u_D_somebodyTakesPart.2.1 7 = .ok (.aload_n 0, 1) := by decide +kernel
theorem d_D_somebodyTakesPart_8 : decode u_D_somebodyTakesPart.2.1 8 = .ok (.getfield 15, 3) := by decide +kernel
theorem d_D_somebodyTakesPart_11 : decode u_D_somebodyTakesPart.2.1 11 = .ok (.iload_n 1, 1) := by decide +kernel
theorem d_D_somebodyTakesPart_12 : decode u_D_somebodyTakesPart.2.1 12 = .ok (.aaload, 1) := by decide +kernel
theorem d_D_somebodyTakesPart_13 : decode u_D_somebodyTakesPart.2.1 13 = .ok (.invokevirtual 128, 3) := by decide +kernel
theorem d_D_somebodyTakesPart_16 : decode u_D_somebodyTakesPart.2.1 16 = .ok (.ifCond .eq 5, 3) := by decide +kernel
theorem d_D_somebodyTakesPart_19 : decode u_D_somebodyTakesPart.2.1 19 = .ok (.iconst 1, 1) := by decide +kernel
theorem d_D_somebodyTakesPart_20 : decode u_D_somebodyTakesPart.2.1 20 = .ok (.ireturn, 1) := by decide +kernel
theorem d_D_somebodyTakesPart_21 : decode u_D_somebodyTakesPart.2.1 21 = .ok (.iinc 1 1, 3) := by decide +kernel
theorem d_D_somebodyTakesPart_24 : decode u_D_somebodyTakesPart.2.1 24 = .ok (.goto (-22), 3) := by decide +kernel
theorem d_D_somebodyTakesPart_27 : decode u_D_somebodyTakesPart.2.1 27 = .ok (.iconst 0, 1) := by decide +kernel
theorem d_D_somebodyTakesPart_28 : decode u_D_somebodyTakesPart.2.1 28 = .ok (.ireturn, 1) := by decide +kernel
theorem d_D_someRegionsOverlap_0 : decode u_D_someRegionsOverlap.2.1 0 = .ok (.iconst 0, 1) := by decide +kernel
theorem d_D_someRegionsOverlap_1 : decode u_D_someRegionsOverlap.2.1 1 = .ok (.istore_n 1, 1) := by decide +kernel
theorem d_D_someRegionsOverlap_2 : decode u_D_someRegionsOverlap.2.1 2 = .ok (.iload_n 1, 1) := by decide +kernel
theorem d_D_someRegionsOverlap_3 : decode u_D_someRegionsOverlap.2.1 3 = .ok (.iconst 4, 1) := by decide +kernel
theorem d_D_someRegionsOverlap_4 : decode u_D_someRegionsOverlap.2.1 4 = .ok (.if_icmp .ge 44, 3) := by decide +kernel
theorem d_D_someRegionsOverlap_7 : decode u_D_someRegionsOverlap.2.1 7 = .ok (.iload_n 1, 1) := by decide +kernel
theorem d_D_someRegionsOverlap_8 : decode u_D_someRegionsOverlap.2.1 8 = .ok (.iconst 1, 1) := by decide +kernel
theorem d_D_someRegionsOverlap_9 : decode u_D_someRegionsOverlap.2.1 9 = .ok (.iadd, 1) := by decide +kernel
theorem d_D_someRegionsOverlap_10 : decode u_D_someRegionsOverlap.2.1 10 = .ok (.istore_n 2, 1) := by decide +kernel
theorem d_D_someRegionsOverlap_11 : decode u_D_someRegionsOverlap.2.1 11 = .ok (.iload_n 2, 1) := by decide +kernel
theorem d_D_someRegionsOverlap_12 : decode u_D_someRegionsOverlap.2.1 12 = .ok (.iconst 4, 1) := by decide +kernel
theorem d_D_someRegionsOverlap_13 : decode u_D_someRegionsOverlap.2.1 13 = .ok (.if_icmp .ge 29, 3) := by decide +kernel
theorem d_D_someRegionsOverlap_16 : decode u_D_someRegionsOverlap.2.1 16 = .ok (.aload_n 0, 1) := by decide +kernel
theorem d_D_someRegionsOverlap_17 : decode u_D_someRegionsOverlap.2.1 17 = .ok (.getfield 15, 3) := by decide +kernel
theorem d_D_someRegionsOverlap_20 : decode u_D_someRegionsOverlap.2.1 20 = .ok (.iload_n 1, 1) := by decide +kernel
theorem d_D_someRegionsOverlap_21 : decode u_D_someRegionsOverlap.2.1 21 = .ok (.aaload, 1) := by decide +kernel
theorem d_D_someRegionsOverlap_22 : decode u_D_someRegionsOverlap.2.1 22 = .ok (.aload_n 0, 1) := by decide +kernel
theorem d_D_someRegionsOverlap_23 : decode u_D_someRegionsOverlap.2.1 23 = .ok (.getfield 15, 3) := by decide +kernel
theorem d_D_someRegionsOverlap_26 : decode u_D_someRegionsOverlap.2.1 26 = .ok (.iload_n 2, 1) := by decide +kernel
theorem d_D_someRegionsOverlap_27 : decode u_D_someRegionsOverlap.2.1 27 = .ok (.aaload, 1) := by decide +kernel
theorem d_D_someRegionsOverlap_28 : decode u_D_someRegionsOverlap.2.1 28 = .ok (.invokevirtual 131, 3) := by decide +kernel
theorem d_D_someRegionsOverlap_31 : decode u_D_someRegionsOverlap.2.1 31 = .ok (.ifCond .eq 5, 3) := by decide +kernel
theorem d_D_someRegionsOverlap_34 : decode u_D_someRegionsOverlap.2.1 34 = .ok (.iconst 1, 1) := by decide +kernel
theorem d_D_someRegionsOverlap_35 : decode u_D_someRegionsOverlap.2.1 35 = .ok (.ireturn, 1) := by decide +kernel
theorem d_D_someRegionsOverlap_36 : decode u_D_someRegionsOverlap.2.1 36 = .ok (.iinc 2 1, 3) := by decide +kernel
theorem d_D_someRegionsOverlap_39 : decode u_D_someRegionsOverlap.2.1 39 = .ok (.goto (-28), 3) := by decide +kernel
theorem d_D_someRegionsOverlap_42 : decode u_D_someRegionsOverlap.2.1 42 = .ok (.iinc 1 1, 3) := by decide +kernel
theorem d_D_someRegionsOverlap_45 : decode u_D_someRegionsOverlap.2.1 45 = .ok (.goto (-43), 3) := by decide +kernel
theorem d_D_someRegionsOverlap_48 : decode u_D_someRegionsOverlap.2.1 48 = .ok (.iconst 0, 1) := by decide +kernel
theorem d_D_someRegionsOverlap_49 : decode u_D_someRegionsOverlap.2.1 49 = .ok (.ireturn, 1) := by decide +kernel
theorem d_D_windowsFit_0 : decode u_D_windowsFit.2.1 0 = .ok (.iconst 0, 1) := by decide +kernel
theorem d_D_windowsFit_1 : decode u_D_windowsFit.2.1 1 = .ok (.istore_n 1, 1) := by decide +kernel
theorem d_D_windowsFit_2 : decode u_D_windowsFit.2.1 2 = .ok (.iload_n 1, 1) := by decide +kernel
theorem d_D_windowsFit_3 : decode u_D_windowsFit.2.1 3 = .ok (.iconst 4, 1) := by decide +kernel
theorem d_D_windowsFit_4 : decode u_D_windowsFit.2.1 4 = .ok (.if_icmp .ge 31, 3) := by decide +kernel
theorem d_D_windowsFit_7 : decode u_D_windowsFit.2.1 7 = .ok (.aload_n 0, 1) := by decide +kernel
theorem d_D_windowsFit_8 : decode u_D_windowsFit.2.1 8 = .ok (.getfield 15, 3) := by decide +kernel
theorem d_D_windowsFit_11 : decode u_D_windowsFit.2.1 11 = .ok (.iload_n 1, 1) := by decide +kernel
theorem d_D_windowsFit_12 : decode u_D_windowsFit.2.1 12 = .ok (.aaload, 1) := by decide +kernel
theorem d_D_windowsFit_13 : decode u_D_windowsFit.2.1 13 = .ok (.invokevirtual 128, 3) := by decide +kernel
theorem d_D_windowsFit_16 : decode u_D_windowsFit.2.1 16 = .ok (.aload_n 0, 1) := by decide +kernel
theorem d_D_windowsFit_17 : decode u_D_windowsFit.2.1 17 = .ok (.getfield 30, 3) := by decide +kernel
theorem d_D_windowsFit_20 : decode u_D_windowsFit.2.1 20 = .ok (.iload_n 1, 1) := by decide +kernel
theorem d_D_windowsFit_21 : decode u_D_windowsFit.2.1 21 = .ok (.invokevirtual 135, 3) := by decide +kernel
theorem d_D_windowsFit_24 : decode u_D_windowsFit.2.1 24 = .ok (.if_icmp .eq 5, 3) := by decide +kernel
theorem d_D_windowsFit_27 : decode u_D_windowsFit.2.1 27 = .ok (.iconst 0, 1) := by decide +kernel
theorem d_D_windowsFit_28 : decode u_D_windowsFit.2.1 28 = .ok (.ireturn, 1) := by decide +kernel
theorem d_D_windowsFit_29 : decode u_D_windowsFit.2.1 29 = .ok (.iinc 1 1, 3) := by decide +kernel
theorem d_D_windowsFit_32 : decode u_D_windowsFit.2.1 32 = .ok (.goto (-30), 3) := by decide +kernel
theorem d_D_windowsFit_35 : decode u_D_windowsFit.2.1 35 = .ok (.iconst 1, 1) := by decide +kernel
theorem d_D_windowsFit_36 : decode u_D_windowsFit.2.1 36 = .ok (.ireturn, 1) := by decide +kernel
theorem d_D_portsFit_0 : decode u_D_portsFit.2.1 0 = .ok (.iconst 0, 1) := by decide +kernel
theorem d_D_portsFit_1 : decode u_D_portsFit.2.1 1 = .ok (.istore_n 1, 1) := by decide +kernel
theorem d_D_portsFit_2 : decode u_D_portsFit.2.1 2 = .ok (.iload_n 1, 1) := by decide +kernel
theorem d_D_portsFit_3 : decode u_D_portsFit.2.1 3 = .ok (.aload_n 0, 1) := by decide +kernel
theorem d_D_portsFit_4 : decode u_D_portsFit.2.1 4 = .ok (.getfield 34, 3) := by decide +kernel
theorem d_D_portsFit_7 : decode u_D_portsFit.2.1 7 = .ok (.if_icmp .ge 51, 3) := by decide +kernel
theorem d_D_portsFit_10 : decode u_D_portsFit.2.1 10 = .ok (.aload_n 0, 1) := by decide +kernel
theorem d_D_portsFit_11 : decode u_D_portsFit.2.1 11 = .ok (.getfield 15, 3) := by decide +kernel
theorem d_D_portsFit_14 : decode u_D_portsFit.2.1 14 = .ok (.aload_n 0, 1) := by decide +kernel
theorem d_D_portsFit_15 : decode u_D_portsFit.2.1 15 = .ok (.getfield 22, 3) := by decide +kernel
theorem d_D_portsFit_18 : decode u_D_portsFit.2.1 18 = .ok (.iload_n 1, 1) := by decide +kernel
theorem d_D_portsFit_19 : decode u_D_portsFit.2.1 19 = .ok (.aaload, 1) := by decide +kernel
theorem d_D_portsFit_20 : decode u_D_portsFit.2.1 20 = .ok (.getfield 60, 3) := by decide +kernel
theorem d_D_portsFit_23 : decode u_D_portsFit.2.1 23 = .ok (.aaload, 1) := by decide +kernel
theorem d_D_portsFit_24 : decode u_D_portsFit.2.1 24 = .ok (.invokevirtual 128, 3) := by decide +kernel
theorem d_D_portsFit_27 : decode u_D_portsFit.2.1 27 = .ok (.ifCond .eq 23, 3) := by decide +kernel
theorem d_D_portsFit_30 : decode u_D_portsFit.2.1 30 = .ok (.aload_n 0, 1) := by decide +kernel
theorem d_D_portsFit_31 : decode u_D_portsFit.2.1 31 = .ok (.getfield 15, 3) := by decide +kernel
theorem d_D_portsFit_34 : decode u_D_portsFit.2.1 34 = .ok (.aload_n 0, 1) := by decide +kernel
theorem d_D_portsFit_35 : decode u_D_portsFit.2.1 35 = .ok (.getfield 22, 3) := by decide +kernel
theorem d_D_portsFit_38 : decode u_D_portsFit.2.1 38 = .ok (.iload_n 1, 1) := by decide +kernel
theorem d_D_portsFit_39 : decode u_D_portsFit.2.1 39 = .ok (.aaload, 1) := by decide +kernel
theorem d_D_portsFit_40 : decode u_D_portsFit.2.1 40 = .ok (.getfield 61, 3) := by decide +kernel
theorem d_D_portsFit_43 : decode u_D_portsFit.2.1 43 = .ok (.aaload, 1) := by decide +kernel
theorem d_D_portsFit_44 : decode u_D_portsFit.2.1 44 = .ok (.invokevirtual 128, 3) := by decide +kernel
theorem d_D_portsFit_47 : decode u_D_portsFit.2.1 47 = .ok (.ifCond .ne 5, 3) := by decide +kernel
theorem d_D_portsFit_50 : decode u_D_portsFit.2.1 50 = .ok (.iconst 0, 1) := by decide +kernel
theorem d_D_portsFit_51 : decode u_D_portsFit.2.1 51 = .ok (.ireturn, 1) := by decide +kernel
theorem d_D_portsFit_52 : decode u_D_portsFit.2.1 52 = .ok (.iinc 1 1, 3) := by decide +kernel
theorem d_D_portsFit_55 : decode u_D_portsFit.2.1 55 = .ok (.goto (-53), 3) := by decide +kernel
theorem d_D_portsFit_58 : decode u_D_portsFit.2.1 58 = .ok (.iconst 1, 1) := by decide +kernel
theorem d_D_portsFit_59 : decode u_D_portsFit.2.1 59 = .ok (.ireturn, 1) := by decide +kernel
theorem d_D_beginAnew_0 : decode u_D_beginAnew.2.1 0 = .ok (.iconst 0, 1) := by decide +kernel
theorem d_D_beginAnew_1 : decode u_D_beginAnew.2.1 1 = .ok (.istore_n 1, 1) := by decide +kernel
theorem d_D_beginAnew_2 : decode u_D_beginAnew.2.1 2 = .ok (.iload_n 1, 1) := by decide +kernel
theorem d_D_beginAnew_3 : decode u_D_beginAnew.2.1 3 = .ok (.bipush 64, 2) := by decide +kernel
theorem d_D_beginAnew_5 : decode u_D_beginAnew.2.1 5 = .ok (.if_icmp .ge 16, 3) := by decide +kernel
theorem d_D_beginAnew_8 : decode u_D_beginAnew.2.1 8 = .ok (.aload_n 0, 1) := by decide +kernel
theorem d_D_beginAnew_9 : decode u_D_beginAnew.2.1 9 = .ok (.getfield 9, 3) := by decide +kernel
theorem d_D_beginAnew_12 : decode u_D_beginAnew.2.1 12 = .ok (.iload_n 1, 1) := by decide +kernel
theorem d_D_beginAnew_13 : decode u_D_beginAnew.2.1 13 = .ok (.iconst 0, 1) := by decide +kernel
theorem d_D_beginAnew_14 : decode u_D_beginAnew.2.1 14 = .ok (.iastore, 1) := by decide +kernel
theorem d_D_beginAnew_15 : decode u_D_beginAnew.2.1 15 = .ok (.iinc 1 1, 3) := by decide +kernel
theorem d_D_beginAnew_18 : decode u_D_beginAnew.2.1 18 = .ok (.goto (-16), 3) := by decide +kernel
theorem d_D_beginAnew_21 : decode u_D_beginAnew.2.1 21 = .ok (.iconst 0, 1) := by decide +kernel
theorem d_D_beginAnew_22 : decode u_D_beginAnew.2.1 22 = .ok (.istore_n 1, 1) := by decide +kernel
theorem d_D_beginAnew_23 : decode u_D_beginAnew.2.1 23 = .ok (.iload_n 1, 1) := by decide +kernel
theorem d_D_beginAnew_24 : decode u_D_beginAnew.2.1 24 = .ok (.iconst 4, 1) := by decide +kernel
theorem d_D_beginAnew_25 : decode u_D_beginAnew.2.1 25 = .ok (.if_icmp .ge 18, 3) := by decide +kernel
theorem d_D_beginAnew_28 : decode u_D_beginAnew.2.1 28 = .ok (.aload_n 0, 1) := by decide +kernel
theorem d_D_beginAnew_29 : decode u_D_beginAnew.2.1 29 = .ok (.getfield 15, 3) := by decide +kernel
theorem d_D_beginAnew_32 : decode u_D_beginAnew.2.1 32 = .ok (.iload_n 1, 1) := by decide +kernel
theorem d_D_beginAnew_33 : decode u_D_beginAnew.2.1 33 = .ok (.aaload, 1) := by decide +kernel
theorem d_D_beginAnew_34 : decode u_D_beginAnew.2.1 34 = .ok (.invokevirtual 138, 3) := by decide +kernel
theorem d_D_beginAnew_37 : decode u_D_beginAnew.2.1 37 = .ok (.iinc 1 1, 3) := by decide +kernel
theorem d_D_beginAnew_40 : decode u_D_beginAnew.2.1 40 = .ok (.goto (-17), 3) := by decide +kernel
theorem d_D_beginAnew_43 : decode u_D_beginAnew.2.1 43 = .ok (.iconst 0, 1) := by decide +kernel
theorem d_D_beginAnew_44 : decode u_D_beginAnew.2.1 44 = .ok (.istore_n 1, 1) := by decide +kernel
theorem d_D_beginAnew_45 : decode u_D_beginAnew.2.1 45 = .ok (.iload_n 1, 1) := by decide +kernel
theorem d_D_beginAnew_46 : decode u_D_beginAnew.2.1 46 = .ok (.aload_n 0, 1) := by decide +kernel
theorem d_D_beginAnew_47 : decode u_D_beginAnew.2.1 47 = .ok (.getfield 34, 3) := by decide +kernel
theorem d_D_beginAnew_50 : decode u_D_beginAnew.2.1 50 = .ok (.if_icmp .ge 21, 3) := by decide +kernel
theorem d_D_beginAnew_53 : decode u_D_beginAnew.2.1 53 = .ok (.aload_n 0, 1) := by decide +kernel
theorem d_D_beginAnew_54 : decode u_D_beginAnew.2.1 54 = .ok (.getfield 22, 3) := by decide +kernel
theorem d_D_beginAnew_57 : decode u_D_beginAnew.2.1 57 = .ok (.iload_n 1, 1) := by decide +kernel
theorem d_D_beginAnew_58 : decode u_D_beginAnew.2.1 58 = .ok (.aaload, 1) := by decide +kernel
theorem d_D_beginAnew_59 : decode u_D_beginAnew.2.1 59 = .ok (.getfield 112, 3) := by decide +kernel
theorem d_D_beginAnew_62 : decode u_D_beginAnew.2.1 62 = .ok (.invokevirtual 139, 3) := by decide +kernel
theorem d_D_beginAnew_65 : decode u_D_beginAnew.2.1 65 = .ok (.iinc 1 1, 3) := by decide +kernel
theorem d_D_beginAnew_68 : decode u_D_beginAnew.2.1 68 = .ok (.goto (-23), 3) := by decide +kernel
theorem d_D_beginAnew_71 : decode u_D_beginAnew.2.1 71 = .ok (.aload_n 0, 1) := by decide +kernel
theorem d_D_beginAnew_72 : decode u_D_beginAnew.2.1 72 = .ok (.getfield 30, 3) := by decide +kernel
theorem d_D_beginAnew_75 : decode u_D_beginAnew.2.1 75 = .ok (.invokevirtual 142, 3) := by decide +kernel
theorem d_D_beginAnew_78 : decode u_D_beginAnew.2.1 78 = .ok (.aload_n 0, 1) := by decide +kernel
theorem d_D_beginAnew_79 : decode u_D_beginAnew.2.1 79 = .ok (.iconst 1, 1) := by decide +kernel
theorem d_D_beginAnew_80 : decode u_D_beginAnew.2.1 80 = .ok (.putfield 38, 3) := by decide +kernel
theorem d_D_beginAnew_83 : decode u_D_beginAnew.2.1 83 = .ok (.return_, 1) := by decide +kernel
theorem d_D_passTick_0 : decode u_D_passTick.2.1 0 = .ok (.aload_n 0, 1) := by decide +kernel
theorem d_D_passTick_1 : decode u_D_passTick.2.1 1 = .ok (.getfield 30, 3) := by decide +kernel
theorem d_D_passTick_4 : decode u_D_passTick.2.1 4 = .ok (.invokevirtual 143, 3) := by decide +kernel
theorem d_D_passTick_7 : decode u_D_passTick.2.1 7 = .ok (.istore_n 1, 1) := by decide +kernel
theorem d_D_passTick_8 : decode u_D_passTick.2.1 8 = .ok (.aload_n 0, 1) := by decide +kernel
theorem d_D_passTick_9 : decode u_D_passTick.2.1 9 = .ok (.getfield 15, 3) := by decide +kernel
theorem d_D_passTick_12 : decode u_D_passTick.2.1 12 = .ok (.iload_n 1, 1) := by decide +kernel
theorem d_D_passTick_13 : decode u_D_passTick.2.1 13 = .ok (.aaload, 1) := by decide +kernel
theorem d_D_passTick_14 : decode u_D_passTick.2.1 14 = .ok (.getfield 146, 3) := by decide +kernel
theorem d_D_passTick_17 : decode u_D_passTick.2.1 17 = .ok (.ifCond .eq 17, 3) := by decide +kernel
theorem d_D_passTick_20 : decode u_D_passTick.2.1 20 = .ok (.aload_n 0, 1) := by decide +kernel
theorem d_D_passTick_21 : decode u_D_passTick.2.1 21 = .ok (.getfield 30, 3) := by decide +kernel
theorem d_D_passTick_24 : decode u_D_passTick.2.1 24 = .ok (.getfield 149, 3) := by decide +kernel
theorem d_D_passTick_27 : decode u_D_passTick.2.1 27 = .ok (.ifCond .ne 7, 3) := by decide +kernel
theorem d_D_passTick_30 : decode u_D_passTick.2.1 30 = .ok (.iconst 1, 1) := by decide +kernel
theorem d_D_passTick_31 : decode u_D_passTick.2.1 31 = .ok (.goto 4, 3) := by decide +kernel
theorem d_D_passTick_34 : decode u_D_passTick.2.1 34 = .ok (.iconst 0, 1) := by decide +kernel
theorem d_D_passTick_35 : decode u_D_passTick.2.1 35 = .ok (.istore_n 2, 1) := by decide +kernel
theorem d_D_passTick_36 : decode u_D_passTick.2.1 36 = .ok (.iload_n 2, 1) := by decide +kernel
theorem d_D_passTick_37 : decode u_D_passTick.2.1 37 = .ok (.ifCond .eq 8, 3) := by decide +kernel
theorem d_D_passTick_40 : decode u_D_passTick.2.1 40 = .ok (.aload_n 0, 1) := by decide +kernel
theorem d_D_passTick_41 : decode u_D_passTick.2.1 41 = .ok (.iload_n 1, 1) := by decide +kernel
theorem d_D_passTick_42 : decode u_D_passTick.2.1 42 = .ok (.invokevirtual 152, 3) := by decide +kernel
theorem d_D_passTick_45 : decode u_D_passTick.2.1 45 = .ok (.aload_n 0, 1) := by decide +kernel
theorem d_D_passTick_46 : decode u_D_passTick.2.1 46 = .ok (.getfield 30, 3) := by decide +kernel
theorem d_D_passTick_49 : decode u_D_passTick.2.1 49 = .ok (.invokevirtual 156, 3) := by decide +kernel
theorem d_D_passTick_52 : decode u_D_passTick.2.1 52 = .ok (.iload_n 2, 1) := by decide +kernel
theorem d_D_passTick_53 : decode u_D_passTick.2.1 53 = .ok (.ireturn, 1) := by decide +kernel
theorem d_D_doInstruction_0 : decode u_D_doInstruction.2.1 0 = .ok (.aload_n 0, 1) := by decide +kernel
theorem d_D_doInstruction_1 : decode u_D_doInstruction.2.1 1 = .ok (.getfield 15, 3) := by decide +kernel
theorem d_D_doInstruction_4 : decode u_D_doInstruction.2.1 4 = .ok (.iload_n 1, 1) := by decide +kernel
theorem d_D_doInstruction_5 : decode u_D_doInstruction.2.1 5 = .ok (.aaload, 1) := by decide +kernel
theorem d_D_doInstruction_6 : decode u_D_doInstruction.2.1 6 = .ok (.astore_n 2, 1) := by decide +kernel
theorem d_D_doInstruction_7 : decode u_D_doInstruction.2.1 7 = .ok (.aload_n 2, 1) := by decide +kernel
theorem d_D_doInstruction_8 : decode u_D_doInstruction.2.1 8 = .ok (.getfield 159, 3) := by decide +kernel
theorem d_D_doInstruction_11 : decode u_D_doInstruction.2.1 11 = .ok (.istore_n 3, 1) := by decide +kernel
theorem d_D_doInstruction_12 : decode u_D_doInstruction.2.1 12 = .ok (.iload_n 3, 1) := by decide +kernel
theorem d_D_doInstruction_13 : decode u_D_doInstruction.2.1 13 = .ok (.ifCond .lt 9, 3) := by decide +kernel
theorem d_D_doInstruction_16 : decode u_D_doInstruction.2.1 16 = .ok (.iload_n 3, 1) := by decide +kernel
theorem d_D_doInstruction_17 : decode u_D_doInstruction.2.1 17 = .ok (.bipush 16, 2) := by decide +kernel
theorem d_D_doInstruction_19 : decode u_D_doInstruction.2.1 19 = .ok (.if_icmp .lt 10, 3) := by decide +kernel
theorem d_D_doInstruction_22 : decode u_D_doInstruction.2.1 22 = .ok (.aload_n 0, 1) := by decide +kernel
theorem d_D_doInstruction_23 : decode u_D_doInstruction.2.1 23 = .ok (.iload_n 1, 1) := by decide +kernel
theorem d_D_doInstruction_24 : decode u_D_doInstruction.2.1 24 = .ok (.iconst 4, 1) := by decide +kernel
theorem d_D_doInstruction_25 : decode u_D_doInstruction.2.1 25 = .ok (.invokevirtual 162, 3) := by decide +kernel
theorem d_D_doInstruction_28 : decode u_D_doInstruction.2.1 28 = .ok (.return_, 1) := by decide +kernel
theorem d_D_doInstruction_29 : decode u_D_doInstruction.2.1 29 = .ok (.aload_n 0, 1) := by decide +kernel
theorem d_D_doInstruction_30 : decode u_D_doInstruction.2.1 30 = .ok (.iload_n 1, 1) := by decide +kernel
theorem d_D_doInstruction_31 : decode u_D_doInstruction.2.1 31 = .ok (.aload_n 2, 1) := by decide +kernel
theorem d_D_doInstruction_32 : decode u_D_doInstruction.2.1 32 = .ok (.getfield 70, 3) := by decide +kernel
theorem d_D_doInstruction_35 : decode u_D_doInstruction.2.1 35 = .ok (.iload_n 3, 1) := by decide +kernel
theorem d_D_doInstruction_36 : decode u_D_doInstruction.2.1 36 = .ok (.iaload, 1) := by decide +kernel
theorem d_D_doInstruction_37 : decode u_D_doInstruction.2.1 37 = .ok (.aload_n 2, 1) := by decide +kernel
theorem d_D_doInstruction_38 : decode u_D_doInstruction.2.1 38 = .ok (.getfield 73, 3) := by decide +kernel
theorem d_D_doInstruction_41 : decode u_D_doInstruction.2.1 41 = .ok (.iload_n 3, 1) := by decide +kernel
theorem d_D_doInstruction_42 : decode u_D_doInstruction.2.1 42 = .ok (.iaload, 1) := by decide +kernel
theorem d_D_doInstruction_43 : decode u_D_doInstruction.2.1 43 = .ok (.aload_n 2, 1) := by decide +kernel
theorem d_D_doInstruction_44 : decode u_D_doInstruction.2.1 44 = .ok (.getfield 76, 3) := by decide +kernel
theorem d_D_doInstruction_47 : decode u_D_doInstruction.2.1 47 = .ok (.iload_n 3, 1) := by decide +kernel
theorem d_D_doInstruction_48 : decode u_D_doInstruction.2.1 48 = .ok (.iaload, 1) := by decide +kernel
theorem d_D_doInstruction_49 : decode u_D_doInstruction.2.1 49 = .ok (.invokevirtual 165, 3) := by decide +kernel
theorem d_D_doInstruction_52 : decode u_D_doInstruction.2.1 52 = .ok (.istore 4, 2) := by decide +kernel
theorem d_D_doInstruction_54 : decode u_D_doInstruction.2.1 54 = .ok (.iload 4, 2) := by decide +kernel
theorem d_D_doInstruction_56 : decode u_D_doInstruction.2.1 56 = .ok (.ifCond .eq 11, 3) := by decide +kernel
theorem d_D_doInstruction_59 : decode u_D_doInstruction.2.1 59 = .ok (.aload_n 0, 1) := by decide +kernel
theorem d_D_doInstruction_60 : decode u_D_doInstruction.2.1 60 = .ok (.iload_n 1, 1) := by decide +kernel
theorem d_D_doInstruction_61 : decode u_D_doInstruction.2.1 61 = .ok (.iload 4, 2) := by decide +kernel
theorem d_D_doInstruction_63 : decode u_D_doInstruction.2.1 63 = .ok (.invokevirtual 162, 3) := by decide +kernel
theorem d_D_doInstruction_66 : decode u_D_doInstruction.2.1 66 = .ok (.return_, 1) := by decide +kernel
theorem d_D_doInstruction_67 : decode u_D_doInstruction.2.1 67 = .ok (.aload_n 0, 1) := by decide +kernel
theorem d_D_doInstruction_68 : decode u_D_doInstruction.2.1 68 = .ok (.aload_n 2, 1) := by decide +kernel
theorem d_D_doInstruction_69 : decode u_D_doInstruction.2.1 69 = .ok (.aload_n 2, 1) := by decide +kernel
theorem d_D_doInstruction_70 : decode u_D_doInstruction.2.1 70 = .ok (.getfield 70, 3) := by decide +kernel
theorem d_D_doInstruction_73 : decode u_D_doInstruction.2.1 73 = .ok (.iload_n 3, 1) := by decide +kernel
theorem d_D_doInstruction_74 : decode u_D_doInstruction.2.1 74 = .ok (.iaload, 1) := by decide +kernel
theorem d_D_doInstruction_75 : decode u_D_doInstruction.2.1 75 = .ok (.aload_n 2, 1) := by decide +kernel
theorem d_D_doInstruction_76 : decode u_D_doInstruction.2.1 76 = .ok (.getfield 73, 3) := by decide +kernel
theorem d_D_doInstruction_79 : decode u_D_doInstruction.2.1 79 = .ok (.iload_n 3, 1) := by decide +kernel
theorem d_D_doInstruction_80 : decode u_D_doInstruction.2.1 80 = .ok (.iaload, 1) := by decide +kernel
theorem d_D_doInstruction_81 : decode u_D_doInstruction.2.1 81 = .ok (.aload_n 2, 1) := by decide +kernel
theorem d_D_doInstruction_82 : decode u_D_doInstruction.2.1 82 = .ok (.getfield 76, 3) := by decide +kernel
theorem d_D_doInstruction_85 : decode u_D_doInstruction.2.1 85 = .ok (.iload_n 3, 1) := by decide +kernel
theorem d_D_doInstruction_86 : decode u_D_doInstruction.2.1 86 = .ok (.iaload, 1) := by decide +kernel
theorem d_D_doInstruction_87 : decode u_D_doInstruction.2.1 87 = .ok (.invokevirtual 169, 3) := by decide +kernel
theorem d_D_doInstruction_90 : decode u_D_doInstruction.2.1 90 = .ok (.return_, 1) := by decide +kernel
theorem d_D_faultAhead_0 : decode u_D_faultAhead.2.1 0 = .ok (.iload_n 2, 1) := by decide +kernel
theorem d_D_faultAhead_1 : decode u_D_faultAhead.2.1 1 = .ok (.tableswitch 113 5 10 #[39, 39, 113, 113, 59, 86], 39) := by decide +kernel
theorem d_D_faultAhead_40 : decode u_D_faultAhead.2.1 40 = .ok (.aload_n 0, 1) := by decide +kernel
theorem d_D_faultAhead_41 : decode u_D_faultAhead.2.1 41 = .ok (.getfield 15, 3) := by decide +kernel
theorem d_D_faultAhead_44 : decode u_D_faultAhead.2.1 44 = .ok (.iload_n 1, 1) := by decide +kernel
theorem d_D_faultAhead_45 : decode u_D_faultAhead.2.1 45 = .ok (.aaload, 1) := by decide +kernel
theorem d_D_faultAhead_46 : decode u_D_faultAhead.2.1 46 = .ok (.iload 4, 2) := by decide +kernel
theorem d_D_faultAhead_48 : decode u_D_faultAhead.2.1 48 = .ok (.invokevirtual 173, 3) := by decide +kernel
theorem d_D_faultAhead_51 : decode u_D_faultAhead.2.1 51 = .ok (.ifCond .eq 7, 3) := by decide +kernel
theorem d_D_faultAhead_54 : decode u_D_faultAhead.2.1 54 = .ok (.iconst 0, 1) := by decide +kernel
theorem d_D_faultAhead_55 : decode u_D_faultAhead.2.1 55 = .ok (.goto 4, 3) := by decide +kernel
theorem d_D_faultAhead_58 : decode u_D_faultAhead.2.1 58 = .ok (.iconst 1, 1) := by decide +kernel
theorem d_D_faultAhead_59 : decode u_D_faultAhead.2.1 59 = .ok (.ireturn, 1) := by decide +kernel
theorem d_D_faultAhead_60 : decode u_D_faultAhead.2.1 60 = .ok (.aload_n 0, 1) := by decide +kernel
theorem d_D_faultAhead_61 : decode u_D_faultAhead.2.1 61 = .ok (.iload_n 3, 1) := by decide +kernel
theorem d_D_faultAhead_62 : decode u_D_faultAhead.2.1 62 = .ok (.invokevirtual 109, 3) := by decide +kernel
theorem d_D_faultAhead_65 : decode u_D_faultAhead.2.1 65 = .ok (.ifCond .eq 20, 3) := by decide +kernel
theorem d_D_faultAhead_68 : decode u_D_faultAhead.2.1 68 = .ok (.aload_n 0, 1) := by decide +kernel
theorem d_D_faultAhead_69 : decode u_D_faultAhead.2.1 69 = .ok (.getfield 22, 3) := by decide +kernel
theorem d_D_faultAhead_72 : decode u_D_faultAhead.2.1 72 = .ok (.iload_n 3, 1) := by decide +kernel
theorem d_D_faultAhead_73 : decode u_D_faultAhead.2.1 73 = .ok (.aaload, 1) := by decide +kernel
theorem d_D_faultAhead_74 : decode u_D_faultAhead.2.1 74 = .ok (.getfield 60, 3) := by decide +kernel
theorem d_D_faultAhead_77 : decode u_D_faultAhead.2.1 77 = .ok (.iload_n 1, 1) := by decide +kernel
theorem d_D_faultAhead_78 : decode u_D_faultAhead.2.1 78 = .ok (.if_icmp .ne 7, 3) := by decide +kernel
theorem d_D_faultAhead_81 : decode u_D_faultAhead.2.1 81 = .ok (.iconst 0, 1) := by decide +kernel
theorem d_D_faultAhead_82 : decode u_D_faultAhead.2.1 82 = .ok (.goto 4, 3) := by decide +kernel
theorem d_D_faultAhead_85 : decode u_D_faultAhead.2.1 85 = .ok (.iconst 2, 1) := by decide +kernel
theorem d_D_faultAhead_86 : decode u_D_faultAhead.2.1 86 = .ok (.ireturn, 1) := by decide +kernel
theorem d_D_faultAhead_87 : decode u_D_faultAhead.2.1 87 = .ok (.aload_n 0, 1) := by decide +kernel
theorem d_D_faultAhead_88 : decode u_D_faultAhead.2.1 88 = .ok (.iload_n 3, 1) := by decide +kernel
theorem d_D_faultAhead_89 : decode u_D_faultAhead.2.1 89 = .ok (.invokevirtual 109, 3) := by decide +kernel
theorem d_D_faultAhead_92 : decode u_D_faultAhead.2.1 92 = .ok (.ifCond .eq 20, 3) := by decide +kernel
theorem d_D_faultAhead_95 : decode u_D_faultAhead.2.1 95 = .ok (.aload_n 0, 1) := by decide +kernel
theorem d_D_faultAhead_96 : decode u_D_faultAhead.2.1 96 = .ok (.getfield 22, 3) := by decide +kernel
theorem d_D_faultAhead_99 : decode u_D_faultAhead.2.1 99 = .ok (.iload_n 3, 1) := by decide +kernel
theorem d_D_faultAhead_100 : decode u_D_faultAhead.2.1 100 = .ok (.aaload, 1) := by decide +kernel
theorem d_D_faultAhead_101 : decode u_D_faultAhead.2.1 101 = .ok (.getfield 61, 3) := by decide +kernel
theorem d_D_faultAhead_104 : decode u_D_faultAhead.2.1 104 = .ok (.iload_n 1, 1) := by decide +kernel
theorem d_D_faultAhead_105 : decode u_D_faultAhead.2.1 105 = .ok (.if_icmp .ne 7, 3) := by decide +kernel
theorem d_D_faultAhead_108 : decode u_D_faultAhead.2.1 108 = .ok (.iconst 0, 1) := by decide +kernel
theorem d_D_faultAhead_109 : decode u_D_faultAhead.2.1 109 = .ok (.goto 4, 3) := by decide +kernel
theorem d_D_faultAhead_112 : decode u_D_faultAhead.2.1 112 = .ok (.iconst 2, 1) := by decide +kernel
theorem d_D_faultAhead_113 : decode u_D_faultAhead.2.1 113 = .ok (.ireturn, 1) := by decide +kernel
theorem d_D_faultAhead_114 : decode u_D_faultAhead.2.1 114 = .ok (.iload_n 2, 1) := by decide +kernel
theorem d_D_faultAhead_115 : decode u_D_faultAhead.2.1 115 = .ok (.ifCond .lt 9, 3) := by decide +kernel
theorem d_D_faultAhead_118 : decode u_D_faultAhead.2.1 118 = .ok (.iload_n 2, 1) := by decide +kernel
theorem d_D_faultAhead_119 : decode u_D_faultAhead.2.1 119 = .ok (.bipush 14, 2) := by decide +kernel
theorem d_D_faultAhead_121 : decode u_D_faultAhead.2.1 121 = .ok (.if_icmp .le 7, 3) := by decide +kernel
theorem d_D_faultAhead_124 : decode u_D_faultAhead.2.1 124 = .ok (.iconst 3, 1) := by decide +kernel
theorem d_D_faultAhead_125 : decode u_D_faultAhead.2.1 125 = .ok (.goto 4, 3) := by decide +kernel
theorem d_D_faultAhead_128 : decode u_D_faultAhead.2.1 128 = .ok (.iconst 0, 1) := by decide +kernel
theorem d_D_faultAhead_129 : decode u_D_faultAhead.2.1 129 = .ok (.ireturn, 1) := by decide +kernel
theorem d_D_carryOut_0 : decode u_D_carryOut.2.1 0 = .ok (.aload_n 1, 1) := by decide +kernel
theorem d_D_carryOut_1 : decode u_D_carryOut.2.1 1 = .ok (.dup, 1) := by decide +kernel
theorem d_D_carryOut_2 : decode u_D_carryOut.2.1 2 = .ok (.getfield 159, 3) := by decide +kernel
theorem d_D_carryOut_5 : decode u_D_carryOut.2.1 5 = .ok (.iconst 1, 1) := by decide +kernel
theorem d_D_carryOut_6 : decode u_D_carryOut.2.1 6 = .ok (.iadd, 1) := by decide +kernel
theorem d_D_carryOut_7 : decode u_D_carryOut.2.1 7 = .ok (.putfield 159, 3) := by decide +kernel
theorem d_D_carryOut_10 : decode u_D_carryOut.2.1 10 = .ok (.iload_n 2, 1) := by decide +kernel
theorem d_D_carryOut_11 : decode u_D_carryOut.2.1 11 = .ok (.bipush 6, 2) := by decide +kernel
theorem d_D_carryOut_13 : decode u_D_carryOut.2.1 13 = .ok (.if_icmp .gt 15, 3) := by decide +kernel
theorem d_D_carryOut_16 : decode u_D_carryOut.2.1 16 = .ok (.aload_n 0, 1) := by decide +kernel
theorem d_D_carryOut_17 : decode u_D_carryOut.2.1 17 = .ok (.aload_n 1, 1) := by decide +kernel
theorem d_D_carryOut_18 : decode u_D_carryOut.2.1 18 = .ok (.iload_n 2, 1) := by decide +kernel
theorem d_D_carryOut_19 : decode u_D_carryOut.2.1 19 = .ok (.iload_n 3, 1) := by decide +kernel
theorem d_D_carryOut_20 : decode u_D_carryOut.2.1 20 = .ok (.iload 4, 2) := by decide +kernel
theorem d_D_carryOut_22 : decode u_D_carryOut.2.1 22 = .ok (.invokevirtual 176, 3) := by decide +kernel
theorem d_D_carryOut_25 : decode u_D_carryOut.2.1 25 = .ok (.goto 29, 3) := by decide +kernel
theorem d_D_carryOut_28 : decode u_D_carryOut.2.1 28 = .ok (.iload_n 2, 1) := by decide +kernel
theorem d_D_carryOut_29 : decode u_D_carryOut.2.1 29 = .ok (.bipush 8, 2) := by decide +kernel
theorem d_D_carryOut_31 : decode u_D_carryOut.2.1 31 = .ok (.if_icmp .gt 14, 3) := by decide +kernel
theorem d_D_carryOut_34 : decode u_D_carryOut.2.1 34 = .ok (.aload_n 1, 1) := by decide +kernel
theorem d_D_carryOut_35 : decode u_D_carryOut.2.1 35 = .ok (.iload_n 2, 1) := by decide +kernel
theorem d_D_carryOut_36 : decode u_D_carryOut.2.1 36 = .ok (.iload_n 3, 1) := by decide +kernel
theorem d_D_carryOut_37 : decode u_D_carryOut.2.1 37 = .ok (.iload 4, 2) := by decide +kernel
end
section
theorem d_D_carryOut_39 : decode u_D_carryOut.2.1 39 = .ok (.invokestatic 179, 3) := by decide +kernel
theorem d_D_carryOut_42 : decode u_D_carryOut.2.1 42 = .ok (.goto 12, 3) := by decide +kernel
theorem d_D_carryOut_45 : decode u_D_carryOut.2.1 45 = .ok (.aload_n 0, 1) := by decide +kernel
theorem d_D_carryOut_46 : decode u_D_carryOut.2.1 46 = .ok (.aload_n 1, 1) := by decide +kernel
theorem d_D_carryOut_47 : decode u_D_carryOut.2.1 47 = .ok (.iload_n 2, 1) := by decide +kernel
theorem d_D_carryOut_48 : decode u_D_carryOut.2.1 48 = .ok (.iload_n 3, 1) := by decide +kernel
theorem d_D_carryOut_49 : decode u_D_carryOut.2.1 49 = .ok (.iload 4, 2) := by decide +kernel
theorem d_D_carryOut_51 : decode u_D_carryOut.2.1 51 = .ok (.invokevirtual 182, 3) := by decide +kernel
theorem d_D_carryOut_54 : decode u_D_carryOut.2.1 54 = .ok (.return_, 1) := by decide +kernel
theorem d_D_compute_0 : decode u_D_compute.2.1 0 = .ok (.iload_n 3, 1) := by decide +kernel
theorem d_D_compute_1 : decode u_D_compute.2.1 1 = .ok (.invokestatic 185, 3) := by decide +kernel
theorem d_D_compute_4 : decode u_D_compute.2.1 4 = .ok (.istore 5, 2) := by decide +kernel
theorem d_D_compute_6 : decode u_D_compute.2.1 6 = .ok (.iload 4, 2) := by decide +kernel
theorem d_D_compute_8 : decode u_D_compute.2.1 8 = .ok (.invokestatic 185, 3) := by decide +kernel
theorem d_D_compute_11 : decode u_D_compute.2.1 11 = .ok (.istore 6, 2) := by decide +kernel
theorem d_D_compute_13 : decode u_D_compute.2.1 13 = .ok (.aload_n 1, 1) := by decide +kernel
theorem d_D_compute_14 : decode u_D_compute.2.1 14 = .ok (.getfield 188, 3) := by decide +kernel
theorem d_D_compute_17 : decode u_D_compute.2.1 17 = .ok (.astore 7, 2) := by decide +kernel
theorem d_D_compute_19 : decode u_D_compute.2.1 19 = .ok (.iload_n 2, 1) := by decide +kernel
theorem d_D_compute_20 : decode u_D_compute.2.1 20 = .ok (.tableswitch 153 1 6 #[40, 50, 69, 88, 107, 130], 40) := by decide +kernel
theorem d_D_compute_60 : decode u_D_compute.2.1 60 = .ok (.aload 7, 2) := by decide +kernel
theorem d_D_compute_62 : decode u_D_compute.2.1 62 = .ok (.iload 5, 2) := by decide +kernel
theorem d_D_compute_64 : decode u_D_compute.2.1 64 = .ok (.iload 4, 2) := by decide +kernel
theorem d_D_compute_66 : decode u_D_compute.2.1 66 = .ok (.iastore, 1) := by decide +kernel
theorem d_D_compute_67 : decode u_D_compute.2.1 67 = .ok (.goto 106, 3) := by decide +kernel
theorem d_D_compute_70 : decode u_D_compute.2.1 70 = .ok (.aload 7, 2) := by decide +kernel
theorem d_D_compute_72 : decode u_D_compute.2.1 72 = .ok (.iload 5, 2) := by decide +kernel
theorem d_D_compute_74 : decode u_D_compute.2.1 74 = .ok (.aload 7, 2) := by decide +kernel
theorem d_D_compute_76 : decode u_D_compute.2.1 76 = .ok (.iload 5, 2) := by decide +kernel
theorem d_D_compute_78 : decode u_D_compute.2.1 78 = .ok (.iaload, 1) := by decide +kernel
theorem d_D_compute_79 : decode u_D_compute.2.1 79 = .ok (.aload 7, 2) := by decide +kernel
theorem d_D_compute_81 : decode u_D_compute.2.1 81 = .ok (.iload 6, 2) := by decide +kernel
theorem d_D_compute_83 : decode u_D_compute.2.1 83 = .ok (.iaload, 1) := by decide +kernel
theorem d_D_compute_84 : decode u_D_compute.2.1 84 = .ok (.iadd, 1) := by decide +kernel
theorem d_D_compute_85 : decode u_D_compute.2.1 85 = .ok (.iastore, 1) := by decide +kernel
theorem d_D_compute_86 : decode u_D_compute.2.1 86 = .ok (.goto 87, 3) := by decide +kernel
theorem d_D_compute_89 : decode u_D_compute.2.1 89 = .ok (.aload 7, 2) := by decide +kernel
theorem d_D_compute_91 : decode u_D_compute.2.1 91 = .ok (.iload 5, 2) := by decide +kernel
theorem d_D_compute_93 : decode u_D_compute.2.1 93 = .ok (.aload 7, 2) := by decide +kernel
theorem d_D_compute_95 : decode u_D_compute.2.1 95 = .ok (.iload 5, 2) := by decide +kernel
theorem d_D_compute_97 : decode u_D_compute.2.1 97 = .ok (.iaload, 1) := by decide +kernel
theorem d_D_compute_98 : decode u_D_compute.2.1 98 = .ok (.aload 7, 2) := by decide +kernel
theorem d_D_compute_100 : decode u_D_compute.2.1 100 = .ok (.iload 6, 2) := by decide +kernel
theorem d_D_compute_102 : decode u_D_compute.2.1 102 = .ok (.iaload, 1) := by decide +kernel
theorem d_D_compute_103 : decode u_D_compute.2.1 103 = .ok (.isub, 1) := by decide +kernel
theorem d_D_compute_104 : decode u_D_compute.2.1 104 = .ok (.iastore, 1) := by decide +kernel
theorem d_D_compute_105 : decode u_D_compute.2.1 105 = .ok (.goto 68, 3) := by decide +kernel
theorem d_D_compute_108 : decode u_D_compute.2.1 108 = .ok (.aload 7, 2) := by decide +kernel
theorem d_D_compute_110 : decode u_D_compute.2.1 110 = .ok (.iload 5, 2) := by decide +kernel
theorem d_D_compute_112 : decode u_D_compute.2.1 112 = .ok (.aload 7, 2) := by decide +kernel
theorem d_D_compute_114 : decode u_D_compute.2.1 114 = .ok (.iload 5, 2) := by decide +kernel
theorem d_D_compute_116 : decode u_D_compute.2.1 116 = .ok (.iaload, 1) := by decide +kernel
theorem d_D_compute_117 : decode u_D_compute.2.1 117 = .ok (.aload 7, 2) := by decide +kernel
theorem d_D_compute_119 : decode u_D_compute.2.1 119 = .ok (.iload 6, 2) := by decide +kernel
theorem d_D_compute_121 : decode u_D_compute.2.1 121 = .ok (.iaload, 1) := by decide +kernel
theorem d_D_compute_122 : decode u_D_compute.2.1 122 = .ok (.ixor, 1) := by decide +kernel
theorem d_D_compute_123 : decode u_D_compute.2.1 123 = .ok (.iastore, 1) := by decide +kernel
theorem d_D_compute_124 : decode u_D_compute.2.1 124 = .ok (.goto 49, 3) := by decide +kernel
theorem d_D_compute_127 : decode u_D_compute.2.1 127 = .ok (.aload 7, 2) := by decide +kernel
theorem d_D_compute_129 : decode u_D_compute.2.1 129 = .ok (.iload 5, 2) := by decide +kernel
theorem d_D_compute_131 : decode u_D_compute.2.1 131 = .ok (.aload_n 0, 1) := by decide +kernel
theorem d_D_compute_132 : decode u_D_compute.2.1 132 = .ok (.getfield 9, 3) := by decide +kernel
theorem d_D_compute_135 : decode u_D_compute.2.1 135 = .ok (.aload_n 1, 1) := by decide +kernel
theorem d_D_compute_136 : decode u_D_compute.2.1 136 = .ok (.getfield 46, 3) := by decide +kernel
theorem d_D_compute_139 : decode u_D_compute.2.1 139 = .ok (.aload 7, 2) := by decide +kernel
theorem d_D_compute_141 : decode u_D_compute.2.1 141 = .ok (.iload 6, 2) := by decide +kernel
theorem d_D_compute_143 : decode u_D_compute.2.1 143 = .ok (.iaload, 1) := by decide +kernel
theorem d_D_compute_144 : decode u_D_compute.2.1 144 = .ok (.iadd, 1) := by decide +kernel
theorem d_D_compute_145 : decode u_D_compute.2.1 145 = .ok (.iaload, 1) := by decide +kernel
theorem d_D_compute_146 : decode u_D_compute.2.1 146 = .ok (.iastore, 1) := by decide +kernel
theorem d_D_compute_147 : decode u_D_compute.2.1 147 = .ok (.goto 26, 3) := by decide +kernel
theorem d_D_compute_150 : decode u_D_compute.2.1 150 = .ok (.aload_n 0, 1) := by decide +kernel
theorem d_D_compute_151 : decode u_D_compute.2.1 151 = .ok (.getfield 9, 3) := by decide +kernel
theorem d_D_compute_154 : decode u_D_compute.2.1 154 = .ok (.aload_n 1, 1) := by decide +kernel
theorem d_D_compute_155 : decode u_D_compute.2.1 155 = .ok (.getfield 46, 3) := by decide +kernel
theorem d_D_compute_158 : decode u_D_compute.2.1 158 = .ok (.aload 7, 2) := by decide +kernel
theorem d_D_compute_160 : decode u_D_compute.2.1 160 = .ok (.iload 6, 2) := by decide +kernel
theorem d_D_compute_162 : decode u_D_compute.2.1 162 = .ok (.iaload, 1) := by decide +kernel
theorem d_D_compute_163 : decode u_D_compute.2.1 163 = .ok (.iadd, 1) := by decide +kernel
theorem d_D_compute_164 : decode u_D_compute.2.1 164 = .ok (.aload 7, 2) := by decide +kernel
theorem d_D_compute_166 : decode u_D_compute.2.1 166 = .ok (.iload 5, 2) := by decide +kernel
theorem d_D_compute_168 : decode u_D_compute.2.1 168 = .ok (.iaload, 1) := by decide +kernel
theorem d_D_compute_169 : decode u_D_compute.2.1 169 = .ok (.iastore, 1) := by decide +kernel
theorem d_D_compute_170 : decode u_D_compute.2.1 170 = .ok (.goto 3, 3) := by decide +kernel
theorem d_D_compute_173 : decode u_D_compute.2.1 173 = .ok (.return_, 1) := by decide +kernel
theorem d_D_jump_0 : decode u_D_jump.2.1 0 = .ok (.iload_n 1, 1) := by decide +kernel
theorem d_D_jump_1 : decode u_D_jump.2.1 1 = .ok (.bipush 7, 2) := by decide +kernel
theorem d_D_jump_3 : decode u_D_jump.2.1 3 = .ok (.if_icmp .eq 15, 3) := by decide +kernel
theorem d_D_jump_6 : decode u_D_jump.2.1 6 = .ok (.aload_n 0, 1) := by decide +kernel
theorem d_D_jump_7 : decode u_D_jump.2.1 7 = .ok (.getfield 188, 3) := by decide +kernel
theorem d_D_jump_10 : decode u_D_jump.2.1 10 = .ok (.iload_n 2, 1) := by decide +kernel
theorem d_D_jump_11 : decode u_D_jump.2.1 11 = .ok (.invokestatic 185, 3) := by decide +kernel
theorem d_D_jump_14 : decode u_D_jump.2.1 14 = .ok (.iaload, 1) := by decide +kernel
theorem d_D_jump_15 : decode u_D_jump.2.1 15 = .ok (.ifCond .eq 8, 3) := by decide +kernel
theorem d_D_jump_18 : decode u_D_jump.2.1 18 = .ok (.aload_n 0, 1) := by decide +kernel
theorem d_D_jump_19 : decode u_D_jump.2.1 19 = .ok (.iload_n 3, 1) := by decide +kernel
theorem d_D_jump_20 : decode u_D_jump.2.1 20 = .ok (.putfield 159, 3) := by decide +kernel
theorem d_D_jump_23 : decode u_D_jump.2.1 23 = .ok (.return_, 1) := by decide +kernel
theorem d_D_communicate_0 : decode u_D_communicate.2.1 0 = .ok (.iload_n 3, 1) := by decide +kernel
theorem d_D_communicate_1 : decode u_D_communicate.2.1 1 = .ok (.invokestatic 185, 3) := by decide +kernel
theorem d_D_communicate_4 : decode u_D_communicate.2.1 4 = .ok (.istore 5, 2) := by decide +kernel
theorem d_D_communicate_6 : decode u_D_communicate.2.1 6 = .ok (.iload 4, 2) := by decide +kernel
theorem d_D_communicate_8 : decode u_D_communicate.2.1 8 = .ok (.invokestatic 185, 3) := by decide +kernel
theorem d_D_communicate_11 : decode u_D_communicate.2.1 11 = .ok (.istore 6, 2) := by decide +kernel
theorem d_D_communicate_13 : decode u_D_communicate.2.1 13 = .ok (.iload_n 2, 1) := by decide +kernel
theorem d_D_communicate_14 : decode u_D_communicate.2.1 14 = .ok (.tableswitch 130 9 14 #[38, 63, 88, 97, 111, 122], 38) := by decide +kernel
theorem d_D_communicate_52 : decode u_D_communicate.2.1 52 = .ok (.aload_n 0, 1) := by decide +kernel
theorem d_D_communicate_53 : decode u_D_communicate.2.1 53 = .ok (.getfield 22, 3) := by decide +kernel
theorem d_D_communicate_56 : decode u_D_communicate.2.1 56 = .ok (.iload_n 3, 1) := by decide +kernel
theorem d_D_communicate_57 : decode u_D_communicate.2.1 57 = .ok (.aaload, 1) := by decide +kernel
theorem d_D_communicate_58 : decode u_D_communicate.2.1 58 = .ok (.aload_n 1, 1) := by decide +kernel
theorem d_D_communicate_59 : decode u_D_communicate.2.1 59 = .ok (.getfield 188, 3) := by decide +kernel
theorem d_D_communicate_62 : decode u_D_communicate.2.1 62 = .ok (.iload 6, 2) := by decide +kernel
theorem d_D_communicate_64 : decode u_D_communicate.2.1 64 = .ok (.aload_n 0, 1) := by decide +kernel
theorem d_D_communicate_65 : decode u_D_communicate.2.1 65 = .ok (.getfield 30, 3) := by decide +kernel
theorem d_D_communicate_68 : decode u_D_communicate.2.1 68 = .ok (.getfield 191, 3) := by decide +kernel
theorem d_D_communicate_71 : decode u_D_communicate.2.1 71 = .ok (.invokevirtual 194, 3) := by decide +kernel
theorem d_D_communicate_74 : decode u_D_communicate.2.1 74 = .ok (.goto 70, 3) := by decide +kernel
theorem d_D_communicate_77 : decode u_D_communicate.2.1 77 = .ok (.aload_n 0, 1) := by decide +kernel
theorem d_D_communicate_78 : decode u_D_communicate.2.1 78 = .ok (.getfield 22, 3) := by decide +kernel
theorem d_D_communicate_81 : decode u_D_communicate.2.1 81 = .ok (.iload_n 3, 1) := by decide +kernel
theorem d_D_communicate_82 : decode u_D_communicate.2.1 82 = .ok (.aaload, 1) := by decide +kernel
theorem d_D_communicate_83 : decode u_D_communicate.2.1 83 = .ok (.aload_n 1, 1) := by decide +kernel
theorem d_D_communicate_84 : decode u_D_communicate.2.1 84 = .ok (.getfield 188, 3) := by decide +kernel
theorem d_D_communicate_87 : decode u_D_communicate.2.1 87 = .ok (.iload 6, 2) := by decide +kernel
theorem d_D_communicate_89 : decode u_D_communicate.2.1 89 = .ok (.aload_n 0, 1) := by decide +kernel
theorem d_D_communicate_90 : decode u_D_communicate.2.1 90 = .ok (.getfield 30, 3) := by decide +kernel
theorem d_D_communicate_93 : decode u_D_communicate.2.1 93 = .ok (.getfield 191, 3) := by decide +kernel
theorem d_D_communicate_96 : decode u_D_communicate.2.1 96 = .ok (.invokevirtual 198, 3) := by decide +kernel
theorem d_D_communicate_99 : decode u_D_communicate.2.1 99 = .ok (.goto 45, 3) := by decide +kernel
theorem d_D_communicate_102 : decode u_D_communicate.2.1 102 = .ok (.aload_n 1, 1) := by decide +kernel
theorem d_D_communicate_103 : decode u_D_communicate.2.1 103 = .ok (.iload 5, 2) := by decide +kernel
theorem d_D_communicate_105 : decode u_D_communicate.2.1 105 = .ok (.invokevirtual 201, 3) := by decide +kernel
theorem d_D_communicate_108 : decode u_D_communicate.2.1 108 = .ok (.goto 36, 3) := by decide +kernel
theorem d_D_communicate_111 : decode u_D_communicate.2.1 111 = .ok (.aload_n 1, 1) := by decide +kernel
theorem d_D_communicate_112 : decode u_D_communicate.2.1 112 = .ok (.aload_n 1, 1) := by decide +kernel
theorem d_D_communicate_113 : decode u_D_communicate.2.1 113 = .ok (.getfield 188, 3) := by decide +kernel
theorem d_D_communicate_116 : decode u_D_communicate.2.1 116 = .ok (.iload 5, 2) := by decide +kernel
theorem d_D_communicate_118 : decode u_D_communicate.2.1 118 = .ok (.iaload, 1) := by decide +kernel
theorem d_D_communicate_119 : decode u_D_communicate.2.1 119 = .ok (.invokevirtual 204, 3) := by decide +kernel
theorem d_D_communicate_122 : decode u_D_communicate.2.1 122 = .ok (.goto 22, 3) := by decide +kernel
theorem d_D_communicate_125 : decode u_D_communicate.2.1 125 = .ok (.aload_n 0, 1) := by decide +kernel
theorem d_D_communicate_126 : decode u_D_communicate.2.1 126 = .ok (.getfield 30, 3) := by decide +kernel
theorem d_D_communicate_129 : decode u_D_communicate.2.1 129 = .ok (.iconst 1, 1) := by decide +kernel
theorem d_D_communicate_130 : decode u_D_communicate.2.1 130 = .ok (.putfield 149, 3) := by decide +kernel
theorem d_D_communicate_133 : decode u_D_communicate.2.1 133 = .ok (.goto 11, 3) := by decide +kernel
theorem d_D_communicate_136 : decode u_D_communicate.2.1 136 = .ok (.aload_n 1, 1) := by decide +kernel
theorem d_D_communicate_137 : decode u_D_communicate.2.1 137 = .ok (.iconst 0, 1) := by decide +kernel
theorem d_D_communicate_138 : decode u_D_communicate.2.1 138 = .ok (.putfield 146, 3) := by decide +kernel
theorem d_D_communicate_141 : decode u_D_communicate.2.1 141 = .ok (.goto 3, 3) := by decide +kernel
theorem d_D_communicate_144 : decode u_D_communicate.2.1 144 = .ok (.return_, 1) := by decide +kernel
theorem d_D_registerNamed_0 : decode u_D_registerNamed.2.1 0 = .ok (.iload_n 0, 1) := by decide +kernel
theorem d_D_registerNamed_1 : decode u_D_registerNamed.2.1 1 = .ok (.iconst 4, 1) := by decide +kernel
theorem d_D_registerNamed_2 : decode u_D_registerNamed.2.1 2 = .ok (.invokestatic 207, 3) := by decide +kernel
theorem d_D_registerNamed_5 : decode u_D_registerNamed.2.1 5 = .ok (.ireturn, 1) := by decide +kernel
theorem d_D_answerFault_0 : decode u_D_answerFault.2.1 0 = .ok (.aload_n 0, 1) := by decide +kernel
theorem d_D_answerFault_1 : decode u_D_answerFault.2.1 1 = .ok (.getfield 15, 3) := by decide +kernel
theorem d_D_answerFault_4 : decode u_D_answerFault.2.1 4 = .ok (.iload_n 1, 1) := by decide +kernel
theorem d_D_answerFault_5 : decode u_D_answerFault.2.1 5 = .ok (.aaload, 1) := by decide +kernel
theorem d_D_answerFault_6 : decode u_D_answerFault.2.1 6 = .ok (.astore_n 3, 1) := by decide +kernel
theorem d_D_answerFault_7 : decode u_D_answerFault.2.1 7 = .ok (.aload_n 3, 1) := by decide +kernel
theorem d_D_answerFault_8 : decode u_D_answerFault.2.1 8 = .ok (.dup, 1) := by decide +kernel
theorem d_D_answerFault_9 : decode u_D_answerFault.2.1 9 = .ok (.getfield 213, 3) := by decide +kernel
theorem d_D_answerFault_12 : decode u_D_answerFault.2.1 12 = .ok (.iconst 1, 1) := by decide +kernel
theorem d_D_answerFault_13 : decode u_D_answerFault.2.1 13 = .ok (.iadd, 1) := by decide +kernel
theorem d_D_answerFault_14 : decode u_D_answerFault.2.1 14 = .ok (.putfield 213, 3) := by decide +kernel
theorem d_D_answerFault_17 : decode u_D_answerFault.2.1 17 = .ok (.aload_n 3, 1) := by decide +kernel
theorem d_D_answerFault_18 : decode u_D_answerFault.2.1 18 = .ok (.getfield 67, 3) := by decide +kernel
theorem d_D_answerFault_21 : decode u_D_answerFault.2.1 21 = .ok (.iload_n 2, 1) := by decide +kernel
theorem d_D_answerFault_22 : decode u_D_answerFault.2.1 22 = .ok (.iconst 1, 1) := by decide +kernel
theorem d_D_answerFault_23 : decode u_D_answerFault.2.1 23 = .ok (.isub, 1) := by decide +kernel
theorem d_D_answerFault_24 : decode u_D_answerFault.2.1 24 = .ok (.iaload, 1) := by decide +kernel
theorem d_D_answerFault_25 : decode u_D_answerFault.2.1 25 = .ok (.lookupswitch 57 #[(1, 27), (2, 35)], 27) := by decide +kernel
theorem d_D_answerFault_52 : decode u_D_answerFault.2.1 52 = .ok (.aload_n 0, 1) := by decide +kernel
theorem d_D_answerFault_53 : decode u_D_answerFault.2.1 53 = .ok (.iload_n 1, 1) := by decide +kernel
theorem d_D_answerFault_54 : decode u_D_answerFault.2.1 54 = .ok (.invokevirtual 216, 3) := by decide +kernel
theorem d_D_answerFault_57 : decode u_D_answerFault.2.1 57 = .ok (.goto 30, 3) := by decide +kernel
theorem d_D_answerFault_60 : decode u_D_answerFault.2.1 60 = .ok (.aload_n 3, 1) := by decide +kernel
theorem d_D_answerFault_61 : decode u_D_answerFault.2.1 61 = .ok (.iload_n 2, 1) := by decide +kernel
theorem d_D_answerFault_62 : decode u_D_answerFault.2.1 62 = .ok (.iconst 4, 1) := by decide +kernel
theorem d_D_answerFault_63 : decode u_D_answerFault.2.1 63 = .ok (.if_icmp .ne 7, 3) := by decide +kernel
theorem d_D_answerFault_66 : decode u_D_answerFault.2.1 66 = .ok (.iconst 0, 1) := by decide +kernel
theorem d_D_answerFault_67 : decode u_D_answerFault.2.1 67 = .ok (.goto 9, 3) := by decide +kernel
theorem d_D_answerFault_70 : decode u_D_answerFault.2.1 70 = .ok (.aload_n 3, 1) := by decide +kernel
theorem d_D_answerFault_71 : decode u_D_answerFault.2.1 71 = .ok (.getfield 159, 3) := by decide +kernel
theorem d_D_answerFault_74 : decode u_D_answerFault.2.1 74 = .ok (.iconst 1, 1) := by decide +kernel
theorem d_D_answerFault_75 : decode u_D_answerFault.2.1 75 = .ok (.iadd, 1) := by decide +kernel
theorem d_D_answerFault_76 : decode u_D_answerFault.2.1 76 = .ok (.putfield 159, 3) := by decide +kernel
theorem d_D_answerFault_79 : decode u_D_answerFault.2.1 79 = .ok (.goto 8, 3) := by decide +kernel
theorem d_D_answerFault_82 : decode u_D_answerFault.2.1 82 = .ok (.aload_n 3, 1) := by decide +kernel
theorem d_D_answerFault_83 : decode u_D_answerFault.2.1 83 = .ok (.iconst 0, 1) := by decide +kernel
theorem d_D_answerFault_84 : decode u_D_answerFault.2.1 84 = .ok (.putfield 146, 3) := by decide +kernel
theorem d_D_answerFault_87 : decode u_D_answerFault.2.1 87 = .ok (.return_, 1) := by decide +kernel
theorem d_D_restart_0 : decode u_D_restart.2.1 0 = .ok (.aload_n 0, 1) := by decide +kernel
theorem d_D_restart_1 : decode u_D_restart.2.1 1 = .ok (.getfield 15, 3) := by decide +kernel
theorem d_D_restart_4 : decode u_D_restart.2.1 4 = .ok (.iload_n 1, 1) := by decide +kernel
theorem d_D_restart_5 : decode u_D_restart.2.1 5 = .ok (.aaload, 1) := by decide +kernel
theorem d_D_restart_6 : decode u_D_restart.2.1 6 = .ok (.astore_n 2, 1) := by decide +kernel
theorem d_D_restart_7 : decode u_D_restart.2.1 7 = .ok (.aload_n 2, 1) := by decide +kernel
theorem d_D_restart_8 : decode u_D_restart.2.1 8 = .ok (.invokevirtual 219, 3) := by decide +kernel
theorem d_D_restart_11 : decode u_D_restart.2.1 11 = .ok (.iconst 0, 1) := by decide +kernel
theorem d_D_restart_12 : decode u_D_restart.2.1 12 = .ok (.istore_n 3, 1) := by decide +kernel
theorem d_D_restart_13 : decode u_D_restart.2.1 13 = .ok (.iload_n 3, 1) := by decide +kernel
theorem d_D_restart_14 : decode u_D_restart.2.1 14 = .ok (.aload_n 2, 1) := by decide +kernel
theorem d_D_restart_15 : decode u_D_restart.2.1 15 = .ok (.getfield 49, 3) := by decide +kernel
theorem d_D_restart_18 : decode u_D_restart.2.1 18 = .ok (.if_icmp .ge 21, 3) := by decide +kernel
theorem d_D_restart_21 : decode u_D_restart.2.1 21 = .ok (.aload_n 0, 1) := by decide +kernel
theorem d_D_restart_22 : decode u_D_restart.2.1 22 = .ok (.getfield 9, 3) := by decide +kernel
theorem d_D_restart_25 : decode u_D_restart.2.1 25 = .ok (.aload_n 2, 1) := by decide +kernel
theorem d_D_restart_26 : decode u_D_restart.2.1 26 = .ok (.getfield 46, 3) := by decide +kernel
theorem d_D_restart_29 : decode u_D_restart.2.1 29 = .ok (.iload_n 3, 1) := by decide +kernel
theorem d_D_restart_30 : decode u_D_restart.2.1 30 = .ok (.iadd, 1) := by decide +kernel
theorem d_D_restart_31 : decode u_D_restart.2.1 31 = .ok (.iconst 0, 1) := by decide +kernel
theorem d_D_restart_32 : decode u_D_restart.2.1 32 = .ok (.iastore, 1) := by decide +kernel
theorem d_D_restart_33 : decode u_D_restart.2.1 33 = .ok (.iinc 3 1, 3) := by decide +kernel
theorem d_D_restart_36 : decode u_D_restart.2.1 36 = .ok (.goto (-23), 3) := by decide +kernel
theorem d_D_restart_39 : decode u_D_restart.2.1 39 = .ok (.iconst 0, 1) := by decide +kernel
theorem d_D_restart_40 : decode u_D_restart.2.1 40 = .ok (.istore_n 3, 1) := by decide +kernel
theorem d_D_restart_41 : decode u_D_restart.2.1 41 = .ok (.iload_n 3, 1) := by decide +kernel
theorem d_D_restart_42 : decode u_D_restart.2.1 42 = .ok (.aload_n 0, 1) := by decide +kernel
theorem d_D_restart_43 : decode u_D_restart.2.1 43 = .ok (.getfield 34, 3) := by decide +kernel
theorem d_D_restart_46 : decode u_D_restart.2.1 46 = .ok (.if_icmp .ge 34, 3) := by decide +kernel
theorem d_D_restart_49 : decode u_D_restart.2.1 49 = .ok (.aload_n 0, 1) := by decide +kernel
theorem d_D_restart_50 : decode u_D_restart.2.1 50 = .ok (.getfield 22, 3) := by decide +kernel
theorem d_D_restart_53 : decode u_D_restart.2.1 53 = .ok (.iload_n 3, 1) := by decide +kernel
theorem d_D_restart_54 : decode u_D_restart.2.1 54 = .ok (.aaload, 1) := by decide +kernel
theorem d_D_restart_55 : decode u_D_restart.2.1 55 = .ok (.getfield 61, 3) := by decide +kernel
theorem d_D_restart_58 : decode u_D_restart.2.1 58 = .ok (.iload_n 1, 1) := by decide +kernel
theorem d_D_restart_59 : decode u_D_restart.2.1 59 = .ok (.if_icmp .ne 15, 3) := by decide +kernel
theorem d_D_restart_62 : decode u_D_restart.2.1 62 = .ok (.aload_n 0, 1) := by decide +kernel
theorem d_D_restart_63 : decode u_D_restart.2.1 63 = .ok (.getfield 22, 3) := by decide +kernel
theorem d_D_restart_66 : decode u_D_restart.2.1 66 = .ok (.iload_n 3, 1) := by decide +kernel
theorem d_D_restart_67 : decode u_D_restart.2.1 67 = .ok (.aaload, 1) := by decide +kernel
theorem d_D_restart_68 : decode u_D_restart.2.1 68 = .ok (.getfield 112, 3) := by decide +kernel
theorem d_D_restart_71 : decode u_D_restart.2.1 71 = .ok (.invokevirtual 139, 3) := by decide +kernel
theorem d_D_restart_74 : decode u_D_restart.2.1 74 = .ok (.iinc 3 1, 3) := by decide +kernel
theorem d_D_restart_77 : decode u_D_restart.2.1 77 = .ok (.goto (-36), 3) := by decide +kernel
theorem d_D_restart_80 : decode u_D_restart.2.1 80 = .ok (.return_, 1) := by decide +kernel
theorem d_P_init_0 : decode u_P_init.2.1 0 = .ok (.aload_n 0, 1) := by decide +kernel
theorem d_P_init_1 : decode u_P_init.2.1 1 = .ok (.invokespecial 3, 3) := by decide +kernel
theorem d_P_init_4 : decode u_P_init.2.1 4 = .ok (.aload_n 0, 1) := by decide +kernel
theorem d_P_init_5 : decode u_P_init.2.1 5 = .ok (.bipush 16, 2) := by decide +kernel
theorem d_P_init_7 : decode u_P_init.2.1 7 = .ok (.newarray .int, 2) := by decide +kernel
theorem d_P_init_9 : decode u_P_init.2.1 9 = .ok (.putfield 9, 3) := by decide +kernel
theorem d_P_init_12 : decode u_P_init.2.1 12 = .ok (.aload_n 0, 1) := by decide +kernel
theorem d_P_init_13 : decode u_P_init.2.1 13 = .ok (.bipush 16, 2) := by decide +kernel
theorem d_P_init_15 : decode u_P_init.2.1 15 = .ok (.newarray .int, 2) := by decide +kernel
theorem d_P_init_17 : decode u_P_init.2.1 17 = .ok (.putfield 15, 3) := by decide +kernel
theorem d_P_init_20 : decode u_P_init.2.1 20 = .ok (.aload_n 0, 1) := by decide +kernel
theorem d_P_init_21 : decode u_P_init.2.1 21 = .ok (.bipush 16, 2) := by decide +kernel
theorem d_P_init_23 : decode u_P_init.2.1 23 = .ok (.newarray .int, 2) := by decide +kernel
theorem d_P_init_25 : decode u_P_init.2.1 25 = .ok (.putfield 18, 3) := by decide +kernel
theorem d_P_init_28 : decode u_P_init.2.1 28 = .ok (.aload_n 0, 1) := by decide +kernel
theorem d_P_init_29 : decode u_P_init.2.1 29 = .ok (.iconst 4, 1) := by decide +kernel
theorem d_P_init_30 : decode u_P_init.2.1 30 = .ok (.newarray .int, 2) := by decide +kernel
theorem d_P_init_32 : decode u_P_init.2.1 32 = .ok (.putfield 21, 3) := by decide +kernel
theorem d_P_init_35 : decode u_P_init.2.1 35 = .ok (.aload_n 0, 1) := by decide +kernel
theorem d_P_init_36 : decode u_P_init.2.1 36 = .ok (.iconst 4, 1) := by decide +kernel
theorem d_P_init_37 : decode u_P_init.2.1 37 = .ok (.newarray .int, 2) := by decide +kernel
theorem d_P_init_39 : decode u_P_init.2.1 39 = .ok (.putfield 24, 3) := by decide +kernel
theorem d_P_init_42 : decode u_P_init.2.1 42 = .ok (.aload_n 0, 1) := by decide +kernel
theorem d_P_init_43 : decode u_P_init.2.1 43 = .ok (.new 27, 3) := by decide +kernel
theorem d_P_init_46 : decode u_P_init.2.1 46 = .ok (.dup, 1) := by decide +kernel
theorem d_P_init_47 : decode u_P_init.2.1 47 = .ok (.bipush 8, 2) := by decide +kernel
theorem d_P_init_49 : decode u_P_init.2.1 49 = .ok (.invokespecial 29, 3) := by decide +kernel
theorem d_P_init_52 : decode u_P_init.2.1 52 = .ok (.putfield 32, 3) := by decide +kernel
theorem d_P_init_55 : decode u_P_init.2.1 55 = .ok (.aload_n 0, 1) := by decide +kernel
theorem d_P_init_56 : decode u_P_init.2.1 56 = .ok (.bipush 16, 2) := by decide +kernel
theorem d_P_init_58 : decode u_P_init.2.1 58 = .ok (.newarray .int, 2) := by decide +kernel
theorem d_P_init_60 : decode u_P_init.2.1 60 = .ok (.putfield 36, 3) := by decide +kernel
theorem d_P_init_63 : decode u_P_init.2.1 63 = .ok (.return_, 1) := by decide +kernel
theorem d_P_takesPart_0 : decode u_P_takesPart.2.1 0 = .ok (.aload_n 0, 1) := by decide +kernel
theorem d_P_takesPart_1 : decode u_P_takesPart.2.1 1 = .ok (.getfield 39, 3) := by decide +kernel
theorem d_P_takesPart_4 : decode u_P_takesPart.2.1 4 = .ok (.ifCond .le 7, 3) := by decide +kernel
theorem d_P_takesPart_7 : decode u_P_takesPart.2.1 7 = .ok (.iconst 1, 1) := by decide +kernel
theorem d_P_takesPart_8 : decode u_P_takesPart.2.1 8 = .ok (.goto 4, 3) := by decide +kernel
theorem d_P_takesPart_11 : decode u_P_takesPart.2.1 11 = .ok (.iconst 0, 1) := by decide +kernel
theorem d_P_takesPart_12 : decode u_P_takesPart.2.1 12 = .ok (.ireturn, 1) := by decide +kernel
theorem d_P_overlaps_0 : decode u_P_overlaps.2.1 0 = .ok (.aload_n 0, 1) := by decide +kernel
theorem d_P_overlaps_1 : decode u_P_overlaps.2.1 1 = .ok (.invokevirtual 43, 3) := by decide +kernel
theorem d_P_overlaps_4 : decode u_P_overlaps.2.1 4 = .ok (.ifCond .eq 46, 3) := by decide +kernel
theorem d_P_overlaps_7 : decode u_P_overlaps.2.1 7 = .ok (.aload_n 1, 1) := by decide +kernel
theorem d_P_overlaps_8 : decode u_P_overlaps.2.1 8 = .ok (.invokevirtual 43, 3) := by decide +kernel
theorem d_P_overlaps_11 : decode u_P_overlaps.2.1 11 = .ok (.ifCond .eq 39, 3) := by decide +kernel
theorem d_P_overlaps_14 : decode u_P_overlaps.2.1 14 = .ok (.aload_n 0, 1) := by decide +kernel
theorem d_P_overlaps_15 : decode u_P_overlaps.2.1 15 = .ok (.getfield 47, 3) := by decide +kernel
theorem d_P_overlaps_18 : decode u_P_overlaps.2.1 18 = .ok (.aload_n 1, 1) := by decide +kernel
theorem d_P_overlaps_19 : decode u_P_overlaps.2.1 19 = .ok (.getfield 47, 3) := by decide +kernel
theorem d_P_overlaps_22 : decode u_P_overlaps.2.1 22 = .ok (.aload_n 1, 1) := by decide +kernel
theorem d_P_overlaps_23 : decode u_P_overlaps.2.1 23 = .ok (.getfield 39, 3) := by decide +kernel
theorem d_P_overlaps_26 : decode u_P_overlaps.2.1 26 = .ok (.iadd, 1) := by decide +kernel
theorem d_P_overlaps_27 : decode u_P_overlaps.2.1 27 = .ok (.if_icmp .ge 23, 3) := by decide +kernel
theorem d_P_overlaps_30 : decode u_P_overlaps.2.1 30 = .ok (.aload_n 1, 1) := by decide +kernel
theorem d_P_overlaps_31 : decode u_P_overlaps.2.1 31 = .ok (.getfield 47, 3) := by decide +kernel
theorem d_P_overlaps_34 : decode u_P_overlaps.2.1 34 = .ok (.aload_n 0, 1) := by decide +kernel
theorem d_P_overlaps_35 : decode u_P_overlaps.2.1 35 = .ok (.getfield 47, 3) := by decide +kernel
theorem d_P_overlaps_38 : decode u_P_overlaps.2.1 38 = .ok (.aload_n 0, 1) := by decide +kernel
theorem d_P_overlaps_39 : decode u_P_overlaps.2.1 39 = .ok (.getfield 39, 3) := by decide +kernel
theorem d_P_overlaps_42 : decode u_P_overlaps.2.1 42 = .ok (.iadd, 1) := by decide +kernel
theorem d_P_overlaps_43 : decode u_P_overlaps.2.1 43 = .ok (.if_icmp .ge 7, 3) := by decide +kernel
theorem d_P_overlaps_46 : decode u_P_overlaps.2.1 46 = .ok (.iconst 1, 1) := by decide +kernel
theorem d_P_overlaps_47 : decode u_P_overlaps.2.1 47 = .ok (.goto 4, 3) := by decide +kernel
theorem d_P_overlaps_50 : decode u_P_overlaps.2.1 50 = .ok (.iconst 0, 1) := by decide +kernel
theorem d_P_overlaps_51 : decode u_P_overlaps.2.1 51 = .ok (.ireturn, 1) := by decide +kernel
theorem d_P_beginAnew_0 : decode u_P_beginAnew.2.1 0 = .ok (.aload_n 0, 1) := by decide +kernel
theorem d_P_beginAnew_1 : decode u_P_beginAnew.2.1 1 = .ok (.invokevirtual 50, 3) := by decide +kernel
theorem d_P_beginAnew_4 : decode u_P_beginAnew.2.1 4 = .ok (.aload_n 0, 1) := by decide +kernel
theorem d_P_beginAnew_5 : decode u_P_beginAnew.2.1 5 = .ok (.aload_n 0, 1) := by decide +kernel
theorem d_P_beginAnew_6 : decode u_P_beginAnew.2.1 6 = .ok (.invokevirtual 43, 3) := by decide +kernel
theorem d_P_beginAnew_9 : decode u_P_beginAnew.2.1 9 = .ok (.putfield 53, 3) := by decide +kernel
theorem d_P_beginAnew_12 : decode u_P_beginAnew.2.1 12 = .ok (.aload_n 0, 1) := by decide +kernel
theorem d_P_beginAnew_13 : decode u_P_beginAnew.2.1 13 = .ok (.iconst 0, 1) := by decide +kernel
theorem d_P_beginAnew_14 : decode u_P_beginAnew.2.1 14 = .ok (.putfield 57, 3) := by decide +kernel
theorem d_P_beginAnew_17 : decode u_P_beginAnew.2.1 17 = .ok (.return_, 1) := by decide +kernel
theorem d_P_clearRegistersAndPlace_0 : decode u_P_clearRegistersAndPlace.2.1 0 = .ok (.iconst 0, 1) := by decide +kernel
theorem d_P_clearRegistersAndPlace_1 : decode u_P_clearRegistersAndPlace.2.1 1 = .ok (.istore_n 1, 1) := by decide +kernel
theorem d_P_clearRegistersAndPlace_2 : decode u_P_clearRegistersAndPlace.2.1 2 = .ok (.iload_n 1, 1) := by decide +kernel
theorem d_P_clearRegistersAndPlace_3 : decode u_P_clearRegistersAndPlace.2.1 3 = .ok (.iconst 4, 1) := by decide +kernel
theorem d_P_clearRegistersAndPlace_4 : decode u_P_clearRegistersAndPlace.2.1 4 = .ok (.if_icmp .ge 16, 3) := by decide +kernel
theorem d_P_clearRegistersAndPlace_7 : decode u_P_clearRegistersAndPlace.2.1 7 = .ok (.aload_n 0, 1) := by decide +kernel
theorem d_P_clearRegistersAndPlace_8 : decode u_P_clearRegistersAndPlace.2.1 8 = .ok (.getfield 24, 3) := by decide +kernel
theorem d_P_clearRegistersAndPlace_11 : decode u_P_clearRegistersAndPlace.2.1 11 = .ok (.iload_n 1, 1) := by decide +kernel
theorem d_P_clearRegistersAndPlace_12 : decode u_P_clearRegistersAndPlace.2.1 12 = .ok (.iconst 0, 1) := by decide +kernel
theorem d_P_clearRegistersAndPlace_13 : decode u_P_clearRegistersAndPlace.2.1 13 = .ok (.iastore, 1) := by decide +kernel
theorem d_P_clearRegistersAndPlace_14 : decode u_P_clearRegistersAndPlace.2.1 14 = .ok (.iinc 1 1, 3) := by decide +kernel
theorem d_P_clearRegistersAndPlace_17 : decode u_P_clearRegistersAndPlace.2.1 17 = .ok (.goto (-15), 3) := by decide +kernel
theorem d_P_clearRegistersAndPlace_20 : decode u_P_clearRegistersAndPlace.2.1 20 = .ok (.aload_n 0, 1) := by decide +kernel
theorem d_P_clearRegistersAndPlace_21 : decode u_P_clearRegistersAndPlace.2.1 21 = .ok (.iconst 0, 1) := by decide +kernel
theorem d_P_clearRegistersAndPlace_22 : decode u_P_clearRegistersAndPlace.2.1 22 = .ok (.putfield 60, 3) := by decide +kernel
theorem d_P_clearRegistersAndPlace_25 : decode u_P_clearRegistersAndPlace.2.1 25 = .ok (.return_, 1) := by decide +kernel
theorem d_P_hasWord_0 : decode u_P_hasWord.2.1 0 = .ok (.aload_n 0, 1) := by decide +kernel
theorem d_P_hasWord_1 : decode u_P_hasWord.2.1 1 = .ok (.getfield 24, 3) := by decide +kernel
theorem d_P_hasWord_4 : decode u_P_hasWord.2.1 4 = .ok (.iload_n 1, 1) := by decide +kernel
theorem d_P_hasWord_5 : decode u_P_hasWord.2.1 5 = .ok (.invokestatic 63, 3) := by decide +kernel
theorem d_P_hasWord_8 : decode u_P_hasWord.2.1 8 = .ok (.iaload, 1) := by decide +kernel
theorem d_P_hasWord_9 : decode u_P_hasWord.2.1 9 = .ok (.istore_n 2, 1) := by decide +kernel
theorem d_P_hasWord_10 : decode u_P_hasWord.2.1 10 = .ok (.iload_n 2, 1) := by decide +kernel
theorem d_P_hasWord_11 : decode u_P_hasWord.2.1 11 = .ok (.ifCond .lt 15, 3) := by decide +kernel
theorem d_P_hasWord_14 : decode u_P_hasWord.2.1 14 = .ok (.iload_n 2, 1) := by decide +kernel
theorem d_P_hasWord_15 : decode u_P_hasWord.2.1 15 = .ok (.aload_n 0, 1) := by decide +kernel
theorem d_P_hasWord_16 : decode u_P_hasWord.2.1 16 = .ok (.getfield 39, 3) := by decide +kernel
theorem d_P_hasWord_19 : decode u_P_hasWord.2.1 19 = .ok (.if_icmp .ge 7, 3) := by decide +kernel
theorem d_P_hasWord_22 : decode u_P_hasWord.2.1 22 = .ok (.iconst 1, 1) := by decide +kernel
theorem d_P_hasWord_23 : decode u_P_hasWord.2.1 23 = .ok (.goto 4, 3) := by decide +kernel
theorem d_P_hasWord_26 : decode u_P_hasWord.2.1 26 = .ok (.iconst 0, 1) := by decide +kernel
theorem d_P_hasWord_27 : decode u_P_hasWord.2.1 27 = .ok (.ireturn, 1) := by decide +kernel
theorem d_P_takeInput_0 : decode u_P_takeInput.2.1 0 = .ok (.aload_n 0, 1) := by decide +kernel
theorem d_P_takeInput_1 : decode u_P_takeInput.2.1 1 = .ok (.getfield 32, 3) := by decide +kernel
theorem d_P_takeInput_4 : decode u_P_takeInput.2.1 4 = .ok (.getfield 67, 3) := by decide +kernel
theorem d_P_takeInput_7 : decode u_P_takeInput.2.1 7 = .ok (.ifCond .le 7, 3) := by decide +kernel
theorem d_P_takeInput_10 : decode u_P_takeInput.2.1 10 = .ok (.iconst 1, 1) := by decide +kernel
theorem d_P_takeInput_11 : decode u_P_takeInput.2.1 11 = .ok (.goto 4, 3) := by decide +kernel
theorem d_P_takeInput_14 : decode u_P_takeInput.2.1 14 = .ok (.iconst 0, 1) := by decide +kernel
theorem d_P_takeInput_15 : decode u_P_takeInput.2.1 15 = .ok (.istore_n 2, 1) := by decide +kernel
theorem d_P_takeInput_16 : decode u_P_takeInput.2.1 16 = .ok (.aload_n 0, 1) := by decide +kernel
theorem d_P_takeInput_17 : decode u_P_takeInput.2.1 17 = .ok (.getfield 24, 3) := by decide +kernel
theorem d_P_takeInput_20 : decode u_P_takeInput.2.1 20 = .ok (.iload_n 1, 1) := by decide +kernel
theorem d_P_takeInput_21 : decode u_P_takeInput.2.1 21 = .ok (.aload_n 0, 1) := by decide +kernel
theorem d_P_takeInput_22 : decode u_P_takeInput.2.1 22 = .ok (.getfield 32, 3) := by decide +kernel
theorem d_P_takeInput_25 : decode u_P_takeInput.2.1 25 = .ok (.invokevirtual 70, 3) := by decide +kernel
theorem d_P_takeInput_28 : decode u_P_takeInput.2.1 28 = .ok (.iastore, 1) := by decide +kernel
theorem d_P_takeInput_29 : decode u_P_takeInput.2.1 29 = .ok (.aload_n 0, 1) := by decide +kernel
theorem d_P_takeInput_30 : decode u_P_takeInput.2.1 30 = .ok (.getfield 24, 3) := by decide +kernel
theorem d_P_takeInput_33 : decode u_P_takeInput.2.1 33 = .ok (.iconst 3, 1) := by decide +kernel
theorem d_P_takeInput_34 : decode u_P_takeInput.2.1 34 = .ok (.iload_n 2, 1) := by decide +kernel
theorem d_P_takeInput_35 : decode u_P_takeInput.2.1 35 = .ok (.ifCond .eq 7, 3) := by decide +kernel
theorem d_P_takeInput_38 : decode u_P_takeInput.2.1 38 = .ok (.iconst 1, 1) := by decide +kernel
theorem d_P_takeInput_39 : decode u_P_takeInput.2.1 39 = .ok (.goto 4, 3) := by decide +kernel
theorem d_P_takeInput_42 : decode u_P_takeInput.2.1 42 = .ok (.iconst 0, 1) := by decide +kernel
theorem d_P_takeInput_43 : decode u_P_takeInput.2.1 43 = .ok (.iastore, 1) := by decide +kernel
theorem d_P_takeInput_44 : decode u_P_takeInput.2.1 44 = .ok (.return_, 1) := by decide +kernel
theorem d_P_putOut_0 : decode u_P_putOut.2.1 0 = .ok (.aload_n 0, 1) := by decide +kernel
theorem d_P_putOut_1 : decode u_P_putOut.2.1 1 = .ok (.getfield 74, 3) := by decide +kernel
theorem d_P_putOut_4 : decode u_P_putOut.2.1 4 = .ok (.bipush 16, 2) := by decide +kernel
theorem d_P_putOut_6 : decode u_P_putOut.2.1 6 = .ok (.if_icmp .ge 13, 3) := by decide +kernel
theorem d_P_putOut_9 : decode u_P_putOut.2.1 9 = .ok (.aload_n 0, 1) := by decide +kernel
theorem d_P_putOut_10 : decode u_P_putOut.2.1 10 = .ok (.getfield 36, 3) := by decide +kernel
theorem d_P_putOut_13 : decode u_P_putOut.2.1 13 = .ok (.aload_n 0, 1) := by decide +kernel
theorem d_P_putOut_14 : decode u_P_putOut.2.1 14 = .ok (.getfield 74, 3) := by decide +kernel
theorem d_P_putOut_17 : decode u_P_putOut.2.1 17 = .ok (.iload_n 1, 1) := by decide +kernel
theorem d_P_putOut_18 : decode u_P_putOut.2.1 18 = .ok (.iastore, 1) := by decide +kernel
theorem d_P_putOut_19 : decode u_P_putOut.2.1 19 = .ok (.aload_n 0, 1) := by decide +kernel
theorem d_P_putOut_20 : decode u_P_putOut.2.1 20 = .ok (.dup, 1) := by decide +kernel
theorem d_P_putOut_21 : decode u_P_putOut.2.1 21 = .ok (.getfield 74, 3) := by decide +kernel
theorem d_P_putOut_24 : decode u_P_putOut.2.1 24 = .ok (.iconst 1, 1) := by decide +kernel
theorem d_P_putOut_25 : decode u_P_putOut.2.1 25 = .ok (.iadd, 1) := by decide +kernel
theorem d_P_putOut_26 : decode u_P_putOut.2.1 26 = .ok (.putfield 74, 3) := by decide +kernel
theorem d_P_putOut_29 : decode u_P_putOut.2.1 29 = .ok (.return_, 1) := by decide +kernel
theorem d_P_outputAt_0 : decode u_P_outputAt.2.1 0 = .ok (.iload_n 1, 1) := by decide +kernel
theorem d_P_outputAt_1 : decode u_P_outputAt.2.1 1 = .ok (.ifCond .lt 26, 3) := by decide +kernel
theorem d_P_outputAt_4 : decode u_P_outputAt.2.1 4 = .ok (.iload_n 1, 1) := by decide +kernel
theorem d_P_outputAt_5 : decode u_P_outputAt.2.1 5 = .ok (.bipush 16, 2) := by decide +kernel
theorem d_P_outputAt_7 : decode u_P_outputAt.2.1 7 = .ok (.if_icmp .ge 20, 3) := by decide +kernel
theorem d_P_outputAt_10 : decode u_P_outputAt.2.1 10 = .ok (.iload_n 1, 1) := by decide +kernel
theorem d_P_outputAt_11 : decode u_P_outputAt.2.1 11 = .ok (.aload_n 0, 1) := by decide +kernel
theorem d_P_outputAt_12 : decode u_P_outputAt.2.1 12 = .ok (.getfield 74, 3) := by decide +kernel
theorem d_P_outputAt_15 : decode u_P_outputAt.2.1 15 = .ok (.if_icmp .ge 12, 3) := by decide +kernel
theorem d_P_outputAt_18 : decode u_P_outputAt.2.1 18 = .ok (.aload_n 0, 1) := by decide +kernel
theorem d_P_outputAt_19 : decode u_P_outputAt.2.1 19 = .ok (.getfield 36, 3) := by decide +kernel
theorem d_P_outputAt_22 : decode u_P_outputAt.2.1 22 = .ok (.iload_n 1, 1) := by decide +kernel
theorem d_P_outputAt_23 : decode u_P_outputAt.2.1 23 = .ok (.iaload, 1) := by decide +kernel
theorem d_P_outputAt_24 : decode u_P_outputAt.2.1 24 = .ok (.goto 4, 3) := by decide +kernel
theorem d_P_outputAt_27 : decode u_P_outputAt.2.1 27 = .ok (.iconst 0, 1) := by decide +kernel
theorem d_P_outputAt_28 : decode u_P_outputAt.2.1 28 = .ok (.ireturn, 1) := by decide +kernel
theorem d_P_tell_0 : decode u_P_tell.2.1 0 = .ok (.iload_n 1, 1) := by decide +kernel
theorem d_P_tell_1 : decode u_P_tell.2.1 1 = .ok (.tableswitch 94 0 8 #[51, 51, 51, 51, 58, 63, 76, 81, 86], 51) := by decide +kernel
theorem d_P_tell_52 : decode u_P_tell.2.1 52 = .ok (.aload_n 0, 1) := by decide +kernel
theorem d_P_tell_53 : decode u_P_tell.2.1 53 = .ok (.getfield 24, 3) := by decide +kernel
theorem d_P_tell_56 : decode u_P_tell.2.1 56 = .ok (.iload_n 1, 1) := by decide +kernel
theorem d_P_tell_57 : decode u_P_tell.2.1 57 = .ok (.iaload, 1) := by decide +kernel
theorem d_P_tell_58 : decode u_P_tell.2.1 58 = .ok (.ireturn, 1) := by decide +kernel
theorem d_P_tell_59 : decode u_P_tell.2.1 59 = .ok (.aload_n 0, 1) := by decide +kernel
theorem d_P_tell_60 : decode u_P_tell.2.1 60 = .ok (.getfield 60, 3) := by decide +kernel
theorem d_P_tell_63 : decode u_P_tell.2.1 63 = .ok (.ireturn, 1) := by decide +kernel
theorem d_P_tell_64 : decode u_P_tell.2.1 64 = .ok (.aload_n 0, 1) := by decide +kernel
theorem d_P_tell_65 : decode u_P_tell.2.1 65 = .ok (.getfield 53, 3) := by decide +kernel
theorem d_P_tell_68 : decode u_P_tell.2.1 68 = .ok (.ifCond .eq 7, 3) := by decide +kernel
theorem d_P_tell_71 : decode u_P_tell.2.1 71 = .ok (.iconst 1, 1) := by decide +kernel
theorem d_P_tell_72 : decode u_P_tell.2.1 72 = .ok (.goto 4, 3) := by decide +kernel
theorem d_P_tell_75 : decode u_P_tell.2.1 75 = .ok (.iconst 0, 1) := by decide +kernel
theorem d_P_tell_76 : decode u_P_tell.2.1 76 = .ok (.ireturn, 1) := by decide +kernel
theorem d_P_tell_77 : decode u_P_tell.2.1 77 = .ok (.aload_n 0, 1) := by decide +kernel
theorem d_P_tell_78 : decode u_P_tell.2.1 78 = .ok (.getfield 57, 3) := by decide +kernel
theorem d_P_tell_81 : decode u_P_tell.2.1 81 = .ok (.ireturn, 1) := by decide +kernel
theorem d_P_tell_82 : decode u_P_tell.2.1 82 = .ok (.aload_n 0, 1) := by decide +kernel
theorem d_P_tell_83 : decode u_P_tell.2.1 83 = .ok (.getfield 74, 3) := by decide +kernel
theorem d_P_tell_86 : decode u_P_tell.2.1 86 = .ok (.ireturn, 1) := by decide +kernel
theorem d_P_tell_87 : decode u_P_tell.2.1 87 = .ok (.aload_n 0, 1) := by decide +kernel
theorem d_P_tell_88 : decode u_P_tell.2.1 88 = .ok (.getfield 32, 3) := by decide +kernel
theorem d_P_tell_91 : decode u_P_tell.2.1 91 = .ok (.getfield 67, 3) := by decide +kernel
theorem d_P_tell_94 : decode u_P_tell.2.1 94 = .ok (.ireturn, 1) := by decide +kernel
theorem d_P_tell_95 : decode u_P_tell.2.1 95 = .ok (.iconst (-1), 1) := by decide +kernel
theorem d_P_tell_96 : decode u_P_tell.2.1 96 = .ok (.ireturn, 1) := by decide +kernel
theorem d_Q_init_0 : decode u_Q_init.2.1 0 = .ok (.aload_n 0, 1) := by decide +kernel
theorem d_Q_init_1 : decode u_Q_init.2.1 1 = .ok (.invokespecial 3, 3) := by decide +kernel
theorem d_Q_init_4 : decode u_Q_init.2.1 4 = .ok (.aload_n 0, 1) := by decide +kernel
theorem d_Q_init_5 : decode u_Q_init.2.1 5 = .ok (.new 9, 3) := by decide +kernel
theorem d_Q_init_8 : decode u_Q_init.2.1 8 = .ok (.dup, 1) := by decide +kernel
theorem d_Q_init_9 : decode u_Q_init.2.1 9 = .ok (.iconst 4, 1) := by decide +kernel
theorem d_Q_init_10 : decode u_Q_init.2.1 10 = .ok (.invokespecial 11, 3) := by decide +kernel
theorem d_Q_init_13 : decode u_Q_init.2.1 13 = .ok (.putfield 14, 3) := by decide +kernel
theorem d_Q_init_16 : decode u_Q_init.2.1 16 = .ok (.return_, 1) := by decide +kernel
theorem d_Q_isSampling_0 : decode u_Q_isSampling.2.1 0 = .ok (.aload_n 0, 1) := by decide +kernel
theorem d_Q_isSampling_1 : decode u_Q_isSampling.2.1 1 = .ok (.getfield 20, 3) := by decide +kernel
theorem d_Q_isSampling_4 : decode u_Q_isSampling.2.1 4 = .ok (.ifCond .ne 7, 3) := by decide +kernel
theorem d_Q_isSampling_7 : decode u_Q_isSampling.2.1 7 = .ok (.iconst 1, 1) := by decide +kernel
theorem d_Q_isSampling_8 : decode u_Q_isSampling.2.1 8 = .ok (.goto 4, 3) := by decide +kernel
theorem d_Q_isSampling_11 : decode u_Q_isSampling.2.1 11 = .ok (.iconst 0, 1) := by decide +kernel
theorem d_Q_isSampling_12 : decode u_Q_isSampling.2.1 12 = .ok (.ireturn, 1) := by decide +kernel
theorem d_Q_send_0 : decode u_Q_send.2.1 0 = .ok (.aload_n 0, 1) := by decide +kernel
theorem d_Q_send_1 : decode u_Q_send.2.1 1 = .ok (.invokevirtual 24, 3) := by decide +kernel
theorem d_Q_send_4 : decode u_Q_send.2.1 4 = .ok (.ifCond .eq 28, 3) := by decide +kernel
theorem d_Q_send_7 : decode u_Q_send.2.1 7 = .ok (.aload_n 0, 1) := by decide +kernel
theorem d_Q_send_8 : decode u_Q_send.2.1 8 = .ok (.getfield 14, 3) := by decide +kernel
theorem d_Q_send_11 : decode u_Q_send.2.1 11 = .ok (.invokevirtual 28, 3) := by decide +kernel
theorem d_Q_send_14 : decode u_Q_send.2.1 14 = .ok (.aload_n 0, 1) := by decide +kernel
theorem d_Q_send_15 : decode u_Q_send.2.1 15 = .ok (.getfield 14, 3) := by decide +kernel
theorem d_Q_send_18 : decode u_Q_send.2.1 18 = .ok (.aload_n 1, 1) := by decide +kernel
theorem d_Q_send_19 : decode u_Q_send.2.1 19 = .ok (.iload_n 2, 1) := by decide +kernel
theorem d_Q_send_20 : decode u_Q_send.2.1 20 = .ok (.iaload, 1) := by decide +kernel
theorem d_Q_send_21 : decode u_Q_send.2.1 21 = .ok (.iconst 1, 1) := by decide +kernel
theorem d_Q_send_22 : decode u_Q_send.2.1 22 = .ok (.invokevirtual 31, 3) := by decide +kernel
theorem d_Q_send_25 : decode u_Q_send.2.1 25 = .ok (.pop, 1) := by decide +kernel
theorem d_Q_send_26 : decode u_Q_send.2.1 26 = .ok (.aload_n 0, 1) := by decide +kernel
theorem d_Q_send_27 : decode u_Q_send.2.1 27 = .ok (.iload_n 3, 1) := by decide +kernel
theorem d_Q_send_28 : decode u_Q_send.2.1 28 = .ok (.putfield 35, 3) := by decide +kernel
theorem d_Q_send_31 : decode u_Q_send.2.1 31 = .ok (.return_, 1) := by decide +kernel
theorem d_Q_send_32 : decode u_Q_send.2.1 32 = .ok (.aload_n 1, 1) := by decide +kernel
theorem d_Q_send_33 : decode u_Q_send.2.1 33 = .ok (.iconst 3, 1) := by decide +kernel
theorem d_Q_send_34 : decode u_Q_send.2.1 34 = .ok (.aload_n 0, 1) := by decide +kernel
theorem d_Q_send_35 : decode u_Q_send.2.1 35 = .ok (.getfield 14, 3) := by decide +kernel
theorem d_Q_send_38 : decode u_Q_send.2.1 38 = .ok (.aload_n 1, 1) := by decide +kernel
theorem d_Q_send_39 : decode u_Q_send.2.1 39 = .ok (.iload_n 2, 1) := by decide +kernel
theorem d_Q_send_40 : decode u_Q_send.2.1 40 = .ok (.iaload, 1) := by decide +kernel
theorem d_Q_send_41 : decode u_Q_send.2.1 41 = .ok (.aload_n 0, 1) := by decide +kernel
theorem d_Q_send_42 : decode u_Q_send.2.1 42 = .ok (.getfield 20, 3) := by decide +kernel
theorem d_Q_send_45 : decode u_Q_send.2.1 45 = .ok (.invokevirtual 31, 3) := by decide +kernel
theorem d_Q_send_48 : decode u_Q_send.2.1 48 = .ok (.ifCond .eq 7, 3) := by decide +kernel
theorem d_Q_send_51 : decode u_Q_send.2.1 51 = .ok (.iconst 1, 1) := by decide +kernel
theorem d_Q_send_52 : decode u_Q_send.2.1 52 = .ok (.goto 4, 3) := by decide +kernel
theorem d_Q_send_55 : decode u_Q_send.2.1 55 = .ok (.iconst 0, 1) := by decide +kernel
theorem d_Q_send_56 : decode u_Q_send.2.1 56 = .ok (.iastore, 1) := by decide +kernel
theorem d_Q_send_57 : decode u_Q_send.2.1 57 = .ok (.return_, 1) := by decide +kernel
theorem d_Q_receive_0 : decode u_Q_receive.2.1 0 = .ok (.aload_n 0, 1) := by decide +kernel
theorem d_Q_receive_1 : decode u_Q_receive.2.1 1 = .ok (.getfield 14, 3) := by decide +kernel
theorem d_Q_receive_4 : decode u_Q_receive.2.1 4 = .ok (.getfield 38, 3) := by decide +kernel
theorem d_Q_receive_7 : decode u_Q_receive.2.1 7 = .ok (.ifCond .ne 21, 3) := by decide +kernel
theorem d_Q_receive_10 : decode u_Q_receive.2.1 10 = .ok (.aload_n 1, 1) := by decide +kernel
theorem d_Q_receive_11 : decode u_Q_receive.2.1 11 = .ok (.iconst 3, 1) := by decide +kernel
theorem d_Q_receive_12 : decode u_Q_receive.2.1 12 = .ok (.aload_n 0, 1) := by decide +kernel
theorem d_Q_receive_13 : decode u_Q_receive.2.1 13 = .ok (.invokevirtual 24, 3) := by decide +kernel
theorem d_Q_receive_16 : decode u_Q_receive.2.1 16 = .ok (.ifCond .eq 7, 3) := by decide +kernel
theorem d_Q_receive_19 : decode u_Q_receive.2.1 19 = .ok (.iconst (-1), 1) := by decide +kernel
theorem d_Q_receive_20 : decode u_Q_receive.2.1 20 = .ok (.goto 4, 3) := by decide +kernel
theorem d_Q_receive_23 : decode u_Q_receive.2.1 23 = .ok (.iconst 0, 1) := by decide +kernel
theorem d_Q_receive_24 : decode u_Q_receive.2.1 24 = .ok (.iastore, 1) := by decide +kernel
theorem d_Q_receive_25 : decode u_Q_receive.2.1 25 = .ok (.goto 51, 3) := by decide +kernel
theorem d_Q_receive_28 : decode u_Q_receive.2.1 28 = .ok (.aload_n 0, 1) := by decide +kernel
theorem d_Q_receive_29 : decode u_Q_receive.2.1 29 = .ok (.invokevirtual 24, 3) := by decide +kernel
theorem d_Q_receive_32 : decode u_Q_receive.2.1 32 = .ok (.ifCond .eq 30, 3) := by decide +kernel
theorem d_Q_receive_35 : decode u_Q_receive.2.1 35 = .ok (.aload_n 1, 1) := by decide +kernel
theorem d_Q_receive_36 : decode u_Q_receive.2.1 36 = .ok (.iload_n 2, 1) := by decide +kernel
theorem d_Q_receive_37 : decode u_Q_receive.2.1 37 = .ok (.aload_n 0, 1) := by decide +kernel
theorem d_Q_receive_38 : decode u_Q_receive.2.1 38 = .ok (.getfield 14, 3) := by decide +kernel
theorem d_Q_receive_41 : decode u_Q_receive.2.1 41 = .ok (.invokevirtual 41, 3) := by decide +kernel
theorem d_Q_receive_44 : decode u_Q_receive.2.1 44 = .ok (.iastore, 1) := by decide +kernel
theorem d_Q_receive_45 : decode u_Q_receive.2.1 45 = .ok (.aload_n 1, 1) := by decide +kernel
theorem d_Q_receive_46 : decode u_Q_receive.2.1 46 = .ok (.iconst 3, 1) := by decide +kernel
theorem d_Q_receive_47 : decode u_Q_receive.2.1 47 = .ok (.iload_n 3, 1) := by decide +kernel
theorem d_Q_receive_48 : decode u_Q_receive.2.1 48 = .ok (.aload_n 0, 1) := by decide +kernel
theorem d_Q_receive_49 : decode u_Q_receive.2.1 49 = .ok (.getfield 35, 3) := by decide +kernel
theorem d_Q_receive_52 : decode u_Q_receive.2.1 52 = .ok (.isub, 1) := by decide +kernel
theorem d_Q_receive_53 : decode u_Q_receive.2.1 53 = .ok (.bipush 99, 2) := by decide +kernel
theorem d_Q_receive_55 : decode u_Q_receive.2.1 55 = .ok (.invokestatic 45, 3) := by decide +kernel
theorem d_Q_receive_58 : decode u_Q_receive.2.1 58 = .ok (.iastore, 1) := by decide +kernel
theorem d_Q_receive_59 : decode u_Q_receive.2.1 59 = .ok (.goto 17, 3) := by decide +kernel
theorem d_Q_receive_62 : decode u_Q_receive.2.1 62 = .ok (.aload_n 1, 1) := by decide +kernel
theorem d_Q_receive_63 : decode u_Q_receive.2.1 63 = .ok (.iload_n 2, 1) := by decide +kernel
theorem d_Q_receive_64 : decode u_Q_receive.2.1 64 = .ok (.aload_n 0, 1) := by decide +kernel
theorem d_Q_receive_65 : decode u_Q_receive.2.1 65 = .ok (.getfield 14, 3) := by decide +kernel
theorem d_Q_receive_68 : decode u_Q_receive.2.1 68 = .ok (.invokevirtual 51, 3) := by decide +kernel
theorem d_Q_receive_71 : decode u_Q_receive.2.1 71 = .ok (.iastore, 1) := by decide +kernel
theorem d_Q_receive_72 : decode u_Q_receive.2.1 72 = .ok (.aload_n 1, 1) := by decide +kernel
theorem d_Q_receive_73 : decode u_Q_receive.2.1 73 = .ok (.iconst 3, 1) := by decide +kernel
theorem d_Q_receive_74 : decode u_Q_receive.2.1 74 = .ok (.iconst 1, 1) := by decide +kernel
theorem d_Q_receive_75 : decode u_Q_receive.2.1 75 = .ok (.iastore, 1) := by decide +kernel
theorem d_Q_receive_76 : decode u_Q_receive.2.1 76 = .ok (.return_, 1) := by decide +kernel
theorem d_F_init_0 : decode u_F_init.2.1 0 = .ok (.aload_n 0, 1) := by decide +kernel
theorem d_F_init_1 : decode u_F_init.2.1 1 = .ok (.invokespecial 3, 3) := by decide +kernel
theorem d_F_init_4 : decode u_F_init.2.1 4 = .ok (.aload_n 0, 1) := by decide +kernel
theorem d_F_init_5 : decode u_F_init.2.1 5 = .ok (.bipush 8, 2) := by decide +kernel
theorem d_F_init_7 : decode u_F_init.2.1 7 = .ok (.newarray .int, 2) := by decide +kernel
theorem d_F_init_9 : decode u_F_init.2.1 9 = .ok (.putfield 9, 3) := by decide +kernel
theorem d_F_init_12 : decode u_F_init.2.1 12 = .ok (.aload_n 0, 1) := by decide +kernel
theorem d_F_init_13 : decode u_F_init.2.1 13 = .ok (.bipush 8, 2) := by decide +kernel
theorem d_F_init_15 : decode u_F_init.2.1 15 = .ok (.newarray .int, 2) := by decide +kernel
theorem d_F_init_17 : decode u_F_init.2.1 17 = .ok (.putfield 15, 3) := by decide +kernel
theorem d_F_init_20 : decode u_F_init.2.1 20 = .ok (.return_, 1) := by decide +kernel
theorem d_F_isFull_0 : decode u_F_isFull.2.1 0 = .ok (.aload_n 0, 1) := by decide +kernel
theorem d_F_isFull_1 : decode u_F_isFull.2.1 1 = .ok (.getfield 18, 3) := by decide +kernel
theorem d_F_isFull_4 : decode u_F_isFull.2.1 4 = .ok (.bipush 8, 2) := by decide +kernel
theorem d_F_isFull_6 : decode u_F_isFull.2.1 6 = .ok (.if_icmp .lt 7, 3) := by decide +kernel
theorem d_F_isFull_9 : decode u_F_isFull.2.1 9 = .ok (.iconst 1, 1) := by decide +kernel
theorem d_F_isFull_10 : decode u_F_isFull.2.1 10 = .ok (.goto 4, 3) := by decide +kernel
theorem d_F_isFull_13 : decode u_F_isFull.2.1 13 = .ok (.iconst 0, 1) := by decide +kernel
theorem d_F_isFull_14 : decode u_F_isFull.2.1 14 = .ok (.ireturn, 1) := by decide +kernel
theorem d_F_append_0 : decode u_F_append.2.1 0 = .ok (.aload_n 0, 1) := by decide +kernel
theorem d_F_append_1 : decode u_F_append.2.1 1 = .ok (.getfield 9, 3) := by decide +kernel
theorem d_F_append_4 : decode u_F_append.2.1 4 = .ok (.aload_n 0, 1) := by decide +kernel
theorem d_F_append_5 : decode u_F_append.2.1 5 = .ok (.getfield 18, 3) := by decide +kernel
theorem d_F_append_8 : decode u_F_append.2.1 8 = .ok (.iload_n 1, 1) := by decide +kernel
theorem d_F_append_9 : decode u_F_append.2.1 9 = .ok (.iastore, 1) := by decide +kernel
theorem d_F_append_10 : decode u_F_append.2.1 10 = .ok (.aload_n 0, 1) := by decide +kernel
theorem d_F_append_11 : decode u_F_append.2.1 11 = .ok (.getfield 15, 3) := by decide +kernel
theorem d_F_append_14 : decode u_F_append.2.1 14 = .ok (.aload_n 0, 1) := by decide +kernel
theorem d_F_append_15 : decode u_F_append.2.1 15 = .ok (.getfield 18, 3) := by decide +kernel
theorem d_F_append_18 : decode u_F_append.2.1 18 = .ok (.iload_n 2, 1) := by decide +kernel
theorem d_F_append_19 : decode u_F_append.2.1 19 = .ok (.iastore, 1) := by decide +kernel
theorem d_F_append_20 : decode u_F_append.2.1 20 = .ok (.aload_n 0, 1) := by decide +kernel
theorem d_F_append_21 : decode u_F_append.2.1 21 = .ok (.dup, 1) := by decide +kernel
theorem d_F_append_22 : decode u_F_append.2.1 22 = .ok (.getfield 18, 3) := by decide +kernel
theorem d_F_append_25 : decode u_F_append.2.1 25 = .ok (.iconst 1, 1) := by decide +kernel
theorem d_F_append_26 : decode u_F_append.2.1 26 = .ok (.iadd, 1) := by decide +kernel
theorem d_F_append_27 : decode u_F_append.2.1 27 = .ok (.putfield 18, 3) := by decide +kernel
theorem d_F_append_30 : decode u_F_append.2.1 30 = .ok (.return_, 1) := by decide +kernel
theorem d_F_hasWindowOf_0 : decode u_F_hasWindowOf.2.1 0 = .ok (.iconst 0, 1) := by decide +kernel
theorem d_F_hasWindowOf_1 : decode u_F_hasWindowOf.2.1 1 = .ok (.istore_n 2, 1) := by decide +kernel
theorem d_F_hasWindowOf_2 : decode u_F_hasWindowOf.2.1 2 = .ok (.iload_n 2, 1) := by decide +kernel
theorem d_F_hasWindowOf_3 : decode u_F_hasWindowOf.2.1 3 = .ok (.aload_n 0, 1) := by decide +kernel
theorem d_F_hasWindowOf_4 : decode u_F_hasWindowOf.2.1 4 = .ok (.getfield 18, 3) := by decide +kernel
theorem d_F_hasWindowOf_7 : decode u_F_hasWindowOf.2.1 7 = .ok (.if_icmp .ge 21, 3) := by decide +kernel
theorem d_F_hasWindowOf_10 : decode u_F_hasWindowOf.2.1 10 = .ok (.aload_n 0, 1) := by decide +kernel
theorem d_F_hasWindowOf_11 : decode u_F_hasWindowOf.2.1 11 = .ok (.getfield 9, 3) := by decide +kernel
theorem d_F_hasWindowOf_14 : decode u_F_hasWindowOf.2.1 14 = .ok (.iload_n 2, 1) := by decide +kernel
theorem d_F_hasWindowOf_15 : decode u_F_hasWindowOf.2.1 15 = .ok (.iaload, 1) := by decide +kernel
theorem d_F_hasWindowOf_16 : decode u_F_hasWindowOf.2.1 16 = .ok (.iload_n 1, 1) := by decide +kernel
theorem d_F_hasWindowOf_17 : decode u_F_hasWindowOf.2.1 17 = .ok (.if_icmp .ne 5, 3) := by decide +kernel
theorem d_F_hasWindowOf_20 : decode u_F_hasWindowOf.2.1 20 = .ok (.iconst 1, 1) := by decide +kernel
theorem d_F_hasWindowOf_21 : decode u_F_hasWindowOf.2.1 21 = .ok (.ireturn, 1) := by decide +kernel
theorem d_F_hasWindowOf_22 : decode u_F_hasWindowOf.2.1 22 = .ok (.iinc 2 1, 3) := by decide +kernel
theorem d_F_hasWindowOf_25 : decode u_F_hasWindowOf.2.1 25 = .ok (.goto (-23), 3) := by decide +kernel
theorem d_F_hasWindowOf_28 : decode u_F_hasWindowOf.2.1 28 = .ok (.iconst 0, 1) := by decide +kernel
theorem d_F_hasWindowOf_29 : decode u_F_hasWindowOf.2.1 29 = .ok (.ireturn, 1) := by decide +kernel
theorem d_F_beginAnew_0 : decode u_F_beginAnew.2.1 0 = .ok (.aload_n 0, 1) := by decide +kernel
theorem d_F_beginAnew_1 : decode u_F_beginAnew.2.1 1 = .ok (.iconst 0, 1) := by decide +kernel
theorem d_F_beginAnew_2 : decode u_F_beginAnew.2.1 2 = .ok (.putfield 22, 3) := by decide +kernel
theorem d_F_beginAnew_5 : decode u_F_beginAnew.2.1 5 = .ok (.aload_n 0, 1) := by decide +kernel
theorem d_F_beginAnew_6 : decode u_F_beginAnew.2.1 6 = .ok (.iconst 0, 1) := by decide +kernel
theorem d_F_beginAnew_7 : decode u_F_beginAnew.2.1 7 = .ok (.putfield 25, 3) := by decide +kernel
theorem d_F_beginAnew_10 : decode u_F_beginAnew.2.1 10 = .ok (.aload_n 0, 1) := by decide +kernel
theorem d_F_beginAnew_11 : decode u_F_beginAnew.2.1 11 = .ok (.iconst 0, 1) := by decide +kernel
theorem d_F_beginAnew_12 : decode u_F_beginAnew.2.1 12 = .ok (.putfield 28, 3) := by decide +kernel
theorem d_F_beginAnew_15 : decode u_F_beginAnew.2.1 15 = .ok (.aload_n 0, 1) := by decide +kernel
theorem d_F_beginAnew_16 : decode u_F_beginAnew.2.1 16 = .ok (.iconst 0, 1) := by decide +kernel
theorem d_F_beginAnew_17 : decode u_F_beginAnew.2.1 17 = .ok (.putfield 31, 3) := by decide +kernel
theorem d_F_beginAnew_20 : decode u_F_beginAnew.2.1 20 = .ok (.return_, 1) := by decide +kernel
theorem d_F_partitionAtHand_0 : decode u_F_partitionAtHand.2.1 0 = .ok (.aload_n 0, 1) := by decide +kernel
theorem d_F_partitionAtHand_1 : decode u_F_partitionAtHand.2.1 1 = .ok (.getfield 9, 3) := by decide +kernel
theorem d_F_partitionAtHand_4 : decode u_F_partitionAtHand.2.1 4 = .ok (.aload_n 0, 1) := by decide +kernel
theorem d_F_partitionAtHand_5 : decode u_F_partitionAtHand.2.1 5 = .ok (.getfield 22, 3) := by decide +kernel
theorem d_F_partitionAtHand_8 : decode u_F_partitionAtHand.2.1 8 = .ok (.iaload, 1) := by decide +kernel
theorem d_F_partitionAtHand_9 : decode u_F_partitionAtHand.2.1 9 = .ok (.ireturn, 1) := by decide +kernel
theorem d_F_endTick_0 : decode u_F_endTick.2.1 0 = .ok (.aload_n 0, 1) := by decide +kernel
theorem d_F_endTick_1 : decode u_F_endTick.2.1 1 = .ok (.dup, 1) := by decide +kernel
theorem d_F_endTick_2 : decode u_F_endTick.2.1 2 = .ok (.getfield 28, 3) := by decide +kernel
theorem d_F_endTick_5 : decode u_F_endTick.2.1 5 = .ok (.iconst 1, 1) := by decide +kernel
theorem d_F_endTick_6 : decode u_F_endTick.2.1 6 = .ok (.iadd, 1) := by decide +kernel
theorem d_F_endTick_7 : decode u_F_endTick.2.1 7 = .ok (.putfield 28, 3) := by decide +kernel
theorem d_F_endTick_10 : decode u_F_endTick.2.1 10 = .ok (.aload_n 0, 1) := by decide +kernel
theorem d_F_endTick_11 : decode u_F_endTick.2.1 11 = .ok (.dup, 1) := by decide +kernel
theorem d_F_endTick_12 : decode u_F_endTick.2.1 12 = .ok (.getfield 25, 3) := by decide +kernel
theorem d_F_endTick_15 : decode u_F_endTick.2.1 15 = .ok (.iconst 1, 1) := by decide +kernel
theorem d_F_endTick_16 : decode u_F_endTick.2.1 16 = .ok (.iadd, 1) := by decide +kernel
theorem d_F_endTick_17 : decode u_F_endTick.2.1 17 = .ok (.putfield 25, 3) := by decide +kernel
theorem d_F_endTick_20 : decode u_F_endTick.2.1 20 = .ok (.aload_n 0, 1) := by decide +kernel
theorem d_F_endTick_21 : decode u_F_endTick.2.1 21 = .ok (.getfield 25, 3) := by decide +kernel
theorem d_F_endTick_24 : decode u_F_endTick.2.1 24 = .ok (.aload_n 0, 1) := by decide +kernel
theorem d_F_endTick_25 : decode u_F_endTick.2.1 25 = .ok (.getfield 15, 3) := by decide +kernel
theorem d_F_endTick_28 : decode u_F_endTick.2.1 28 = .ok (.aload_n 0, 1) := by decide +kernel
theorem d_F_endTick_29 : decode u_F_endTick.2.1 29 = .ok (.getfield 22, 3) := by decide +kernel
theorem d_F_endTick_32 : decode u_F_endTick.2.1 32 = .ok (.iaload, 1) := by decide +kernel
theorem d_F_endTick_33 : decode u_F_endTick.2.1 33 = .ok (.if_icmp .lt 40, 3) := by decide +kernel
theorem d_F_endTick_36 : decode u_F_endTick.2.1 36 = .ok (.aload_n 0, 1) := by decide +kernel
theorem d_F_endTick_37 : decode u_F_endTick.2.1 37 = .ok (.aload_n 0, 1) := by decide +kernel
theorem d_F_endTick_38 : decode u_F_endTick.2.1 38 = .ok (.getfield 22, 3) := by decide +kernel
theorem d_F_endTick_41 : decode u_F_endTick.2.1 41 = .ok (.iconst 1, 1) := by decide +kernel
theorem d_F_endTick_42 : decode u_F_endTick.2.1 42 = .ok (.iadd, 1) := by decide +kernel
theorem d_F_endTick_43 : decode u_F_endTick.2.1 43 = .ok (.aload_n 0, 1) := by decide +kernel
theorem d_F_endTick_44 : decode u_F_endTick.2.1 44 = .ok (.getfield 18, 3) := by decide +kernel
theorem d_F_endTick_47 : decode u_F_endTick.2.1 47 = .ok (.if_icmp .ge 12, 3) := by decide +kernel
theorem d_F_endTick_50 : decode u_F_endTick.2.1 50 = .ok (.aload_n 0, 1) := by decide +kernel
theorem d_F_endTick_51 : decode u_F_endTick.2.1 51 = .ok (.getfield 22, 3) := by decide +kernel
theorem d_F_endTick_54 : decode u_F_endTick.2.1 54 = .ok (.iconst 1, 1) := by decide +kernel
theorem d_F_endTick_55 : decode u_F_endTick.2.1 55 = .ok (.iadd, 1) := by decide +kernel
theorem d_F_endTick_56 : decode u_F_endTick.2.1 56 = .ok (.goto 4, 3) := by decide +kernel
theorem d_F_endTick_59 : decode u_F_endTick.2.1 59 = .ok (.iconst 0, 1) := by decide +kernel
theorem d_F_endTick_60 : decode u_F_endTick.2.1 60 = .ok (.putfield 22, 3) := by decide +kernel
theorem d_F_endTick_63 : decode u_F_endTick.2.1 63 = .ok (.aload_n 0, 1) := by decide +kernel
theorem d_F_endTick_64 : decode u_F_endTick.2.1 64 = .ok (.iconst 0, 1) := by decide +kernel
theorem d_F_endTick_65 : decode u_F_endTick.2.1 65 = .ok (.putfield 25, 3) := by decide +kernel
theorem d_F_endTick_68 : decode u_F_endTick.2.1 68 = .ok (.aload_n 0, 1) := by decide +kernel
theorem d_F_endTick_69 : decode u_F_endTick.2.1 69 = .ok (.iconst 0, 1) := by decide +kernel
theorem d_F_endTick_70 : decode u_F_endTick.2.1 70 = .ok (.putfield 31, 3) := by decide +kernel
theorem d_F_endTick_73 : decode u_F_endTick.2.1 73 = .ok (.return_, 1) := by decide +kernel
theorem d_F_tell_0 : decode u_F_tell.2.1 0 = .ok (.iload_n 1, 1) := by decide +kernel
theorem d_F_tell_1 : decode u_F_tell.2.1 1 = .ok (.tableswitch 42 0 2 #[27, 32, 37], 27) := by decide +kernel
theorem d_F_tell_28 : decode u_F_tell.2.1 28 = .ok (.aload_n 0, 1) := by decide +kernel
theorem d_F_tell_29 : decode u_F_tell.2.1 29 = .ok (.getfield 22, 3) := by decide +kernel
theorem d_F_tell_32 : decode u_F_tell.2.1 32 = .ok (.ireturn, 1) := by decide +kernel
theorem d_F_tell_33 : decode u_F_tell.2.1 33 = .ok (.aload_n 0, 1) := by decide +kernel
theorem d_F_tell_34 : decode u_F_tell.2.1 34 = .ok (.getfield 25, 3) := by decide +kernel
theorem d_F_tell_37 : decode u_F_tell.2.1 37 = .ok (.ireturn, 1) := by decide +kernel
theorem d_F_tell_38 : decode u_F_tell.2.1 38 = .ok (.aload_n 0, 1) := by decide +kernel
theorem d_F_tell_39 : decode u_F_tell.2.1 39 = .ok (.getfield 28, 3) := by decide +kernel
theorem d_F_tell_42 : decode u_F_tell.2.1 42 = .ok (.ireturn, 1) := by decide +kernel
theorem d_F_tell_43 : decode u_F_tell.2.1 43 = .ok (.iconst (-1), 1) := by decide +kernel
theorem d_F_tell_44 : decode u_F_tell.2.1 44 = .ok (.ireturn, 1) := by decide +kernel
theorem d_V_init_0 : decode u_V_init.2.1 0 = .ok (.aload_n 0, 1) := by decide +kernel
theorem d_V_init_1 : decode u_V_init.2.1 1 = .ok (.invokespecial 1, 3) := by decide +kernel
theorem d_V_init_4 : decode u_V_init.2.1 4 = .ok (.aload_n 0, 1) := by decide +kernel
theorem d_V_init_5 : decode u_V_init.2.1 5 = .ok (.iload_n 1, 1) := by decide +kernel
theorem d_V_init_6 : decode u_V_init.2.1 6 = .ok (.newarray .int, 2) := by decide +kernel
theorem d_V_init_8 : decode u_V_init.2.1 8 = .ok (.putfield 7, 3) := by decide +kernel
theorem d_V_init_11 : decode u_V_init.2.1 11 = .ok (.aload_n 0, 1) := by decide +kernel
theorem d_V_init_12 : decode u_V_init.2.1 12 = .ok (.iconst 0, 1) := by decide +kernel
theorem d_V_init_13 : decode u_V_init.2.1 13 = .ok (.putfield 13, 3) := by decide +kernel
theorem d_V_init_16 : decode u_V_init.2.1 16 = .ok (.aload_n 0, 1) := by decide +kernel
theorem d_V_init_17 : decode u_V_init.2.1 17 = .ok (.iconst 0, 1) := by decide +kernel
theorem d_V_init_18 : decode u_V_init.2.1 18 = .ok (.putfield 17, 3) := by decide +kernel
theorem d_V_init_21 : decode u_V_init.2.1 21 = .ok (.return_, 1) := by decide +kernel
theorem d_V_put_0 : decode u_V_put.2.1 0 = .ok (.aload_n 0, 1) := by decide +kernel
theorem d_V_put_1 : decode u_V_put.2.1 1 = .ok (.getfield 17, 3) := by decide +kernel
theorem d_V_put_4 : decode u_V_put.2.1 4 = .ok (.iload_n 2, 1) := by decide +kernel
theorem d_V_put_5 : decode u_V_put.2.1 5 = .ok (.if_icmp .ge 15, 3) := by decide +kernel
theorem d_V_put_8 : decode u_V_put.2.1 8 = .ok (.aload_n 0, 1) := by decide +kernel
theorem d_V_put_9 : decode u_V_put.2.1 9 = .ok (.getfield 17, 3) := by decide +kernel
theorem d_V_put_12 : decode u_V_put.2.1 12 = .ok (.aload_n 0, 1) := by decide +kernel
theorem d_V_put_13 : decode u_V_put.2.1 13 = .ok (.getfield 7, 3) := by decide +kernel
theorem d_V_put_16 : decode u_V_put.2.1 16 = .ok (.arraylength, 1) := by decide +kernel
theorem d_V_put_17 : decode u_V_put.2.1 17 = .ok (.if_icmp .lt 5, 3) := by decide +kernel
theorem d_V_put_20 : decode u_V_put.2.1 20 = .ok (.iconst 0, 1) := by decide +kernel
theorem d_V_put_21 : decode u_V_put.2.1 21 = .ok (.ireturn, 1) := by decide +kernel
theorem d_V_put_22 : decode u_V_put.2.1 22 = .ok (.aload_n 0, 1) := by decide +kernel
theorem d_V_put_23 : decode u_V_put.2.1 23 = .ok (.getfield 13, 3) := by decide +kernel
theorem d_V_put_26 : decode u_V_put.2.1 26 = .ok (.aload_n 0, 1) := by decide +kernel
theorem d_V_put_27 : decode u_V_put.2.1 27 = .ok (.getfield 17, 3) := by decide +kernel
theorem d_V_put_30 : decode u_V_put.2.1 30 = .ok (.iadd, 1) := by decide +kernel
theorem d_V_put_31 : decode u_V_put.2.1 31 = .ok (.istore_n 3, 1) := by decide +kernel
theorem d_V_put_32 : decode u_V_put.2.1 32 = .ok (.aload_n 0, 1) := by decide +kernel
theorem d_V_put_33 : decode u_V_put.2.1 33 = .ok (.getfield 7, 3) := by decide +kernel
theorem d_V_put_36 : decode u_V_put.2.1 36 = .ok (.iload_n 3, 1) := by decide +kernel
theorem d_V_put_37 : decode u_V_put.2.1 37 = .ok (.aload_n 0, 1) := by decide +kernel
theorem d_V_put_38 : decode u_V_put.2.1 38 = .ok (.getfield 7, 3) := by decide +kernel
theorem d_V_put_41 : decode u_V_put.2.1 41 = .ok (.arraylength, 1) := by decide +kernel
theorem d_V_put_42 : decode u_V_put.2.1 42 = .ok (.if_icmp .ge 7, 3) := by decide +kernel
theorem d_V_put_45 : decode u_V_put.2.1 45 = .ok (.iload_n 3, 1) := by decide +kernel
theorem d_V_put_46 : decode u_V_put.2.1 46 = .ok (.goto 10, 3) := by decide +kernel
theorem d_V_put_49 : decode u_V_put.2.1 49 = .ok (.iload_n 3, 1) := by decide +kernel
theorem d_V_put_50 : decode u_V_put.2.1 50 = .ok (.aload_n 0, 1) := by decide +kernel
theorem d_V_put_51 : decode u_V_put.2.1 51 = .ok (.getfield 7, 3) := by decide +kernel
end
section
theorem d_V_put_54 : decode u_V_put.2.1 54 = .ok (.arraylength, 1) := by decide +kernel
theorem d_V_put_55 : decode u_V_put.2.1 55 = .ok (.isub, 1) := by decide +kernel
theorem d_V_put_56 : decode u_V_put.2.1 56 = .ok (.iload_n 1, 1) := by decide +kernel
theorem d_V_put_57 : decode u_V_put.2.1 57 = .ok (.iastore, 1) := by decide +kernel
theorem d_V_put_58 : decode u_V_put.2.1 58 = .ok (.aload_n 0, 1) := by decide +kernel
theorem d_V_put_59 : decode u_V_put.2.1 59 = .ok (.dup, 1) := by decide +kernel
theorem d_V_put_60 : decode u_V_put.2.1 60 = .ok (.getfield 17, 3) := by decide +kernel
theorem d_V_put_63 : decode u_V_put.2.1 63 = .ok (.iconst 1, 1) := by decide +kernel
theorem d_V_put_64 : decode u_V_put.2.1 64 = .ok (.iadd, 1) := by decide +kernel
theorem d_V_put_65 : decode u_V_put.2.1 65 = .ok (.putfield 17, 3) := by decide +kernel
theorem d_V_put_68 : decode u_V_put.2.1 68 = .ok (.iconst 1, 1) := by decide +kernel
theorem d_V_put_69 : decode u_V_put.2.1 69 = .ok (.ireturn, 1) := by decide +kernel
theorem d_V_peek_0 : decode u_V_peek.2.1 0 = .ok (.aload_n 0, 1) := by decide +kernel
theorem d_V_peek_1 : decode u_V_peek.2.1 1 = .ok (.getfield 17, 3) := by decide +kernel
theorem d_V_peek_4 : decode u_V_peek.2.1 4 = .ok (.ifCond .le 15, 3) := by decide +kernel
theorem d_V_peek_7 : decode u_V_peek.2.1 7 = .ok (.aload_n 0, 1) := by decide +kernel
theorem d_V_peek_8 : decode u_V_peek.2.1 8 = .ok (.getfield 7, 3) := by decide +kernel
theorem d_V_peek_11 : decode u_V_peek.2.1 11 = .ok (.aload_n 0, 1) := by decide +kernel
theorem d_V_peek_12 : decode u_V_peek.2.1 12 = .ok (.getfield 13, 3) := by decide +kernel
theorem d_V_peek_15 : decode u_V_peek.2.1 15 = .ok (.iaload, 1) := by decide +kernel
theorem d_V_peek_16 : decode u_V_peek.2.1 16 = .ok (.goto 4, 3) := by decide +kernel
theorem d_V_peek_19 : decode u_V_peek.2.1 19 = .ok (.iconst 0, 1) := by decide +kernel
theorem d_V_peek_20 : decode u_V_peek.2.1 20 = .ok (.ireturn, 1) := by decide +kernel
theorem d_V_take_0 : decode u_V_take.2.1 0 = .ok (.aload_n 0, 1) := by decide +kernel
theorem d_V_take_1 : decode u_V_take.2.1 1 = .ok (.getfield 17, 3) := by decide +kernel
theorem d_V_take_4 : decode u_V_take.2.1 4 = .ok (.ifCond .ne 5, 3) := by decide +kernel
theorem d_V_take_7 : decode u_V_take.2.1 7 = .ok (.iconst 0, 1) := by decide +kernel
theorem d_V_take_8 : decode u_V_take.2.1 8 = .ok (.ireturn, 1) := by decide +kernel
theorem d_V_take_9 : decode u_V_take.2.1 9 = .ok (.aload_n 0, 1) := by decide +kernel
theorem d_V_take_10 : decode u_V_take.2.1 10 = .ok (.getfield 7, 3) := by decide +kernel
theorem d_V_take_13 : decode u_V_take.2.1 13 = .ok (.aload_n 0, 1) := by decide +kernel
theorem d_V_take_14 : decode u_V_take.2.1 14 = .ok (.getfield 13, 3) := by decide +kernel
theorem d_V_take_17 : decode u_V_take.2.1 17 = .ok (.iaload, 1) := by decide +kernel
theorem d_V_take_18 : decode u_V_take.2.1 18 = .ok (.istore_n 1, 1) := by decide +kernel
theorem d_V_take_19 : decode u_V_take.2.1 19 = .ok (.aload_n 0, 1) := by decide +kernel
theorem d_V_take_20 : decode u_V_take.2.1 20 = .ok (.aload_n 0, 1) := by decide +kernel
theorem d_V_take_21 : decode u_V_take.2.1 21 = .ok (.getfield 13, 3) := by decide +kernel
theorem d_V_take_24 : decode u_V_take.2.1 24 = .ok (.iconst 1, 1) := by decide +kernel
theorem d_V_take_25 : decode u_V_take.2.1 25 = .ok (.iadd, 1) := by decide +kernel
theorem d_V_take_26 : decode u_V_take.2.1 26 = .ok (.aload_n 0, 1) := by decide +kernel
theorem d_V_take_27 : decode u_V_take.2.1 27 = .ok (.getfield 7, 3) := by decide +kernel
theorem d_V_take_30 : decode u_V_take.2.1 30 = .ok (.arraylength, 1) := by decide +kernel
theorem d_V_take_31 : decode u_V_take.2.1 31 = .ok (.if_icmp .ge 12, 3) := by decide +kernel
theorem d_V_take_34 : decode u_V_take.2.1 34 = .ok (.aload_n 0, 1) := by decide +kernel
theorem d_V_take_35 : decode u_V_take.2.1 35 = .ok (.getfield 13, 3) := by decide +kernel
theorem d_V_take_38 : decode u_V_take.2.1 38 = .ok (.iconst 1, 1) := by decide +kernel
theorem d_V_take_39 : decode u_V_take.2.1 39 = .ok (.iadd, 1) := by decide +kernel
theorem d_V_take_40 : decode u_V_take.2.1 40 = .ok (.goto 4, 3) := by decide +kernel
theorem d_V_take_43 : decode u_V_take.2.1 43 = .ok (.iconst 0, 1) := by decide +kernel
theorem d_V_take_44 : decode u_V_take.2.1 44 = .ok (.putfield 13, 3) := by decide +kernel
theorem d_V_take_47 : decode u_V_take.2.1 47 = .ok (.aload_n 0, 1) := by decide +kernel
theorem d_V_take_48 : decode u_V_take.2.1 48 = .ok (.dup, 1) := by decide +kernel
theorem d_V_take_49 : decode u_V_take.2.1 49 = .ok (.getfield 17, 3) := by decide +kernel
theorem d_V_take_52 : decode u_V_take.2.1 52 = .ok (.iconst 1, 1) := by decide +kernel
theorem d_V_take_53 : decode u_V_take.2.1 53 = .ok (.isub, 1) := by decide +kernel
theorem d_V_take_54 : decode u_V_take.2.1 54 = .ok (.putfield 17, 3) := by decide +kernel
theorem d_V_take_57 : decode u_V_take.2.1 57 = .ok (.iload_n 1, 1) := by decide +kernel
theorem d_V_take_58 : decode u_V_take.2.1 58 = .ok (.ireturn, 1) := by decide +kernel
theorem d_V_clear_0 : decode u_V_clear.2.1 0 = .ok (.aload_n 0, 1) := by decide +kernel
theorem d_V_clear_1 : decode u_V_clear.2.1 1 = .ok (.iconst 0, 1) := by decide +kernel
theorem d_V_clear_2 : decode u_V_clear.2.1 2 = .ok (.putfield 13, 3) := by decide +kernel
theorem d_V_clear_5 : decode u_V_clear.2.1 5 = .ok (.aload_n 0, 1) := by decide +kernel
theorem d_V_clear_6 : decode u_V_clear.2.1 6 = .ok (.iconst 0, 1) := by decide +kernel
theorem d_V_clear_7 : decode u_V_clear.2.1 7 = .ok (.putfield 17, 3) := by decide +kernel
theorem d_V_clear_10 : decode u_V_clear.2.1 10 = .ok (.return_, 1) := by decide +kernel
theorem d_M_init_0 : decode u_M_init.2.1 0 = .ok (.aload_n 0, 1) := by decide +kernel
theorem d_M_init_1 : decode u_M_init.2.1 1 = .ok (.invokespecial 1, 3) := by decide +kernel
theorem d_M_init_4 : decode u_M_init.2.1 4 = .ok (.aload_n 0, 1) := by decide +kernel
theorem d_M_init_5 : decode u_M_init.2.1 5 = .ok (.iconst 4, 1) := by decide +kernel
theorem d_M_init_6 : decode u_M_init.2.1 6 = .ok (.newarray .int, 2) := by decide +kernel
theorem d_M_init_8 : decode u_M_init.2.1 8 = .ok (.dup, 1) := by decide +kernel
theorem d_M_init_9 : decode u_M_init.2.1 9 = .ok (.iconst 0, 1) := by decide +kernel
theorem d_M_init_10 : decode u_M_init.2.1 10 = .ok (.iconst (-1), 1) := by decide +kernel
theorem d_M_init_11 : decode u_M_init.2.1 11 = .ok (.iastore, 1) := by decide +kernel
theorem d_M_init_12 : decode u_M_init.2.1 12 = .ok (.dup, 1) := by decide +kernel
theorem d_M_init_13 : decode u_M_init.2.1 13 = .ok (.iconst 1, 1) := by decide +kernel
theorem d_M_init_14 : decode u_M_init.2.1 14 = .ok (.iconst (-1), 1) := by decide +kernel
theorem d_M_init_15 : decode u_M_init.2.1 15 = .ok (.iastore, 1) := by decide +kernel
theorem d_M_init_16 : decode u_M_init.2.1 16 = .ok (.dup, 1) := by decide +kernel
theorem d_M_init_17 : decode u_M_init.2.1 17 = .ok (.iconst 2, 1) := by decide +kernel
theorem d_M_init_18 : decode u_M_init.2.1 18 = .ok (.iconst (-1), 1) := by decide +kernel
theorem d_M_init_19 : decode u_M_init.2.1 19 = .ok (.iastore, 1) := by decide +kernel
theorem d_M_init_20 : decode u_M_init.2.1 20 = .ok (.dup, 1) := by decide +kernel
theorem d_M_init_21 : decode u_M_init.2.1 21 = .ok (.iconst 3, 1) := by decide +kernel
theorem d_M_init_22 : decode u_M_init.2.1 22 = .ok (.iconst (-1), 1) := by decide +kernel
theorem d_M_init_23 : decode u_M_init.2.1 23 = .ok (.iastore, 1) := by decide +kernel
theorem d_M_init_24 : decode u_M_init.2.1 24 = .ok (.putfield 7, 3) := by decide +kernel
theorem d_M_init_27 : decode u_M_init.2.1 27 = .ok (.aload_n 0, 1) := by decide +kernel
theorem d_M_init_28 : decode u_M_init.2.1 28 = .ok (.iconst 4, 1) := by decide +kernel
theorem d_M_init_29 : decode u_M_init.2.1 29 = .ok (.newarray .int, 2) := by decide +kernel
theorem d_M_init_31 : decode u_M_init.2.1 31 = .ok (.putfield 13, 3) := by decide +kernel
theorem d_M_init_34 : decode u_M_init.2.1 34 = .ok (.aload_n 0, 1) := by decide +kernel
theorem d_M_init_35 : decode u_M_init.2.1 35 = .ok (.bipush 8, 2) := by decide +kernel
theorem d_M_init_37 : decode u_M_init.2.1 37 = .ok (.newarray .int, 2) := by decide +kernel
theorem d_M_init_39 : decode u_M_init.2.1 39 = .ok (.putfield 16, 3) := by decide +kernel
theorem d_M_init_42 : decode u_M_init.2.1 42 = .ok (.aload_n 0, 1) := by decide +kernel
theorem d_M_init_43 : decode u_M_init.2.1 43 = .ok (.bipush 8, 2) := by decide +kernel
theorem d_M_init_45 : decode u_M_init.2.1 45 = .ok (.newarray .int, 2) := by decide +kernel
theorem d_M_init_47 : decode u_M_init.2.1 47 = .ok (.putfield 19, 3) := by decide +kernel
theorem d_M_init_50 : decode u_M_init.2.1 50 = .ok (.aload_n 0, 1) := by decide +kernel
theorem d_M_init_51 : decode u_M_init.2.1 51 = .ok (.bipush 6, 2) := by decide +kernel
theorem d_M_init_53 : decode u_M_init.2.1 53 = .ok (.newarray .int, 2) := by decide +kernel
theorem d_M_init_55 : decode u_M_init.2.1 55 = .ok (.putfield 22, 3) := by decide +kernel
theorem d_M_init_58 : decode u_M_init.2.1 58 = .ok (.aload_n 0, 1) := by decide +kernel
theorem d_M_init_59 : decode u_M_init.2.1 59 = .ok (.bipush 6, 2) := by decide +kernel
theorem d_M_init_61 : decode u_M_init.2.1 61 = .ok (.newarray .int, 2) := by decide +kernel
theorem d_M_init_63 : decode u_M_init.2.1 63 = .ok (.putfield 25, 3) := by decide +kernel
theorem d_M_init_66 : decode u_M_init.2.1 66 = .ok (.aload_n 0, 1) := by decide +kernel
theorem d_M_init_67 : decode u_M_init.2.1 67 = .ok (.bipush 6, 2) := by decide +kernel
theorem d_M_init_69 : decode u_M_init.2.1 69 = .ok (.newarray .int, 2) := by decide +kernel
theorem d_M_init_71 : decode u_M_init.2.1 71 = .ok (.putfield 28, 3) := by decide +kernel
theorem d_M_init_74 : decode u_M_init.2.1 74 = .ok (.aload_n 0, 1) := by decide +kernel
theorem d_M_init_75 : decode u_M_init.2.1 75 = .ok (.bipush 6, 2) := by decide +kernel
theorem d_M_init_77 : decode u_M_init.2.1 77 = .ok (.newarray .int, 2) := by decide +kernel
theorem d_M_init_79 : decode u_M_init.2.1 79 = .ok (.putfield 31, 3) := by decide +kernel
theorem d_M_init_82 : decode u_M_init.2.1 82 = .ok (.aload_n 0, 1) := by decide +kernel
theorem d_M_init_83 : decode u_M_init.2.1 83 = .ok (.bipush 6, 2) := by decide +kernel
theorem d_M_init_85 : decode u_M_init.2.1 85 = .ok (.newarray .int, 2) := by decide +kernel
theorem d_M_init_87 : decode u_M_init.2.1 87 = .ok (.putfield 34, 3) := by decide +kernel
theorem d_M_init_90 : decode u_M_init.2.1 90 = .ok (.aload_n 0, 1) := by decide +kernel
theorem d_M_init_91 : decode u_M_init.2.1 91 = .ok (.bipush 24, 2) := by decide +kernel
theorem d_M_init_93 : decode u_M_init.2.1 93 = .ok (.newarray .int, 2) := by decide +kernel
theorem d_M_init_95 : decode u_M_init.2.1 95 = .ok (.putfield 37, 3) := by decide +kernel
theorem d_M_init_98 : decode u_M_init.2.1 98 = .ok (.aload_n 0, 1) := by decide +kernel
theorem d_M_init_99 : decode u_M_init.2.1 99 = .ok (.bipush 16, 2) := by decide +kernel
theorem d_M_init_101 : decode u_M_init.2.1 101 = .ok (.newarray .int, 2) := by decide +kernel
theorem d_M_init_103 : decode u_M_init.2.1 103 = .ok (.putfield 40, 3) := by decide +kernel
theorem d_M_init_106 : decode u_M_init.2.1 106 = .ok (.aload_n 0, 1) := by decide +kernel
theorem d_M_init_107 : decode u_M_init.2.1 107 = .ok (.bipush 64, 2) := by decide +kernel
theorem d_M_init_109 : decode u_M_init.2.1 109 = .ok (.newarray .int, 2) := by decide +kernel
theorem d_M_init_111 : decode u_M_init.2.1 111 = .ok (.putfield 43, 3) := by decide +kernel
theorem d_M_init_114 : decode u_M_init.2.1 114 = .ok (.aload_n 0, 1) := by decide +kernel
theorem d_M_init_115 : decode u_M_init.2.1 115 = .ok (.bipush 64, 2) := by decide +kernel
theorem d_M_init_117 : decode u_M_init.2.1 117 = .ok (.newarray .int, 2) := by decide +kernel
theorem d_M_init_119 : decode u_M_init.2.1 119 = .ok (.putfield 46, 3) := by decide +kernel
theorem d_M_init_122 : decode u_M_init.2.1 122 = .ok (.aload_n 0, 1) := by decide +kernel
theorem d_M_init_123 : decode u_M_init.2.1 123 = .ok (.bipush 64, 2) := by decide +kernel
theorem d_M_init_125 : decode u_M_init.2.1 125 = .ok (.newarray .int, 2) := by decide +kernel
theorem d_M_init_127 : decode u_M_init.2.1 127 = .ok (.putfield 49, 3) := by decide +kernel
theorem d_M_init_130 : decode u_M_init.2.1 130 = .ok (.aload_n 0, 1) := by decide +kernel
theorem d_M_init_131 : decode u_M_init.2.1 131 = .ok (.bipush 64, 2) := by decide +kernel
theorem d_M_init_133 : decode u_M_init.2.1 133 = .ok (.newarray .int, 2) := by decide +kernel
theorem d_M_init_135 : decode u_M_init.2.1 135 = .ok (.putfield 52, 3) := by decide +kernel
theorem d_M_init_138 : decode u_M_init.2.1 138 = .ok (.aload_n 0, 1) := by decide +kernel
theorem d_M_init_139 : decode u_M_init.2.1 139 = .ok (.bipush 16, 2) := by decide +kernel
theorem d_M_init_141 : decode u_M_init.2.1 141 = .ok (.newarray .int, 2) := by decide +kernel
theorem d_M_init_143 : decode u_M_init.2.1 143 = .ok (.putfield 55, 3) := by decide +kernel
theorem d_M_init_146 : decode u_M_init.2.1 146 = .ok (.aload_n 0, 1) := by decide +kernel
theorem d_M_init_147 : decode u_M_init.2.1 147 = .ok (.iconst 4, 1) := by decide +kernel
theorem d_M_init_148 : decode u_M_init.2.1 148 = .ok (.newarray .int, 2) := by decide +kernel
theorem d_M_init_150 : decode u_M_init.2.1 150 = .ok (.putfield 58, 3) := by decide +kernel
theorem d_M_init_153 : decode u_M_init.2.1 153 = .ok (.aload_n 0, 1) := by decide +kernel
theorem d_M_init_154 : decode u_M_init.2.1 154 = .ok (.iconst 4, 1) := by decide +kernel
theorem d_M_init_155 : decode u_M_init.2.1 155 = .ok (.newarray .int, 2) := by decide +kernel
theorem d_M_init_157 : decode u_M_init.2.1 157 = .ok (.putfield 61, 3) := by decide +kernel
theorem d_M_init_160 : decode u_M_init.2.1 160 = .ok (.aload_n 0, 1) := by decide +kernel
theorem d_M_init_161 : decode u_M_init.2.1 161 = .ok (.iconst 4, 1) := by decide +kernel
theorem d_M_init_162 : decode u_M_init.2.1 162 = .ok (.newarray .boolean, 2) := by decide +kernel
theorem d_M_init_164 : decode u_M_init.2.1 164 = .ok (.putfield 64, 3) := by decide +kernel
theorem d_M_init_167 : decode u_M_init.2.1 167 = .ok (.aload_n 0, 1) := by decide +kernel
theorem d_M_init_168 : decode u_M_init.2.1 168 = .ok (.iconst 4, 1) := by decide +kernel
theorem d_M_init_169 : decode u_M_init.2.1 169 = .ok (.newarray .boolean, 2) := by decide +kernel
theorem d_M_init_171 : decode u_M_init.2.1 171 = .ok (.putfield 68, 3) := by decide +kernel
theorem d_M_init_174 : decode u_M_init.2.1 174 = .ok (.aload_n 0, 1) := by decide +kernel
theorem d_M_init_175 : decode u_M_init.2.1 175 = .ok (.iconst 4, 1) := by decide +kernel
theorem d_M_init_176 : decode u_M_init.2.1 176 = .ok (.newarray .int, 2) := by decide +kernel
theorem d_M_init_178 : decode u_M_init.2.1 178 = .ok (.putfield 71, 3) := by decide +kernel
theorem d_M_init_181 : decode u_M_init.2.1 181 = .ok (.aload_n 0, 1) := by decide +kernel
theorem d_M_init_182 : decode u_M_init.2.1 182 = .ok (.bipush 32, 2) := by decide +kernel
theorem d_M_init_184 : decode u_M_init.2.1 184 = .ok (.newarray .int, 2) := by decide +kernel
theorem d_M_init_186 : decode u_M_init.2.1 186 = .ok (.putfield 74, 3) := by decide +kernel
theorem d_M_init_189 : decode u_M_init.2.1 189 = .ok (.aload_n 0, 1) := by decide +kernel
theorem d_M_init_190 : decode u_M_init.2.1 190 = .ok (.iconst 4, 1) := by decide +kernel
theorem d_M_init_191 : decode u_M_init.2.1 191 = .ok (.newarray .int, 2) := by decide +kernel
theorem d_M_init_193 : decode u_M_init.2.1 193 = .ok (.putfield 77, 3) := by decide +kernel
theorem d_M_init_196 : decode u_M_init.2.1 196 = .ok (.aload_n 0, 1) := by decide +kernel
theorem d_M_init_197 : decode u_M_init.2.1 197 = .ok (.bipush 64, 2) := by decide +kernel
theorem d_M_init_199 : decode u_M_init.2.1 199 = .ok (.newarray .int, 2) := by decide +kernel
theorem d_M_init_201 : decode u_M_init.2.1 201 = .ok (.putfield 80, 3) := by decide +kernel
theorem d_M_init_204 : decode u_M_init.2.1 204 = .ok (.return_, 1) := by decide +kernel
theorem d_M_in_0 : decode u_M_in.2.1 0 = .ok (.iload_n 0, 1) := by decide +kernel
theorem d_M_in_1 : decode u_M_in.2.1 1 = .ok (.iload_n 1, 1) := by decide +kernel
theorem d_M_in_2 : decode u_M_in.2.1 2 = .ok (.if_icmp .lt 12, 3) := by decide +kernel
theorem d_M_in_5 : decode u_M_in.2.1 5 = .ok (.iload_n 0, 1) := by decide +kernel
theorem d_M_in_6 : decode u_M_in.2.1 6 = .ok (.iload_n 2, 1) := by decide +kernel
theorem d_M_in_7 : decode u_M_in.2.1 7 = .ok (.if_icmp .gt 7, 3) := by decide +kernel
theorem d_M_in_10 : decode u_M_in.2.1 10 = .ok (.iconst 1, 1) := by decide +kernel
theorem d_M_in_11 : decode u_M_in.2.1 11 = .ok (.goto 4, 3) := by decide +kernel
theorem d_M_in_14 : decode u_M_in.2.1 14 = .ok (.iconst 0, 1) := by decide +kernel
theorem d_M_in_15 : decode u_M_in.2.1 15 = .ok (.ireturn, 1) := by decide +kernel
theorem d_M_isOne_0 : decode u_M_isOne.2.1 0 = .ok (.iload_n 0, 1) := by decide +kernel
theorem d_M_isOne_1 : decode u_M_isOne.2.1 1 = .ok (.iconst 0, 1) := by decide +kernel
theorem d_M_isOne_2 : decode u_M_isOne.2.1 2 = .ok (.iconst 3, 1) := by decide +kernel
theorem d_M_isOne_3 : decode u_M_isOne.2.1 3 = .ok (.invokestatic 83, 3) := by decide +kernel
theorem d_M_isOne_6 : decode u_M_isOne.2.1 6 = .ok (.ireturn, 1) := by decide +kernel
theorem d_M_region_0 : decode u_M_region.2.1 0 = .ok (.iload_n 1, 1) := by decide +kernel
theorem d_M_region_1 : decode u_M_region.2.1 1 = .ok (.invokestatic 87, 3) := by decide +kernel
theorem d_M_region_4 : decode u_M_region.2.1 4 = .ok (.ifCond .eq 25, 3) := by decide +kernel
theorem d_M_region_7 : decode u_M_region.2.1 7 = .ok (.iload_n 3, 1) := by decide +kernel
theorem d_M_region_8 : decode u_M_region.2.1 8 = .ok (.iconst 1, 1) := by decide +kernel
theorem d_M_region_9 : decode u_M_region.2.1 9 = .ok (.bipush 32, 2) := by decide +kernel
theorem d_M_region_11 : decode u_M_region.2.1 11 = .ok (.invokestatic 83, 3) := by decide +kernel
theorem d_M_region_14 : decode u_M_region.2.1 14 = .ok (.ifCond .eq 15, 3) := by decide +kernel
theorem d_M_region_17 : decode u_M_region.2.1 17 = .ok (.iload_n 2, 1) := by decide +kernel
theorem d_M_region_18 : decode u_M_region.2.1 18 = .ok (.iconst 0, 1) := by decide +kernel
theorem d_M_region_19 : decode u_M_region.2.1 19 = .ok (.bipush 64, 2) := by decide +kernel
theorem d_M_region_21 : decode u_M_region.2.1 21 = .ok (.iload_n 3, 1) := by decide +kernel
theorem d_M_region_22 : decode u_M_region.2.1 22 = .ok (.isub, 1) := by decide +kernel
theorem d_M_region_23 : decode u_M_region.2.1 23 = .ok (.invokestatic 83, 3) := by decide +kernel
theorem d_M_region_26 : decode u_M_region.2.1 26 = .ok (.ifCond .ne 5, 3) := by decide +kernel
theorem d_M_region_29 : decode u_M_region.2.1 29 = .ok (.iconst 0, 1) := by decide +kernel
theorem d_M_region_30 : decode u_M_region.2.1 30 = .ok (.ireturn, 1) := by decide +kernel
theorem d_M_region_31 : decode u_M_region.2.1 31 = .ok (.aload_n 0, 1) := by decide +kernel
theorem d_M_region_32 : decode u_M_region.2.1 32 = .ok (.getfield 7, 3) := by decide +kernel
theorem d_M_region_35 : decode u_M_region.2.1 35 = .ok (.iload_n 1, 1) := by decide +kernel
theorem d_M_region_36 : decode u_M_region.2.1 36 = .ok (.iload_n 2, 1) := by decide +kernel
theorem d_M_region_37 : decode u_M_region.2.1 37 = .ok (.iastore, 1) := by decide +kernel
theorem d_M_region_38 : decode u_M_region.2.1 38 = .ok (.aload_n 0, 1) := by decide +kernel
theorem d_M_region_39 : decode u_M_region.2.1 39 = .ok (.getfield 13, 3) := by decide +kernel
theorem d_M_region_42 : decode u_M_region.2.1 42 = .ok (.iload_n 1, 1) := by decide +kernel
theorem d_M_region_43 : decode u_M_region.2.1 43 = .ok (.iload_n 3, 1) := by decide +kernel
theorem d_M_region_44 : decode u_M_region.2.1 44 = .ok (.iastore, 1) := by decide +kernel
theorem d_M_region_45 : decode u_M_region.2.1 45 = .ok (.aload_n 0, 1) := by decide +kernel
theorem d_M_region_46 : decode u_M_region.2.1 46 = .ok (.iconst 0, 1) := by decide +kernel
theorem d_M_region_47 : decode u_M_region.2.1 47 = .ok (.putfield 91, 3) := by decide +kernel
theorem d_M_region_50 : decode u_M_region.2.1 50 = .ok (.iconst 1, 1) := by decide +kernel
theorem d_M_region_51 : decode u_M_region.2.1 51 = .ok (.ireturn, 1) := by decide +kernel
theorem d_M_window_0 : decode u_M_window.2.1 0 = .ok (.iload_n 1, 1) := by decide +kernel
theorem d_M_window_1 : decode u_M_window.2.1 1 = .ok (.invokestatic 87, 3) := by decide +kernel
theorem d_M_window_4 : decode u_M_window.2.1 4 = .ok (.ifCond .eq 22, 3) := by decide +kernel
theorem d_M_window_7 : decode u_M_window.2.1 7 = .ok (.iload_n 2, 1) := by decide +kernel
theorem d_M_window_8 : decode u_M_window.2.1 8 = .ok (.iconst 1, 1) := by decide +kernel
theorem d_M_window_9 : decode u_M_window.2.1 9 = .ok (.bipush 9, 2) := by decide +kernel
theorem d_M_window_11 : decode u_M_window.2.1 11 = .ok (.invokestatic 83, 3) := by decide +kernel
theorem d_M_window_14 : decode u_M_window.2.1 14 = .ok (.ifCond .eq 12, 3) := by decide +kernel
theorem d_M_window_17 : decode u_M_window.2.1 17 = .ok (.aload_n 0, 1) := by decide +kernel
theorem d_M_window_18 : decode u_M_window.2.1 18 = .ok (.getfield 95, 3) := by decide +kernel
theorem d_M_window_21 : decode u_M_window.2.1 21 = .ok (.bipush 8, 2) := by decide +kernel
theorem d_M_window_23 : decode u_M_window.2.1 23 = .ok (.if_icmp .ne 5, 3) := by decide +kernel
theorem d_M_window_26 : decode u_M_window.2.1 26 = .ok (.iconst 0, 1) := by decide +kernel
theorem d_M_window_27 : decode u_M_window.2.1 27 = .ok (.ireturn, 1) := by decide +kernel
theorem d_M_window_28 : decode u_M_window.2.1 28 = .ok (.aload_n 0, 1) := by decide +kernel
theorem d_M_window_29 : decode u_M_window.2.1 29 = .ok (.getfield 16, 3) := by decide +kernel
theorem d_M_window_32 : decode u_M_window.2.1 32 = .ok (.aload_n 0, 1) := by decide +kernel
theorem d_M_window_33 : decode u_M_window.2.1 33 = .ok (.getfield 95, 3) := by decide +kernel
theorem d_M_window_36 : decode u_M_window.2.1 36 = .ok (.iload_n 1, 1) := by decide +kernel
theorem d_M_window_37 : decode u_M_window.2.1 37 = .ok (.iastore, 1) := by decide +kernel
theorem d_M_window_38 : decode u_M_window.2.1 38 = .ok (.aload_n 0, 1) := by decide +kernel
theorem d_M_window_39 : decode u_M_window.2.1 39 = .ok (.getfield 19, 3) := by decide +kernel
theorem d_M_window_42 : decode u_M_window.2.1 42 = .ok (.aload_n 0, 1) := by decide +kernel
theorem d_M_window_43 : decode u_M_window.2.1 43 = .ok (.getfield 95, 3) := by decide +kernel
theorem d_M_window_46 : decode u_M_window.2.1 46 = .ok (.iload_n 2, 1) := by decide +kernel
theorem d_M_window_47 : decode u_M_window.2.1 47 = .ok (.iastore, 1) := by decide +kernel
theorem d_M_window_48 : decode u_M_window.2.1 48 = .ok (.aload_n 0, 1) := by decide +kernel
theorem d_M_window_49 : decode u_M_window.2.1 49 = .ok (.dup, 1) := by decide +kernel
theorem d_M_window_50 : decode u_M_window.2.1 50 = .ok (.getfield 95, 3) := by decide +kernel
theorem d_M_window_53 : decode u_M_window.2.1 53 = .ok (.iconst 1, 1) := by decide +kernel
theorem d_M_window_54 : decode u_M_window.2.1 54 = .ok (.iadd, 1) := by decide +kernel
theorem d_M_window_55 : decode u_M_window.2.1 55 = .ok (.putfield 95, 3) := by decide +kernel
theorem d_M_window_58 : decode u_M_window.2.1 58 = .ok (.aload_n 0, 1) := by decide +kernel
theorem d_M_window_59 : decode u_M_window.2.1 59 = .ok (.iconst 0, 1) := by decide +kernel
theorem d_M_window_60 : decode u_M_window.2.1 60 = .ok (.putfield 91, 3) := by decide +kernel
theorem d_M_window_63 : decode u_M_window.2.1 63 = .ok (.iconst 1, 1) := by decide +kernel
theorem d_M_window_64 : decode u_M_window.2.1 64 = .ok (.ireturn, 1) := by decide +kernel
theorem d_M_port_0 : decode u_M_port.2.1 0 = .ok (.iload_n 1, 1) := by decide +kernel
theorem d_M_port_1 : decode u_M_port.2.1 1 = .ok (.invokestatic 87, 3) := by decide +kernel
theorem d_M_port_4 : decode u_M_port.2.1 4 = .ok (.ifCond .eq 33, 3) := by decide +kernel
theorem d_M_port_7 : decode u_M_port.2.1 7 = .ok (.iload_n 2, 1) := by decide +kernel
theorem d_M_port_8 : decode u_M_port.2.1 8 = .ok (.invokestatic 87, 3) := by decide +kernel
theorem d_M_port_11 : decode u_M_port.2.1 11 = .ok (.ifCond .eq 26, 3) := by decide +kernel
theorem d_M_port_14 : decode u_M_port.2.1 14 = .ok (.iload_n 1, 1) := by decide +kernel
theorem d_M_port_15 : decode u_M_port.2.1 15 = .ok (.iload_n 2, 1) := by decide +kernel
theorem d_M_port_16 : decode u_M_port.2.1 16 = .ok (.if_icmp .eq 21, 3) := by decide +kernel
theorem d_M_port_19 : decode u_M_port.2.1 19 = .ok (.iload_n 3, 1) := by decide +kernel
theorem d_M_port_20 : decode u_M_port.2.1 20 = .ok (.iconst 0, 1) := by decide +kernel
theorem d_M_port_21 : decode u_M_port.2.1 21 = .ok (.iconst 4, 1) := by decide +kernel
theorem d_M_port_22 : decode u_M_port.2.1 22 = .ok (.invokestatic 83, 3) := by decide +kernel
theorem d_M_port_25 : decode u_M_port.2.1 25 = .ok (.ifCond .eq 12, 3) := by decide +kernel
theorem d_M_port_28 : decode u_M_port.2.1 28 = .ok (.aload_n 0, 1) := by decide +kernel
theorem d_M_port_29 : decode u_M_port.2.1 29 = .ok (.getfield 99, 3) := by decide +kernel
theorem d_M_port_32 : decode u_M_port.2.1 32 = .ok (.bipush 6, 2) := by decide +kernel
theorem d_M_port_34 : decode u_M_port.2.1 34 = .ok (.if_icmp .ne 5, 3) := by decide +kernel
theorem d_M_port_37 : decode u_M_port.2.1 37 = .ok (.iconst (-1), 1) := by decide +kernel
theorem d_M_port_38 : decode u_M_port.2.1 38 = .ok (.ireturn, 1) := by decide +kernel
theorem d_M_port_39 : decode u_M_port.2.1 39 = .ok (.aload_n 0, 1) := by decide +kernel
theorem d_M_port_40 : decode u_M_port.2.1 40 = .ok (.getfield 22, 3) := by decide +kernel
theorem d_M_port_43 : decode u_M_port.2.1 43 = .ok (.aload_n 0, 1) := by decide +kernel
theorem d_M_port_44 : decode u_M_port.2.1 44 = .ok (.getfield 99, 3) := by decide +kernel
theorem d_M_port_47 : decode u_M_port.2.1 47 = .ok (.iload_n 1, 1) := by decide +kernel
theorem d_M_port_48 : decode u_M_port.2.1 48 = .ok (.iastore, 1) := by decide +kernel
theorem d_M_port_49 : decode u_M_port.2.1 49 = .ok (.aload_n 0, 1) := by decide +kernel
theorem d_M_port_50 : decode u_M_port.2.1 50 = .ok (.getfield 25, 3) := by decide +kernel
theorem d_M_port_53 : decode u_M_port.2.1 53 = .ok (.aload_n 0, 1) := by decide +kernel
theorem d_M_port_54 : decode u_M_port.2.1 54 = .ok (.getfield 99, 3) := by decide +kernel
theorem d_M_port_57 : decode u_M_port.2.1 57 = .ok (.iload_n 2, 1) := by decide +kernel
theorem d_M_port_58 : decode u_M_port.2.1 58 = .ok (.iastore, 1) := by decide +kernel
theorem d_M_port_59 : decode u_M_port.2.1 59 = .ok (.aload_n 0, 1) := by decide +kernel
theorem d_M_port_60 : decode u_M_port.2.1 60 = .ok (.getfield 28, 3) := by decide +kernel
theorem d_M_port_63 : decode u_M_port.2.1 63 = .ok (.aload_n 0, 1) := by decide +kernel
theorem d_M_port_64 : decode u_M_port.2.1 64 = .ok (.getfield 99, 3) := by decide +kernel
theorem d_M_port_67 : decode u_M_port.2.1 67 = .ok (.iload_n 3, 1) := by decide +kernel
theorem d_M_port_68 : decode u_M_port.2.1 68 = .ok (.iastore, 1) := by decide +kernel
theorem d_M_port_69 : decode u_M_port.2.1 69 = .ok (.aload_n 0, 1) := by decide +kernel
theorem d_M_port_70 : decode u_M_port.2.1 70 = .ok (.getfield 31, 3) := by decide +kernel
theorem d_M_port_73 : decode u_M_port.2.1 73 = .ok (.aload_n 0, 1) := by decide +kernel
theorem d_M_port_74 : decode u_M_port.2.1 74 = .ok (.getfield 99, 3) := by decide +kernel
theorem d_M_port_77 : decode u_M_port.2.1 77 = .ok (.iconst 0, 1) := by decide +kernel
theorem d_M_port_78 : decode u_M_port.2.1 78 = .ok (.iastore, 1) := by decide +kernel
theorem d_M_port_79 : decode u_M_port.2.1 79 = .ok (.aload_n 0, 1) := by decide +kernel
theorem d_M_port_80 : decode u_M_port.2.1 80 = .ok (.dup, 1) := by decide +kernel
theorem d_M_port_81 : decode u_M_port.2.1 81 = .ok (.getfield 99, 3) := by decide +kernel
theorem d_M_port_84 : decode u_M_port.2.1 84 = .ok (.iconst 1, 1) := by decide +kernel
theorem d_M_port_85 : decode u_M_port.2.1 85 = .ok (.iadd, 1) := by decide +kernel
theorem d_M_port_86 : decode u_M_port.2.1 86 = .ok (.putfield 99, 3) := by decide +kernel
theorem d_M_port_89 : decode u_M_port.2.1 89 = .ok (.aload_n 0, 1) := by decide +kernel
theorem d_M_port_90 : decode u_M_port.2.1 90 = .ok (.iconst 0, 1) := by decide +kernel
theorem d_M_port_91 : decode u_M_port.2.1 91 = .ok (.putfield 91, 3) := by decide +kernel
theorem d_M_port_94 : decode u_M_port.2.1 94 = .ok (.aload_n 0, 1) := by decide +kernel
theorem d_M_port_95 : decode u_M_port.2.1 95 = .ok (.getfield 99, 3) := by decide +kernel
theorem d_M_port_98 : decode u_M_port.2.1 98 = .ok (.iconst 1, 1) := by decide +kernel
theorem d_M_port_99 : decode u_M_port.2.1 99 = .ok (.isub, 1) := by decide +kernel
theorem d_M_port_100 : decode u_M_port.2.1 100 = .ok (.ireturn, 1) := by decide +kernel
theorem d_M_action_0 : decode u_M_action.2.1 0 = .ok (.iload_n 1, 1) := by decide +kernel
theorem d_M_action_1 : decode u_M_action.2.1 1 = .ok (.invokestatic 87, 3) := by decide +kernel
theorem d_M_action_4 : decode u_M_action.2.1 4 = .ok (.ifCond .eq 21, 3) := by decide +kernel
theorem d_M_action_7 : decode u_M_action.2.1 7 = .ok (.iload_n 2, 1) := by decide +kernel
theorem d_M_action_8 : decode u_M_action.2.1 8 = .ok (.iconst 1, 1) := by decide +kernel
theorem d_M_action_9 : decode u_M_action.2.1 9 = .ok (.iconst 4, 1) := by decide +kernel
theorem d_M_action_10 : decode u_M_action.2.1 10 = .ok (.invokestatic 83, 3) := by decide +kernel
theorem d_M_action_13 : decode u_M_action.2.1 13 = .ok (.ifCond .eq 12, 3) := by decide +kernel
theorem d_M_action_16 : decode u_M_action.2.1 16 = .ok (.iload_n 3, 1) := by decide +kernel
theorem d_M_action_17 : decode u_M_action.2.1 17 = .ok (.iconst 0, 1) := by decide +kernel
theorem d_M_action_18 : decode u_M_action.2.1 18 = .ok (.iconst 2, 1) := by decide +kernel
theorem d_M_action_19 : decode u_M_action.2.1 19 = .ok (.invokestatic 83, 3) := by decide +kernel
theorem d_M_action_22 : decode u_M_action.2.1 22 = .ok (.ifCond .ne 5, 3) := by decide +kernel
theorem d_M_action_25 : decode u_M_action.2.1 25 = .ok (.iconst 0, 1) := by decide +kernel
theorem d_M_action_26 : decode u_M_action.2.1 26 = .ok (.ireturn, 1) := by decide +kernel
theorem d_M_action_27 : decode u_M_action.2.1 27 = .ok (.aload_n 0, 1) := by decide +kernel
theorem d_M_action_28 : decode u_M_action.2.1 28 = .ok (.getfield 40, 3) := by decide +kernel
theorem d_M_action_31 : decode u_M_action.2.1 31 = .ok (.iconst 4, 1) := by decide +kernel
theorem d_M_action_32 : decode u_M_action.2.1 32 = .ok (.iload_n 1, 1) := by decide +kernel
theorem d_M_action_33 : decode u_M_action.2.1 33 = .ok (.imul, 1) := by decide +kernel
theorem d_M_action_34 : decode u_M_action.2.1 34 = .ok (.iload_n 2, 1) := by decide +kernel
theorem d_M_action_35 : decode u_M_action.2.1 35 = .ok (.iadd, 1) := by decide +kernel
theorem d_M_action_36 : decode u_M_action.2.1 36 = .ok (.iconst 1, 1) := by decide +kernel
theorem d_M_action_37 : decode u_M_action.2.1 37 = .ok (.isub, 1) := by decide +kernel
theorem d_M_action_38 : decode u_M_action.2.1 38 = .ok (.iload_n 3, 1) := by decide +kernel
theorem d_M_action_39 : decode u_M_action.2.1 39 = .ok (.iastore, 1) := by decide +kernel
theorem d_M_action_40 : decode u_M_action.2.1 40 = .ok (.aload_n 0, 1) := by decide +kernel
theorem d_M_action_41 : decode u_M_action.2.1 41 = .ok (.iconst 0, 1) := by decide +kernel
theorem d_M_action_42 : decode u_M_action.2.1 42 = .ok (.putfield 91, 3) := by decide +kernel
theorem d_M_action_45 : decode u_M_action.2.1 45 = .ok (.iconst 1, 1) := by decide +kernel
theorem d_M_action_46 : decode u_M_action.2.1 46 = .ok (.ireturn, 1) := by decide +kernel
theorem d_M_code_0 : decode u_M_code.2.1 0 = .ok (.iload_n 1, 1) := by decide +kernel
theorem d_M_code_1 : decode u_M_code.2.1 1 = .ok (.invokestatic 87, 3) := by decide +kernel
theorem d_M_code_4 : decode u_M_code.2.1 4 = .ok (.ifCond .eq 13, 3) := by decide +kernel
theorem d_M_code_7 : decode u_M_code.2.1 7 = .ok (.iload_n 2, 1) := by decide +kernel
theorem d_M_code_8 : decode u_M_code.2.1 8 = .ok (.iconst 0, 1) := by decide +kernel
theorem d_M_code_9 : decode u_M_code.2.1 9 = .ok (.bipush 15, 2) := by decide +kernel
theorem d_M_code_11 : decode u_M_code.2.1 11 = .ok (.invokestatic 83, 3) := by decide +kernel
theorem d_M_code_14 : decode u_M_code.2.1 14 = .ok (.ifCond .ne 5, 3) := by decide +kernel
theorem d_M_code_17 : decode u_M_code.2.1 17 = .ok (.iconst 0, 1) := by decide +kernel
theorem d_M_code_18 : decode u_M_code.2.1 18 = .ok (.ireturn, 1) := by decide +kernel
theorem d_M_code_19 : decode u_M_code.2.1 19 = .ok (.bipush 16, 2) := by decide +kernel
theorem d_M_code_21 : decode u_M_code.2.1 21 = .ok (.iload_n 1, 1) := by decide +kernel
theorem d_M_code_22 : decode u_M_code.2.1 22 = .ok (.imul, 1) := by decide +kernel
theorem d_M_code_23 : decode u_M_code.2.1 23 = .ok (.iload_n 2, 1) := by decide +kernel
theorem d_M_code_24 : decode u_M_code.2.1 24 = .ok (.iadd, 1) := by decide +kernel
theorem d_M_code_25 : decode u_M_code.2.1 25 = .ok (.istore 6, 2) := by decide +kernel
theorem d_M_code_27 : decode u_M_code.2.1 27 = .ok (.aload_n 0, 1) := by decide +kernel
theorem d_M_code_28 : decode u_M_code.2.1 28 = .ok (.getfield 43, 3) := by decide +kernel
theorem d_M_code_31 : decode u_M_code.2.1 31 = .ok (.iload 6, 2) := by decide +kernel
theorem d_M_code_33 : decode u_M_code.2.1 33 = .ok (.iload_n 3, 1) := by decide +kernel
theorem d_M_code_34 : decode u_M_code.2.1 34 = .ok (.iastore, 1) := by decide +kernel
theorem d_M_code_35 : decode u_M_code.2.1 35 = .ok (.aload_n 0, 1) := by decide +kernel
theorem d_M_code_36 : decode u_M_code.2.1 36 = .ok (.getfield 46, 3) := by decide +kernel
theorem d_M_code_39 : decode u_M_code.2.1 39 = .ok (.iload 6, 2) := by decide +kernel
theorem d_M_code_41 : decode u_M_code.2.1 41 = .ok (.iload 4, 2) := by decide +kernel
theorem d_M_code_43 : decode u_M_code.2.1 43 = .ok (.iastore, 1) := by decide +kernel
theorem d_M_code_44 : decode u_M_code.2.1 44 = .ok (.aload_n 0, 1) := by decide +kernel
theorem d_M_code_45 : decode u_M_code.2.1 45 = .ok (.getfield 49, 3) := by decide +kernel
theorem d_M_code_48 : decode u_M_code.2.1 48 = .ok (.iload 6, 2) := by decide +kernel
theorem d_M_code_50 : decode u_M_code.2.1 50 = .ok (.iload 5, 2) := by decide +kernel
theorem d_M_code_52 : decode u_M_code.2.1 52 = .ok (.iastore, 1) := by decide +kernel
theorem d_M_code_53 : decode u_M_code.2.1 53 = .ok (.aload_n 0, 1) := by decide +kernel
theorem d_M_code_54 : decode u_M_code.2.1 54 = .ok (.iconst 0, 1) := by decide +kernel
theorem d_M_code_55 : decode u_M_code.2.1 55 = .ok (.putfield 91, 3) := by decide +kernel
theorem d_M_code_58 : decode u_M_code.2.1 58 = .ok (.iconst 1, 1) := by decide +kernel
theorem d_M_code_59 : decode u_M_code.2.1 59 = .ok (.ireturn, 1) := by decide +kernel
theorem d_M_takesPart_0 : decode u_M_takesPart.2.1 0 = .ok (.aload_n 0, 1) := by decide +kernel
theorem d_M_takesPart_1 : decode u_M_takesPart.2.1 1 = .ok (.getfield 7, 3) := by decide +kernel
theorem d_M_takesPart_4 : decode u_M_takesPart.2.1 4 = .ok (.iload_n 1, 1) := by decide +kernel
theorem d_M_takesPart_5 : decode u_M_takesPart.2.1 5 = .ok (.iaload, 1) := by decide +kernel
theorem d_M_takesPart_6 : decode u_M_takesPart.2.1 6 = .ok (.ifCond .lt 7, 3) := by decide +kernel
theorem d_M_takesPart_9 : decode u_M_takesPart.2.1 9 = .ok (.iconst 1, 1) := by decide +kernel
theorem d_M_takesPart_10 : decode u_M_takesPart.2.1 10 = .ok (.goto 4, 3) := by decide +kernel
theorem d_M_takesPart_13 : decode u_M_takesPart.2.1 13 = .ok (.iconst 0, 1) := by decide +kernel
theorem d_M_takesPart_14 : decode u_M_takesPart.2.1 14 = .ok (.ireturn, 1) := by decide +kernel
theorem d_M_wrong_0 : decode u_M_wrong.2.1 0 = .ok (.iconst 0, 1) := by decide +kernel
theorem d_M_wrong_1 : decode u_M_wrong.2.1 1 = .ok (.istore_n 1, 1) := by decide +kernel
theorem d_M_wrong_2 : decode u_M_wrong.2.1 2 = .ok (.iconst 1, 1) := by decide +kernel
theorem d_M_wrong_3 : decode u_M_wrong.2.1 3 = .ok (.istore_n 2, 1) := by decide +kernel
theorem d_M_wrong_4 : decode u_M_wrong.2.1 4 = .ok (.iconst 1, 1) := by decide +kernel
theorem d_M_wrong_5 : decode u_M_wrong.2.1 5 = .ok (.istore_n 3, 1) := by decide +kernel
theorem d_M_wrong_6 : decode u_M_wrong.2.1 6 = .ok (.iconst 1, 1) := by decide +kernel
theorem d_M_wrong_7 : decode u_M_wrong.2.1 7 = .ok (.istore 4, 2) := by decide +kernel
theorem d_M_wrong_9 : decode u_M_wrong.2.1 9 = .ok (.iconst 0, 1) := by decide +kernel
theorem d_M_wrong_10 : decode u_M_wrong.2.1 10 = .ok (.istore 5, 2) := by decide +kernel
theorem d_M_wrong_12 : decode u_M_wrong.2.1 12 = .ok (.iload 5, 2) := by decide +kernel
theorem d_M_wrong_14 : decode u_M_wrong.2.1 14 = .ok (.iconst 4, 1) := by decide +kernel
theorem d_M_wrong_15 : decode u_M_wrong.2.1 15 = .ok (.if_icmp .ge 200, 3) := by decide +kernel
theorem d_M_wrong_18 : decode u_M_wrong.2.1 18 = .ok (.iload_n 1, 1) := by decide +kernel
theorem d_M_wrong_19 : decode u_M_wrong.2.1 19 = .ok (.ifCond .ne 12, 3) := by decide +kernel
theorem d_M_wrong_22 : decode u_M_wrong.2.1 22 = .ok (.aload_n 0, 1) := by decide +kernel
theorem d_M_wrong_23 : decode u_M_wrong.2.1 23 = .ok (.iload 5, 2) := by decide +kernel
theorem d_M_wrong_25 : decode u_M_wrong.2.1 25 = .ok (.invokevirtual 102, 3) := by decide +kernel
theorem d_M_wrong_28 : decode u_M_wrong.2.1 28 = .ok (.ifCond .eq 7, 3) := by decide +kernel
theorem d_M_wrong_31 : decode u_M_wrong.2.1 31 = .ok (.iconst 1, 1) := by decide +kernel
theorem d_M_wrong_32 : decode u_M_wrong.2.1 32 = .ok (.goto 4, 3) := by decide +kernel
theorem d_M_wrong_35 : decode u_M_wrong.2.1 35 = .ok (.iconst 0, 1) := by decide +kernel
theorem d_M_wrong_36 : decode u_M_wrong.2.1 36 = .ok (.istore_n 1, 1) := by decide +kernel
theorem d_M_wrong_37 : decode u_M_wrong.2.1 37 = .ok (.iconst 0, 1) := by decide +kernel
theorem d_M_wrong_38 : decode u_M_wrong.2.1 38 = .ok (.istore 6, 2) := by decide +kernel
theorem d_M_wrong_40 : decode u_M_wrong.2.1 40 = .ok (.iconst 0, 1) := by decide +kernel
theorem d_M_wrong_41 : decode u_M_wrong.2.1 41 = .ok (.istore 7, 2) := by decide +kernel
theorem d_M_wrong_43 : decode u_M_wrong.2.1 43 = .ok (.iload 7, 2) := by decide +kernel
theorem d_M_wrong_45 : decode u_M_wrong.2.1 45 = .ok (.aload_n 0, 1) := by decide +kernel
theorem d_M_wrong_46 : decode u_M_wrong.2.1 46 = .ok (.getfield 95, 3) := by decide +kernel
theorem d_M_wrong_49 : decode u_M_wrong.2.1 49 = .ok (.if_icmp .ge 33, 3) := by decide +kernel
theorem d_M_wrong_52 : decode u_M_wrong.2.1 52 = .ok (.iload 6, 2) := by decide +kernel
theorem d_M_wrong_54 : decode u_M_wrong.2.1 54 = .ok (.ifCond .ne 15, 3) := by decide +kernel
theorem d_M_wrong_57 : decode u_M_wrong.2.1 57 = .ok (.aload_n 0, 1) := by decide +kernel
theorem d_M_wrong_58 : decode u_M_wrong.2.1 58 = .ok (.getfield 16, 3) := by decide +kernel
theorem d_M_wrong_61 : decode u_M_wrong.2.1 61 = .ok (.iload 7, 2) := by decide +kernel
theorem d_M_wrong_63 : decode u_M_wrong.2.1 63 = .ok (.iaload, 1) := by decide +kernel
theorem d_M_wrong_64 : decode u_M_wrong.2.1 64 = .ok (.iload 5, 2) := by decide +kernel
theorem d_M_wrong_66 : decode u_M_wrong.2.1 66 = .ok (.if_icmp .ne 7, 3) := by decide +kernel
theorem d_M_wrong_69 : decode u_M_wrong.2.1 69 = .ok (.iconst 1, 1) := by decide +kernel
theorem d_M_wrong_70 : decode u_M_wrong.2.1 70 = .ok (.goto 4, 3) := by decide +kernel
theorem d_M_wrong_73 : decode u_M_wrong.2.1 73 = .ok (.iconst 0, 1) := by decide +kernel
theorem d_M_wrong_74 : decode u_M_wrong.2.1 74 = .ok (.istore 6, 2) := by decide +kernel
theorem d_M_wrong_76 : decode u_M_wrong.2.1 76 = .ok (.iinc 7 1, 3) := by decide +kernel
theorem d_M_wrong_79 : decode u_M_wrong.2.1 79 = .ok (.goto (-36), 3) := by decide +kernel
theorem d_M_wrong_82 : decode u_M_wrong.2.1 82 = .ok (.iload_n 3, 1) := by decide +kernel
theorem d_M_wrong_83 : decode u_M_wrong.2.1 83 = .ok (.ifCond .eq 18, 3) := by decide +kernel
theorem d_M_wrong_86 : decode u_M_wrong.2.1 86 = .ok (.iload 6, 2) := by decide +kernel
theorem d_M_wrong_88 : decode u_M_wrong.2.1 88 = .ok (.aload_n 0, 1) := by decide +kernel
theorem d_M_wrong_89 : decode u_M_wrong.2.1 89 = .ok (.iload 5, 2) := by decide +kernel
theorem d_M_wrong_91 : decode u_M_wrong.2.1 91 = .ok (.invokevirtual 102, 3) := by decide +kernel
theorem d_M_wrong_94 : decode u_M_wrong.2.1 94 = .ok (.if_icmp .ne 7, 3) := by decide +kernel
theorem d_M_wrong_97 : decode u_M_wrong.2.1 97 = .ok (.iconst 1, 1) := by decide +kernel
theorem d_M_wrong_98 : decode u_M_wrong.2.1 98 = .ok (.goto 4, 3) := by decide +kernel
theorem d_M_wrong_101 : decode u_M_wrong.2.1 101 = .ok (.iconst 0, 1) := by decide +kernel
theorem d_M_wrong_102 : decode u_M_wrong.2.1 102 = .ok (.istore_n 3, 1) := by decide +kernel
theorem d_M_wrong_103 : decode u_M_wrong.2.1 103 = .ok (.iconst 0, 1) := by decide +kernel
theorem d_M_wrong_104 : decode u_M_wrong.2.1 104 = .ok (.istore 7, 2) := by decide +kernel
theorem d_M_wrong_106 : decode u_M_wrong.2.1 106 = .ok (.iload 7, 2) := by decide +kernel
theorem d_M_wrong_108 : decode u_M_wrong.2.1 108 = .ok (.iload 5, 2) := by decide +kernel
theorem d_M_wrong_110 : decode u_M_wrong.2.1 110 = .ok (.if_icmp .ge 99, 3) := by decide +kernel
theorem d_M_wrong_113 : decode u_M_wrong.2.1 113 = .ok (.aload_n 0, 1) := by decide +kernel
theorem d_M_wrong_114 : decode u_M_wrong.2.1 114 = .ok (.iload 5, 2) := by decide +kernel
theorem d_M_wrong_116 : decode u_M_wrong.2.1 116 = .ok (.invokevirtual 102, 3) := by decide +kernel
theorem d_M_wrong_119 : decode u_M_wrong.2.1 119 = .ok (.ifCond .eq 16, 3) := by decide +kernel
theorem d_M_wrong_122 : decode u_M_wrong.2.1 122 = .ok (.aload_n 0, 1) := by decide +kernel
theorem d_M_wrong_123 : decode u_M_wrong.2.1 123 = .ok (.iload 7, 2) := by decide +kernel
theorem d_M_wrong_125 : decode u_M_wrong.2.1 125 = .ok (.invokevirtual 102, 3) := by decide +kernel
theorem d_M_wrong_128 : decode u_M_wrong.2.1 128 = .ok (.ifCond .eq 7, 3) := by decide +kernel
theorem d_M_wrong_131 : decode u_M_wrong.2.1 131 = .ok (.iconst 1, 1) := by decide +kernel
theorem d_M_wrong_132 : decode u_M_wrong.2.1 132 = .ok (.goto 4, 3) := by decide +kernel
theorem d_M_wrong_135 : decode u_M_wrong.2.1 135 = .ok (.iconst 0, 1) := by decide +kernel
theorem d_M_wrong_136 : decode u_M_wrong.2.1 136 = .ok (.istore 8, 2) := by decide +kernel
theorem d_M_wrong_138 : decode u_M_wrong.2.1 138 = .ok (.iload_n 2, 1) := by decide +kernel
theorem d_M_wrong_139 : decode u_M_wrong.2.1 139 = .ok (.ifCond .eq 62, 3) := by decide +kernel
theorem d_M_wrong_142 : decode u_M_wrong.2.1 142 = .ok (.iload 8, 2) := by decide +kernel
theorem d_M_wrong_144 : decode u_M_wrong.2.1 144 = .ok (.ifCond .eq 53, 3) := by decide +kernel
theorem d_M_wrong_147 : decode u_M_wrong.2.1 147 = .ok (.aload_n 0, 1) := by decide +kernel
theorem d_M_wrong_148 : decode u_M_wrong.2.1 148 = .ok (.getfield 7, 3) := by decide +kernel
theorem d_M_wrong_151 : decode u_M_wrong.2.1 151 = .ok (.iload 5, 2) := by decide +kernel
theorem d_M_wrong_153 : decode u_M_wrong.2.1 153 = .ok (.iaload, 1) := by decide +kernel
theorem d_M_wrong_154 : decode u_M_wrong.2.1 154 = .ok (.aload_n 0, 1) := by decide +kernel
theorem d_M_wrong_155 : decode u_M_wrong.2.1 155 = .ok (.getfield 7, 3) := by decide +kernel
theorem d_M_wrong_158 : decode u_M_wrong.2.1 158 = .ok (.iload 7, 2) := by decide +kernel
theorem d_M_wrong_160 : decode u_M_wrong.2.1 160 = .ok (.iaload, 1) := by decide +kernel
theorem d_M_wrong_161 : decode u_M_wrong.2.1 161 = .ok (.aload_n 0, 1) := by decide +kernel
theorem d_M_wrong_162 : decode u_M_wrong.2.1 162 = .ok (.getfield 13, 3) := by decide +kernel
theorem d_M_wrong_165 : decode u_M_wrong.2.1 165 = .ok (.iload 7, 2) := by decide +kernel
theorem d_M_wrong_167 : decode u_M_wrong.2.1 167 = .ok (.iaload, 1) := by decide +kernel
theorem d_M_wrong_168 : decode u_M_wrong.2.1 168 = .ok (.iadd, 1) := by decide +kernel
theorem d_M_wrong_169 : decode u_M_wrong.2.1 169 = .ok (.if_icmp .ge 28, 3) := by decide +kernel
theorem d_M_wrong_172 : decode u_M_wrong.2.1 172 = .ok (.aload_n 0, 1) := by decide +kernel
theorem d_M_wrong_173 : decode u_M_wrong.2.1 173 = .ok (.getfield 7, 3) := by decide +kernel
theorem d_M_wrong_176 : decode u_M_wrong.2.1 176 = .ok (.iload 7, 2) := by decide +kernel
theorem d_M_wrong_178 : decode u_M_wrong.2.1 178 = .ok (.iaload, 1) := by decide +kernel
theorem d_M_wrong_179 : decode u_M_wrong.2.1 179 = .ok (.aload_n 0, 1) := by decide +kernel
theorem d_M_wrong_180 : decode u_M_wrong.2.1 180 = .ok (.getfield 7, 3) := by decide +kernel
theorem d_M_wrong_183 : decode u_M_wrong.2.1 183 = .ok (.iload 5, 2) := by decide +kernel
theorem d_M_wrong_185 : decode u_M_wrong.2.1 185 = .ok (.iaload, 1) := by decide +kernel
theorem d_M_wrong_186 : decode u_M_wrong.2.1 186 = .ok (.aload_n 0, 1) := by decide +kernel
theorem d_M_wrong_187 : decode u_M_wrong.2.1 187 = .ok (.getfield 13, 3) := by decide +kernel
theorem d_M_wrong_190 : decode u_M_wrong.2.1 190 = .ok (.iload 5, 2) := by decide +kernel
theorem d_M_wrong_192 : decode u_M_wrong.2.1 192 = .ok (.iaload, 1) := by decide +kernel
theorem d_M_wrong_193 : decode u_M_wrong.2.1 193 = .ok (.iadd, 1) := by decide +kernel
theorem d_M_wrong_194 : decode u_M_wrong.2.1 194 = .ok (.if_icmp .lt 7, 3) := by decide +kernel
theorem d_M_wrong_197 : decode u_M_wrong.2.1 197 = .ok (.iconst 1, 1) := by decide +kernel
theorem d_M_wrong_198 : decode u_M_wrong.2.1 198 = .ok (.goto 4, 3) := by decide +kernel
theorem d_M_wrong_201 : decode u_M_wrong.2.1 201 = .ok (.iconst 0, 1) := by decide +kernel
theorem d_M_wrong_202 : decode u_M_wrong.2.1 202 = .ok (.istore_n 2, 1) := by decide +kernel
theorem d_M_wrong_203 : decode u_M_wrong.2.1 203 = .ok (.iinc 7 1, 3) := by decide +kernel
theorem d_M_wrong_206 : decode u_M_wrong.2.1 206 = .ok (.goto (-100), 3) := by decide +kernel
theorem d_M_wrong_209 : decode u_M_wrong.2.1 209 = .ok (.iinc 5 1, 3) := by decide +kernel
theorem d_M_wrong_212 : decode u_M_wrong.2.1 212 = .ok (.goto (-200), 3) := by decide +kernel
theorem d_M_wrong_215 : decode u_M_wrong.2.1 215 = .ok (.iconst 0, 1) := by decide +kernel
theorem d_M_wrong_216 : decode u_M_wrong.2.1 216 = .ok (.istore 5, 2) := by decide +kernel
theorem d_M_wrong_218 : decode u_M_wrong.2.1 218 = .ok (.iload 5, 2) := by decide +kernel
theorem d_M_wrong_220 : decode u_M_wrong.2.1 220 = .ok (.aload_n 0, 1) := by decide +kernel
theorem d_M_wrong_221 : decode u_M_wrong.2.1 221 = .ok (.getfield 99, 3) := by decide +kernel
theorem d_M_wrong_224 : decode u_M_wrong.2.1 224 = .ok (.if_icmp .ge 49, 3) := by decide +kernel
theorem d_M_wrong_227 : decode u_M_wrong.2.1 227 = .ok (.iload 4, 2) := by decide +kernel
theorem d_M_wrong_229 : decode u_M_wrong.2.1 229 = .ok (.ifCond .eq 35, 3) := by decide +kernel
theorem d_M_wrong_232 : decode u_M_wrong.2.1 232 = .ok (.aload_n 0, 1) := by decide +kernel
theorem d_M_wrong_233 : decode u_M_wrong.2.1 233 = .ok (.aload_n 0, 1) := by decide +kernel
theorem d_M_wrong_234 : decode u_M_wrong.2.1 234 = .ok (.getfield 22, 3) := by decide +kernel
theorem d_M_wrong_237 : decode u_M_wrong.2.1 237 = .ok (.iload 5, 2) := by decide +kernel
theorem d_M_wrong_239 : decode u_M_wrong.2.1 239 = .ok (.iaload, 1) := by decide +kernel
theorem d_M_wrong_240 : decode u_M_wrong.2.1 240 = .ok (.invokevirtual 102, 3) := by decide +kernel
theorem d_M_wrong_243 : decode u_M_wrong.2.1 243 = .ok (.ifCond .eq 21, 3) := by decide +kernel
theorem d_M_wrong_246 : decode u_M_wrong.2.1 246 = .ok (.aload_n 0, 1) := by decide +kernel
theorem d_M_wrong_247 : decode u_M_wrong.2.1 247 = .ok (.aload_n 0, 1) := by decide +kernel
theorem d_M_wrong_248 : decode u_M_wrong.2.1 248 = .ok (.getfield 25, 3) := by decide +kernel
theorem d_M_wrong_251 : decode u_M_wrong.2.1 251 = .ok (.iload 5, 2) := by decide +kernel
theorem d_M_wrong_253 : decode u_M_wrong.2.1 253 = .ok (.iaload, 1) := by decide +kernel
theorem d_M_wrong_254 : decode u_M_wrong.2.1 254 = .ok (.invokevirtual 102, 3) := by decide +kernel
theorem d_M_wrong_257 : decode u_M_wrong.2.1 257 = .ok (.ifCond .eq 7, 3) := by decide +kernel
theorem d_M_wrong_260 : decode u_M_wrong.2.1 260 = .ok (.iconst 1, 1) := by decide +kernel
theorem d_M_wrong_261 : decode u_M_wrong.2.1 261 = .ok (.goto 4, 3) := by decide +kernel
theorem d_M_wrong_264 : decode u_M_wrong.2.1 264 = .ok (.iconst 0, 1) := by decide +kernel
theorem d_M_wrong_265 : decode u_M_wrong.2.1 265 = .ok (.istore 4, 2) := by decide +kernel
theorem d_M_wrong_267 : decode u_M_wrong.2.1 267 = .ok (.iinc 5 1, 3) := by decide +kernel
theorem d_M_wrong_270 : decode u_M_wrong.2.1 270 = .ok (.goto (-52), 3) := by decide +kernel
theorem d_M_wrong_273 : decode u_M_wrong.2.1 273 = .ok (.iload_n 1, 1) := by decide +kernel
theorem d_M_wrong_274 : decode u_M_wrong.2.1 274 = .ok (.ifCond .ne 7, 3) := by decide +kernel
theorem d_M_wrong_277 : decode u_M_wrong.2.1 277 = .ok (.iconst 1, 1) := by decide +kernel
theorem d_M_wrong_278 : decode u_M_wrong.2.1 278 = .ok (.goto 29, 3) := by decide +kernel
theorem d_M_wrong_281 : decode u_M_wrong.2.1 281 = .ok (.iload_n 2, 1) := by decide +kernel
theorem d_M_wrong_282 : decode u_M_wrong.2.1 282 = .ok (.ifCond .ne 7, 3) := by decide +kernel
theorem d_M_wrong_285 : decode u_M_wrong.2.1 285 = .ok (.iconst 2, 1) := by decide +kernel
theorem d_M_wrong_286 : decode u_M_wrong.2.1 286 = .ok (.goto 21, 3) := by decide +kernel
theorem d_M_wrong_289 : decode u_M_wrong.2.1 289 = .ok (.iload_n 3, 1) := by decide +kernel
theorem d_M_wrong_290 : decode u_M_wrong.2.1 290 = .ok (.ifCond .ne 7, 3) := by decide +kernel
theorem d_M_wrong_293 : decode u_M_wrong.2.1 293 = .ok (.iconst 3, 1) := by decide +kernel
theorem d_M_wrong_294 : decode u_M_wrong.2.1 294 = .ok (.goto 13, 3) := by decide +kernel
theorem d_M_wrong_297 : decode u_M_wrong.2.1 297 = .ok (.iload 4, 2) := by decide +kernel
theorem d_M_wrong_299 : decode u_M_wrong.2.1 299 = .ok (.ifCond .eq 7, 3) := by decide +kernel
theorem d_M_wrong_302 : decode u_M_wrong.2.1 302 = .ok (.iconst 0, 1) := by decide +kernel
theorem d_M_wrong_303 : decode u_M_wrong.2.1 303 = .ok (.goto 4, 3) := by decide +kernel
theorem d_M_wrong_306 : decode u_M_wrong.2.1 306 = .ok (.iconst 4, 1) := by decide +kernel
theorem d_M_wrong_307 : decode u_M_wrong.2.1 307 = .ok (.ireturn, 1) := by decide +kernel
theorem d_M_start_0 : decode u_M_start.2.1 0 = .ok (.aload_n 0, 1) := by decide +kernel
theorem d_M_start_1 : decode u_M_start.2.1 1 = .ok (.invokevirtual 105, 3) := by decide +kernel
theorem d_M_start_4 : decode u_M_start.2.1 4 = .ok (.istore_n 1, 1) := by decide +kernel
theorem d_M_start_5 : decode u_M_start.2.1 5 = .ok (.iload_n 1, 1) := by decide +kernel
theorem d_M_start_6 : decode u_M_start.2.1 6 = .ok (.ifCond .le 5, 3) := by decide +kernel
theorem d_M_start_9 : decode u_M_start.2.1 9 = .ok (.iload_n 1, 1) := by decide +kernel
theorem d_M_start_10 : decode u_M_start.2.1 10 = .ok (.ireturn, 1) := by decide +kernel
theorem d_M_start_11 : decode u_M_start.2.1 11 = .ok (.iconst 0, 1) := by decide +kernel
theorem d_M_start_12 : decode u_M_start.2.1 12 = .ok (.istore_n 2, 1) := by decide +kernel
theorem d_M_start_13 : decode u_M_start.2.1 13 = .ok (.iload_n 2, 1) := by decide +kernel
theorem d_M_start_14 : decode u_M_start.2.1 14 = .ok (.bipush 64, 2) := by decide +kernel
theorem d_M_start_16 : decode u_M_start.2.1 16 = .ok (.if_icmp .ge 16, 3) := by decide +kernel
theorem d_M_start_19 : decode u_M_start.2.1 19 = .ok (.aload_n 0, 1) := by decide +kernel
theorem d_M_start_20 : decode u_M_start.2.1 20 = .ok (.getfield 52, 3) := by decide +kernel
theorem d_M_start_23 : decode u_M_start.2.1 23 = .ok (.iload_n 2, 1) := by decide +kernel
theorem d_M_start_24 : decode u_M_start.2.1 24 = .ok (.iconst 0, 1) := by decide +kernel
theorem d_M_start_25 : decode u_M_start.2.1 25 = .ok (.iastore, 1) := by decide +kernel
theorem d_M_start_26 : decode u_M_start.2.1 26 = .ok (.iinc 2 1, 3) := by decide +kernel
theorem d_M_start_29 : decode u_M_start.2.1 29 = .ok (.goto (-16), 3) := by decide +kernel
theorem d_M_start_32 : decode u_M_start.2.1 32 = .ok (.iconst 0, 1) := by decide +kernel
theorem d_M_start_33 : decode u_M_start.2.1 33 = .ok (.istore_n 2, 1) := by decide +kernel
theorem d_M_start_34 : decode u_M_start.2.1 34 = .ok (.iload_n 2, 1) := by decide +kernel
theorem d_M_start_35 : decode u_M_start.2.1 35 = .ok (.bipush 16, 2) := by decide +kernel
theorem d_M_start_37 : decode u_M_start.2.1 37 = .ok (.if_icmp .ge 16, 3) := by decide +kernel
theorem d_M_start_40 : decode u_M_start.2.1 40 = .ok (.aload_n 0, 1) := by decide +kernel
theorem d_M_start_41 : decode u_M_start.2.1 41 = .ok (.getfield 55, 3) := by decide +kernel
theorem d_M_start_44 : decode u_M_start.2.1 44 = .ok (.iload_n 2, 1) := by decide +kernel
theorem d_M_start_45 : decode u_M_start.2.1 45 = .ok (.iconst 0, 1) := by decide +kernel
theorem d_M_start_46 : decode u_M_start.2.1 46 = .ok (.iastore, 1) := by decide +kernel
theorem d_M_start_47 : decode u_M_start.2.1 47 = .ok (.iinc 2 1, 3) := by decide +kernel
theorem d_M_start_50 : decode u_M_start.2.1 50 = .ok (.goto (-16), 3) := by decide +kernel
theorem d_M_start_53 : decode u_M_start.2.1 53 = .ok (.iconst 0, 1) := by decide +kernel
theorem d_M_start_54 : decode u_M_start.2.1 54 = .ok (.istore_n 2, 1) := by decide +kernel
theorem d_M_start_55 : decode u_M_start.2.1 55 = .ok (.iload_n 2, 1) := by decide +kernel
theorem d_M_start_56 : decode u_M_start.2.1 56 = .ok (.bipush 6, 2) := by decide +kernel
theorem d_M_start_58 : decode u_M_start.2.1 58 = .ok (.if_icmp .ge 16, 3) := by decide +kernel
theorem d_M_start_61 : decode u_M_start.2.1 61 = .ok (.aload_n 0, 1) := by decide +kernel
theorem d_M_start_62 : decode u_M_start.2.1 62 = .ok (.getfield 31, 3) := by decide +kernel
theorem d_M_start_65 : decode u_M_start.2.1 65 = .ok (.iload_n 2, 1) := by decide +kernel
theorem d_M_start_66 : decode u_M_start.2.1 66 = .ok (.iconst 0, 1) := by decide +kernel
theorem d_M_start_67 : decode u_M_start.2.1 67 = .ok (.iastore, 1) := by decide +kernel
theorem d_M_start_68 : decode u_M_start.2.1 68 = .ok (.iinc 2 1, 3) := by decide +kernel
theorem d_M_start_71 : decode u_M_start.2.1 71 = .ok (.goto (-16), 3) := by decide +kernel
theorem d_M_start_74 : decode u_M_start.2.1 74 = .ok (.iconst 0, 1) := by decide +kernel
theorem d_M_start_75 : decode u_M_start.2.1 75 = .ok (.istore_n 2, 1) := by decide +kernel
theorem d_M_start_76 : decode u_M_start.2.1 76 = .ok (.iload_n 2, 1) := by decide +kernel
theorem d_M_start_77 : decode u_M_start.2.1 77 = .ok (.iconst 4, 1) := by decide +kernel
theorem d_M_start_78 : decode u_M_start.2.1 78 = .ok (.if_icmp .ge 41, 3) := by decide +kernel
theorem d_M_start_81 : decode u_M_start.2.1 81 = .ok (.aload_n 0, 1) := by decide +kernel
theorem d_M_start_82 : decode u_M_start.2.1 82 = .ok (.getfield 58, 3) := by decide +kernel
theorem d_M_start_85 : decode u_M_start.2.1 85 = .ok (.iload_n 2, 1) := by decide +kernel
theorem d_M_start_86 : decode u_M_start.2.1 86 = .ok (.iconst 0, 1) := by decide +kernel
theorem d_M_start_87 : decode u_M_start.2.1 87 = .ok (.iastore, 1) := by decide +kernel
theorem d_M_start_88 : decode u_M_start.2.1 88 = .ok (.aload_n 0, 1) := by decide +kernel
theorem d_M_start_89 : decode u_M_start.2.1 89 = .ok (.getfield 61, 3) := by decide +kernel
theorem d_M_start_92 : decode u_M_start.2.1 92 = .ok (.iload_n 2, 1) := by decide +kernel
theorem d_M_start_93 : decode u_M_start.2.1 93 = .ok (.iconst 0, 1) := by decide +kernel
theorem d_M_start_94 : decode u_M_start.2.1 94 = .ok (.iastore, 1) := by decide +kernel
theorem d_M_start_95 : decode u_M_start.2.1 95 = .ok (.aload_n 0, 1) := by decide +kernel
theorem d_M_start_96 : decode u_M_start.2.1 96 = .ok (.getfield 64, 3) := by decide +kernel
theorem d_M_start_99 : decode u_M_start.2.1 99 = .ok (.iload_n 2, 1) := by decide +kernel
theorem d_M_start_100 : decode u_M_start.2.1 100 = .ok (.aload_n 0, 1) := by decide +kernel
theorem d_M_start_101 : decode u_M_start.2.1 101 = .ok (.iload_n 2, 1) := by decide +kernel
theorem d_M_start_102 : decode u_M_start.2.1 102 = .ok (.invokevirtual 102, 3) := by decide +kernel
theorem d_M_start_105 : decode u_M_start.2.1 105 = .ok (.bastore, 1) := by decide +kernel
theorem d_M_start_106 : decode u_M_start.2.1 106 = .ok (.aload_n 0, 1) := by decide +kernel
theorem d_M_start_107 : decode u_M_start.2.1 107 = .ok (.getfield 68, 3) := by decide +kernel
theorem d_M_start_110 : decode u_M_start.2.1 110 = .ok (.iload_n 2, 1) := by decide +kernel
theorem d_M_start_111 : decode u_M_start.2.1 111 = .ok (.iconst 0, 1) := by decide +kernel
theorem d_M_start_112 : decode u_M_start.2.1 112 = .ok (.bastore, 1) := by decide +kernel
theorem d_M_start_113 : decode u_M_start.2.1 113 = .ok (.iinc 2 1, 3) := by decide +kernel
theorem d_M_start_116 : decode u_M_start.2.1 116 = .ok (.goto (-40), 3) := by decide +kernel
theorem d_M_start_119 : decode u_M_start.2.1 119 = .ok (.aload_n 0, 1) := by decide +kernel
theorem d_M_start_120 : decode u_M_start.2.1 120 = .ok (.iconst 0, 1) := by decide +kernel
theorem d_M_start_121 : decode u_M_start.2.1 121 = .ok (.putfield 109, 3) := by decide +kernel
theorem d_M_start_124 : decode u_M_start.2.1 124 = .ok (.aload_n 0, 1) := by decide +kernel
theorem d_M_start_125 : decode u_M_start.2.1 125 = .ok (.iconst 0, 1) := by decide +kernel
theorem d_M_start_126 : decode u_M_start.2.1 126 = .ok (.putfield 112, 3) := by decide +kernel
theorem d_M_start_129 : decode u_M_start.2.1 129 = .ok (.aload_n 0, 1) := by decide +kernel
theorem d_M_start_130 : decode u_M_start.2.1 130 = .ok (.iconst 0, 1) := by decide +kernel
theorem d_M_start_131 : decode u_M_start.2.1 131 = .ok (.putfield 115, 3) := by decide +kernel
theorem d_M_start_134 : decode u_M_start.2.1 134 = .ok (.aload_n 0, 1) := by decide +kernel
theorem d_M_start_135 : decode u_M_start.2.1 135 = .ok (.iconst 1, 1) := by decide +kernel
theorem d_M_start_136 : decode u_M_start.2.1 136 = .ok (.putfield 91, 3) := by decide +kernel
theorem d_M_start_139 : decode u_M_start.2.1 139 = .ok (.iconst 0, 1) := by decide +kernel
theorem d_M_start_140 : decode u_M_start.2.1 140 = .ok (.ireturn, 1) := by decide +kernel
theorem d_M_input_0 : decode u_M_input.2.1 0 = .ok (.iload_n 1, 1) := by decide +kernel
theorem d_M_input_1 : decode u_M_input.2.1 1 = .ok (.invokestatic 87, 3) := by decide +kernel
theorem d_M_input_4 : decode u_M_input.2.1 4 = .ok (.ifCond .eq 14, 3) := by decide +kernel
theorem d_M_input_7 : decode u_M_input.2.1 7 = .ok (.aload_n 0, 1) := by decide +kernel
theorem d_M_input_8 : decode u_M_input.2.1 8 = .ok (.getfield 71, 3) := by decide +kernel
theorem d_M_input_11 : decode u_M_input.2.1 11 = .ok (.iload_n 1, 1) := by decide +kernel
theorem d_M_input_12 : decode u_M_input.2.1 12 = .ok (.iaload, 1) := by decide +kernel
theorem d_M_input_13 : decode u_M_input.2.1 13 = .ok (.bipush 8, 2) := by decide +kernel
theorem d_M_input_15 : decode u_M_input.2.1 15 = .ok (.if_icmp .ne 5, 3) := by decide +kernel
theorem d_M_input_18 : decode u_M_input.2.1 18 = .ok (.iconst (-1), 1) := by decide +kernel
theorem d_M_input_19 : decode u_M_input.2.1 19 = .ok (.ireturn, 1) := by decide +kernel
theorem d_M_input_20 : decode u_M_input.2.1 20 = .ok (.aload_n 0, 1) := by decide +kernel
theorem d_M_input_21 : decode u_M_input.2.1 21 = .ok (.getfield 74, 3) := by decide +kernel
theorem d_M_input_24 : decode u_M_input.2.1 24 = .ok (.bipush 8, 2) := by decide +kernel
theorem d_M_input_26 : decode u_M_input.2.1 26 = .ok (.iload_n 1, 1) := by decide +kernel
theorem d_M_input_27 : decode u_M_input.2.1 27 = .ok (.imul, 1) := by decide +kernel
theorem d_M_input_28 : decode u_M_input.2.1 28 = .ok (.aload_n 0, 1) := by decide +kernel
theorem d_M_input_29 : decode u_M_input.2.1 29 = .ok (.getfield 71, 3) := by decide +kernel
theorem d_M_input_32 : decode u_M_input.2.1 32 = .ok (.iload_n 1, 1) := by decide +kernel
theorem d_M_input_33 : decode u_M_input.2.1 33 = .ok (.iaload, 1) := by decide +kernel
theorem d_M_input_34 : decode u_M_input.2.1 34 = .ok (.iadd, 1) := by decide +kernel
theorem d_M_input_35 : decode u_M_input.2.1 35 = .ok (.iload_n 2, 1) := by decide +kernel
theorem d_M_input_36 : decode u_M_input.2.1 36 = .ok (.iastore, 1) := by decide +kernel
theorem d_M_input_37 : decode u_M_input.2.1 37 = .ok (.aload_n 0, 1) := by decide +kernel
theorem d_M_input_38 : decode u_M_input.2.1 38 = .ok (.getfield 71, 3) := by decide +kernel
theorem d_M_input_41 : decode u_M_input.2.1 41 = .ok (.iload_n 1, 1) := by decide +kernel
theorem d_M_input_42 : decode u_M_input.2.1 42 = .ok (.dup2, 1) := by decide +kernel
theorem d_M_input_43 : decode u_M_input.2.1 43 = .ok (.iaload, 1) := by decide +kernel
theorem d_M_input_44 : decode u_M_input.2.1 44 = .ok (.iconst 1, 1) := by decide +kernel
theorem d_M_input_45 : decode u_M_input.2.1 45 = .ok (.iadd, 1) := by decide +kernel
theorem d_M_input_46 : decode u_M_input.2.1 46 = .ok (.iastore, 1) := by decide +kernel
theorem d_M_input_47 : decode u_M_input.2.1 47 = .ok (.aload_n 0, 1) := by decide +kernel
theorem d_M_input_48 : decode u_M_input.2.1 48 = .ok (.getfield 71, 3) := by decide +kernel
theorem d_M_input_51 : decode u_M_input.2.1 51 = .ok (.iload_n 1, 1) := by decide +kernel
theorem d_M_input_52 : decode u_M_input.2.1 52 = .ok (.iaload, 1) := by decide +kernel
theorem d_M_input_53 : decode u_M_input.2.1 53 = .ok (.ireturn, 1) := by decide +kernel
theorem d_M_run_0 : decode u_M_run.2.1 0 = .ok (.aload_n 0, 1) := by decide +kernel
theorem d_M_run_1 : decode u_M_run.2.1 1 = .ok (.getfield 91, 3) := by decide +kernel
theorem d_M_run_4 : decode u_M_run.2.1 4 = .ok (.ifCond .eq 14, 3) := by decide +kernel
theorem d_M_run_7 : decode u_M_run.2.1 7 = .ok (.iload_n 1, 1) := by decide +kernel
theorem d_M_run_8 : decode u_M_run.2.1 8 = .ok (.iconst 0, 1) := by decide +kernel
theorem d_M_run_9 : decode u_M_run.2.1 9 = .ok (.sipush 200, 3) := by decide +kernel
theorem d_M_run_12 : decode u_M_run.2.1 12 = .ok (.invokestatic 83, 3) := by decide +kernel
theorem d_M_run_15 : decode u_M_run.2.1 15 = .ok (.ifCond .ne 5, 3) := by decide +kernel
theorem d_M_run_18 : decode u_M_run.2.1 18 = .ok (.iconst (-1), 1) := by decide +kernel
theorem d_M_run_19 : decode u_M_run.2.1 19 = .ok (.ireturn, 1) := by decide +kernel
theorem d_M_run_20 : decode u_M_run.2.1 20 = .ok (.aload_n 0, 1) := by decide +kernel
theorem d_M_run_21 : decode u_M_run.2.1 21 = .ok (.iconst 0, 1) := by decide +kernel
theorem d_M_run_22 : decode u_M_run.2.1 22 = .ok (.putfield 118, 3) := by decide +kernel
theorem d_M_run_25 : decode u_M_run.2.1 25 = .ok (.iconst 0, 1) := by decide +kernel
theorem d_M_run_26 : decode u_M_run.2.1 26 = .ok (.istore_n 2, 1) := by decide +kernel
theorem d_M_run_27 : decode u_M_run.2.1 27 = .ok (.iload_n 2, 1) := by decide +kernel
theorem d_M_run_28 : decode u_M_run.2.1 28 = .ok (.iload_n 1, 1) := by decide +kernel
theorem d_M_run_29 : decode u_M_run.2.1 29 = .ok (.if_icmp .ge 115, 3) := by decide +kernel
theorem d_M_run_32 : decode u_M_run.2.1 32 = .ok (.aload_n 0, 1) := by decide +kernel
theorem d_M_run_33 : decode u_M_run.2.1 33 = .ok (.getfield 16, 3) := by decide +kernel
theorem d_M_run_36 : decode u_M_run.2.1 36 = .ok (.aload_n 0, 1) := by decide +kernel
end
section
theorem d_M_run_37 : decode u_M_run.2.1 37 = .ok (.getfield 109, 3) := by decide +kernel
theorem d_M_run_40 : decode u_M_run.2.1 40 = .ok (.iaload, 1) := by decide +kernel
theorem d_M_run_41 : decode u_M_run.2.1 41 = .ok (.istore_n 3, 1) := by decide +kernel
theorem d_M_run_42 : decode u_M_run.2.1 42 = .ok (.aload_n 0, 1) := by decide +kernel
theorem d_M_run_43 : decode u_M_run.2.1 43 = .ok (.getfield 64, 3) := by decide +kernel
theorem d_M_run_46 : decode u_M_run.2.1 46 = .ok (.iload_n 3, 1) := by decide +kernel
theorem d_M_run_47 : decode u_M_run.2.1 47 = .ok (.baload, 1) := by decide +kernel
theorem d_M_run_48 : decode u_M_run.2.1 48 = .ok (.ifCond .eq 27, 3) := by decide +kernel
theorem d_M_run_51 : decode u_M_run.2.1 51 = .ok (.aload_n 0, 1) := by decide +kernel
theorem d_M_run_52 : decode u_M_run.2.1 52 = .ok (.getfield 68, 3) := by decide +kernel
theorem d_M_run_55 : decode u_M_run.2.1 55 = .ok (.iload_n 3, 1) := by decide +kernel
theorem d_M_run_56 : decode u_M_run.2.1 56 = .ok (.baload, 1) := by decide +kernel
theorem d_M_run_57 : decode u_M_run.2.1 57 = .ok (.ifCond .ne 18, 3) := by decide +kernel
theorem d_M_run_60 : decode u_M_run.2.1 60 = .ok (.aload_n 0, 1) := by decide +kernel
theorem d_M_run_61 : decode u_M_run.2.1 61 = .ok (.dup, 1) := by decide +kernel
theorem d_M_run_62 : decode u_M_run.2.1 62 = .ok (.getfield 118, 3) := by decide +kernel
theorem d_M_run_65 : decode u_M_run.2.1 65 = .ok (.iconst 1, 1) := by decide +kernel
theorem d_M_run_66 : decode u_M_run.2.1 66 = .ok (.iadd, 1) := by decide +kernel
theorem d_M_run_67 : decode u_M_run.2.1 67 = .ok (.putfield 118, 3) := by decide +kernel
theorem d_M_run_70 : decode u_M_run.2.1 70 = .ok (.aload_n 0, 1) := by decide +kernel
theorem d_M_run_71 : decode u_M_run.2.1 71 = .ok (.iload_n 3, 1) := by decide +kernel
theorem d_M_run_72 : decode u_M_run.2.1 72 = .ok (.invokevirtual 121, 3) := by decide +kernel
theorem d_M_run_75 : decode u_M_run.2.1 75 = .ok (.aload_n 0, 1) := by decide +kernel
theorem d_M_run_76 : decode u_M_run.2.1 76 = .ok (.dup, 1) := by decide +kernel
theorem d_M_run_77 : decode u_M_run.2.1 77 = .ok (.getfield 115, 3) := by decide +kernel
theorem d_M_run_80 : decode u_M_run.2.1 80 = .ok (.iconst 1, 1) := by decide +kernel
theorem d_M_run_81 : decode u_M_run.2.1 81 = .ok (.iadd, 1) := by decide +kernel
theorem d_M_run_82 : decode u_M_run.2.1 82 = .ok (.putfield 115, 3) := by decide +kernel
theorem d_M_run_85 : decode u_M_run.2.1 85 = .ok (.aload_n 0, 1) := by decide +kernel
theorem d_M_run_86 : decode u_M_run.2.1 86 = .ok (.dup, 1) := by decide +kernel
theorem d_M_run_87 : decode u_M_run.2.1 87 = .ok (.getfield 112, 3) := by decide +kernel
theorem d_M_run_90 : decode u_M_run.2.1 90 = .ok (.iconst 1, 1) := by decide +kernel
theorem d_M_run_91 : decode u_M_run.2.1 91 = .ok (.iadd, 1) := by decide +kernel
theorem d_M_run_92 : decode u_M_run.2.1 92 = .ok (.putfield 112, 3) := by decide +kernel
theorem d_M_run_95 : decode u_M_run.2.1 95 = .ok (.aload_n 0, 1) := by decide +kernel
theorem d_M_run_96 : decode u_M_run.2.1 96 = .ok (.getfield 112, 3) := by decide +kernel
theorem d_M_run_99 : decode u_M_run.2.1 99 = .ok (.aload_n 0, 1) := by decide +kernel
theorem d_M_run_100 : decode u_M_run.2.1 100 = .ok (.getfield 19, 3) := by decide +kernel
theorem d_M_run_103 : decode u_M_run.2.1 103 = .ok (.aload_n 0, 1) := by decide +kernel
theorem d_M_run_104 : decode u_M_run.2.1 104 = .ok (.getfield 109, 3) := by decide +kernel
theorem d_M_run_107 : decode u_M_run.2.1 107 = .ok (.iaload, 1) := by decide +kernel
theorem d_M_run_108 : decode u_M_run.2.1 108 = .ok (.if_icmp .ne 30, 3) := by decide +kernel
theorem d_M_run_111 : decode u_M_run.2.1 111 = .ok (.aload_n 0, 1) := by decide +kernel
theorem d_M_run_112 : decode u_M_run.2.1 112 = .ok (.getfield 68, 3) := by decide +kernel
theorem d_M_run_115 : decode u_M_run.2.1 115 = .ok (.iload_n 3, 1) := by decide +kernel
theorem d_M_run_116 : decode u_M_run.2.1 116 = .ok (.iconst 0, 1) := by decide +kernel
theorem d_M_run_117 : decode u_M_run.2.1 117 = .ok (.bastore, 1) := by decide +kernel
theorem d_M_run_118 : decode u_M_run.2.1 118 = .ok (.aload_n 0, 1) := by decide +kernel
theorem d_M_run_119 : decode u_M_run.2.1 119 = .ok (.iconst 0, 1) := by decide +kernel
theorem d_M_run_120 : decode u_M_run.2.1 120 = .ok (.putfield 112, 3) := by decide +kernel
theorem d_M_run_123 : decode u_M_run.2.1 123 = .ok (.aload_n 0, 1) := by decide +kernel
theorem d_M_run_124 : decode u_M_run.2.1 124 = .ok (.aload_n 0, 1) := by decide +kernel
theorem d_M_run_125 : decode u_M_run.2.1 125 = .ok (.getfield 109, 3) := by decide +kernel
theorem d_M_run_128 : decode u_M_run.2.1 128 = .ok (.iconst 1, 1) := by decide +kernel
theorem d_M_run_129 : decode u_M_run.2.1 129 = .ok (.iadd, 1) := by decide +kernel
theorem d_M_run_130 : decode u_M_run.2.1 130 = .ok (.aload_n 0, 1) := by decide +kernel
theorem d_M_run_131 : decode u_M_run.2.1 131 = .ok (.getfield 95, 3) := by decide +kernel
theorem d_M_run_134 : decode u_M_run.2.1 134 = .ok (.irem, 1) := by decide +kernel
theorem d_M_run_135 : decode u_M_run.2.1 135 = .ok (.putfield 109, 3) := by decide +kernel
theorem d_M_run_138 : decode u_M_run.2.1 138 = .ok (.iinc 2 1, 3) := by decide +kernel
theorem d_M_run_141 : decode u_M_run.2.1 141 = .ok (.goto (-114), 3) := by decide +kernel
theorem d_M_run_144 : decode u_M_run.2.1 144 = .ok (.aload_n 0, 1) := by decide +kernel
theorem d_M_run_145 : decode u_M_run.2.1 145 = .ok (.getfield 118, 3) := by decide +kernel
theorem d_M_run_148 : decode u_M_run.2.1 148 = .ok (.ireturn, 1) := by decide +kernel
theorem d_M_step_0 : decode u_M_step.2.1 0 = .ok (.aload_n 0, 1) := by decide +kernel
theorem d_M_step_1 : decode u_M_step.2.1 1 = .ok (.getfield 58, 3) := by decide +kernel
theorem d_M_step_4 : decode u_M_step.2.1 4 = .ok (.iload_n 1, 1) := by decide +kernel
theorem d_M_step_5 : decode u_M_step.2.1 5 = .ok (.iaload, 1) := by decide +kernel
theorem d_M_step_6 : decode u_M_step.2.1 6 = .ok (.istore_n 2, 1) := by decide +kernel
theorem d_M_step_7 : decode u_M_step.2.1 7 = .ok (.iconst 4, 1) := by decide +kernel
theorem d_M_step_8 : decode u_M_step.2.1 8 = .ok (.istore_n 3, 1) := by decide +kernel
theorem d_M_step_9 : decode u_M_step.2.1 9 = .ok (.iload_n 2, 1) := by decide +kernel
theorem d_M_step_10 : decode u_M_step.2.1 10 = .ok (.iconst 0, 1) := by decide +kernel
theorem d_M_step_11 : decode u_M_step.2.1 11 = .ok (.bipush 15, 2) := by decide +kernel
theorem d_M_step_13 : decode u_M_step.2.1 13 = .ok (.invokestatic 83, 3) := by decide +kernel
theorem d_M_step_16 : decode u_M_step.2.1 16 = .ok (.ifCond .eq 131, 3) := by decide +kernel
theorem d_M_step_19 : decode u_M_step.2.1 19 = .ok (.bipush 16, 2) := by decide +kernel
theorem d_M_step_21 : decode u_M_step.2.1 21 = .ok (.iload_n 1, 1) := by decide +kernel
theorem d_M_step_22 : decode u_M_step.2.1 22 = .ok (.imul, 1) := by decide +kernel
theorem d_M_step_23 : decode u_M_step.2.1 23 = .ok (.iload_n 2, 1) := by decide +kernel
theorem d_M_step_24 : decode u_M_step.2.1 24 = .ok (.iadd, 1) := by decide +kernel
theorem d_M_step_25 : decode u_M_step.2.1 25 = .ok (.istore 4, 2) := by decide +kernel
theorem d_M_step_27 : decode u_M_step.2.1 27 = .ok (.aload_n 0, 1) := by decide +kernel
theorem d_M_step_28 : decode u_M_step.2.1 28 = .ok (.getfield 43, 3) := by decide +kernel
theorem d_M_step_31 : decode u_M_step.2.1 31 = .ok (.iload 4, 2) := by decide +kernel
theorem d_M_step_33 : decode u_M_step.2.1 33 = .ok (.iaload, 1) := by decide +kernel
theorem d_M_step_34 : decode u_M_step.2.1 34 = .ok (.iconst 5, 1) := by decide +kernel
theorem d_M_step_35 : decode u_M_step.2.1 35 = .ok (.if_icmp .lt 15, 3) := by decide +kernel
theorem d_M_step_38 : decode u_M_step.2.1 38 = .ok (.aload_n 0, 1) := by decide +kernel
theorem d_M_step_39 : decode u_M_step.2.1 39 = .ok (.getfield 43, 3) := by decide +kernel
theorem d_M_step_42 : decode u_M_step.2.1 42 = .ok (.iload 4, 2) := by decide +kernel
theorem d_M_step_44 : decode u_M_step.2.1 44 = .ok (.iaload, 1) := by decide +kernel
theorem d_M_step_45 : decode u_M_step.2.1 45 = .ok (.bipush 10, 2) := by decide +kernel
theorem d_M_step_47 : decode u_M_step.2.1 47 = .ok (.if_icmp .le 32, 3) := by decide +kernel
theorem d_M_step_50 : decode u_M_step.2.1 50 = .ok (.aload_n 0, 1) := by decide +kernel
theorem d_M_step_51 : decode u_M_step.2.1 51 = .ok (.iload_n 1, 1) := by decide +kernel
theorem d_M_step_52 : decode u_M_step.2.1 52 = .ok (.aload_n 0, 1) := by decide +kernel
theorem d_M_step_53 : decode u_M_step.2.1 53 = .ok (.getfield 43, 3) := by decide +kernel
theorem d_M_step_56 : decode u_M_step.2.1 56 = .ok (.iload 4, 2) := by decide +kernel
theorem d_M_step_58 : decode u_M_step.2.1 58 = .ok (.iaload, 1) := by decide +kernel
theorem d_M_step_59 : decode u_M_step.2.1 59 = .ok (.aload_n 0, 1) := by decide +kernel
theorem d_M_step_60 : decode u_M_step.2.1 60 = .ok (.getfield 46, 3) := by decide +kernel
theorem d_M_step_63 : decode u_M_step.2.1 63 = .ok (.iload 4, 2) := by decide +kernel
theorem d_M_step_65 : decode u_M_step.2.1 65 = .ok (.iaload, 1) := by decide +kernel
theorem d_M_step_66 : decode u_M_step.2.1 66 = .ok (.aload_n 0, 1) := by decide +kernel
theorem d_M_step_67 : decode u_M_step.2.1 67 = .ok (.getfield 49, 3) := by decide +kernel
theorem d_M_step_70 : decode u_M_step.2.1 70 = .ok (.iload 4, 2) := by decide +kernel
theorem d_M_step_72 : decode u_M_step.2.1 72 = .ok (.iaload, 1) := by decide +kernel
theorem d_M_step_73 : decode u_M_step.2.1 73 = .ok (.invokevirtual 125, 3) := by decide +kernel
theorem d_M_step_76 : decode u_M_step.2.1 76 = .ok (.goto 70, 3) := by decide +kernel
theorem d_M_step_79 : decode u_M_step.2.1 79 = .ok (.aload_n 0, 1) := by decide +kernel
theorem d_M_step_80 : decode u_M_step.2.1 80 = .ok (.getfield 43, 3) := by decide +kernel
theorem d_M_step_83 : decode u_M_step.2.1 83 = .ok (.iload 4, 2) := by decide +kernel
theorem d_M_step_85 : decode u_M_step.2.1 85 = .ok (.iaload, 1) := by decide +kernel
theorem d_M_step_86 : decode u_M_step.2.1 86 = .ok (.bipush 9, 2) := by decide +kernel
theorem d_M_step_88 : decode u_M_step.2.1 88 = .ok (.if_icmp .ge 32, 3) := by decide +kernel
theorem d_M_step_91 : decode u_M_step.2.1 91 = .ok (.aload_n 0, 1) := by decide +kernel
theorem d_M_step_92 : decode u_M_step.2.1 92 = .ok (.iload_n 1, 1) := by decide +kernel
theorem d_M_step_93 : decode u_M_step.2.1 93 = .ok (.aload_n 0, 1) := by decide +kernel
theorem d_M_step_94 : decode u_M_step.2.1 94 = .ok (.getfield 43, 3) := by decide +kernel
theorem d_M_step_97 : decode u_M_step.2.1 97 = .ok (.iload 4, 2) := by decide +kernel
theorem d_M_step_99 : decode u_M_step.2.1 99 = .ok (.iaload, 1) := by decide +kernel
theorem d_M_step_100 : decode u_M_step.2.1 100 = .ok (.aload_n 0, 1) := by decide +kernel
theorem d_M_step_101 : decode u_M_step.2.1 101 = .ok (.getfield 46, 3) := by decide +kernel
theorem d_M_step_104 : decode u_M_step.2.1 104 = .ok (.iload 4, 2) := by decide +kernel
theorem d_M_step_106 : decode u_M_step.2.1 106 = .ok (.iaload, 1) := by decide +kernel
theorem d_M_step_107 : decode u_M_step.2.1 107 = .ok (.aload_n 0, 1) := by decide +kernel
theorem d_M_step_108 : decode u_M_step.2.1 108 = .ok (.getfield 49, 3) := by decide +kernel
theorem d_M_step_111 : decode u_M_step.2.1 111 = .ok (.iload 4, 2) := by decide +kernel
theorem d_M_step_113 : decode u_M_step.2.1 113 = .ok (.iaload, 1) := by decide +kernel
theorem d_M_step_114 : decode u_M_step.2.1 114 = .ok (.invokevirtual 129, 3) := by decide +kernel
theorem d_M_step_117 : decode u_M_step.2.1 117 = .ok (.goto 29, 3) := by decide +kernel
theorem d_M_step_120 : decode u_M_step.2.1 120 = .ok (.aload_n 0, 1) := by decide +kernel
theorem d_M_step_121 : decode u_M_step.2.1 121 = .ok (.iload_n 1, 1) := by decide +kernel
theorem d_M_step_122 : decode u_M_step.2.1 122 = .ok (.aload_n 0, 1) := by decide +kernel
theorem d_M_step_123 : decode u_M_step.2.1 123 = .ok (.getfield 43, 3) := by decide +kernel
theorem d_M_step_126 : decode u_M_step.2.1 126 = .ok (.iload 4, 2) := by decide +kernel
theorem d_M_step_128 : decode u_M_step.2.1 128 = .ok (.iaload, 1) := by decide +kernel
theorem d_M_step_129 : decode u_M_step.2.1 129 = .ok (.aload_n 0, 1) := by decide +kernel
theorem d_M_step_130 : decode u_M_step.2.1 130 = .ok (.getfield 46, 3) := by decide +kernel
theorem d_M_step_133 : decode u_M_step.2.1 133 = .ok (.iload 4, 2) := by decide +kernel
theorem d_M_step_135 : decode u_M_step.2.1 135 = .ok (.iaload, 1) := by decide +kernel
theorem d_M_step_136 : decode u_M_step.2.1 136 = .ok (.aload_n 0, 1) := by decide +kernel
theorem d_M_step_137 : decode u_M_step.2.1 137 = .ok (.getfield 49, 3) := by decide +kernel
theorem d_M_step_140 : decode u_M_step.2.1 140 = .ok (.iload 4, 2) := by decide +kernel
theorem d_M_step_142 : decode u_M_step.2.1 142 = .ok (.iaload, 1) := by decide +kernel
theorem d_M_step_143 : decode u_M_step.2.1 143 = .ok (.invokevirtual 132, 3) := by decide +kernel
theorem d_M_step_146 : decode u_M_step.2.1 146 = .ok (.istore_n 3, 1) := by decide +kernel
theorem d_M_step_147 : decode u_M_step.2.1 147 = .ok (.iload_n 3, 1) := by decide +kernel
theorem d_M_step_148 : decode u_M_step.2.1 148 = .ok (.ifCond .le 9, 3) := by decide +kernel
theorem d_M_step_151 : decode u_M_step.2.1 151 = .ok (.aload_n 0, 1) := by decide +kernel
theorem d_M_step_152 : decode u_M_step.2.1 152 = .ok (.iload_n 1, 1) := by decide +kernel
theorem d_M_step_153 : decode u_M_step.2.1 153 = .ok (.iload_n 3, 1) := by decide +kernel
theorem d_M_step_154 : decode u_M_step.2.1 154 = .ok (.invokevirtual 135, 3) := by decide +kernel
theorem d_M_step_157 : decode u_M_step.2.1 157 = .ok (.return_, 1) := by decide +kernel
theorem d_M_goOn_0 : decode u_M_goOn.2.1 0 = .ok (.aload_n 0, 1) := by decide +kernel
theorem d_M_goOn_1 : decode u_M_goOn.2.1 1 = .ok (.getfield 58, 3) := by decide +kernel
theorem d_M_goOn_4 : decode u_M_goOn.2.1 4 = .ok (.iload_n 1, 1) := by decide +kernel
theorem d_M_goOn_5 : decode u_M_goOn.2.1 5 = .ok (.dup2, 1) := by decide +kernel
theorem d_M_goOn_6 : decode u_M_goOn.2.1 6 = .ok (.iaload, 1) := by decide +kernel
theorem d_M_goOn_7 : decode u_M_goOn.2.1 7 = .ok (.iconst 1, 1) := by decide +kernel
theorem d_M_goOn_8 : decode u_M_goOn.2.1 8 = .ok (.iadd, 1) := by decide +kernel
theorem d_M_goOn_9 : decode u_M_goOn.2.1 9 = .ok (.iastore, 1) := by decide +kernel
theorem d_M_goOn_10 : decode u_M_goOn.2.1 10 = .ok (.return_, 1) := by decide +kernel
theorem d_M_simple_0 : decode u_M_simple.2.1 0 = .ok (.iconst 4, 1) := by decide +kernel
theorem d_M_simple_1 : decode u_M_simple.2.1 1 = .ok (.iload_n 1, 1) := by decide +kernel
theorem d_M_simple_2 : decode u_M_simple.2.1 2 = .ok (.imul, 1) := by decide +kernel
theorem d_M_simple_3 : decode u_M_simple.2.1 3 = .ok (.iload_n 3, 1) := by decide +kernel
theorem d_M_simple_4 : decode u_M_simple.2.1 4 = .ok (.iconst 3, 1) := by decide +kernel
theorem d_M_simple_5 : decode u_M_simple.2.1 5 = .ok (.iand, 1) := by decide +kernel
theorem d_M_simple_6 : decode u_M_simple.2.1 6 = .ok (.iadd, 1) := by decide +kernel
theorem d_M_simple_7 : decode u_M_simple.2.1 7 = .ok (.istore 5, 2) := by decide +kernel
theorem d_M_simple_9 : decode u_M_simple.2.1 9 = .ok (.aload_n 0, 1) := by decide +kernel
theorem d_M_simple_10 : decode u_M_simple.2.1 10 = .ok (.getfield 55, 3) := by decide +kernel
theorem d_M_simple_13 : decode u_M_simple.2.1 13 = .ok (.iconst 4, 1) := by decide +kernel
theorem d_M_simple_14 : decode u_M_simple.2.1 14 = .ok (.iload_n 1, 1) := by decide +kernel
theorem d_M_simple_15 : decode u_M_simple.2.1 15 = .ok (.imul, 1) := by decide +kernel
theorem d_M_simple_16 : decode u_M_simple.2.1 16 = .ok (.iload 4, 2) := by decide +kernel
theorem d_M_simple_18 : decode u_M_simple.2.1 18 = .ok (.iconst 3, 1) := by decide +kernel
theorem d_M_simple_19 : decode u_M_simple.2.1 19 = .ok (.iand, 1) := by decide +kernel
theorem d_M_simple_20 : decode u_M_simple.2.1 20 = .ok (.iadd, 1) := by decide +kernel
theorem d_M_simple_21 : decode u_M_simple.2.1 21 = .ok (.iaload, 1) := by decide +kernel
theorem d_M_simple_22 : decode u_M_simple.2.1 22 = .ok (.istore 6, 2) := by decide +kernel
theorem d_M_simple_24 : decode u_M_simple.2.1 24 = .ok (.iload_n 2, 1) := by decide +kernel
theorem d_M_simple_25 : decode u_M_simple.2.1 25 = .ok (.ifCond .lt 9, 3) := by decide +kernel
theorem d_M_simple_28 : decode u_M_simple.2.1 28 = .ok (.iload_n 2, 1) := by decide +kernel
theorem d_M_simple_29 : decode u_M_simple.2.1 29 = .ok (.bipush 14, 2) := by decide +kernel
theorem d_M_simple_31 : decode u_M_simple.2.1 31 = .ok (.if_icmp .le 5, 3) := by decide +kernel
theorem d_M_simple_34 : decode u_M_simple.2.1 34 = .ok (.iconst 3, 1) := by decide +kernel
theorem d_M_simple_35 : decode u_M_simple.2.1 35 = .ok (.ireturn, 1) := by decide +kernel
theorem d_M_simple_36 : decode u_M_simple.2.1 36 = .ok (.aload_n 0, 1) := by decide +kernel
theorem d_M_simple_37 : decode u_M_simple.2.1 37 = .ok (.iload_n 1, 1) := by decide +kernel
theorem d_M_simple_38 : decode u_M_simple.2.1 38 = .ok (.invokevirtual 139, 3) := by decide +kernel
theorem d_M_simple_41 : decode u_M_simple.2.1 41 = .ok (.iload_n 2, 1) := by decide +kernel
theorem d_M_simple_42 : decode u_M_simple.2.1 42 = .ok (.iconst 1, 1) := by decide +kernel
theorem d_M_simple_43 : decode u_M_simple.2.1 43 = .ok (.if_icmp .ne 12, 3) := by decide +kernel
theorem d_M_simple_46 : decode u_M_simple.2.1 46 = .ok (.aload_n 0, 1) := by decide +kernel
theorem d_M_simple_47 : decode u_M_simple.2.1 47 = .ok (.getfield 55, 3) := by decide +kernel
theorem d_M_simple_50 : decode u_M_simple.2.1 50 = .ok (.iload 5, 2) := by decide +kernel
theorem d_M_simple_52 : decode u_M_simple.2.1 52 = .ok (.iload 4, 2) := by decide +kernel
theorem d_M_simple_54 : decode u_M_simple.2.1 54 = .ok (.iastore, 1) := by decide +kernel
theorem d_M_simple_55 : decode u_M_simple.2.1 55 = .ok (.iload_n 2, 1) := by decide +kernel
theorem d_M_simple_56 : decode u_M_simple.2.1 56 = .ok (.iconst 2, 1) := by decide +kernel
theorem d_M_simple_57 : decode u_M_simple.2.1 57 = .ok (.if_icmp .ne 20, 3) := by decide +kernel
theorem d_M_simple_60 : decode u_M_simple.2.1 60 = .ok (.aload_n 0, 1) := by decide +kernel
theorem d_M_simple_61 : decode u_M_simple.2.1 61 = .ok (.getfield 55, 3) := by decide +kernel
theorem d_M_simple_64 : decode u_M_simple.2.1 64 = .ok (.iload 5, 2) := by decide +kernel
theorem d_M_simple_66 : decode u_M_simple.2.1 66 = .ok (.aload_n 0, 1) := by decide +kernel
theorem d_M_simple_67 : decode u_M_simple.2.1 67 = .ok (.getfield 55, 3) := by decide +kernel
theorem d_M_simple_70 : decode u_M_simple.2.1 70 = .ok (.iload 5, 2) := by decide +kernel
theorem d_M_simple_72 : decode u_M_simple.2.1 72 = .ok (.iaload, 1) := by decide +kernel
theorem d_M_simple_73 : decode u_M_simple.2.1 73 = .ok (.iload 6, 2) := by decide +kernel
theorem d_M_simple_75 : decode u_M_simple.2.1 75 = .ok (.iadd, 1) := by decide +kernel
theorem d_M_simple_76 : decode u_M_simple.2.1 76 = .ok (.iastore, 1) := by decide +kernel
theorem d_M_simple_77 : decode u_M_simple.2.1 77 = .ok (.iload_n 2, 1) := by decide +kernel
theorem d_M_simple_78 : decode u_M_simple.2.1 78 = .ok (.iconst 3, 1) := by decide +kernel
theorem d_M_simple_79 : decode u_M_simple.2.1 79 = .ok (.if_icmp .ne 20, 3) := by decide +kernel
theorem d_M_simple_82 : decode u_M_simple.2.1 82 = .ok (.aload_n 0, 1) := by decide +kernel
theorem d_M_simple_83 : decode u_M_simple.2.1 83 = .ok (.getfield 55, 3) := by decide +kernel
theorem d_M_simple_86 : decode u_M_simple.2.1 86 = .ok (.iload 5, 2) := by decide +kernel
theorem d_M_simple_88 : decode u_M_simple.2.1 88 = .ok (.aload_n 0, 1) := by decide +kernel
theorem d_M_simple_89 : decode u_M_simple.2.1 89 = .ok (.getfield 55, 3) := by decide +kernel
theorem d_M_simple_92 : decode u_M_simple.2.1 92 = .ok (.iload 5, 2) := by decide +kernel
theorem d_M_simple_94 : decode u_M_simple.2.1 94 = .ok (.iaload, 1) := by decide +kernel
theorem d_M_simple_95 : decode u_M_simple.2.1 95 = .ok (.iload 6, 2) := by decide +kernel
theorem d_M_simple_97 : decode u_M_simple.2.1 97 = .ok (.isub, 1) := by decide +kernel
theorem d_M_simple_98 : decode u_M_simple.2.1 98 = .ok (.iastore, 1) := by decide +kernel
theorem d_M_simple_99 : decode u_M_simple.2.1 99 = .ok (.iload_n 2, 1) := by decide +kernel
theorem d_M_simple_100 : decode u_M_simple.2.1 100 = .ok (.iconst 4, 1) := by decide +kernel
theorem d_M_simple_101 : decode u_M_simple.2.1 101 = .ok (.if_icmp .ne 20, 3) := by decide +kernel
theorem d_M_simple_104 : decode u_M_simple.2.1 104 = .ok (.aload_n 0, 1) := by decide +kernel
theorem d_M_simple_105 : decode u_M_simple.2.1 105 = .ok (.getfield 55, 3) := by decide +kernel
theorem d_M_simple_108 : decode u_M_simple.2.1 108 = .ok (.iload 5, 2) := by decide +kernel
theorem d_M_simple_110 : decode u_M_simple.2.1 110 = .ok (.aload_n 0, 1) := by decide +kernel
theorem d_M_simple_111 : decode u_M_simple.2.1 111 = .ok (.getfield 55, 3) := by decide +kernel
theorem d_M_simple_114 : decode u_M_simple.2.1 114 = .ok (.iload 5, 2) := by decide +kernel
theorem d_M_simple_116 : decode u_M_simple.2.1 116 = .ok (.iaload, 1) := by decide +kernel
theorem d_M_simple_117 : decode u_M_simple.2.1 117 = .ok (.iload 6, 2) := by decide +kernel
theorem d_M_simple_119 : decode u_M_simple.2.1 119 = .ok (.ixor, 1) := by decide +kernel
theorem d_M_simple_120 : decode u_M_simple.2.1 120 = .ok (.iastore, 1) := by decide +kernel
theorem d_M_simple_121 : decode u_M_simple.2.1 121 = .ok (.iload_n 2, 1) := by decide +kernel
theorem d_M_simple_122 : decode u_M_simple.2.1 122 = .ok (.bipush 11, 2) := by decide +kernel
theorem d_M_simple_124 : decode u_M_simple.2.1 124 = .ok (.if_icmp .ne 131, 3) := by decide +kernel
theorem d_M_simple_127 : decode u_M_simple.2.1 127 = .ok (.aload_n 0, 1) := by decide +kernel
theorem d_M_simple_128 : decode u_M_simple.2.1 128 = .ok (.getfield 71, 3) := by decide +kernel
theorem d_M_simple_131 : decode u_M_simple.2.1 131 = .ok (.iload_n 1, 1) := by decide +kernel
theorem d_M_simple_132 : decode u_M_simple.2.1 132 = .ok (.iaload, 1) := by decide +kernel
theorem d_M_simple_133 : decode u_M_simple.2.1 133 = .ok (.ifCond .le 7, 3) := by decide +kernel
theorem d_M_simple_136 : decode u_M_simple.2.1 136 = .ok (.iconst 1, 1) := by decide +kernel
theorem d_M_simple_137 : decode u_M_simple.2.1 137 = .ok (.goto 4, 3) := by decide +kernel
theorem d_M_simple_140 : decode u_M_simple.2.1 140 = .ok (.iconst 0, 1) := by decide +kernel
theorem d_M_simple_141 : decode u_M_simple.2.1 141 = .ok (.istore 7, 2) := by decide +kernel
theorem d_M_simple_143 : decode u_M_simple.2.1 143 = .ok (.aload_n 0, 1) := by decide +kernel
theorem d_M_simple_144 : decode u_M_simple.2.1 144 = .ok (.getfield 55, 3) := by decide +kernel
theorem d_M_simple_147 : decode u_M_simple.2.1 147 = .ok (.iload 5, 2) := by decide +kernel
theorem d_M_simple_149 : decode u_M_simple.2.1 149 = .ok (.iload 7, 2) := by decide +kernel
theorem d_M_simple_151 : decode u_M_simple.2.1 151 = .ok (.ifCond .eq 15, 3) := by decide +kernel
theorem d_M_simple_154 : decode u_M_simple.2.1 154 = .ok (.aload_n 0, 1) := by decide +kernel
theorem d_M_simple_155 : decode u_M_simple.2.1 155 = .ok (.getfield 74, 3) := by decide +kernel
theorem d_M_simple_158 : decode u_M_simple.2.1 158 = .ok (.bipush 8, 2) := by decide +kernel
theorem d_M_simple_160 : decode u_M_simple.2.1 160 = .ok (.iload_n 1, 1) := by decide +kernel
theorem d_M_simple_161 : decode u_M_simple.2.1 161 = .ok (.imul, 1) := by decide +kernel
theorem d_M_simple_162 : decode u_M_simple.2.1 162 = .ok (.iaload, 1) := by decide +kernel
theorem d_M_simple_163 : decode u_M_simple.2.1 163 = .ok (.goto 4, 3) := by decide +kernel
theorem d_M_simple_166 : decode u_M_simple.2.1 166 = .ok (.iconst 0, 1) := by decide +kernel
theorem d_M_simple_167 : decode u_M_simple.2.1 167 = .ok (.iastore, 1) := by decide +kernel
theorem d_M_simple_168 : decode u_M_simple.2.1 168 = .ok (.aload_n 0, 1) := by decide +kernel
theorem d_M_simple_169 : decode u_M_simple.2.1 169 = .ok (.getfield 71, 3) := by decide +kernel
theorem d_M_simple_172 : decode u_M_simple.2.1 172 = .ok (.iload_n 1, 1) := by decide +kernel
theorem d_M_simple_173 : decode u_M_simple.2.1 173 = .ok (.iload 7, 2) := by decide +kernel
theorem d_M_simple_175 : decode u_M_simple.2.1 175 = .ok (.ifCond .eq 14, 3) := by decide +kernel
theorem d_M_simple_178 : decode u_M_simple.2.1 178 = .ok (.aload_n 0, 1) := by decide +kernel
theorem d_M_simple_179 : decode u_M_simple.2.1 179 = .ok (.getfield 71, 3) := by decide +kernel
theorem d_M_simple_182 : decode u_M_simple.2.1 182 = .ok (.iload_n 1, 1) := by decide +kernel
theorem d_M_simple_183 : decode u_M_simple.2.1 183 = .ok (.iaload, 1) := by decide +kernel
theorem d_M_simple_184 : decode u_M_simple.2.1 184 = .ok (.iconst 1, 1) := by decide +kernel
theorem d_M_simple_185 : decode u_M_simple.2.1 185 = .ok (.isub, 1) := by decide +kernel
theorem d_M_simple_186 : decode u_M_simple.2.1 186 = .ok (.goto 4, 3) := by decide +kernel
theorem d_M_simple_189 : decode u_M_simple.2.1 189 = .ok (.iconst 0, 1) := by decide +kernel
theorem d_M_simple_190 : decode u_M_simple.2.1 190 = .ok (.iastore, 1) := by decide +kernel
theorem d_M_simple_191 : decode u_M_simple.2.1 191 = .ok (.bipush 8, 2) := by decide +kernel
theorem d_M_simple_193 : decode u_M_simple.2.1 193 = .ok (.iload_n 1, 1) := by decide +kernel
theorem d_M_simple_194 : decode u_M_simple.2.1 194 = .ok (.imul, 1) := by decide +kernel
theorem d_M_simple_195 : decode u_M_simple.2.1 195 = .ok (.istore 8, 2) := by decide +kernel
theorem d_M_simple_197 : decode u_M_simple.2.1 197 = .ok (.iload 8, 2) := by decide +kernel
theorem d_M_simple_199 : decode u_M_simple.2.1 199 = .ok (.bipush 8, 2) := by decide +kernel
theorem d_M_simple_201 : decode u_M_simple.2.1 201 = .ok (.iload_n 1, 1) := by decide +kernel
theorem d_M_simple_202 : decode u_M_simple.2.1 202 = .ok (.imul, 1) := by decide +kernel
theorem d_M_simple_203 : decode u_M_simple.2.1 203 = .ok (.aload_n 0, 1) := by decide +kernel
theorem d_M_simple_204 : decode u_M_simple.2.1 204 = .ok (.getfield 71, 3) := by decide +kernel
theorem d_M_simple_207 : decode u_M_simple.2.1 207 = .ok (.iload_n 1, 1) := by decide +kernel
theorem d_M_simple_208 : decode u_M_simple.2.1 208 = .ok (.iaload, 1) := by decide +kernel
theorem d_M_simple_209 : decode u_M_simple.2.1 209 = .ok (.iadd, 1) := by decide +kernel
theorem d_M_simple_210 : decode u_M_simple.2.1 210 = .ok (.if_icmp .ge 25, 3) := by decide +kernel
theorem d_M_simple_213 : decode u_M_simple.2.1 213 = .ok (.aload_n 0, 1) := by decide +kernel
theorem d_M_simple_214 : decode u_M_simple.2.1 214 = .ok (.getfield 74, 3) := by decide +kernel
theorem d_M_simple_217 : decode u_M_simple.2.1 217 = .ok (.iload 8, 2) := by decide +kernel
theorem d_M_simple_219 : decode u_M_simple.2.1 219 = .ok (.aload_n 0, 1) := by decide +kernel
theorem d_M_simple_220 : decode u_M_simple.2.1 220 = .ok (.getfield 74, 3) := by decide +kernel
theorem d_M_simple_223 : decode u_M_simple.2.1 223 = .ok (.iload 8, 2) := by decide +kernel
theorem d_M_simple_225 : decode u_M_simple.2.1 225 = .ok (.iconst 1, 1) := by decide +kernel
theorem d_M_simple_226 : decode u_M_simple.2.1 226 = .ok (.iadd, 1) := by decide +kernel
theorem d_M_simple_227 : decode u_M_simple.2.1 227 = .ok (.iaload, 1) := by decide +kernel
theorem d_M_simple_228 : decode u_M_simple.2.1 228 = .ok (.iastore, 1) := by decide +kernel
theorem d_M_simple_229 : decode u_M_simple.2.1 229 = .ok (.iinc 8 1, 3) := by decide +kernel
theorem d_M_simple_232 : decode u_M_simple.2.1 232 = .ok (.goto (-35), 3) := by decide +kernel
theorem d_M_simple_235 : decode u_M_simple.2.1 235 = .ok (.aload_n 0, 1) := by decide +kernel
theorem d_M_simple_236 : decode u_M_simple.2.1 236 = .ok (.getfield 55, 3) := by decide +kernel
theorem d_M_simple_239 : decode u_M_simple.2.1 239 = .ok (.iconst 4, 1) := by decide +kernel
theorem d_M_simple_240 : decode u_M_simple.2.1 240 = .ok (.iload_n 1, 1) := by decide +kernel
theorem d_M_simple_241 : decode u_M_simple.2.1 241 = .ok (.imul, 1) := by decide +kernel
theorem d_M_simple_242 : decode u_M_simple.2.1 242 = .ok (.iconst 3, 1) := by decide +kernel
theorem d_M_simple_243 : decode u_M_simple.2.1 243 = .ok (.iadd, 1) := by decide +kernel
theorem d_M_simple_244 : decode u_M_simple.2.1 244 = .ok (.iload 7, 2) := by decide +kernel
theorem d_M_simple_246 : decode u_M_simple.2.1 246 = .ok (.ifCond .eq 7, 3) := by decide +kernel
theorem d_M_simple_249 : decode u_M_simple.2.1 249 = .ok (.iconst 1, 1) := by decide +kernel
theorem d_M_simple_250 : decode u_M_simple.2.1 250 = .ok (.goto 4, 3) := by decide +kernel
theorem d_M_simple_253 : decode u_M_simple.2.1 253 = .ok (.iconst 0, 1) := by decide +kernel
theorem d_M_simple_254 : decode u_M_simple.2.1 254 = .ok (.iastore, 1) := by decide +kernel
theorem d_M_simple_255 : decode u_M_simple.2.1 255 = .ok (.iload_n 2, 1) := by decide +kernel
theorem d_M_simple_256 : decode u_M_simple.2.1 256 = .ok (.bipush 12, 2) := by decide +kernel
theorem d_M_simple_258 : decode u_M_simple.2.1 258 = .ok (.if_icmp .ne 47, 3) := by decide +kernel
theorem d_M_simple_261 : decode u_M_simple.2.1 261 = .ok (.aload_n 0, 1) := by decide +kernel
theorem d_M_simple_262 : decode u_M_simple.2.1 262 = .ok (.getfield 77, 3) := by decide +kernel
theorem d_M_simple_265 : decode u_M_simple.2.1 265 = .ok (.iload_n 1, 1) := by decide +kernel
theorem d_M_simple_266 : decode u_M_simple.2.1 266 = .ok (.iaload, 1) := by decide +kernel
theorem d_M_simple_267 : decode u_M_simple.2.1 267 = .ok (.bipush 16, 2) := by decide +kernel
theorem d_M_simple_269 : decode u_M_simple.2.1 269 = .ok (.if_icmp .ge 26, 3) := by decide +kernel
theorem d_M_simple_272 : decode u_M_simple.2.1 272 = .ok (.aload_n 0, 1) := by decide +kernel
theorem d_M_simple_273 : decode u_M_simple.2.1 273 = .ok (.getfield 80, 3) := by decide +kernel
theorem d_M_simple_276 : decode u_M_simple.2.1 276 = .ok (.bipush 16, 2) := by decide +kernel
theorem d_M_simple_278 : decode u_M_simple.2.1 278 = .ok (.iload_n 1, 1) := by decide +kernel
theorem d_M_simple_279 : decode u_M_simple.2.1 279 = .ok (.imul, 1) := by decide +kernel
theorem d_M_simple_280 : decode u_M_simple.2.1 280 = .ok (.aload_n 0, 1) := by decide +kernel
theorem d_M_simple_281 : decode u_M_simple.2.1 281 = .ok (.getfield 77, 3) := by decide +kernel
theorem d_M_simple_284 : decode u_M_simple.2.1 284 = .ok (.iload_n 1, 1) := by decide +kernel
theorem d_M_simple_285 : decode u_M_simple.2.1 285 = .ok (.iaload, 1) := by decide +kernel
theorem d_M_simple_286 : decode u_M_simple.2.1 286 = .ok (.iadd, 1) := by decide +kernel
theorem d_M_simple_287 : decode u_M_simple.2.1 287 = .ok (.aload_n 0, 1) := by decide +kernel
theorem d_M_simple_288 : decode u_M_simple.2.1 288 = .ok (.getfield 55, 3) := by decide +kernel
theorem d_M_simple_291 : decode u_M_simple.2.1 291 = .ok (.iload 5, 2) := by decide +kernel
theorem d_M_simple_293 : decode u_M_simple.2.1 293 = .ok (.iaload, 1) := by decide +kernel
theorem d_M_simple_294 : decode u_M_simple.2.1 294 = .ok (.iastore, 1) := by decide +kernel
theorem d_M_simple_295 : decode u_M_simple.2.1 295 = .ok (.aload_n 0, 1) := by decide +kernel
theorem d_M_simple_296 : decode u_M_simple.2.1 296 = .ok (.getfield 77, 3) := by decide +kernel
theorem d_M_simple_299 : decode u_M_simple.2.1 299 = .ok (.iload_n 1, 1) := by decide +kernel
theorem d_M_simple_300 : decode u_M_simple.2.1 300 = .ok (.dup2, 1) := by decide +kernel
theorem d_M_simple_301 : decode u_M_simple.2.1 301 = .ok (.iaload, 1) := by decide +kernel
theorem d_M_simple_302 : decode u_M_simple.2.1 302 = .ok (.iconst 1, 1) := by decide +kernel
theorem d_M_simple_303 : decode u_M_simple.2.1 303 = .ok (.iadd, 1) := by decide +kernel
theorem d_M_simple_304 : decode u_M_simple.2.1 304 = .ok (.iastore, 1) := by decide +kernel
theorem d_M_simple_305 : decode u_M_simple.2.1 305 = .ok (.iload_n 2, 1) := by decide +kernel
theorem d_M_simple_306 : decode u_M_simple.2.1 306 = .ok (.bipush 13, 2) := by decide +kernel
theorem d_M_simple_308 : decode u_M_simple.2.1 308 = .ok (.if_icmp .ne 10, 3) := by decide +kernel
theorem d_M_simple_311 : decode u_M_simple.2.1 311 = .ok (.aload_n 0, 1) := by decide +kernel
theorem d_M_simple_312 : decode u_M_simple.2.1 312 = .ok (.getfield 68, 3) := by decide +kernel
theorem d_M_simple_315 : decode u_M_simple.2.1 315 = .ok (.iload_n 1, 1) := by decide +kernel
theorem d_M_simple_316 : decode u_M_simple.2.1 316 = .ok (.iconst 1, 1) := by decide +kernel
theorem d_M_simple_317 : decode u_M_simple.2.1 317 = .ok (.bastore, 1) := by decide +kernel
theorem d_M_simple_318 : decode u_M_simple.2.1 318 = .ok (.iload_n 2, 1) := by decide +kernel
theorem d_M_simple_319 : decode u_M_simple.2.1 319 = .ok (.bipush 14, 2) := by decide +kernel
theorem d_M_simple_321 : decode u_M_simple.2.1 321 = .ok (.if_icmp .ne 10, 3) := by decide +kernel
theorem d_M_simple_324 : decode u_M_simple.2.1 324 = .ok (.aload_n 0, 1) := by decide +kernel
theorem d_M_simple_325 : decode u_M_simple.2.1 325 = .ok (.getfield 64, 3) := by decide +kernel
theorem d_M_simple_328 : decode u_M_simple.2.1 328 = .ok (.iload_n 1, 1) := by decide +kernel
theorem d_M_simple_329 : decode u_M_simple.2.1 329 = .ok (.iconst 0, 1) := by decide +kernel
theorem d_M_simple_330 : decode u_M_simple.2.1 330 = .ok (.bastore, 1) := by decide +kernel
theorem d_M_simple_331 : decode u_M_simple.2.1 331 = .ok (.iconst 0, 1) := by decide +kernel
theorem d_M_simple_332 : decode u_M_simple.2.1 332 = .ok (.ireturn, 1) := by decide +kernel
theorem d_M_inside_0 : decode u_M_inside.2.1 0 = .ok (.iconst 4, 1) := by decide +kernel
theorem d_M_inside_1 : decode u_M_inside.2.1 1 = .ok (.iload_n 1, 1) := by decide +kernel
theorem d_M_inside_2 : decode u_M_inside.2.1 2 = .ok (.imul, 1) := by decide +kernel
theorem d_M_inside_3 : decode u_M_inside.2.1 3 = .ok (.iload_n 3, 1) := by decide +kernel
theorem d_M_inside_4 : decode u_M_inside.2.1 4 = .ok (.iconst 3, 1) := by decide +kernel
theorem d_M_inside_5 : decode u_M_inside.2.1 5 = .ok (.iand, 1) := by decide +kernel
theorem d_M_inside_6 : decode u_M_inside.2.1 6 = .ok (.iadd, 1) := by decide +kernel
theorem d_M_inside_7 : decode u_M_inside.2.1 7 = .ok (.istore 5, 2) := by decide +kernel
theorem d_M_inside_9 : decode u_M_inside.2.1 9 = .ok (.aload_n 0, 1) := by decide +kernel
theorem d_M_inside_10 : decode u_M_inside.2.1 10 = .ok (.getfield 55, 3) := by decide +kernel
theorem d_M_inside_13 : decode u_M_inside.2.1 13 = .ok (.iconst 4, 1) := by decide +kernel
theorem d_M_inside_14 : decode u_M_inside.2.1 14 = .ok (.iload_n 1, 1) := by decide +kernel
theorem d_M_inside_15 : decode u_M_inside.2.1 15 = .ok (.imul, 1) := by decide +kernel
theorem d_M_inside_16 : decode u_M_inside.2.1 16 = .ok (.iload 4, 2) := by decide +kernel
theorem d_M_inside_18 : decode u_M_inside.2.1 18 = .ok (.iconst 3, 1) := by decide +kernel
theorem d_M_inside_19 : decode u_M_inside.2.1 19 = .ok (.iand, 1) := by decide +kernel
theorem d_M_inside_20 : decode u_M_inside.2.1 20 = .ok (.iadd, 1) := by decide +kernel
theorem d_M_inside_21 : decode u_M_inside.2.1 21 = .ok (.iaload, 1) := by decide +kernel
theorem d_M_inside_22 : decode u_M_inside.2.1 22 = .ok (.istore 6, 2) := by decide +kernel
theorem d_M_inside_24 : decode u_M_inside.2.1 24 = .ok (.iload_n 2, 1) := by decide +kernel
theorem d_M_inside_25 : decode u_M_inside.2.1 25 = .ok (.bipush 7, 2) := by decide +kernel
theorem d_M_inside_27 : decode u_M_inside.2.1 27 = .ok (.if_icmp .ge 22, 3) := by decide +kernel
theorem d_M_inside_30 : decode u_M_inside.2.1 30 = .ok (.iload 6, 2) := by decide +kernel
theorem d_M_inside_32 : decode u_M_inside.2.1 32 = .ok (.iconst 0, 1) := by decide +kernel
theorem d_M_inside_33 : decode u_M_inside.2.1 33 = .ok (.aload_n 0, 1) := by decide +kernel
theorem d_M_inside_34 : decode u_M_inside.2.1 34 = .ok (.getfield 13, 3) := by decide +kernel
theorem d_M_inside_37 : decode u_M_inside.2.1 37 = .ok (.iload_n 1, 1) := by decide +kernel
theorem d_M_inside_38 : decode u_M_inside.2.1 38 = .ok (.iaload, 1) := by decide +kernel
theorem d_M_inside_39 : decode u_M_inside.2.1 39 = .ok (.iconst 1, 1) := by decide +kernel
theorem d_M_inside_40 : decode u_M_inside.2.1 40 = .ok (.isub, 1) := by decide +kernel
theorem d_M_inside_41 : decode u_M_inside.2.1 41 = .ok (.invokestatic 83, 3) := by decide +kernel
theorem d_M_inside_44 : decode u_M_inside.2.1 44 = .ok (.ifCond .ne 5, 3) := by decide +kernel
theorem d_M_inside_47 : decode u_M_inside.2.1 47 = .ok (.iconst 1, 1) := by decide +kernel
theorem d_M_inside_48 : decode u_M_inside.2.1 48 = .ok (.ireturn, 1) := by decide +kernel
theorem d_M_inside_49 : decode u_M_inside.2.1 49 = .ok (.aload_n 0, 1) := by decide +kernel
theorem d_M_inside_50 : decode u_M_inside.2.1 50 = .ok (.iload_n 1, 1) := by decide +kernel
theorem d_M_inside_51 : decode u_M_inside.2.1 51 = .ok (.invokevirtual 139, 3) := by decide +kernel
theorem d_M_inside_54 : decode u_M_inside.2.1 54 = .ok (.iload_n 2, 1) := by decide +kernel
theorem d_M_inside_55 : decode u_M_inside.2.1 55 = .ok (.iconst 5, 1) := by decide +kernel
theorem d_M_inside_56 : decode u_M_inside.2.1 56 = .ok (.if_icmp .ne 24, 3) := by decide +kernel
theorem d_M_inside_59 : decode u_M_inside.2.1 59 = .ok (.aload_n 0, 1) := by decide +kernel
theorem d_M_inside_60 : decode u_M_inside.2.1 60 = .ok (.getfield 55, 3) := by decide +kernel
theorem d_M_inside_63 : decode u_M_inside.2.1 63 = .ok (.iload 5, 2) := by decide +kernel
theorem d_M_inside_65 : decode u_M_inside.2.1 65 = .ok (.aload_n 0, 1) := by decide +kernel
theorem d_M_inside_66 : decode u_M_inside.2.1 66 = .ok (.getfield 52, 3) := by decide +kernel
theorem d_M_inside_69 : decode u_M_inside.2.1 69 = .ok (.aload_n 0, 1) := by decide +kernel
theorem d_M_inside_70 : decode u_M_inside.2.1 70 = .ok (.getfield 7, 3) := by decide +kernel
theorem d_M_inside_73 : decode u_M_inside.2.1 73 = .ok (.iload_n 1, 1) := by decide +kernel
theorem d_M_inside_74 : decode u_M_inside.2.1 74 = .ok (.iaload, 1) := by decide +kernel
theorem d_M_inside_75 : decode u_M_inside.2.1 75 = .ok (.iload 6, 2) := by decide +kernel
theorem d_M_inside_77 : decode u_M_inside.2.1 77 = .ok (.iadd, 1) := by decide +kernel
theorem d_M_inside_78 : decode u_M_inside.2.1 78 = .ok (.iaload, 1) := by decide +kernel
theorem d_M_inside_79 : decode u_M_inside.2.1 79 = .ok (.iastore, 1) := by decide +kernel
theorem d_M_inside_80 : decode u_M_inside.2.1 80 = .ok (.iload_n 2, 1) := by decide +kernel
theorem d_M_inside_81 : decode u_M_inside.2.1 81 = .ok (.bipush 6, 2) := by decide +kernel
theorem d_M_inside_83 : decode u_M_inside.2.1 83 = .ok (.if_icmp .ne 24, 3) := by decide +kernel
theorem d_M_inside_86 : decode u_M_inside.2.1 86 = .ok (.aload_n 0, 1) := by decide +kernel
theorem d_M_inside_87 : decode u_M_inside.2.1 87 = .ok (.getfield 52, 3) := by decide +kernel
theorem d_M_inside_90 : decode u_M_inside.2.1 90 = .ok (.aload_n 0, 1) := by decide +kernel
theorem d_M_inside_91 : decode u_M_inside.2.1 91 = .ok (.getfield 7, 3) := by decide +kernel
theorem d_M_inside_94 : decode u_M_inside.2.1 94 = .ok (.iload_n 1, 1) := by decide +kernel
theorem d_M_inside_95 : decode u_M_inside.2.1 95 = .ok (.iaload, 1) := by decide +kernel
theorem d_M_inside_96 : decode u_M_inside.2.1 96 = .ok (.iload 6, 2) := by decide +kernel
theorem d_M_inside_98 : decode u_M_inside.2.1 98 = .ok (.iadd, 1) := by decide +kernel
theorem d_M_inside_99 : decode u_M_inside.2.1 99 = .ok (.aload_n 0, 1) := by decide +kernel
theorem d_M_inside_100 : decode u_M_inside.2.1 100 = .ok (.getfield 55, 3) := by decide +kernel
theorem d_M_inside_103 : decode u_M_inside.2.1 103 = .ok (.iload 5, 2) := by decide +kernel
theorem d_M_inside_105 : decode u_M_inside.2.1 105 = .ok (.iaload, 1) := by decide +kernel
theorem d_M_inside_106 : decode u_M_inside.2.1 106 = .ok (.iastore, 1) := by decide +kernel
theorem d_M_inside_107 : decode u_M_inside.2.1 107 = .ok (.iload_n 2, 1) := by decide +kernel
theorem d_M_inside_108 : decode u_M_inside.2.1 108 = .ok (.bipush 7, 2) := by decide +kernel
theorem d_M_inside_110 : decode u_M_inside.2.1 110 = .ok (.if_icmp .eq 19, 3) := by decide +kernel
theorem d_M_inside_113 : decode u_M_inside.2.1 113 = .ok (.iload_n 2, 1) := by decide +kernel
theorem d_M_inside_114 : decode u_M_inside.2.1 114 = .ok (.bipush 8, 2) := by decide +kernel
theorem d_M_inside_116 : decode u_M_inside.2.1 116 = .ok (.if_icmp .ne 21, 3) := by decide +kernel
theorem d_M_inside_119 : decode u_M_inside.2.1 119 = .ok (.aload_n 0, 1) := by decide +kernel
theorem d_M_inside_120 : decode u_M_inside.2.1 120 = .ok (.getfield 55, 3) := by decide +kernel
theorem d_M_inside_123 : decode u_M_inside.2.1 123 = .ok (.iload 5, 2) := by decide +kernel
theorem d_M_inside_125 : decode u_M_inside.2.1 125 = .ok (.iaload, 1) := by decide +kernel
theorem d_M_inside_126 : decode u_M_inside.2.1 126 = .ok (.ifCond .eq 11, 3) := by decide +kernel
theorem d_M_inside_129 : decode u_M_inside.2.1 129 = .ok (.aload_n 0, 1) := by decide +kernel
theorem d_M_inside_130 : decode u_M_inside.2.1 130 = .ok (.getfield 58, 3) := by decide +kernel
theorem d_M_inside_133 : decode u_M_inside.2.1 133 = .ok (.iload_n 1, 1) := by decide +kernel
theorem d_M_inside_134 : decode u_M_inside.2.1 134 = .ok (.iload 4, 2) := by decide +kernel
theorem d_M_inside_136 : decode u_M_inside.2.1 136 = .ok (.iastore, 1) := by decide +kernel
theorem d_M_inside_137 : decode u_M_inside.2.1 137 = .ok (.iconst 0, 1) := by decide +kernel
theorem d_M_inside_138 : decode u_M_inside.2.1 138 = .ok (.ireturn, 1) := by decide +kernel
theorem d_M_message_0 : decode u_M_message.2.1 0 = .ok (.iconst 4, 1) := by decide +kernel
theorem d_M_message_1 : decode u_M_message.2.1 1 = .ok (.iload_n 1, 1) := by decide +kernel
theorem d_M_message_2 : decode u_M_message.2.1 2 = .ok (.imul, 1) := by decide +kernel
theorem d_M_message_3 : decode u_M_message.2.1 3 = .ok (.iload 4, 2) := by decide +kernel
theorem d_M_message_5 : decode u_M_message.2.1 5 = .ok (.iconst 3, 1) := by decide +kernel
theorem d_M_message_6 : decode u_M_message.2.1 6 = .ok (.iand, 1) := by decide +kernel
theorem d_M_message_7 : decode u_M_message.2.1 7 = .ok (.iadd, 1) := by decide +kernel
theorem d_M_message_8 : decode u_M_message.2.1 8 = .ok (.istore 5, 2) := by decide +kernel
theorem d_M_message_10 : decode u_M_message.2.1 10 = .ok (.iconst 4, 1) := by decide +kernel
theorem d_M_message_11 : decode u_M_message.2.1 11 = .ok (.iload_n 1, 1) := by decide +kernel
theorem d_M_message_12 : decode u_M_message.2.1 12 = .ok (.imul, 1) := by decide +kernel
theorem d_M_message_13 : decode u_M_message.2.1 13 = .ok (.iconst 3, 1) := by decide +kernel
theorem d_M_message_14 : decode u_M_message.2.1 14 = .ok (.iadd, 1) := by decide +kernel
theorem d_M_message_15 : decode u_M_message.2.1 15 = .ok (.istore 6, 2) := by decide +kernel
theorem d_M_message_17 : decode u_M_message.2.1 17 = .ok (.iload_n 3, 1) := by decide +kernel
theorem d_M_message_18 : decode u_M_message.2.1 18 = .ok (.iconst 0, 1) := by decide +kernel
theorem d_M_message_19 : decode u_M_message.2.1 19 = .ok (.aload_n 0, 1) := by decide +kernel
theorem d_M_message_20 : decode u_M_message.2.1 20 = .ok (.getfield 99, 3) := by decide +kernel
theorem d_M_message_23 : decode u_M_message.2.1 23 = .ok (.iconst 1, 1) := by decide +kernel
theorem d_M_message_24 : decode u_M_message.2.1 24 = .ok (.isub, 1) := by decide +kernel
theorem d_M_message_25 : decode u_M_message.2.1 25 = .ok (.invokestatic 83, 3) := by decide +kernel
theorem d_M_message_28 : decode u_M_message.2.1 28 = .ok (.ifCond .eq 28, 3) := by decide +kernel
theorem d_M_message_31 : decode u_M_message.2.1 31 = .ok (.iload_n 2, 1) := by decide +kernel
theorem d_M_message_32 : decode u_M_message.2.1 32 = .ok (.bipush 9, 2) := by decide +kernel
theorem d_M_message_34 : decode u_M_message.2.1 34 = .ok (.if_icmp .ne 12, 3) := by decide +kernel
theorem d_M_message_37 : decode u_M_message.2.1 37 = .ok (.aload_n 0, 1) := by decide +kernel
theorem d_M_message_38 : decode u_M_message.2.1 38 = .ok (.getfield 22, 3) := by decide +kernel
theorem d_M_message_41 : decode u_M_message.2.1 41 = .ok (.iload_n 3, 1) := by decide +kernel
theorem d_M_message_42 : decode u_M_message.2.1 42 = .ok (.iaload, 1) := by decide +kernel
theorem d_M_message_43 : decode u_M_message.2.1 43 = .ok (.goto 9, 3) := by decide +kernel
theorem d_M_message_46 : decode u_M_message.2.1 46 = .ok (.aload_n 0, 1) := by decide +kernel
theorem d_M_message_47 : decode u_M_message.2.1 47 = .ok (.getfield 25, 3) := by decide +kernel
theorem d_M_message_50 : decode u_M_message.2.1 50 = .ok (.iload_n 3, 1) := by decide +kernel
theorem d_M_message_51 : decode u_M_message.2.1 51 = .ok (.iaload, 1) := by decide +kernel
theorem d_M_message_52 : decode u_M_message.2.1 52 = .ok (.iload_n 1, 1) := by decide +kernel
theorem d_M_message_53 : decode u_M_message.2.1 53 = .ok (.if_icmp .eq 5, 3) := by decide +kernel
theorem d_M_message_56 : decode u_M_message.2.1 56 = .ok (.iconst 2, 1) := by decide +kernel
theorem d_M_message_57 : decode u_M_message.2.1 57 = .ok (.ireturn, 1) := by decide +kernel
theorem d_M_message_58 : decode u_M_message.2.1 58 = .ok (.aload_n 0, 1) := by decide +kernel
theorem d_M_message_59 : decode u_M_message.2.1 59 = .ok (.iload_n 1, 1) := by decide +kernel
theorem d_M_message_60 : decode u_M_message.2.1 60 = .ok (.invokevirtual 139, 3) := by decide +kernel
theorem d_M_message_63 : decode u_M_message.2.1 63 = .ok (.iload_n 2, 1) := by decide +kernel
theorem d_M_message_64 : decode u_M_message.2.1 64 = .ok (.bipush 9, 2) := by decide +kernel
theorem d_M_message_66 : decode u_M_message.2.1 66 = .ok (.if_icmp .ne 47, 3) := by decide +kernel
theorem d_M_message_69 : decode u_M_message.2.1 69 = .ok (.aload_n 0, 1) := by decide +kernel
theorem d_M_message_70 : decode u_M_message.2.1 70 = .ok (.getfield 28, 3) := by decide +kernel
theorem d_M_message_73 : decode u_M_message.2.1 73 = .ok (.iload_n 3, 1) := by decide +kernel
theorem d_M_message_74 : decode u_M_message.2.1 74 = .ok (.iaload, 1) := by decide +kernel
theorem d_M_message_75 : decode u_M_message.2.1 75 = .ok (.ifCond .ne 38, 3) := by decide +kernel
theorem d_M_message_78 : decode u_M_message.2.1 78 = .ok (.aload_n 0, 1) := by decide +kernel
theorem d_M_message_79 : decode u_M_message.2.1 79 = .ok (.getfield 37, 3) := by decide +kernel
theorem d_M_message_82 : decode u_M_message.2.1 82 = .ok (.iconst 4, 1) := by decide +kernel
theorem d_M_message_83 : decode u_M_message.2.1 83 = .ok (.iload_n 3, 1) := by decide +kernel
theorem d_M_message_84 : decode u_M_message.2.1 84 = .ok (.imul, 1) := by decide +kernel
theorem d_M_message_85 : decode u_M_message.2.1 85 = .ok (.aload_n 0, 1) := by decide +kernel
theorem d_M_message_86 : decode u_M_message.2.1 86 = .ok (.getfield 55, 3) := by decide +kernel
theorem d_M_message_89 : decode u_M_message.2.1 89 = .ok (.iload 5, 2) := by decide +kernel
theorem d_M_message_91 : decode u_M_message.2.1 91 = .ok (.iaload, 1) := by decide +kernel
theorem d_M_message_92 : decode u_M_message.2.1 92 = .ok (.iastore, 1) := by decide +kernel
theorem d_M_message_93 : decode u_M_message.2.1 93 = .ok (.aload_n 0, 1) := by decide +kernel
theorem d_M_message_94 : decode u_M_message.2.1 94 = .ok (.getfield 34, 3) := by decide +kernel
theorem d_M_message_97 : decode u_M_message.2.1 97 = .ok (.iload_n 3, 1) := by decide +kernel
theorem d_M_message_98 : decode u_M_message.2.1 98 = .ok (.aload_n 0, 1) := by decide +kernel
theorem d_M_message_99 : decode u_M_message.2.1 99 = .ok (.getfield 115, 3) := by decide +kernel
theorem d_M_message_102 : decode u_M_message.2.1 102 = .ok (.iastore, 1) := by decide +kernel
theorem d_M_message_103 : decode u_M_message.2.1 103 = .ok (.aload_n 0, 1) := by decide +kernel
theorem d_M_message_104 : decode u_M_message.2.1 104 = .ok (.getfield 31, 3) := by decide +kernel
theorem d_M_message_107 : decode u_M_message.2.1 107 = .ok (.iload_n 3, 1) := by decide +kernel
theorem d_M_message_108 : decode u_M_message.2.1 108 = .ok (.iconst 1, 1) := by decide +kernel
theorem d_M_message_109 : decode u_M_message.2.1 109 = .ok (.iastore, 1) := by decide +kernel
theorem d_M_message_110 : decode u_M_message.2.1 110 = .ok (.goto 288, 3) := by decide +kernel
theorem d_M_message_113 : decode u_M_message.2.1 113 = .ok (.iload_n 2, 1) := by decide +kernel
theorem d_M_message_114 : decode u_M_message.2.1 114 = .ok (.bipush 9, 2) := by decide +kernel
theorem d_M_message_116 : decode u_M_message.2.1 116 = .ok (.if_icmp .ne 100, 3) := by decide +kernel
theorem d_M_message_119 : decode u_M_message.2.1 119 = .ok (.aload_n 0, 1) := by decide +kernel
theorem d_M_message_120 : decode u_M_message.2.1 120 = .ok (.getfield 31, 3) := by decide +kernel
theorem d_M_message_123 : decode u_M_message.2.1 123 = .ok (.iload_n 3, 1) := by decide +kernel
theorem d_M_message_124 : decode u_M_message.2.1 124 = .ok (.iaload, 1) := by decide +kernel
theorem d_M_message_125 : decode u_M_message.2.1 125 = .ok (.aload_n 0, 1) := by decide +kernel
theorem d_M_message_126 : decode u_M_message.2.1 126 = .ok (.getfield 28, 3) := by decide +kernel
theorem d_M_message_129 : decode u_M_message.2.1 129 = .ok (.iload_n 3, 1) := by decide +kernel
theorem d_M_message_130 : decode u_M_message.2.1 130 = .ok (.iaload, 1) := by decide +kernel
theorem d_M_message_131 : decode u_M_message.2.1 131 = .ok (.if_icmp .ge 7, 3) := by decide +kernel
theorem d_M_message_134 : decode u_M_message.2.1 134 = .ok (.iconst 1, 1) := by decide +kernel
theorem d_M_message_135 : decode u_M_message.2.1 135 = .ok (.goto 4, 3) := by decide +kernel
theorem d_M_message_138 : decode u_M_message.2.1 138 = .ok (.iconst 0, 1) := by decide +kernel
theorem d_M_message_139 : decode u_M_message.2.1 139 = .ok (.istore 7, 2) := by decide +kernel
theorem d_M_message_141 : decode u_M_message.2.1 141 = .ok (.iload 7, 2) := by decide +kernel
theorem d_M_message_143 : decode u_M_message.2.1 143 = .ok (.ifCond .eq 25, 3) := by decide +kernel
theorem d_M_message_146 : decode u_M_message.2.1 146 = .ok (.aload_n 0, 1) := by decide +kernel
theorem d_M_message_147 : decode u_M_message.2.1 147 = .ok (.getfield 37, 3) := by decide +kernel
theorem d_M_message_150 : decode u_M_message.2.1 150 = .ok (.iconst 4, 1) := by decide +kernel
theorem d_M_message_151 : decode u_M_message.2.1 151 = .ok (.iload_n 3, 1) := by decide +kernel
theorem d_M_message_152 : decode u_M_message.2.1 152 = .ok (.imul, 1) := by decide +kernel
theorem d_M_message_153 : decode u_M_message.2.1 153 = .ok (.aload_n 0, 1) := by decide +kernel
theorem d_M_message_154 : decode u_M_message.2.1 154 = .ok (.getfield 31, 3) := by decide +kernel
theorem d_M_message_157 : decode u_M_message.2.1 157 = .ok (.iload_n 3, 1) := by decide +kernel
theorem d_M_message_158 : decode u_M_message.2.1 158 = .ok (.iaload, 1) := by decide +kernel
theorem d_M_message_159 : decode u_M_message.2.1 159 = .ok (.iadd, 1) := by decide +kernel
theorem d_M_message_160 : decode u_M_message.2.1 160 = .ok (.aload_n 0, 1) := by decide +kernel
theorem d_M_message_161 : decode u_M_message.2.1 161 = .ok (.getfield 55, 3) := by decide +kernel
theorem d_M_message_164 : decode u_M_message.2.1 164 = .ok (.iload 5, 2) := by decide +kernel
theorem d_M_message_166 : decode u_M_message.2.1 166 = .ok (.iaload, 1) := by decide +kernel
theorem d_M_message_167 : decode u_M_message.2.1 167 = .ok (.iastore, 1) := by decide +kernel
theorem d_M_message_168 : decode u_M_message.2.1 168 = .ok (.aload_n 0, 1) := by decide +kernel
theorem d_M_message_169 : decode u_M_message.2.1 169 = .ok (.getfield 31, 3) := by decide +kernel
theorem d_M_message_172 : decode u_M_message.2.1 172 = .ok (.iload_n 3, 1) := by decide +kernel
theorem d_M_message_173 : decode u_M_message.2.1 173 = .ok (.iload 7, 2) := by decide +kernel
theorem d_M_message_175 : decode u_M_message.2.1 175 = .ok (.ifCond .eq 14, 3) := by decide +kernel
theorem d_M_message_178 : decode u_M_message.2.1 178 = .ok (.aload_n 0, 1) := by decide +kernel
theorem d_M_message_179 : decode u_M_message.2.1 179 = .ok (.getfield 31, 3) := by decide +kernel
theorem d_M_message_182 : decode u_M_message.2.1 182 = .ok (.iload_n 3, 1) := by decide +kernel
theorem d_M_message_183 : decode u_M_message.2.1 183 = .ok (.iaload, 1) := by decide +kernel
theorem d_M_message_184 : decode u_M_message.2.1 184 = .ok (.iconst 1, 1) := by decide +kernel
theorem d_M_message_185 : decode u_M_message.2.1 185 = .ok (.iadd, 1) := by decide +kernel
theorem d_M_message_186 : decode u_M_message.2.1 186 = .ok (.goto 9, 3) := by decide +kernel
theorem d_M_message_189 : decode u_M_message.2.1 189 = .ok (.aload_n 0, 1) := by decide +kernel
theorem d_M_message_190 : decode u_M_message.2.1 190 = .ok (.getfield 31, 3) := by decide +kernel
theorem d_M_message_193 : decode u_M_message.2.1 193 = .ok (.iload_n 3, 1) := by decide +kernel
theorem d_M_message_194 : decode u_M_message.2.1 194 = .ok (.iaload, 1) := by decide +kernel
theorem d_M_message_195 : decode u_M_message.2.1 195 = .ok (.iastore, 1) := by decide +kernel
theorem d_M_message_196 : decode u_M_message.2.1 196 = .ok (.aload_n 0, 1) := by decide +kernel
theorem d_M_message_197 : decode u_M_message.2.1 197 = .ok (.getfield 55, 3) := by decide +kernel
theorem d_M_message_200 : decode u_M_message.2.1 200 = .ok (.iload 6, 2) := by decide +kernel
theorem d_M_message_202 : decode u_M_message.2.1 202 = .ok (.iload 7, 2) := by decide +kernel
theorem d_M_message_204 : decode u_M_message.2.1 204 = .ok (.ifCond .eq 7, 3) := by decide +kernel
theorem d_M_message_207 : decode u_M_message.2.1 207 = .ok (.iconst 1, 1) := by decide +kernel
theorem d_M_message_208 : decode u_M_message.2.1 208 = .ok (.goto 4, 3) := by decide +kernel
theorem d_M_message_211 : decode u_M_message.2.1 211 = .ok (.iconst 0, 1) := by decide +kernel
theorem d_M_message_212 : decode u_M_message.2.1 212 = .ok (.iastore, 1) := by decide +kernel
theorem d_M_message_213 : decode u_M_message.2.1 213 = .ok (.goto 185, 3) := by decide +kernel
theorem d_M_message_216 : decode u_M_message.2.1 216 = .ok (.aload_n 0, 1) := by decide +kernel
theorem d_M_message_217 : decode u_M_message.2.1 217 = .ok (.getfield 31, 3) := by decide +kernel
theorem d_M_message_220 : decode u_M_message.2.1 220 = .ok (.iload_n 3, 1) := by decide +kernel
theorem d_M_message_221 : decode u_M_message.2.1 221 = .ok (.iaload, 1) := by decide +kernel
theorem d_M_message_222 : decode u_M_message.2.1 222 = .ok (.ifCond .ne 27, 3) := by decide +kernel
theorem d_M_message_225 : decode u_M_message.2.1 225 = .ok (.aload_n 0, 1) := by decide +kernel
theorem d_M_message_226 : decode u_M_message.2.1 226 = .ok (.getfield 55, 3) := by decide +kernel
theorem d_M_message_229 : decode u_M_message.2.1 229 = .ok (.iload 6, 2) := by decide +kernel
theorem d_M_message_231 : decode u_M_message.2.1 231 = .ok (.aload_n 0, 1) := by decide +kernel
theorem d_M_message_232 : decode u_M_message.2.1 232 = .ok (.getfield 28, 3) := by decide +kernel
theorem d_M_message_235 : decode u_M_message.2.1 235 = .ok (.iload_n 3, 1) := by decide +kernel
theorem d_M_message_236 : decode u_M_message.2.1 236 = .ok (.iaload, 1) := by decide +kernel
theorem d_M_message_237 : decode u_M_message.2.1 237 = .ok (.ifCond .ne 7, 3) := by decide +kernel
theorem d_M_message_240 : decode u_M_message.2.1 240 = .ok (.iconst (-1), 1) := by decide +kernel
theorem d_M_message_241 : decode u_M_message.2.1 241 = .ok (.goto 4, 3) := by decide +kernel
theorem d_M_message_244 : decode u_M_message.2.1 244 = .ok (.iconst 0, 1) := by decide +kernel
theorem d_M_message_245 : decode u_M_message.2.1 245 = .ok (.iastore, 1) := by decide +kernel
theorem d_M_message_246 : decode u_M_message.2.1 246 = .ok (.goto 152, 3) := by decide +kernel
theorem d_M_message_249 : decode u_M_message.2.1 249 = .ok (.aload_n 0, 1) := by decide +kernel
theorem d_M_message_250 : decode u_M_message.2.1 250 = .ok (.getfield 55, 3) := by decide +kernel
theorem d_M_message_253 : decode u_M_message.2.1 253 = .ok (.iload 5, 2) := by decide +kernel
theorem d_M_message_255 : decode u_M_message.2.1 255 = .ok (.aload_n 0, 1) := by decide +kernel
theorem d_M_message_256 : decode u_M_message.2.1 256 = .ok (.getfield 37, 3) := by decide +kernel
theorem d_M_message_259 : decode u_M_message.2.1 259 = .ok (.iconst 4, 1) := by decide +kernel
theorem d_M_message_260 : decode u_M_message.2.1 260 = .ok (.iload_n 3, 1) := by decide +kernel
theorem d_M_message_261 : decode u_M_message.2.1 261 = .ok (.imul, 1) := by decide +kernel
theorem d_M_message_262 : decode u_M_message.2.1 262 = .ok (.iaload, 1) := by decide +kernel
theorem d_M_message_263 : decode u_M_message.2.1 263 = .ok (.iastore, 1) := by decide +kernel
theorem d_M_message_264 : decode u_M_message.2.1 264 = .ok (.aload_n 0, 1) := by decide +kernel
theorem d_M_message_265 : decode u_M_message.2.1 265 = .ok (.getfield 31, 3) := by decide +kernel
theorem d_M_message_268 : decode u_M_message.2.1 268 = .ok (.iload_n 3, 1) := by decide +kernel
theorem d_M_message_269 : decode u_M_message.2.1 269 = .ok (.aload_n 0, 1) := by decide +kernel
theorem d_M_message_270 : decode u_M_message.2.1 270 = .ok (.getfield 28, 3) := by decide +kernel
theorem d_M_message_273 : decode u_M_message.2.1 273 = .ok (.iload_n 3, 1) := by decide +kernel
theorem d_M_message_274 : decode u_M_message.2.1 274 = .ok (.iaload, 1) := by decide +kernel
theorem d_M_message_275 : decode u_M_message.2.1 275 = .ok (.ifCond .ne 7, 3) := by decide +kernel
theorem d_M_message_278 : decode u_M_message.2.1 278 = .ok (.iconst 1, 1) := by decide +kernel
theorem d_M_message_279 : decode u_M_message.2.1 279 = .ok (.goto 11, 3) := by decide +kernel
theorem d_M_message_282 : decode u_M_message.2.1 282 = .ok (.aload_n 0, 1) := by decide +kernel
theorem d_M_message_283 : decode u_M_message.2.1 283 = .ok (.getfield 31, 3) := by decide +kernel
theorem d_M_message_286 : decode u_M_message.2.1 286 = .ok (.iload_n 3, 1) := by decide +kernel
theorem d_M_message_287 : decode u_M_message.2.1 287 = .ok (.iaload, 1) := by decide +kernel
theorem d_M_message_288 : decode u_M_message.2.1 288 = .ok (.iconst 1, 1) := by decide +kernel
theorem d_M_message_289 : decode u_M_message.2.1 289 = .ok (.isub, 1) := by decide +kernel
theorem d_M_message_290 : decode u_M_message.2.1 290 = .ok (.iastore, 1) := by decide +kernel
theorem d_M_message_291 : decode u_M_message.2.1 291 = .ok (.iconst 4, 1) := by decide +kernel
theorem d_M_message_292 : decode u_M_message.2.1 292 = .ok (.iload_n 3, 1) := by decide +kernel
theorem d_M_message_293 : decode u_M_message.2.1 293 = .ok (.imul, 1) := by decide +kernel
theorem d_M_message_294 : decode u_M_message.2.1 294 = .ok (.istore 7, 2) := by decide +kernel
theorem d_M_message_296 : decode u_M_message.2.1 296 = .ok (.iload 7, 2) := by decide +kernel
theorem d_M_message_298 : decode u_M_message.2.1 298 = .ok (.iconst 4, 1) := by decide +kernel
theorem d_M_message_299 : decode u_M_message.2.1 299 = .ok (.iload_n 3, 1) := by decide +kernel
theorem d_M_message_300 : decode u_M_message.2.1 300 = .ok (.imul, 1) := by decide +kernel
theorem d_M_message_301 : decode u_M_message.2.1 301 = .ok (.aload_n 0, 1) := by decide +kernel
theorem d_M_message_302 : decode u_M_message.2.1 302 = .ok (.getfield 31, 3) := by decide +kernel
theorem d_M_message_305 : decode u_M_message.2.1 305 = .ok (.iload_n 3, 1) := by decide +kernel
theorem d_M_message_306 : decode u_M_message.2.1 306 = .ok (.iaload, 1) := by decide +kernel
theorem d_M_message_307 : decode u_M_message.2.1 307 = .ok (.iadd, 1) := by decide +kernel
theorem d_M_message_308 : decode u_M_message.2.1 308 = .ok (.if_icmp .ge 34, 3) := by decide +kernel
theorem d_M_message_311 : decode u_M_message.2.1 311 = .ok (.aload_n 0, 1) := by decide +kernel
theorem d_M_message_312 : decode u_M_message.2.1 312 = .ok (.getfield 28, 3) := by decide +kernel
theorem d_M_message_315 : decode u_M_message.2.1 315 = .ok (.iload_n 3, 1) := by decide +kernel
theorem d_M_message_316 : decode u_M_message.2.1 316 = .ok (.iaload, 1) := by decide +kernel
theorem d_M_message_317 : decode u_M_message.2.1 317 = .ok (.ifCond .le 25, 3) := by decide +kernel
theorem d_M_message_320 : decode u_M_message.2.1 320 = .ok (.aload_n 0, 1) := by decide +kernel
theorem d_M_message_321 : decode u_M_message.2.1 321 = .ok (.getfield 37, 3) := by decide +kernel
theorem d_M_message_324 : decode u_M_message.2.1 324 = .ok (.iload 7, 2) := by decide +kernel
theorem d_M_message_326 : decode u_M_message.2.1 326 = .ok (.aload_n 0, 1) := by decide +kernel
theorem d_M_message_327 : decode u_M_message.2.1 327 = .ok (.getfield 37, 3) := by decide +kernel
theorem d_M_message_330 : decode u_M_message.2.1 330 = .ok (.iload 7, 2) := by decide +kernel
theorem d_M_message_332 : decode u_M_message.2.1 332 = .ok (.iconst 1, 1) := by decide +kernel
theorem d_M_message_333 : decode u_M_message.2.1 333 = .ok (.iadd, 1) := by decide +kernel
theorem d_M_message_334 : decode u_M_message.2.1 334 = .ok (.iaload, 1) := by decide +kernel
theorem d_M_message_335 : decode u_M_message.2.1 335 = .ok (.iastore, 1) := by decide +kernel
theorem d_M_message_336 : decode u_M_message.2.1 336 = .ok (.iinc 7 1, 3) := by decide +kernel
theorem d_M_message_339 : decode u_M_message.2.1 339 = .ok (.goto (-43), 3) := by decide +kernel
theorem d_M_message_342 : decode u_M_message.2.1 342 = .ok (.aload_n 0, 1) := by decide +kernel
theorem d_M_message_343 : decode u_M_message.2.1 343 = .ok (.getfield 115, 3) := by decide +kernel
theorem d_M_message_346 : decode u_M_message.2.1 346 = .ok (.aload_n 0, 1) := by decide +kernel
theorem d_M_message_347 : decode u_M_message.2.1 347 = .ok (.getfield 34, 3) := by decide +kernel
theorem d_M_message_350 : decode u_M_message.2.1 350 = .ok (.iload_n 3, 1) := by decide +kernel
theorem d_M_message_351 : decode u_M_message.2.1 351 = .ok (.iaload, 1) := by decide +kernel
theorem d_M_message_352 : decode u_M_message.2.1 352 = .ok (.isub, 1) := by decide +kernel
theorem d_M_message_353 : decode u_M_message.2.1 353 = .ok (.bipush 99, 2) := by decide +kernel
theorem d_M_message_355 : decode u_M_message.2.1 355 = .ok (.if_icmp .ge 17, 3) := by decide +kernel
theorem d_M_message_358 : decode u_M_message.2.1 358 = .ok (.aload_n 0, 1) := by decide +kernel
theorem d_M_message_359 : decode u_M_message.2.1 359 = .ok (.getfield 115, 3) := by decide +kernel
theorem d_M_message_362 : decode u_M_message.2.1 362 = .ok (.aload_n 0, 1) := by decide +kernel
theorem d_M_message_363 : decode u_M_message.2.1 363 = .ok (.getfield 34, 3) := by decide +kernel
theorem d_M_message_366 : decode u_M_message.2.1 366 = .ok (.iload_n 3, 1) := by decide +kernel
theorem d_M_message_367 : decode u_M_message.2.1 367 = .ok (.iaload, 1) := by decide +kernel
theorem d_M_message_368 : decode u_M_message.2.1 368 = .ok (.isub, 1) := by decide +kernel
theorem d_M_message_369 : decode u_M_message.2.1 369 = .ok (.goto 5, 3) := by decide +kernel
theorem d_M_message_372 : decode u_M_message.2.1 372 = .ok (.bipush 99, 2) := by decide +kernel
theorem d_M_message_374 : decode u_M_message.2.1 374 = .ok (.istore 7, 2) := by decide +kernel
theorem d_M_message_376 : decode u_M_message.2.1 376 = .ok (.aload_n 0, 1) := by decide +kernel
theorem d_M_message_377 : decode u_M_message.2.1 377 = .ok (.getfield 55, 3) := by decide +kernel
theorem d_M_message_380 : decode u_M_message.2.1 380 = .ok (.iload 6, 2) := by decide +kernel
theorem d_M_message_382 : decode u_M_message.2.1 382 = .ok (.aload_n 0, 1) := by decide +kernel
theorem d_M_message_383 : decode u_M_message.2.1 383 = .ok (.getfield 28, 3) := by decide +kernel
theorem d_M_message_386 : decode u_M_message.2.1 386 = .ok (.iload_n 3, 1) := by decide +kernel
theorem d_M_message_387 : decode u_M_message.2.1 387 = .ok (.iaload, 1) := by decide +kernel
theorem d_M_message_388 : decode u_M_message.2.1 388 = .ok (.ifCond .ne 8, 3) := by decide +kernel
theorem d_M_message_391 : decode u_M_message.2.1 391 = .ok (.iload 7, 2) := by decide +kernel
theorem d_M_message_393 : decode u_M_message.2.1 393 = .ok (.goto 4, 3) := by decide +kernel
theorem d_M_message_396 : decode u_M_message.2.1 396 = .ok (.iconst 1, 1) := by decide +kernel
theorem d_M_message_397 : decode u_M_message.2.1 397 = .ok (.iastore, 1) := by decide +kernel
theorem d_M_message_398 : decode u_M_message.2.1 398 = .ok (.iconst 0, 1) := by decide +kernel
theorem d_M_message_399 : decode u_M_message.2.1 399 = .ok (.ireturn, 1) := by decide +kernel
theorem d_M_react_0 : decode u_M_react.2.1 0 = .ok (.aload_n 0, 1) := by decide +kernel
theorem d_M_react_1 : decode u_M_react.2.1 1 = .ok (.getfield 40, 3) := by decide +kernel
theorem d_M_react_4 : decode u_M_react.2.1 4 = .ok (.iconst 4, 1) := by decide +kernel
theorem d_M_react_5 : decode u_M_react.2.1 5 = .ok (.iload_n 1, 1) := by decide +kernel
end
section
theorem d_M_react_6 : decode u_M_react.2.1 6 = .ok (.imul, 1) := by decide +kernel
theorem d_M_react_7 : decode u_M_react.2.1 7 = .ok (.iload_n 2, 1) := by decide +kernel
theorem d_M_react_8 : decode u_M_react.2.1 8 = .ok (.iadd, 1) := by decide +kernel
theorem d_M_react_9 : decode u_M_react.2.1 9 = .ok (.iconst 1, 1) := by decide +kernel
theorem d_M_react_10 : decode u_M_react.2.1 10 = .ok (.isub, 1) := by decide +kernel
theorem d_M_react_11 : decode u_M_react.2.1 11 = .ok (.iaload, 1) := by decide +kernel
theorem d_M_react_12 : decode u_M_react.2.1 12 = .ok (.istore_n 3, 1) := by decide +kernel
theorem d_M_react_13 : decode u_M_react.2.1 13 = .ok (.aload_n 0, 1) := by decide +kernel
theorem d_M_react_14 : decode u_M_react.2.1 14 = .ok (.getfield 61, 3) := by decide +kernel
theorem d_M_react_17 : decode u_M_react.2.1 17 = .ok (.iload_n 1, 1) := by decide +kernel
theorem d_M_react_18 : decode u_M_react.2.1 18 = .ok (.dup2, 1) := by decide +kernel
theorem d_M_react_19 : decode u_M_react.2.1 19 = .ok (.iaload, 1) := by decide +kernel
theorem d_M_react_20 : decode u_M_react.2.1 20 = .ok (.iconst 1, 1) := by decide +kernel
theorem d_M_react_21 : decode u_M_react.2.1 21 = .ok (.iadd, 1) := by decide +kernel
theorem d_M_react_22 : decode u_M_react.2.1 22 = .ok (.iastore, 1) := by decide +kernel
theorem d_M_react_23 : decode u_M_react.2.1 23 = .ok (.iload_n 3, 1) := by decide +kernel
theorem d_M_react_24 : decode u_M_react.2.1 24 = .ok (.ifCond .ne 10, 3) := by decide +kernel
theorem d_M_react_27 : decode u_M_react.2.1 27 = .ok (.aload_n 0, 1) := by decide +kernel
theorem d_M_react_28 : decode u_M_react.2.1 28 = .ok (.getfield 64, 3) := by decide +kernel
theorem d_M_react_31 : decode u_M_react.2.1 31 = .ok (.iload_n 1, 1) := by decide +kernel
theorem d_M_react_32 : decode u_M_react.2.1 32 = .ok (.iconst 0, 1) := by decide +kernel
theorem d_M_react_33 : decode u_M_react.2.1 33 = .ok (.bastore, 1) := by decide +kernel
theorem d_M_react_34 : decode u_M_react.2.1 34 = .ok (.iload_n 3, 1) := by decide +kernel
theorem d_M_react_35 : decode u_M_react.2.1 35 = .ok (.iconst 2, 1) := by decide +kernel
theorem d_M_react_36 : decode u_M_react.2.1 36 = .ok (.if_icmp .ne 26, 3) := by decide +kernel
theorem d_M_react_39 : decode u_M_react.2.1 39 = .ok (.aload_n 0, 1) := by decide +kernel
theorem d_M_react_40 : decode u_M_react.2.1 40 = .ok (.getfield 58, 3) := by decide +kernel
theorem d_M_react_43 : decode u_M_react.2.1 43 = .ok (.iload_n 1, 1) := by decide +kernel
theorem d_M_react_44 : decode u_M_react.2.1 44 = .ok (.iload_n 2, 1) := by decide +kernel
theorem d_M_react_45 : decode u_M_react.2.1 45 = .ok (.iconst 4, 1) := by decide +kernel
theorem d_M_react_46 : decode u_M_react.2.1 46 = .ok (.if_icmp .ne 7, 3) := by decide +kernel
theorem d_M_react_49 : decode u_M_react.2.1 49 = .ok (.iconst 0, 1) := by decide +kernel
theorem d_M_react_50 : decode u_M_react.2.1 50 = .ok (.goto 11, 3) := by decide +kernel
theorem d_M_react_53 : decode u_M_react.2.1 53 = .ok (.aload_n 0, 1) := by decide +kernel
theorem d_M_react_54 : decode u_M_react.2.1 54 = .ok (.getfield 58, 3) := by decide +kernel
theorem d_M_react_57 : decode u_M_react.2.1 57 = .ok (.iload_n 1, 1) := by decide +kernel
theorem d_M_react_58 : decode u_M_react.2.1 58 = .ok (.iaload, 1) := by decide +kernel
theorem d_M_react_59 : decode u_M_react.2.1 59 = .ok (.iconst 1, 1) := by decide +kernel
theorem d_M_react_60 : decode u_M_react.2.1 60 = .ok (.iadd, 1) := by decide +kernel
theorem d_M_react_61 : decode u_M_react.2.1 61 = .ok (.iastore, 1) := by decide +kernel
theorem d_M_react_62 : decode u_M_react.2.1 62 = .ok (.iload_n 3, 1) := by decide +kernel
theorem d_M_react_63 : decode u_M_react.2.1 63 = .ok (.iconst 1, 1) := by decide +kernel
theorem d_M_react_64 : decode u_M_react.2.1 64 = .ok (.if_icmp .eq 4, 3) := by decide +kernel
theorem d_M_react_67 : decode u_M_react.2.1 67 = .ok (.return_, 1) := by decide +kernel
theorem d_M_react_68 : decode u_M_react.2.1 68 = .ok (.aload_n 0, 1) := by decide +kernel
theorem d_M_react_69 : decode u_M_react.2.1 69 = .ok (.getfield 58, 3) := by decide +kernel
theorem d_M_react_72 : decode u_M_react.2.1 72 = .ok (.iload_n 1, 1) := by decide +kernel
theorem d_M_react_73 : decode u_M_react.2.1 73 = .ok (.iconst 0, 1) := by decide +kernel
theorem d_M_react_74 : decode u_M_react.2.1 74 = .ok (.iastore, 1) := by decide +kernel
theorem d_M_react_75 : decode u_M_react.2.1 75 = .ok (.iconst 4, 1) := by decide +kernel
theorem d_M_react_76 : decode u_M_react.2.1 76 = .ok (.iload_n 1, 1) := by decide +kernel
theorem d_M_react_77 : decode u_M_react.2.1 77 = .ok (.imul, 1) := by decide +kernel
theorem d_M_react_78 : decode u_M_react.2.1 78 = .ok (.istore 4, 2) := by decide +kernel
theorem d_M_react_80 : decode u_M_react.2.1 80 = .ok (.iload 4, 2) := by decide +kernel
theorem d_M_react_82 : decode u_M_react.2.1 82 = .ok (.iconst 4, 1) := by decide +kernel
theorem d_M_react_83 : decode u_M_react.2.1 83 = .ok (.iload_n 1, 1) := by decide +kernel
theorem d_M_react_84 : decode u_M_react.2.1 84 = .ok (.imul, 1) := by decide +kernel
theorem d_M_react_85 : decode u_M_react.2.1 85 = .ok (.iconst 4, 1) := by decide +kernel
theorem d_M_react_86 : decode u_M_react.2.1 86 = .ok (.iadd, 1) := by decide +kernel
theorem d_M_react_87 : decode u_M_react.2.1 87 = .ok (.if_icmp .ge 17, 3) := by decide +kernel
theorem d_M_react_90 : decode u_M_react.2.1 90 = .ok (.aload_n 0, 1) := by decide +kernel
theorem d_M_react_91 : decode u_M_react.2.1 91 = .ok (.getfield 55, 3) := by decide +kernel
theorem d_M_react_94 : decode u_M_react.2.1 94 = .ok (.iload 4, 2) := by decide +kernel
theorem d_M_react_96 : decode u_M_react.2.1 96 = .ok (.iconst 0, 1) := by decide +kernel
theorem d_M_react_97 : decode u_M_react.2.1 97 = .ok (.iastore, 1) := by decide +kernel
theorem d_M_react_98 : decode u_M_react.2.1 98 = .ok (.iinc 4 1, 3) := by decide +kernel
theorem d_M_react_101 : decode u_M_react.2.1 101 = .ok (.goto (-21), 3) := by decide +kernel
theorem d_M_react_104 : decode u_M_react.2.1 104 = .ok (.aload_n 0, 1) := by decide +kernel
theorem d_M_react_105 : decode u_M_react.2.1 105 = .ok (.getfield 7, 3) := by decide +kernel
theorem d_M_react_108 : decode u_M_react.2.1 108 = .ok (.iload_n 1, 1) := by decide +kernel
theorem d_M_react_109 : decode u_M_react.2.1 109 = .ok (.iaload, 1) := by decide +kernel
theorem d_M_react_110 : decode u_M_react.2.1 110 = .ok (.istore 4, 2) := by decide +kernel
theorem d_M_react_112 : decode u_M_react.2.1 112 = .ok (.iload 4, 2) := by decide +kernel
theorem d_M_react_114 : decode u_M_react.2.1 114 = .ok (.aload_n 0, 1) := by decide +kernel
theorem d_M_react_115 : decode u_M_react.2.1 115 = .ok (.getfield 7, 3) := by decide +kernel
theorem d_M_react_118 : decode u_M_react.2.1 118 = .ok (.iload_n 1, 1) := by decide +kernel
theorem d_M_react_119 : decode u_M_react.2.1 119 = .ok (.iaload, 1) := by decide +kernel
theorem d_M_react_120 : decode u_M_react.2.1 120 = .ok (.aload_n 0, 1) := by decide +kernel
theorem d_M_react_121 : decode u_M_react.2.1 121 = .ok (.getfield 13, 3) := by decide +kernel
theorem d_M_react_124 : decode u_M_react.2.1 124 = .ok (.iload_n 1, 1) := by decide +kernel
theorem d_M_react_125 : decode u_M_react.2.1 125 = .ok (.iaload, 1) := by decide +kernel
theorem d_M_react_126 : decode u_M_react.2.1 126 = .ok (.iadd, 1) := by decide +kernel
theorem d_M_react_127 : decode u_M_react.2.1 127 = .ok (.if_icmp .ge 17, 3) := by decide +kernel
theorem d_M_react_130 : decode u_M_react.2.1 130 = .ok (.aload_n 0, 1) := by decide +kernel
theorem d_M_react_131 : decode u_M_react.2.1 131 = .ok (.getfield 52, 3) := by decide +kernel
theorem d_M_react_134 : decode u_M_react.2.1 134 = .ok (.iload 4, 2) := by decide +kernel
theorem d_M_react_136 : decode u_M_react.2.1 136 = .ok (.iconst 0, 1) := by decide +kernel
theorem d_M_react_137 : decode u_M_react.2.1 137 = .ok (.iastore, 1) := by decide +kernel
theorem d_M_react_138 : decode u_M_react.2.1 138 = .ok (.iinc 4 1, 3) := by decide +kernel
theorem d_M_react_141 : decode u_M_react.2.1 141 = .ok (.goto (-29), 3) := by decide +kernel
theorem d_M_react_144 : decode u_M_react.2.1 144 = .ok (.iconst 0, 1) := by decide +kernel
theorem d_M_react_145 : decode u_M_react.2.1 145 = .ok (.istore 4, 2) := by decide +kernel
theorem d_M_react_147 : decode u_M_react.2.1 147 = .ok (.iload 4, 2) := by decide +kernel
theorem d_M_react_149 : decode u_M_react.2.1 149 = .ok (.aload_n 0, 1) := by decide +kernel
theorem d_M_react_150 : decode u_M_react.2.1 150 = .ok (.getfield 99, 3) := by decide +kernel
theorem d_M_react_153 : decode u_M_react.2.1 153 = .ok (.if_icmp .ge 38, 3) := by decide +kernel
theorem d_M_react_156 : decode u_M_react.2.1 156 = .ok (.aload_n 0, 1) := by decide +kernel
theorem d_M_react_157 : decode u_M_react.2.1 157 = .ok (.getfield 31, 3) := by decide +kernel
theorem d_M_react_160 : decode u_M_react.2.1 160 = .ok (.iload 4, 2) := by decide +kernel
theorem d_M_react_162 : decode u_M_react.2.1 162 = .ok (.aload_n 0, 1) := by decide +kernel
theorem d_M_react_163 : decode u_M_react.2.1 163 = .ok (.getfield 25, 3) := by decide +kernel
theorem d_M_react_166 : decode u_M_react.2.1 166 = .ok (.iload 4, 2) := by decide +kernel
theorem d_M_react_168 : decode u_M_react.2.1 168 = .ok (.iaload, 1) := by decide +kernel
theorem d_M_react_169 : decode u_M_react.2.1 169 = .ok (.iload_n 1, 1) := by decide +kernel
theorem d_M_react_170 : decode u_M_react.2.1 170 = .ok (.if_icmp .ne 7, 3) := by decide +kernel
theorem d_M_react_173 : decode u_M_react.2.1 173 = .ok (.iconst 0, 1) := by decide +kernel
theorem d_M_react_174 : decode u_M_react.2.1 174 = .ok (.goto 10, 3) := by decide +kernel
theorem d_M_react_177 : decode u_M_react.2.1 177 = .ok (.aload_n 0, 1) := by decide +kernel
theorem d_M_react_178 : decode u_M_react.2.1 178 = .ok (.getfield 31, 3) := by decide +kernel
theorem d_M_react_181 : decode u_M_react.2.1 181 = .ok (.iload 4, 2) := by decide +kernel
theorem d_M_react_183 : decode u_M_react.2.1 183 = .ok (.iaload, 1) := by decide +kernel
theorem d_M_react_184 : decode u_M_react.2.1 184 = .ok (.iastore, 1) := by decide +kernel
theorem d_M_react_185 : decode u_M_react.2.1 185 = .ok (.iinc 4 1, 3) := by decide +kernel
theorem d_M_react_188 : decode u_M_react.2.1 188 = .ok (.goto (-41), 3) := by decide +kernel
theorem d_M_react_191 : decode u_M_react.2.1 191 = .ok (.return_, 1) := by decide +kernel
theorem d_M_output_0 : decode u_M_output.2.1 0 = .ok (.iload_n 1, 1) := by decide +kernel
theorem d_M_output_1 : decode u_M_output.2.1 1 = .ok (.invokestatic 87, 3) := by decide +kernel
theorem d_M_output_4 : decode u_M_output.2.1 4 = .ok (.ifCond .eq 37, 3) := by decide +kernel
theorem d_M_output_7 : decode u_M_output.2.1 7 = .ok (.iload_n 2, 1) := by decide +kernel
theorem d_M_output_8 : decode u_M_output.2.1 8 = .ok (.iconst 0, 1) := by decide +kernel
theorem d_M_output_9 : decode u_M_output.2.1 9 = .ok (.bipush 15, 2) := by decide +kernel
theorem d_M_output_11 : decode u_M_output.2.1 11 = .ok (.invokestatic 83, 3) := by decide +kernel
theorem d_M_output_14 : decode u_M_output.2.1 14 = .ok (.ifCond .eq 27, 3) := by decide +kernel
theorem d_M_output_17 : decode u_M_output.2.1 17 = .ok (.iload_n 2, 1) := by decide +kernel
theorem d_M_output_18 : decode u_M_output.2.1 18 = .ok (.aload_n 0, 1) := by decide +kernel
theorem d_M_output_19 : decode u_M_output.2.1 19 = .ok (.getfield 77, 3) := by decide +kernel
theorem d_M_output_22 : decode u_M_output.2.1 22 = .ok (.iload_n 1, 1) := by decide +kernel
theorem d_M_output_23 : decode u_M_output.2.1 23 = .ok (.iaload, 1) := by decide +kernel
theorem d_M_output_24 : decode u_M_output.2.1 24 = .ok (.if_icmp .ge 17, 3) := by decide +kernel
theorem d_M_output_27 : decode u_M_output.2.1 27 = .ok (.aload_n 0, 1) := by decide +kernel
theorem d_M_output_28 : decode u_M_output.2.1 28 = .ok (.getfield 80, 3) := by decide +kernel
theorem d_M_output_31 : decode u_M_output.2.1 31 = .ok (.bipush 16, 2) := by decide +kernel
theorem d_M_output_33 : decode u_M_output.2.1 33 = .ok (.iload_n 1, 1) := by decide +kernel
theorem d_M_output_34 : decode u_M_output.2.1 34 = .ok (.imul, 1) := by decide +kernel
theorem d_M_output_35 : decode u_M_output.2.1 35 = .ok (.iload_n 2, 1) := by decide +kernel
theorem d_M_output_36 : decode u_M_output.2.1 36 = .ok (.iadd, 1) := by decide +kernel
theorem d_M_output_37 : decode u_M_output.2.1 37 = .ok (.iaload, 1) := by decide +kernel
theorem d_M_output_38 : decode u_M_output.2.1 38 = .ok (.goto 4, 3) := by decide +kernel
theorem d_M_output_41 : decode u_M_output.2.1 41 = .ok (.iconst 0, 1) := by decide +kernel
theorem d_M_output_42 : decode u_M_output.2.1 42 = .ok (.ireturn, 1) := by decide +kernel
theorem d_M_about_0 : decode u_M_about.2.1 0 = .ok (.iload_n 1, 1) := by decide +kernel
theorem d_M_about_1 : decode u_M_about.2.1 1 = .ok (.invokestatic 87, 3) := by decide +kernel
theorem d_M_about_4 : decode u_M_about.2.1 4 = .ok (.ifCond .eq 13, 3) := by decide +kernel
theorem d_M_about_7 : decode u_M_about.2.1 7 = .ok (.iload_n 2, 1) := by decide +kernel
theorem d_M_about_8 : decode u_M_about.2.1 8 = .ok (.iconst 0, 1) := by decide +kernel
theorem d_M_about_9 : decode u_M_about.2.1 9 = .ok (.bipush 8, 2) := by decide +kernel
theorem d_M_about_11 : decode u_M_about.2.1 11 = .ok (.invokestatic 83, 3) := by decide +kernel
theorem d_M_about_14 : decode u_M_about.2.1 14 = .ok (.ifCond .ne 5, 3) := by decide +kernel
theorem d_M_about_17 : decode u_M_about.2.1 17 = .ok (.iconst (-1), 1) := by decide +kernel
theorem d_M_about_18 : decode u_M_about.2.1 18 = .ok (.ireturn, 1) := by decide +kernel
theorem d_M_about_19 : decode u_M_about.2.1 19 = .ok (.iload_n 2, 1) := by decide +kernel
theorem d_M_about_20 : decode u_M_about.2.1 20 = .ok (.iconst 4, 1) := by decide +kernel
theorem d_M_about_21 : decode u_M_about.2.1 21 = .ok (.if_icmp .ge 14, 3) := by decide +kernel
theorem d_M_about_24 : decode u_M_about.2.1 24 = .ok (.aload_n 0, 1) := by decide +kernel
theorem d_M_about_25 : decode u_M_about.2.1 25 = .ok (.getfield 55, 3) := by decide +kernel
theorem d_M_about_28 : decode u_M_about.2.1 28 = .ok (.iconst 4, 1) := by decide +kernel
theorem d_M_about_29 : decode u_M_about.2.1 29 = .ok (.iload_n 1, 1) := by decide +kernel
theorem d_M_about_30 : decode u_M_about.2.1 30 = .ok (.imul, 1) := by decide +kernel
theorem d_M_about_31 : decode u_M_about.2.1 31 = .ok (.iload_n 2, 1) := by decide +kernel
theorem d_M_about_32 : decode u_M_about.2.1 32 = .ok (.iadd, 1) := by decide +kernel
theorem d_M_about_33 : decode u_M_about.2.1 33 = .ok (.iaload, 1) := by decide +kernel
theorem d_M_about_34 : decode u_M_about.2.1 34 = .ok (.ireturn, 1) := by decide +kernel
theorem d_M_about_35 : decode u_M_about.2.1 35 = .ok (.iload_n 2, 1) := by decide +kernel
theorem d_M_about_36 : decode u_M_about.2.1 36 = .ok (.iconst 4, 1) := by decide +kernel
theorem d_M_about_37 : decode u_M_about.2.1 37 = .ok (.if_icmp .ne 10, 3) := by decide +kernel
theorem d_M_about_40 : decode u_M_about.2.1 40 = .ok (.aload_n 0, 1) := by decide +kernel
theorem d_M_about_41 : decode u_M_about.2.1 41 = .ok (.getfield 58, 3) := by decide +kernel
theorem d_M_about_44 : decode u_M_about.2.1 44 = .ok (.iload_n 1, 1) := by decide +kernel
theorem d_M_about_45 : decode u_M_about.2.1 45 = .ok (.iaload, 1) := by decide +kernel
theorem d_M_about_46 : decode u_M_about.2.1 46 = .ok (.ireturn, 1) := by decide +kernel
theorem d_M_about_47 : decode u_M_about.2.1 47 = .ok (.iload_n 2, 1) := by decide +kernel
theorem d_M_about_48 : decode u_M_about.2.1 48 = .ok (.iconst 5, 1) := by decide +kernel
theorem d_M_about_49 : decode u_M_about.2.1 49 = .ok (.if_icmp .ne 18, 3) := by decide +kernel
theorem d_M_about_52 : decode u_M_about.2.1 52 = .ok (.aload_n 0, 1) := by decide +kernel
theorem d_M_about_53 : decode u_M_about.2.1 53 = .ok (.getfield 64, 3) := by decide +kernel
theorem d_M_about_56 : decode u_M_about.2.1 56 = .ok (.iload_n 1, 1) := by decide +kernel
theorem d_M_about_57 : decode u_M_about.2.1 57 = .ok (.baload, 1) := by decide +kernel
theorem d_M_about_58 : decode u_M_about.2.1 58 = .ok (.ifCond .eq 7, 3) := by decide +kernel
theorem d_M_about_61 : decode u_M_about.2.1 61 = .ok (.iconst 1, 1) := by decide +kernel
theorem d_M_about_62 : decode u_M_about.2.1 62 = .ok (.goto 4, 3) := by decide +kernel
theorem d_M_about_65 : decode u_M_about.2.1 65 = .ok (.iconst 0, 1) := by decide +kernel
theorem d_M_about_66 : decode u_M_about.2.1 66 = .ok (.ireturn, 1) := by decide +kernel
theorem d_M_about_67 : decode u_M_about.2.1 67 = .ok (.iload_n 2, 1) := by decide +kernel
theorem d_M_about_68 : decode u_M_about.2.1 68 = .ok (.bipush 6, 2) := by decide +kernel
theorem d_M_about_70 : decode u_M_about.2.1 70 = .ok (.if_icmp .ne 12, 3) := by decide +kernel
theorem d_M_about_73 : decode u_M_about.2.1 73 = .ok (.aload_n 0, 1) := by decide +kernel
theorem d_M_about_74 : decode u_M_about.2.1 74 = .ok (.getfield 61, 3) := by decide +kernel
theorem d_M_about_77 : decode u_M_about.2.1 77 = .ok (.iload_n 1, 1) := by decide +kernel
theorem d_M_about_78 : decode u_M_about.2.1 78 = .ok (.iaload, 1) := by decide +kernel
theorem d_M_about_79 : decode u_M_about.2.1 79 = .ok (.goto 24, 3) := by decide +kernel
theorem d_M_about_82 : decode u_M_about.2.1 82 = .ok (.iload_n 2, 1) := by decide +kernel
theorem d_M_about_83 : decode u_M_about.2.1 83 = .ok (.bipush 7, 2) := by decide +kernel
theorem d_M_about_85 : decode u_M_about.2.1 85 = .ok (.if_icmp .ne 12, 3) := by decide +kernel
theorem d_M_about_88 : decode u_M_about.2.1 88 = .ok (.aload_n 0, 1) := by decide +kernel
theorem d_M_about_89 : decode u_M_about.2.1 89 = .ok (.getfield 77, 3) := by decide +kernel
theorem d_M_about_92 : decode u_M_about.2.1 92 = .ok (.iload_n 1, 1) := by decide +kernel
theorem d_M_about_93 : decode u_M_about.2.1 93 = .ok (.iaload, 1) := by decide +kernel
theorem d_M_about_94 : decode u_M_about.2.1 94 = .ok (.goto 9, 3) := by decide +kernel
theorem d_M_about_97 : decode u_M_about.2.1 97 = .ok (.aload_n 0, 1) := by decide +kernel
theorem d_M_about_98 : decode u_M_about.2.1 98 = .ok (.getfield 71, 3) := by decide +kernel
theorem d_M_about_101 : decode u_M_about.2.1 101 = .ok (.iload_n 1, 1) := by decide +kernel
theorem d_M_about_102 : decode u_M_about.2.1 102 = .ok (.iaload, 1) := by decide +kernel
theorem d_M_about_103 : decode u_M_about.2.1 103 = .ok (.ireturn, 1) := by decide +kernel
theorem d_M_word_0 : decode u_M_word.2.1 0 = .ok (.iload_n 1, 1) := by decide +kernel
theorem d_M_word_1 : decode u_M_word.2.1 1 = .ok (.iconst 0, 1) := by decide +kernel
theorem d_M_word_2 : decode u_M_word.2.1 2 = .ok (.bipush 63, 2) := by decide +kernel
theorem d_M_word_4 : decode u_M_word.2.1 4 = .ok (.invokestatic 83, 3) := by decide +kernel
theorem d_M_word_7 : decode u_M_word.2.1 7 = .ok (.ifCond .eq 12, 3) := by decide +kernel
theorem d_M_word_10 : decode u_M_word.2.1 10 = .ok (.aload_n 0, 1) := by decide +kernel
theorem d_M_word_11 : decode u_M_word.2.1 11 = .ok (.getfield 52, 3) := by decide +kernel
theorem d_M_word_14 : decode u_M_word.2.1 14 = .ok (.iload_n 1, 1) := by decide +kernel
theorem d_M_word_15 : decode u_M_word.2.1 15 = .ok (.iaload, 1) := by decide +kernel
theorem d_M_word_16 : decode u_M_word.2.1 16 = .ok (.goto 4, 3) := by decide +kernel
theorem d_M_word_19 : decode u_M_word.2.1 19 = .ok (.iconst 0, 1) := by decide +kernel
theorem d_M_word_20 : decode u_M_word.2.1 20 = .ok (.ireturn, 1) := by decide +kernel
theorem d_M_waiting_0 : decode u_M_waiting.2.1 0 = .ok (.iload_n 1, 1) := by decide +kernel
theorem d_M_waiting_1 : decode u_M_waiting.2.1 1 = .ok (.iconst 0, 1) := by decide +kernel
theorem d_M_waiting_2 : decode u_M_waiting.2.1 2 = .ok (.aload_n 0, 1) := by decide +kernel
theorem d_M_waiting_3 : decode u_M_waiting.2.1 3 = .ok (.getfield 99, 3) := by decide +kernel
theorem d_M_waiting_6 : decode u_M_waiting.2.1 6 = .ok (.iconst 1, 1) := by decide +kernel
theorem d_M_waiting_7 : decode u_M_waiting.2.1 7 = .ok (.isub, 1) := by decide +kernel
theorem d_M_waiting_8 : decode u_M_waiting.2.1 8 = .ok (.invokestatic 83, 3) := by decide +kernel
theorem d_M_waiting_11 : decode u_M_waiting.2.1 11 = .ok (.ifCond .eq 12, 3) := by decide +kernel
theorem d_M_waiting_14 : decode u_M_waiting.2.1 14 = .ok (.aload_n 0, 1) := by decide +kernel
theorem d_M_waiting_15 : decode u_M_waiting.2.1 15 = .ok (.getfield 31, 3) := by decide +kernel
theorem d_M_waiting_18 : decode u_M_waiting.2.1 18 = .ok (.iload_n 1, 1) := by decide +kernel
theorem d_M_waiting_19 : decode u_M_waiting.2.1 19 = .ok (.iaload, 1) := by decide +kernel
theorem d_M_waiting_20 : decode u_M_waiting.2.1 20 = .ok (.goto 4, 3) := by decide +kernel
theorem d_M_waiting_23 : decode u_M_waiting.2.1 23 = .ok (.iconst (-1), 1) := by decide +kernel
theorem d_M_waiting_24 : decode u_M_waiting.2.1 24 = .ok (.ireturn, 1) := by decide +kernel
theorem d_M_clock_0 : decode u_M_clock.2.1 0 = .ok (.aload_n 0, 1) := by decide +kernel
theorem d_M_clock_1 : decode u_M_clock.2.1 1 = .ok (.getfield 91, 3) := by decide +kernel
theorem d_M_clock_4 : decode u_M_clock.2.1 4 = .ok (.ifCond .ne 7, 3) := by decide +kernel
theorem d_M_clock_7 : decode u_M_clock.2.1 7 = .ok (.iconst (-1), 1) := by decide +kernel
theorem d_M_clock_8 : decode u_M_clock.2.1 8 = .ok (.goto 39, 3) := by decide +kernel
theorem d_M_clock_11 : decode u_M_clock.2.1 11 = .ok (.iload_n 1, 1) := by decide +kernel
theorem d_M_clock_12 : decode u_M_clock.2.1 12 = .ok (.ifCond .ne 10, 3) := by decide +kernel
theorem d_M_clock_15 : decode u_M_clock.2.1 15 = .ok (.aload_n 0, 1) := by decide +kernel
theorem d_M_clock_16 : decode u_M_clock.2.1 16 = .ok (.getfield 109, 3) := by decide +kernel
theorem d_M_clock_19 : decode u_M_clock.2.1 19 = .ok (.goto 28, 3) := by decide +kernel
theorem d_M_clock_22 : decode u_M_clock.2.1 22 = .ok (.iload_n 1, 1) := by decide +kernel
theorem d_M_clock_23 : decode u_M_clock.2.1 23 = .ok (.iconst 1, 1) := by decide +kernel
theorem d_M_clock_24 : decode u_M_clock.2.1 24 = .ok (.if_icmp .ne 10, 3) := by decide +kernel
theorem d_M_clock_27 : decode u_M_clock.2.1 27 = .ok (.aload_n 0, 1) := by decide +kernel
theorem d_M_clock_28 : decode u_M_clock.2.1 28 = .ok (.getfield 112, 3) := by decide +kernel
theorem d_M_clock_31 : decode u_M_clock.2.1 31 = .ok (.goto 16, 3) := by decide +kernel
theorem d_M_clock_34 : decode u_M_clock.2.1 34 = .ok (.iload_n 1, 1) := by decide +kernel
theorem d_M_clock_35 : decode u_M_clock.2.1 35 = .ok (.iconst 2, 1) := by decide +kernel
theorem d_M_clock_36 : decode u_M_clock.2.1 36 = .ok (.if_icmp .ne 10, 3) := by decide +kernel
theorem d_M_clock_39 : decode u_M_clock.2.1 39 = .ok (.aload_n 0, 1) := by decide +kernel
theorem d_M_clock_40 : decode u_M_clock.2.1 40 = .ok (.getfield 115, 3) := by decide +kernel
theorem d_M_clock_43 : decode u_M_clock.2.1 43 = .ok (.goto 4, 3) := by decide +kernel
theorem d_M_clock_46 : decode u_M_clock.2.1 46 = .ok (.iconst (-1), 1) := by decide +kernel
theorem d_M_clock_47 : decode u_M_clock.2.1 47 = .ok (.ireturn, 1) := by decide +kernel
theorem d_J_floorMod_0 : decode u_J_floorMod.2.1 0 = .ok (.iload_n 0, 1) := by decide +kernel
theorem d_J_floorMod_1 : decode u_J_floorMod.2.1 1 = .ok (.iload_n 1, 1) := by decide +kernel
theorem d_J_floorMod_2 : decode u_J_floorMod.2.1 2 = .ok (.irem, 1) := by decide +kernel
theorem d_J_floorMod_3 : decode u_J_floorMod.2.1 3 = .ok (.istore_n 2, 1) := by decide +kernel
theorem d_J_floorMod_4 : decode u_J_floorMod.2.1 4 = .ok (.iload_n 0, 1) := by decide +kernel
theorem d_J_floorMod_5 : decode u_J_floorMod.2.1 5 = .ok (.iload_n 1, 1) := by decide +kernel
theorem d_J_floorMod_6 : decode u_J_floorMod.2.1 6 = .ok (.ixor, 1) := by decide +kernel
theorem d_J_floorMod_7 : decode u_J_floorMod.2.1 7 = .ok (.ifCond .ge 11, 3) := by decide +kernel
theorem d_J_floorMod_10 : decode u_J_floorMod.2.1 10 = .ok (.iload_n 2, 1) := by decide +kernel
theorem d_J_floorMod_11 : decode u_J_floorMod.2.1 11 = .ok (.ifCond .eq 7, 3) := by decide +kernel
theorem d_J_floorMod_14 : decode u_J_floorMod.2.1 14 = .ok (.iload_n 2, 1) := by decide +kernel
theorem d_J_floorMod_15 : decode u_J_floorMod.2.1 15 = .ok (.iload_n 1, 1) := by decide +kernel
theorem d_J_floorMod_16 : decode u_J_floorMod.2.1 16 = .ok (.iadd, 1) := by decide +kernel
theorem d_J_floorMod_17 : decode u_J_floorMod.2.1 17 = .ok (.ireturn, 1) := by decide +kernel
theorem d_J_floorMod_18 : decode u_J_floorMod.2.1 18 = .ok (.iload_n 2, 1) := by decide +kernel
theorem d_J_floorMod_19 : decode u_J_floorMod.2.1 19 = .ok (.ireturn, 1) := by decide +kernel
theorem d_J_min_0 : decode u_J_min.2.1 0 = .ok (.iload_n 0, 1) := by decide +kernel
theorem d_J_min_1 : decode u_J_min.2.1 1 = .ok (.iload_n 1, 1) := by decide +kernel
theorem d_J_min_2 : decode u_J_min.2.1 2 = .ok (.if_icmp .gt 7, 3) := by decide +kernel
theorem d_J_min_5 : decode u_J_min.2.1 5 = .ok (.iload_n 0, 1) := by decide +kernel
theorem d_J_min_6 : decode u_J_min.2.1 6 = .ok (.goto 4, 3) := by decide +kernel
theorem d_J_min_9 : decode u_J_min.2.1 9 = .ok (.iload_n 1, 1) := by decide +kernel
theorem d_J_min_10 : decode u_J_min.2.1 10 = .ok (.ireturn, 1) := by decide +kernel
theorem d_L_law_0 : decode u_L_law.2.1 0 = .ok (.new 7, 3) := by decide +kernel
theorem d_L_law_3 : decode u_L_law.2.1 3 = .ok (.dup, 1) := by decide +kernel
theorem d_L_law_4 : decode u_L_law.2.1 4 = .ok (.invokespecial 9, 3) := by decide +kernel
theorem d_L_law_7 : decode u_L_law.2.1 7 = .ok (.astore_n 1, 1) := by decide +kernel
theorem d_L_law_8 : decode u_L_law.2.1 8 = .ok (.new 10, 3) := by decide +kernel
theorem d_L_law_11 : decode u_L_law.2.1 11 = .ok (.dup, 1) := by decide +kernel
theorem d_L_law_12 : decode u_L_law.2.1 12 = .ok (.invokespecial 12, 3) := by decide +kernel
theorem d_L_law_15 : decode u_L_law.2.1 15 = .ok (.astore_n 2, 1) := by decide +kernel
theorem d_L_law_16 : decode u_L_law.2.1 16 = .ok (.iconst 0, 1) := by decide +kernel
theorem d_L_law_17 : decode u_L_law.2.1 17 = .ok (.istore_n 3, 1) := by decide +kernel
theorem d_L_law_18 : decode u_L_law.2.1 18 = .ok (.iload_n 3, 1) := by decide +kernel
theorem d_L_law_19 : decode u_L_law.2.1 19 = .ok (.aload_n 0, 1) := by decide +kernel
theorem d_L_law_20 : decode u_L_law.2.1 20 = .ok (.arraylength, 1) := by decide +kernel
theorem d_L_law_21 : decode u_L_law.2.1 21 = .ok (.bipush 6, 2) := by decide +kernel
theorem d_L_law_23 : decode u_L_law.2.1 23 = .ok (.isub, 1) := by decide +kernel
theorem d_L_law_24 : decode u_L_law.2.1 24 = .ok (.if_icmp .gt 511, 3) := by decide +kernel
theorem d_L_law_27 : decode u_L_law.2.1 27 = .ok (.aload_n 0, 1) := by decide +kernel
theorem d_L_law_28 : decode u_L_law.2.1 28 = .ok (.iload_n 3, 1) := by decide +kernel
theorem d_L_law_29 : decode u_L_law.2.1 29 = .ok (.iaload, 1) := by decide +kernel
theorem d_L_law_30 : decode u_L_law.2.1 30 = .ok (.bipush 15, 2) := by decide +kernel
theorem d_L_law_32 : decode u_L_law.2.1 32 = .ok (.iand, 1) := by decide +kernel
theorem d_L_law_33 : decode u_L_law.2.1 33 = .ok (.tableswitch 496 0 12 #[67, 110, 143, 186, 229, 292, 305, 338, 361, 394, 427, 450, 473], 67) := by decide +kernel
theorem d_L_law_100 : decode u_L_law.2.1 100 = .ok (.aload_n 1, 1) := by decide +kernel
theorem d_L_law_101 : decode u_L_law.2.1 101 = .ok (.aload_n 0, 1) := by decide +kernel
theorem d_L_law_102 : decode u_L_law.2.1 102 = .ok (.iload_n 3, 1) := by decide +kernel
theorem d_L_law_103 : decode u_L_law.2.1 103 = .ok (.iconst 1, 1) := by decide +kernel
theorem d_L_law_104 : decode u_L_law.2.1 104 = .ok (.iadd, 1) := by decide +kernel
theorem d_L_law_105 : decode u_L_law.2.1 105 = .ok (.iaload, 1) := by decide +kernel
theorem d_L_law_106 : decode u_L_law.2.1 106 = .ok (.aload_n 0, 1) := by decide +kernel
theorem d_L_law_107 : decode u_L_law.2.1 107 = .ok (.iload_n 3, 1) := by decide +kernel
theorem d_L_law_108 : decode u_L_law.2.1 108 = .ok (.iconst 2, 1) := by decide +kernel
theorem d_L_law_109 : decode u_L_law.2.1 109 = .ok (.iadd, 1) := by decide +kernel
theorem d_L_law_110 : decode u_L_law.2.1 110 = .ok (.iaload, 1) := by decide +kernel
theorem d_L_law_111 : decode u_L_law.2.1 111 = .ok (.aload_n 0, 1) := by decide +kernel
theorem d_L_law_112 : decode u_L_law.2.1 112 = .ok (.iload_n 3, 1) := by decide +kernel
theorem d_L_law_113 : decode u_L_law.2.1 113 = .ok (.iconst 3, 1) := by decide +kernel
theorem d_L_law_114 : decode u_L_law.2.1 114 = .ok (.iadd, 1) := by decide +kernel
theorem d_L_law_115 : decode u_L_law.2.1 115 = .ok (.iaload, 1) := by decide +kernel
theorem d_L_law_116 : decode u_L_law.2.1 116 = .ok (.invokevirtual 13, 3) := by decide +kernel
theorem d_L_law_119 : decode u_L_law.2.1 119 = .ok (.aload_n 2, 1) := by decide +kernel
theorem d_L_law_120 : decode u_L_law.2.1 120 = .ok (.aload_n 0, 1) := by decide +kernel
theorem d_L_law_121 : decode u_L_law.2.1 121 = .ok (.iload_n 3, 1) := by decide +kernel
theorem d_L_law_122 : decode u_L_law.2.1 122 = .ok (.iconst 1, 1) := by decide +kernel
theorem d_L_law_123 : decode u_L_law.2.1 123 = .ok (.iadd, 1) := by decide +kernel
theorem d_L_law_124 : decode u_L_law.2.1 124 = .ok (.iaload, 1) := by decide +kernel
theorem d_L_law_125 : decode u_L_law.2.1 125 = .ok (.aload_n 0, 1) := by decide +kernel
theorem d_L_law_126 : decode u_L_law.2.1 126 = .ok (.iload_n 3, 1) := by decide +kernel
theorem d_L_law_127 : decode u_L_law.2.1 127 = .ok (.iconst 2, 1) := by decide +kernel
theorem d_L_law_128 : decode u_L_law.2.1 128 = .ok (.iadd, 1) := by decide +kernel
theorem d_L_law_129 : decode u_L_law.2.1 129 = .ok (.iaload, 1) := by decide +kernel
theorem d_L_law_130 : decode u_L_law.2.1 130 = .ok (.aload_n 0, 1) := by decide +kernel
theorem d_L_law_131 : decode u_L_law.2.1 131 = .ok (.iload_n 3, 1) := by decide +kernel
theorem d_L_law_132 : decode u_L_law.2.1 132 = .ok (.iconst 3, 1) := by decide +kernel
theorem d_L_law_133 : decode u_L_law.2.1 133 = .ok (.iadd, 1) := by decide +kernel
theorem d_L_law_134 : decode u_L_law.2.1 134 = .ok (.iaload, 1) := by decide +kernel
theorem d_L_law_135 : decode u_L_law.2.1 135 = .ok (.invokevirtual 17, 3) := by decide +kernel
theorem d_L_law_138 : decode u_L_law.2.1 138 = .ok (.if_icmp .eq 391, 3) := by decide +kernel
theorem d_L_law_141 : decode u_L_law.2.1 141 = .ok (.iconst 0, 1) := by decide +kernel
theorem d_L_law_142 : decode u_L_law.2.1 142 = .ok (.ireturn, 1) := by decide +kernel
theorem d_L_law_143 : decode u_L_law.2.1 143 = .ok (.aload_n 1, 1) := by decide +kernel
theorem d_L_law_144 : decode u_L_law.2.1 144 = .ok (.aload_n 0, 1) := by decide +kernel
theorem d_L_law_145 : decode u_L_law.2.1 145 = .ok (.iload_n 3, 1) := by decide +kernel
theorem d_L_law_146 : decode u_L_law.2.1 146 = .ok (.iconst 1, 1) := by decide +kernel
theorem d_L_law_147 : decode u_L_law.2.1 147 = .ok (.iadd, 1) := by decide +kernel
theorem d_L_law_148 : decode u_L_law.2.1 148 = .ok (.iaload, 1) := by decide +kernel
theorem d_L_law_149 : decode u_L_law.2.1 149 = .ok (.aload_n 0, 1) := by decide +kernel
theorem d_L_law_150 : decode u_L_law.2.1 150 = .ok (.iload_n 3, 1) := by decide +kernel
theorem d_L_law_151 : decode u_L_law.2.1 151 = .ok (.iconst 2, 1) := by decide +kernel
theorem d_L_law_152 : decode u_L_law.2.1 152 = .ok (.iadd, 1) := by decide +kernel
theorem d_L_law_153 : decode u_L_law.2.1 153 = .ok (.iaload, 1) := by decide +kernel
theorem d_L_law_154 : decode u_L_law.2.1 154 = .ok (.invokevirtual 18, 3) := by decide +kernel
theorem d_L_law_157 : decode u_L_law.2.1 157 = .ok (.aload_n 2, 1) := by decide +kernel
theorem d_L_law_158 : decode u_L_law.2.1 158 = .ok (.aload_n 0, 1) := by decide +kernel
theorem d_L_law_159 : decode u_L_law.2.1 159 = .ok (.iload_n 3, 1) := by decide +kernel
theorem d_L_law_160 : decode u_L_law.2.1 160 = .ok (.iconst 1, 1) := by decide +kernel
theorem d_L_law_161 : decode u_L_law.2.1 161 = .ok (.iadd, 1) := by decide +kernel
theorem d_L_law_162 : decode u_L_law.2.1 162 = .ok (.iaload, 1) := by decide +kernel
theorem d_L_law_163 : decode u_L_law.2.1 163 = .ok (.aload_n 0, 1) := by decide +kernel
theorem d_L_law_164 : decode u_L_law.2.1 164 = .ok (.iload_n 3, 1) := by decide +kernel
theorem d_L_law_165 : decode u_L_law.2.1 165 = .ok (.iconst 2, 1) := by decide +kernel
theorem d_L_law_166 : decode u_L_law.2.1 166 = .ok (.iadd, 1) := by decide +kernel
theorem d_L_law_167 : decode u_L_law.2.1 167 = .ok (.iaload, 1) := by decide +kernel
theorem d_L_law_168 : decode u_L_law.2.1 168 = .ok (.invokevirtual 22, 3) := by decide +kernel
theorem d_L_law_171 : decode u_L_law.2.1 171 = .ok (.if_icmp .eq 358, 3) := by decide +kernel
theorem d_L_law_174 : decode u_L_law.2.1 174 = .ok (.iconst 0, 1) := by decide +kernel
theorem d_L_law_175 : decode u_L_law.2.1 175 = .ok (.ireturn, 1) := by decide +kernel
theorem d_L_law_176 : decode u_L_law.2.1 176 = .ok (.aload_n 1, 1) := by decide +kernel
theorem d_L_law_177 : decode u_L_law.2.1 177 = .ok (.aload_n 0, 1) := by decide +kernel
theorem d_L_law_178 : decode u_L_law.2.1 178 = .ok (.iload_n 3, 1) := by decide +kernel
theorem d_L_law_179 : decode u_L_law.2.1 179 = .ok (.iconst 1, 1) := by decide +kernel
theorem d_L_law_180 : decode u_L_law.2.1 180 = .ok (.iadd, 1) := by decide +kernel
theorem d_L_law_181 : decode u_L_law.2.1 181 = .ok (.iaload, 1) := by decide +kernel
theorem d_L_law_182 : decode u_L_law.2.1 182 = .ok (.aload_n 0, 1) := by decide +kernel
theorem d_L_law_183 : decode u_L_law.2.1 183 = .ok (.iload_n 3, 1) := by decide +kernel
theorem d_L_law_184 : decode u_L_law.2.1 184 = .ok (.iconst 2, 1) := by decide +kernel
theorem d_L_law_185 : decode u_L_law.2.1 185 = .ok (.iadd, 1) := by decide +kernel
theorem d_L_law_186 : decode u_L_law.2.1 186 = .ok (.iaload, 1) := by decide +kernel
theorem d_L_law_187 : decode u_L_law.2.1 187 = .ok (.aload_n 0, 1) := by decide +kernel
theorem d_L_law_188 : decode u_L_law.2.1 188 = .ok (.iload_n 3, 1) := by decide +kernel
theorem d_L_law_189 : decode u_L_law.2.1 189 = .ok (.iconst 3, 1) := by decide +kernel
theorem d_L_law_190 : decode u_L_law.2.1 190 = .ok (.iadd, 1) := by decide +kernel
theorem d_L_law_191 : decode u_L_law.2.1 191 = .ok (.iaload, 1) := by decide +kernel
theorem d_L_law_192 : decode u_L_law.2.1 192 = .ok (.invokevirtual 23, 3) := by decide +kernel
theorem d_L_law_195 : decode u_L_law.2.1 195 = .ok (.aload_n 2, 1) := by decide +kernel
theorem d_L_law_196 : decode u_L_law.2.1 196 = .ok (.aload_n 0, 1) := by decide +kernel
theorem d_L_law_197 : decode u_L_law.2.1 197 = .ok (.iload_n 3, 1) := by decide +kernel
theorem d_L_law_198 : decode u_L_law.2.1 198 = .ok (.iconst 1, 1) := by decide +kernel
theorem d_L_law_199 : decode u_L_law.2.1 199 = .ok (.iadd, 1) := by decide +kernel
theorem d_L_law_200 : decode u_L_law.2.1 200 = .ok (.iaload, 1) := by decide +kernel
theorem d_L_law_201 : decode u_L_law.2.1 201 = .ok (.aload_n 0, 1) := by decide +kernel
theorem d_L_law_202 : decode u_L_law.2.1 202 = .ok (.iload_n 3, 1) := by decide +kernel
theorem d_L_law_203 : decode u_L_law.2.1 203 = .ok (.iconst 2, 1) := by decide +kernel
theorem d_L_law_204 : decode u_L_law.2.1 204 = .ok (.iadd, 1) := by decide +kernel
theorem d_L_law_205 : decode u_L_law.2.1 205 = .ok (.iaload, 1) := by decide +kernel
theorem d_L_law_206 : decode u_L_law.2.1 206 = .ok (.aload_n 0, 1) := by decide +kernel
theorem d_L_law_207 : decode u_L_law.2.1 207 = .ok (.iload_n 3, 1) := by decide +kernel
theorem d_L_law_208 : decode u_L_law.2.1 208 = .ok (.iconst 3, 1) := by decide +kernel
theorem d_L_law_209 : decode u_L_law.2.1 209 = .ok (.iadd, 1) := by decide +kernel
theorem d_L_law_210 : decode u_L_law.2.1 210 = .ok (.iaload, 1) := by decide +kernel
theorem d_L_law_211 : decode u_L_law.2.1 211 = .ok (.invokevirtual 27, 3) := by decide +kernel
theorem d_L_law_214 : decode u_L_law.2.1 214 = .ok (.if_icmp .eq 315, 3) := by decide +kernel
theorem d_L_law_217 : decode u_L_law.2.1 217 = .ok (.iconst 0, 1) := by decide +kernel
theorem d_L_law_218 : decode u_L_law.2.1 218 = .ok (.ireturn, 1) := by decide +kernel
theorem d_L_law_219 : decode u_L_law.2.1 219 = .ok (.aload_n 1, 1) := by decide +kernel
theorem d_L_law_220 : decode u_L_law.2.1 220 = .ok (.aload_n 0, 1) := by decide +kernel
theorem d_L_law_221 : decode u_L_law.2.1 221 = .ok (.iload_n 3, 1) := by decide +kernel
theorem d_L_law_222 : decode u_L_law.2.1 222 = .ok (.iconst 1, 1) := by decide +kernel
theorem d_L_law_223 : decode u_L_law.2.1 223 = .ok (.iadd, 1) := by decide +kernel
theorem d_L_law_224 : decode u_L_law.2.1 224 = .ok (.iaload, 1) := by decide +kernel
theorem d_L_law_225 : decode u_L_law.2.1 225 = .ok (.aload_n 0, 1) := by decide +kernel
theorem d_L_law_226 : decode u_L_law.2.1 226 = .ok (.iload_n 3, 1) := by decide +kernel
theorem d_L_law_227 : decode u_L_law.2.1 227 = .ok (.iconst 2, 1) := by decide +kernel
theorem d_L_law_228 : decode u_L_law.2.1 228 = .ok (.iadd, 1) := by decide +kernel
theorem d_L_law_229 : decode u_L_law.2.1 229 = .ok (.iaload, 1) := by decide +kernel
theorem d_L_law_230 : decode u_L_law.2.1 230 = .ok (.aload_n 0, 1) := by decide +kernel
theorem d_L_law_231 : decode u_L_law.2.1 231 = .ok (.iload_n 3, 1) := by decide +kernel
theorem d_L_law_232 : decode u_L_law.2.1 232 = .ok (.iconst 3, 1) := by decide +kernel
theorem d_L_law_233 : decode u_L_law.2.1 233 = .ok (.iadd, 1) := by decide +kernel
theorem d_L_law_234 : decode u_L_law.2.1 234 = .ok (.iaload, 1) := by decide +kernel
theorem d_L_law_235 : decode u_L_law.2.1 235 = .ok (.invokevirtual 28, 3) := by decide +kernel
theorem d_L_law_238 : decode u_L_law.2.1 238 = .ok (.aload_n 2, 1) := by decide +kernel
theorem d_L_law_239 : decode u_L_law.2.1 239 = .ok (.aload_n 0, 1) := by decide +kernel
theorem d_L_law_240 : decode u_L_law.2.1 240 = .ok (.iload_n 3, 1) := by decide +kernel
theorem d_L_law_241 : decode u_L_law.2.1 241 = .ok (.iconst 1, 1) := by decide +kernel
theorem d_L_law_242 : decode u_L_law.2.1 242 = .ok (.iadd, 1) := by decide +kernel
theorem d_L_law_243 : decode u_L_law.2.1 243 = .ok (.iaload, 1) := by decide +kernel
theorem d_L_law_244 : decode u_L_law.2.1 244 = .ok (.aload_n 0, 1) := by decide +kernel
theorem d_L_law_245 : decode u_L_law.2.1 245 = .ok (.iload_n 3, 1) := by decide +kernel
theorem d_L_law_246 : decode u_L_law.2.1 246 = .ok (.iconst 2, 1) := by decide +kernel
theorem d_L_law_247 : decode u_L_law.2.1 247 = .ok (.iadd, 1) := by decide +kernel
theorem d_L_law_248 : decode u_L_law.2.1 248 = .ok (.iaload, 1) := by decide +kernel
theorem d_L_law_249 : decode u_L_law.2.1 249 = .ok (.aload_n 0, 1) := by decide +kernel
theorem d_L_law_250 : decode u_L_law.2.1 250 = .ok (.iload_n 3, 1) := by decide +kernel
theorem d_L_law_251 : decode u_L_law.2.1 251 = .ok (.iconst 3, 1) := by decide +kernel
theorem d_L_law_252 : decode u_L_law.2.1 252 = .ok (.iadd, 1) := by decide +kernel
theorem d_L_law_253 : decode u_L_law.2.1 253 = .ok (.iaload, 1) := by decide +kernel
theorem d_L_law_254 : decode u_L_law.2.1 254 = .ok (.invokevirtual 31, 3) := by decide +kernel
theorem d_L_law_257 : decode u_L_law.2.1 257 = .ok (.if_icmp .eq 272, 3) := by decide +kernel
theorem d_L_law_260 : decode u_L_law.2.1 260 = .ok (.iconst 0, 1) := by decide +kernel
theorem d_L_law_261 : decode u_L_law.2.1 261 = .ok (.ireturn, 1) := by decide +kernel
theorem d_L_law_262 : decode u_L_law.2.1 262 = .ok (.aload_n 1, 1) := by decide +kernel
theorem d_L_law_263 : decode u_L_law.2.1 263 = .ok (.aload_n 0, 1) := by decide +kernel
theorem d_L_law_264 : decode u_L_law.2.1 264 = .ok (.iload_n 3, 1) := by decide +kernel
theorem d_L_law_265 : decode u_L_law.2.1 265 = .ok (.iconst 1, 1) := by decide +kernel
theorem d_L_law_266 : decode u_L_law.2.1 266 = .ok (.iadd, 1) := by decide +kernel
theorem d_L_law_267 : decode u_L_law.2.1 267 = .ok (.iaload, 1) := by decide +kernel
theorem d_L_law_268 : decode u_L_law.2.1 268 = .ok (.aload_n 0, 1) := by decide +kernel
theorem d_L_law_269 : decode u_L_law.2.1 269 = .ok (.iload_n 3, 1) := by decide +kernel
theorem d_L_law_270 : decode u_L_law.2.1 270 = .ok (.iconst 2, 1) := by decide +kernel
theorem d_L_law_271 : decode u_L_law.2.1 271 = .ok (.iadd, 1) := by decide +kernel
theorem d_L_law_272 : decode u_L_law.2.1 272 = .ok (.iaload, 1) := by decide +kernel
theorem d_L_law_273 : decode u_L_law.2.1 273 = .ok (.aload_n 0, 1) := by decide +kernel
theorem d_L_law_274 : decode u_L_law.2.1 274 = .ok (.iload_n 3, 1) := by decide +kernel
theorem d_L_law_275 : decode u_L_law.2.1 275 = .ok (.iconst 3, 1) := by decide +kernel
theorem d_L_law_276 : decode u_L_law.2.1 276 = .ok (.iadd, 1) := by decide +kernel
theorem d_L_law_277 : decode u_L_law.2.1 277 = .ok (.iaload, 1) := by decide +kernel
theorem d_L_law_278 : decode u_L_law.2.1 278 = .ok (.aload_n 0, 1) := by decide +kernel
theorem d_L_law_279 : decode u_L_law.2.1 279 = .ok (.iload_n 3, 1) := by decide +kernel
theorem d_L_law_280 : decode u_L_law.2.1 280 = .ok (.iconst 4, 1) := by decide +kernel
theorem d_L_law_281 : decode u_L_law.2.1 281 = .ok (.iadd, 1) := by decide +kernel
theorem d_L_law_282 : decode u_L_law.2.1 282 = .ok (.iaload, 1) := by decide +kernel
theorem d_L_law_283 : decode u_L_law.2.1 283 = .ok (.aload_n 0, 1) := by decide +kernel
theorem d_L_law_284 : decode u_L_law.2.1 284 = .ok (.iload_n 3, 1) := by decide +kernel
theorem d_L_law_285 : decode u_L_law.2.1 285 = .ok (.iconst 5, 1) := by decide +kernel
theorem d_L_law_286 : decode u_L_law.2.1 286 = .ok (.iadd, 1) := by decide +kernel
theorem d_L_law_287 : decode u_L_law.2.1 287 = .ok (.iaload, 1) := by decide +kernel
theorem d_L_law_288 : decode u_L_law.2.1 288 = .ok (.invokevirtual 32, 3) := by decide +kernel
theorem d_L_law_291 : decode u_L_law.2.1 291 = .ok (.aload_n 2, 1) := by decide +kernel
theorem d_L_law_292 : decode u_L_law.2.1 292 = .ok (.aload_n 0, 1) := by decide +kernel
theorem d_L_law_293 : decode u_L_law.2.1 293 = .ok (.iload_n 3, 1) := by decide +kernel
theorem d_L_law_294 : decode u_L_law.2.1 294 = .ok (.iconst 1, 1) := by decide +kernel
theorem d_L_law_295 : decode u_L_law.2.1 295 = .ok (.iadd, 1) := by decide +kernel
theorem d_L_law_296 : decode u_L_law.2.1 296 = .ok (.iaload, 1) := by decide +kernel
theorem d_L_law_297 : decode u_L_law.2.1 297 = .ok (.aload_n 0, 1) := by decide +kernel
theorem d_L_law_298 : decode u_L_law.2.1 298 = .ok (.iload_n 3, 1) := by decide +kernel
theorem d_L_law_299 : decode u_L_law.2.1 299 = .ok (.iconst 2, 1) := by decide +kernel
theorem d_L_law_300 : decode u_L_law.2.1 300 = .ok (.iadd, 1) := by decide +kernel
theorem d_L_law_301 : decode u_L_law.2.1 301 = .ok (.iaload, 1) := by decide +kernel
theorem d_L_law_302 : decode u_L_law.2.1 302 = .ok (.aload_n 0, 1) := by decide +kernel
theorem d_L_law_303 : decode u_L_law.2.1 303 = .ok (.iload_n 3, 1) := by decide +kernel
theorem d_L_law_304 : decode u_L_law.2.1 304 = .ok (.iconst 3, 1) := by decide +kernel
theorem d_L_law_305 : decode u_L_law.2.1 305 = .ok (.iadd, 1) := by decide +kernel
theorem d_L_law_306 : decode u_L_law.2.1 306 = .ok (.iaload, 1) := by decide +kernel
theorem d_L_law_307 : decode u_L_law.2.1 307 = .ok (.aload_n 0, 1) := by decide +kernel
theorem d_L_law_308 : decode u_L_law.2.1 308 = .ok (.iload_n 3, 1) := by decide +kernel
theorem d_L_law_309 : decode u_L_law.2.1 309 = .ok (.iconst 4, 1) := by decide +kernel
theorem d_L_law_310 : decode u_L_law.2.1 310 = .ok (.iadd, 1) := by decide +kernel
theorem d_L_law_311 : decode u_L_law.2.1 311 = .ok (.iaload, 1) := by decide +kernel
theorem d_L_law_312 : decode u_L_law.2.1 312 = .ok (.aload_n 0, 1) := by decide +kernel
theorem d_L_law_313 : decode u_L_law.2.1 313 = .ok (.iload_n 3, 1) := by decide +kernel
theorem d_L_law_314 : decode u_L_law.2.1 314 = .ok (.iconst 5, 1) := by decide +kernel
theorem d_L_law_315 : decode u_L_law.2.1 315 = .ok (.iadd, 1) := by decide +kernel
theorem d_L_law_316 : decode u_L_law.2.1 316 = .ok (.iaload, 1) := by decide +kernel
theorem d_L_law_317 : decode u_L_law.2.1 317 = .ok (.invokevirtual 36, 3) := by decide +kernel
theorem d_L_law_320 : decode u_L_law.2.1 320 = .ok (.if_icmp .eq 209, 3) := by decide +kernel
theorem d_L_law_323 : decode u_L_law.2.1 323 = .ok (.iconst 0, 1) := by decide +kernel
theorem d_L_law_324 : decode u_L_law.2.1 324 = .ok (.ireturn, 1) := by decide +kernel
theorem d_L_law_325 : decode u_L_law.2.1 325 = .ok (.aload_n 1, 1) := by decide +kernel
theorem d_L_law_326 : decode u_L_law.2.1 326 = .ok (.invokevirtual 37, 3) := by decide +kernel
theorem d_L_law_329 : decode u_L_law.2.1 329 = .ok (.aload_n 2, 1) := by decide +kernel
theorem d_L_law_330 : decode u_L_law.2.1 330 = .ok (.invokevirtual 41, 3) := by decide +kernel
theorem d_L_law_333 : decode u_L_law.2.1 333 = .ok (.if_icmp .eq 196, 3) := by decide +kernel
theorem d_L_law_336 : decode u_L_law.2.1 336 = .ok (.iconst 0, 1) := by decide +kernel
theorem d_L_law_337 : decode u_L_law.2.1 337 = .ok (.ireturn, 1) := by decide +kernel
theorem d_L_law_338 : decode u_L_law.2.1 338 = .ok (.aload_n 1, 1) := by decide +kernel
theorem d_L_law_339 : decode u_L_law.2.1 339 = .ok (.aload_n 0, 1) := by decide +kernel
theorem d_L_law_340 : decode u_L_law.2.1 340 = .ok (.iload_n 3, 1) := by decide +kernel
theorem d_L_law_341 : decode u_L_law.2.1 341 = .ok (.iconst 1, 1) := by decide +kernel
theorem d_L_law_342 : decode u_L_law.2.1 342 = .ok (.iadd, 1) := by decide +kernel
theorem d_L_law_343 : decode u_L_law.2.1 343 = .ok (.iaload, 1) := by decide +kernel
theorem d_L_law_344 : decode u_L_law.2.1 344 = .ok (.aload_n 0, 1) := by decide +kernel
theorem d_L_law_345 : decode u_L_law.2.1 345 = .ok (.iload_n 3, 1) := by decide +kernel
theorem d_L_law_346 : decode u_L_law.2.1 346 = .ok (.iconst 2, 1) := by decide +kernel
theorem d_L_law_347 : decode u_L_law.2.1 347 = .ok (.iadd, 1) := by decide +kernel
theorem d_L_law_348 : decode u_L_law.2.1 348 = .ok (.iaload, 1) := by decide +kernel
theorem d_L_law_349 : decode u_L_law.2.1 349 = .ok (.invokevirtual 42, 3) := by decide +kernel
theorem d_L_law_352 : decode u_L_law.2.1 352 = .ok (.aload_n 2, 1) := by decide +kernel
theorem d_L_law_353 : decode u_L_law.2.1 353 = .ok (.aload_n 0, 1) := by decide +kernel
theorem d_L_law_354 : decode u_L_law.2.1 354 = .ok (.iload_n 3, 1) := by decide +kernel
theorem d_L_law_355 : decode u_L_law.2.1 355 = .ok (.iconst 1, 1) := by decide +kernel
theorem d_L_law_356 : decode u_L_law.2.1 356 = .ok (.iadd, 1) := by decide +kernel
theorem d_L_law_357 : decode u_L_law.2.1 357 = .ok (.iaload, 1) := by decide +kernel
theorem d_L_law_358 : decode u_L_law.2.1 358 = .ok (.aload_n 0, 1) := by decide +kernel
theorem d_L_law_359 : decode u_L_law.2.1 359 = .ok (.iload_n 3, 1) := by decide +kernel
theorem d_L_law_360 : decode u_L_law.2.1 360 = .ok (.iconst 2, 1) := by decide +kernel
theorem d_L_law_361 : decode u_L_law.2.1 361 = .ok (.iadd, 1) := by decide +kernel
theorem d_L_law_362 : decode u_L_law.2.1 362 = .ok (.iaload, 1) := by decide +kernel
theorem d_L_law_363 : decode u_L_law.2.1 363 = .ok (.invokevirtual 46, 3) := by decide +kernel
theorem d_L_law_366 : decode u_L_law.2.1 366 = .ok (.if_icmp .eq 163, 3) := by decide +kernel
theorem d_L_law_369 : decode u_L_law.2.1 369 = .ok (.iconst 0, 1) := by decide +kernel
theorem d_L_law_370 : decode u_L_law.2.1 370 = .ok (.ireturn, 1) := by decide +kernel
theorem d_L_law_371 : decode u_L_law.2.1 371 = .ok (.aload_n 1, 1) := by decide +kernel
theorem d_L_law_372 : decode u_L_law.2.1 372 = .ok (.aload_n 0, 1) := by decide +kernel
theorem d_L_law_373 : decode u_L_law.2.1 373 = .ok (.iload_n 3, 1) := by decide +kernel
theorem d_L_law_374 : decode u_L_law.2.1 374 = .ok (.iconst 1, 1) := by decide +kernel
theorem d_L_law_375 : decode u_L_law.2.1 375 = .ok (.iadd, 1) := by decide +kernel
theorem d_L_law_376 : decode u_L_law.2.1 376 = .ok (.iaload, 1) := by decide +kernel
theorem d_L_law_377 : decode u_L_law.2.1 377 = .ok (.invokevirtual 47, 3) := by decide +kernel
theorem d_L_law_380 : decode u_L_law.2.1 380 = .ok (.aload_n 2, 1) := by decide +kernel
theorem d_L_law_381 : decode u_L_law.2.1 381 = .ok (.aload_n 0, 1) := by decide +kernel
theorem d_L_law_382 : decode u_L_law.2.1 382 = .ok (.iload_n 3, 1) := by decide +kernel
theorem d_L_law_383 : decode u_L_law.2.1 383 = .ok (.iconst 1, 1) := by decide +kernel
theorem d_L_law_384 : decode u_L_law.2.1 384 = .ok (.iadd, 1) := by decide +kernel
theorem d_L_law_385 : decode u_L_law.2.1 385 = .ok (.iaload, 1) := by decide +kernel
theorem d_L_law_386 : decode u_L_law.2.1 386 = .ok (.invokevirtual 51, 3) := by decide +kernel
theorem d_L_law_389 : decode u_L_law.2.1 389 = .ok (.if_icmp .eq 140, 3) := by decide +kernel
theorem d_L_law_392 : decode u_L_law.2.1 392 = .ok (.iconst 0, 1) := by decide +kernel
theorem d_L_law_393 : decode u_L_law.2.1 393 = .ok (.ireturn, 1) := by decide +kernel
theorem d_L_law_394 : decode u_L_law.2.1 394 = .ok (.aload_n 1, 1) := by decide +kernel
theorem d_L_law_395 : decode u_L_law.2.1 395 = .ok (.aload_n 0, 1) := by decide +kernel
theorem d_L_law_396 : decode u_L_law.2.1 396 = .ok (.iload_n 3, 1) := by decide +kernel
theorem d_L_law_397 : decode u_L_law.2.1 397 = .ok (.iconst 1, 1) := by decide +kernel
theorem d_L_law_398 : decode u_L_law.2.1 398 = .ok (.iadd, 1) := by decide +kernel
theorem d_L_law_399 : decode u_L_law.2.1 399 = .ok (.iaload, 1) := by decide +kernel
theorem d_L_law_400 : decode u_L_law.2.1 400 = .ok (.aload_n 0, 1) := by decide +kernel
theorem d_L_law_401 : decode u_L_law.2.1 401 = .ok (.iload_n 3, 1) := by decide +kernel
theorem d_L_law_402 : decode u_L_law.2.1 402 = .ok (.iconst 2, 1) := by decide +kernel
theorem d_L_law_403 : decode u_L_law.2.1 403 = .ok (.iadd, 1) := by decide +kernel
theorem d_L_law_404 : decode u_L_law.2.1 404 = .ok (.iaload, 1) := by decide +kernel
theorem d_L_law_405 : decode u_L_law.2.1 405 = .ok (.invokevirtual 52, 3) := by decide +kernel
theorem d_L_law_408 : decode u_L_law.2.1 408 = .ok (.aload_n 2, 1) := by decide +kernel
theorem d_L_law_409 : decode u_L_law.2.1 409 = .ok (.aload_n 0, 1) := by decide +kernel
theorem d_L_law_410 : decode u_L_law.2.1 410 = .ok (.iload_n 3, 1) := by decide +kernel
theorem d_L_law_411 : decode u_L_law.2.1 411 = .ok (.iconst 1, 1) := by decide +kernel
theorem d_L_law_412 : decode u_L_law.2.1 412 = .ok (.iadd, 1) := by decide +kernel
theorem d_L_law_413 : decode u_L_law.2.1 413 = .ok (.iaload, 1) := by decide +kernel
theorem d_L_law_414 : decode u_L_law.2.1 414 = .ok (.aload_n 0, 1) := by decide +kernel
theorem d_L_law_415 : decode u_L_law.2.1 415 = .ok (.iload_n 3, 1) := by decide +kernel
theorem d_L_law_416 : decode u_L_law.2.1 416 = .ok (.iconst 2, 1) := by decide +kernel
theorem d_L_law_417 : decode u_L_law.2.1 417 = .ok (.iadd, 1) := by decide +kernel
theorem d_L_law_418 : decode u_L_law.2.1 418 = .ok (.iaload, 1) := by decide +kernel
theorem d_L_law_419 : decode u_L_law.2.1 419 = .ok (.invokevirtual 55, 3) := by decide +kernel
theorem d_L_law_422 : decode u_L_law.2.1 422 = .ok (.if_icmp .eq 107, 3) := by decide +kernel
theorem d_L_law_425 : decode u_L_law.2.1 425 = .ok (.iconst 0, 1) := by decide +kernel
theorem d_L_law_426 : decode u_L_law.2.1 426 = .ok (.ireturn, 1) := by decide +kernel
theorem d_L_law_427 : decode u_L_law.2.1 427 = .ok (.aload_n 1, 1) := by decide +kernel
theorem d_L_law_428 : decode u_L_law.2.1 428 = .ok (.aload_n 0, 1) := by decide +kernel
theorem d_L_law_429 : decode u_L_law.2.1 429 = .ok (.iload_n 3, 1) := by decide +kernel
theorem d_L_law_430 : decode u_L_law.2.1 430 = .ok (.iconst 1, 1) := by decide +kernel
theorem d_L_law_431 : decode u_L_law.2.1 431 = .ok (.iadd, 1) := by decide +kernel
theorem d_L_law_432 : decode u_L_law.2.1 432 = .ok (.iaload, 1) := by decide +kernel
theorem d_L_law_433 : decode u_L_law.2.1 433 = .ok (.aload_n 0, 1) := by decide +kernel
theorem d_L_law_434 : decode u_L_law.2.1 434 = .ok (.iload_n 3, 1) := by decide +kernel
theorem d_L_law_435 : decode u_L_law.2.1 435 = .ok (.iconst 2, 1) := by decide +kernel
theorem d_L_law_436 : decode u_L_law.2.1 436 = .ok (.iadd, 1) := by decide +kernel
theorem d_L_law_437 : decode u_L_law.2.1 437 = .ok (.iaload, 1) := by decide +kernel
theorem d_L_law_438 : decode u_L_law.2.1 438 = .ok (.invokevirtual 56, 3) := by decide +kernel
theorem d_L_law_441 : decode u_L_law.2.1 441 = .ok (.aload_n 2, 1) := by decide +kernel
theorem d_L_law_442 : decode u_L_law.2.1 442 = .ok (.aload_n 0, 1) := by decide +kernel
theorem d_L_law_443 : decode u_L_law.2.1 443 = .ok (.iload_n 3, 1) := by decide +kernel
theorem d_L_law_444 : decode u_L_law.2.1 444 = .ok (.iconst 1, 1) := by decide +kernel
theorem d_L_law_445 : decode u_L_law.2.1 445 = .ok (.iadd, 1) := by decide +kernel
theorem d_L_law_446 : decode u_L_law.2.1 446 = .ok (.iaload, 1) := by decide +kernel
theorem d_L_law_447 : decode u_L_law.2.1 447 = .ok (.aload_n 0, 1) := by decide +kernel
theorem d_L_law_448 : decode u_L_law.2.1 448 = .ok (.iload_n 3, 1) := by decide +kernel
theorem d_L_law_449 : decode u_L_law.2.1 449 = .ok (.iconst 2, 1) := by decide +kernel
theorem d_L_law_450 : decode u_L_law.2.1 450 = .ok (.iadd, 1) := by decide +kernel
theorem d_L_law_451 : decode u_L_law.2.1 451 = .ok (.iaload, 1) := by decide +kernel
theorem d_L_law_452 : decode u_L_law.2.1 452 = .ok (.invokevirtual 59, 3) := by decide +kernel
theorem d_L_law_455 : decode u_L_law.2.1 455 = .ok (.if_icmp .eq 74, 3) := by decide +kernel
theorem d_L_law_458 : decode u_L_law.2.1 458 = .ok (.iconst 0, 1) := by decide +kernel
theorem d_L_law_459 : decode u_L_law.2.1 459 = .ok (.ireturn, 1) := by decide +kernel
theorem d_L_law_460 : decode u_L_law.2.1 460 = .ok (.aload_n 1, 1) := by decide +kernel
theorem d_L_law_461 : decode u_L_law.2.1 461 = .ok (.aload_n 0, 1) := by decide +kernel
theorem d_L_law_462 : decode u_L_law.2.1 462 = .ok (.iload_n 3, 1) := by decide +kernel
theorem d_L_law_463 : decode u_L_law.2.1 463 = .ok (.iconst 1, 1) := by decide +kernel
theorem d_L_law_464 : decode u_L_law.2.1 464 = .ok (.iadd, 1) := by decide +kernel
theorem d_L_law_465 : decode u_L_law.2.1 465 = .ok (.iaload, 1) := by decide +kernel
theorem d_L_law_466 : decode u_L_law.2.1 466 = .ok (.invokevirtual 60, 3) := by decide +kernel
theorem d_L_law_469 : decode u_L_law.2.1 469 = .ok (.aload_n 2, 1) := by decide +kernel
theorem d_L_law_470 : decode u_L_law.2.1 470 = .ok (.aload_n 0, 1) := by decide +kernel
theorem d_L_law_471 : decode u_L_law.2.1 471 = .ok (.iload_n 3, 1) := by decide +kernel
theorem d_L_law_472 : decode u_L_law.2.1 472 = .ok (.iconst 1, 1) := by decide +kernel
theorem d_L_law_473 : decode u_L_law.2.1 473 = .ok (.iadd, 1) := by decide +kernel
theorem d_L_law_474 : decode u_L_law.2.1 474 = .ok (.iaload, 1) := by decide +kernel
theorem d_L_law_475 : decode u_L_law.2.1 475 = .ok (.invokevirtual 63, 3) := by decide +kernel
theorem d_L_law_478 : decode u_L_law.2.1 478 = .ok (.if_icmp .eq 51, 3) := by decide +kernel
theorem d_L_law_481 : decode u_L_law.2.1 481 = .ok (.iconst 0, 1) := by decide +kernel
theorem d_L_law_482 : decode u_L_law.2.1 482 = .ok (.ireturn, 1) := by decide +kernel
theorem d_L_law_483 : decode u_L_law.2.1 483 = .ok (.aload_n 1, 1) := by decide +kernel
theorem d_L_law_484 : decode u_L_law.2.1 484 = .ok (.aload_n 0, 1) := by decide +kernel
theorem d_L_law_485 : decode u_L_law.2.1 485 = .ok (.iload_n 3, 1) := by decide +kernel
theorem d_L_law_486 : decode u_L_law.2.1 486 = .ok (.iconst 1, 1) := by decide +kernel
theorem d_L_law_487 : decode u_L_law.2.1 487 = .ok (.iadd, 1) := by decide +kernel
theorem d_L_law_488 : decode u_L_law.2.1 488 = .ok (.iaload, 1) := by decide +kernel
theorem d_L_law_489 : decode u_L_law.2.1 489 = .ok (.invokevirtual 64, 3) := by decide +kernel
theorem d_L_law_492 : decode u_L_law.2.1 492 = .ok (.aload_n 2, 1) := by decide +kernel
theorem d_L_law_493 : decode u_L_law.2.1 493 = .ok (.aload_n 0, 1) := by decide +kernel
theorem d_L_law_494 : decode u_L_law.2.1 494 = .ok (.iload_n 3, 1) := by decide +kernel
theorem d_L_law_495 : decode u_L_law.2.1 495 = .ok (.iconst 1, 1) := by decide +kernel
theorem d_L_law_496 : decode u_L_law.2.1 496 = .ok (.iadd, 1) := by decide +kernel
theorem d_L_law_497 : decode u_L_law.2.1 497 = .ok (.iaload, 1) := by decide +kernel
theorem d_L_law_498 : decode u_L_law.2.1 498 = .ok (.invokevirtual 67, 3) := by decide +kernel
theorem d_L_law_501 : decode u_L_law.2.1 501 = .ok (.if_icmp .eq 28, 3) := by decide +kernel
theorem d_L_law_504 : decode u_L_law.2.1 504 = .ok (.iconst 0, 1) := by decide +kernel
theorem d_L_law_505 : decode u_L_law.2.1 505 = .ok (.ireturn, 1) := by decide +kernel
theorem d_L_law_506 : decode u_L_law.2.1 506 = .ok (.aload_n 1, 1) := by decide +kernel
theorem d_L_law_507 : decode u_L_law.2.1 507 = .ok (.aload_n 0, 1) := by decide +kernel
theorem d_L_law_508 : decode u_L_law.2.1 508 = .ok (.iload_n 3, 1) := by decide +kernel
theorem d_L_law_509 : decode u_L_law.2.1 509 = .ok (.iconst 1, 1) := by decide +kernel
theorem d_L_law_510 : decode u_L_law.2.1 510 = .ok (.iadd, 1) := by decide +kernel
theorem d_L_law_511 : decode u_L_law.2.1 511 = .ok (.iaload, 1) := by decide +kernel
theorem d_L_law_512 : decode u_L_law.2.1 512 = .ok (.invokevirtual 68, 3) := by decide +kernel
theorem d_L_law_515 : decode u_L_law.2.1 515 = .ok (.aload_n 2, 1) := by decide +kernel
theorem d_L_law_516 : decode u_L_law.2.1 516 = .ok (.aload_n 0, 1) := by decide +kernel
theorem d_L_law_517 : decode u_L_law.2.1 517 = .ok (.iload_n 3, 1) := by decide +kernel
theorem d_L_law_518 : decode u_L_law.2.1 518 = .ok (.iconst 1, 1) := by decide +kernel
theorem d_L_law_519 : decode u_L_law.2.1 519 = .ok (.iadd, 1) := by decide +kernel
theorem d_L_law_520 : decode u_L_law.2.1 520 = .ok (.iaload, 1) := by decide +kernel
theorem d_L_law_521 : decode u_L_law.2.1 521 = .ok (.invokevirtual 71, 3) := by decide +kernel
theorem d_L_law_524 : decode u_L_law.2.1 524 = .ok (.if_icmp .eq 5, 3) := by decide +kernel
theorem d_L_law_527 : decode u_L_law.2.1 527 = .ok (.iconst 0, 1) := by decide +kernel
theorem d_L_law_528 : decode u_L_law.2.1 528 = .ok (.ireturn, 1) := by decide +kernel
theorem d_L_law_529 : decode u_L_law.2.1 529 = .ok (.iinc 3 6, 3) := by decide +kernel
theorem d_L_law_532 : decode u_L_law.2.1 532 = .ok (.goto (-514), 3) := by decide +kernel
theorem d_L_law_535 : decode u_L_law.2.1 535 = .ok (.iconst 1, 1) := by decide +kernel
theorem d_L_law_536 : decode u_L_law.2.1 536 = .ok (.ireturn, 1) := by decide +kernel
end
section
theorem lay0 : LayOK 0 := ⟨rfl, lay0_w, by decide +kernel, by decide +kernel, rfl⟩
theorem lay1 : LayOK 1 := ⟨rfl, lay1_w, by decide +kernel, by decide +kernel, rfl⟩
theorem lay2 : LayOK 2 := ⟨rfl, lay2_w, by decide +kernel, by decide +kernel, rfl⟩
theorem lay3 : LayOK 3 := ⟨rfl, lay3_w, by decide +kernel, by decide +kernel, rfl⟩
theorem lay4 : LayOK 4 := ⟨rfl, lay4_w, by decide +kernel, by decide +kernel, rfl⟩
theorem lay5 : LayOK 5 := ⟨rfl, lay5_w, by decide +kernel, by decide +kernel, rfl⟩
theorem q_65 : (.fieldLink "PartitionDesk" 9 "PartitionDesk" "memory" "[I" : Cond) ∈ AllW := aw 174 (by decide +kernel) rfl
theorem f_D_9 : FR "PartitionDesk" 9 0 0 := ⟨lay0, by decide, q_65⟩
theorem q_66 : (.fieldLink "PartitionDesk" 15 "PartitionDesk" "partitions" "[LPartitionDesk$Partition;" : Cond) ∈ AllW := aw 175 (by decide +kernel) rfl
theorem f_D_15 : FR "PartitionDesk" 15 0 1 := ⟨lay0, by decide, q_66⟩
theorem q_67 : (.code ⟨"PartitionDesk$Partition", "<init>", "()V"⟩ prog_3_method_1_code 1 none : Cond) ∈ AllW := aw 44 (by decide +kernel) rfl
theorem q_68 : (.initialized "PartitionDesk$Partition" : Cond) ∈ AllW := aw 25 (by decide +kernel) rfl
theorem k_P_init : CodeOK u_P_init 0 := ⟨q_67, q_68, by decide, by decide, by decide, by decide +kernel⟩
theorem q_69 : (.methodLink "PartitionDesk" 19 ⟨"PartitionDesk$Partition", "<init>", "()V"⟩ : Cond) ∈ AllW := aw 42 (by decide +kernel) rfl
theorem q_70 : (.instanceMethod ⟨"PartitionDesk$Partition", "<init>", "()V"⟩ : Cond) ∈ AllW := aw 43 (by decide +kernel) rfl
theorem g_D_19 : CallI "PartitionDesk" 19 u_P_init 0 := ⟨k_P_init, q_69, q_70, rfl, rfl⟩
theorem q_71 : (.fieldLink "PartitionDesk" 22 "PartitionDesk" "ports" "[LPartitionDesk$Port;" : Cond) ∈ AllW := aw 176 (by decide +kernel) rfl
theorem f_D_22 : FR "PartitionDesk" 22 0 2 := ⟨lay0, by decide, q_71⟩
theorem q_72 : (.code ⟨"PartitionDesk$Port", "<init>", "()V"⟩ prog_4_method_1_code 1 none : Cond) ∈ AllW := aw 122 (by decide +kernel) rfl
theorem q_73 : (.initialized "PartitionDesk$Port" : Cond) ∈ AllW := aw 27 (by decide +kernel) rfl
theorem k_Q_init : CodeOK u_Q_init 0 := ⟨q_72, q_73, by decide, by decide, by decide, by decide +kernel⟩
theorem q_74 : (.methodLink "PartitionDesk" 26 ⟨"PartitionDesk$Port", "<init>", "()V"⟩ : Cond) ∈ AllW := aw 120 (by decide +kernel) rfl
theorem q_75 : (.instanceMethod ⟨"PartitionDesk$Port", "<init>", "()V"⟩ : Cond) ∈ AllW := aw 121 (by decide +kernel) rfl
theorem g_D_26 : CallI "PartitionDesk" 26 u_Q_init 0 := ⟨k_Q_init, q_74, q_75, rfl, rfl⟩
theorem q_76 : (.code ⟨"PartitionDesk$Frame", "<init>", "()V"⟩ prog_2_method_1_code 1 none : Cond) ∈ AllW := aw 148 (by decide +kernel) rfl
theorem q_77 : (.initialized "PartitionDesk$Frame" : Cond) ∈ AllW := aw 28 (by decide +kernel) rfl
theorem k_F_init : CodeOK u_F_init 0 := ⟨q_76, q_77, by decide, by decide, by decide, by decide +kernel⟩
theorem q_78 : (.methodLink "PartitionDesk" 29 ⟨"PartitionDesk$Frame", "<init>", "()V"⟩ : Cond) ∈ AllW := aw 146 (by decide +kernel) rfl
theorem q_79 : (.instanceMethod ⟨"PartitionDesk$Frame", "<init>", "()V"⟩ : Cond) ∈ AllW := aw 147 (by decide +kernel) rfl
theorem g_D_29 : CallI "PartitionDesk" 29 u_F_init 0 := ⟨k_F_init, q_78, q_79, rfl, rfl⟩
theorem q_80 : (.fieldLink "PartitionDesk" 30 "PartitionDesk" "frame" "LPartitionDesk$Frame;" : Cond) ∈ AllW := aw 177 (by decide +kernel) rfl
theorem f_D_30 : FR "PartitionDesk" 30 0 3 := ⟨lay0, by decide, q_80⟩
theorem q_81 : (.fieldLink "PartitionDesk" 34 "PartitionDesk" "portCount" "I" : Cond) ∈ AllW := aw 178 (by decide +kernel) rfl
theorem f_D_34 : FR "PartitionDesk" 34 0 4 := ⟨lay0, by decide, q_81⟩
theorem q_82 : (.fieldLink "PartitionDesk" 38 "PartitionDesk" "started" "Z" : Cond) ∈ AllW := aw 179 (by decide +kernel) rfl
theorem f_D_38 : FR "PartitionDesk" 38 0 5 := ⟨lay0, by decide, q_82⟩
theorem q_83 : (.code ⟨"PartitionDesk", "isPartition", "(I)Z"⟩ prog_1_method_15_code 1 (some .boolean) : Cond) ∈ AllW := aw 199 (by decide +kernel) rfl
theorem q_84 : (.initialized "PartitionDesk" : Cond) ∈ AllW := aw 24 (by decide +kernel) rfl
theorem k_D_isPartition : CodeOK u_D_isPartition 1 := ⟨q_83, q_84, by decide, by decide, by decide, by decide +kernel⟩
theorem q_85 : (.methodLink "PartitionDesk" 42 ⟨"PartitionDesk", "isPartition", "(I)Z"⟩ : Cond) ∈ AllW := aw 197 (by decide +kernel) rfl
theorem q_86 : (.static ⟨"PartitionDesk", "isPartition", "(I)Z"⟩ : Cond) ∈ AllW := aw 198 (by decide +kernel) rfl
theorem g_D_42 : CallS "PartitionDesk" 42 u_D_isPartition 1 := ⟨k_D_isPartition, q_85, q_86⟩
theorem q_87 : (.fieldLink "PartitionDesk" 46 "PartitionDesk$Partition" "from" "I" : Cond) ∈ AllW := aw 66 (by decide +kernel) rfl
theorem f_D_46 : FR "PartitionDesk" 46 1 7 := ⟨lay1, by decide, q_87⟩
theorem q_88 : (.fieldLink "PartitionDesk" 49 "PartitionDesk$Partition" "size" "I" : Cond) ∈ AllW := aw 69 (by decide +kernel) rfl
theorem f_D_49 : FR "PartitionDesk" 49 1 8 := ⟨lay1, by decide, q_88⟩
theorem q_89 : (.code ⟨"PartitionDesk$Frame", "isFull", "()Z"⟩ prog_2_method_2_code 1 (some .boolean) : Cond) ∈ AllW := aw 207 (by decide +kernel) rfl
theorem k_F_isFull : CodeOK u_F_isFull 0 := ⟨q_89, q_77, by decide, by decide, by decide, by decide +kernel⟩
theorem q_90 : (.methodLink "PartitionDesk" 52 ⟨"PartitionDesk$Frame", "isFull", "()Z"⟩ : Cond) ∈ AllW := aw 204 (by decide +kernel) rfl
theorem q_91 : (.instanceMethod ⟨"PartitionDesk$Frame", "isFull", "()Z"⟩ : Cond) ∈ AllW := aw 205 (by decide +kernel) rfl
theorem q_92 : (.selects "PartitionDesk$Frame" ⟨"PartitionDesk$Frame", "isFull", "()Z"⟩ ⟨"PartitionDesk$Frame", "isFull", "()Z"⟩ : Cond) ∈ AllW := aw 206 (by decide +kernel) rfl
theorem g_D_52 : CallV "PartitionDesk" 52 u_F_isFull 0 3 := ⟨k_F_isFull, q_90, q_91, q_92, rfl, rfl⟩
theorem q_93 : (.code ⟨"PartitionDesk$Frame", "append", "(II)V"⟩ prog_2_method_3_code 3 none : Cond) ∈ AllW := aw 211 (by decide +kernel) rfl
theorem k_F_append : CodeOK u_F_append 2 := ⟨q_93, q_77, by decide, by decide, by decide, by decide +kernel⟩
theorem q_94 : (.methodLink "PartitionDesk" 56 ⟨"PartitionDesk$Frame", "append", "(II)V"⟩ : Cond) ∈ AllW := aw 208 (by decide +kernel) rfl
theorem q_95 : (.instanceMethod ⟨"PartitionDesk$Frame", "append", "(II)V"⟩ : Cond) ∈ AllW := aw 209 (by decide +kernel) rfl
theorem q_96 : (.selects "PartitionDesk$Frame" ⟨"PartitionDesk$Frame", "append", "(II)V"⟩ ⟨"PartitionDesk$Frame", "append", "(II)V"⟩ : Cond) ∈ AllW := aw 210 (by decide +kernel) rfl
theorem g_D_56 : CallV "PartitionDesk" 56 u_F_append 2 3 := ⟨k_F_append, q_94, q_95, q_96, rfl, rfl⟩
theorem q_97 : (.fieldLink "PartitionDesk" 60 "PartitionDesk$Port" "from" "I" : Cond) ∈ AllW := aw 126 (by decide +kernel) rfl
theorem f_D_60 : FR "PartitionDesk" 60 2 1 := ⟨lay2, by decide, q_97⟩
theorem q_98 : (.fieldLink "PartitionDesk" 61 "PartitionDesk$Port" "to" "I" : Cond) ∈ AllW := aw 127 (by decide +kernel) rfl
theorem f_D_61 : FR "PartitionDesk" 61 2 2 := ⟨lay2, by decide, q_98⟩
theorem q_99 : (.fieldLink "PartitionDesk" 64 "PartitionDesk$Port" "depth" "I" : Cond) ∈ AllW := aw 129 (by decide +kernel) rfl
theorem f_D_64 : FR "PartitionDesk" 64 2 3 := ⟨lay2, by decide, q_99⟩
theorem q_100 : (.fieldLink "PartitionDesk" 67 "PartitionDesk$Partition" "actions" "[I" : Cond) ∈ AllW := aw 77 (by decide +kernel) rfl
theorem f_D_67 : FR "PartitionDesk" 67 1 3 := ⟨lay1, by decide, q_100⟩
theorem q_101 : (.fieldLink "PartitionDesk" 70 "PartitionDesk$Partition" "ops" "[I" : Cond) ∈ AllW := aw 71 (by decide +kernel) rfl
theorem f_D_70 : FR "PartitionDesk" 70 1 0 := ⟨lay1, by decide, q_101⟩
theorem q_102 : (.fieldLink "PartitionDesk" 73 "PartitionDesk$Partition" "firsts" "[I" : Cond) ∈ AllW := aw 73 (by decide +kernel) rfl
theorem f_D_73 : FR "PartitionDesk" 73 1 1 := ⟨lay1, by decide, q_102⟩
theorem q_103 : (.fieldLink "PartitionDesk" 76 "PartitionDesk$Partition" "seconds" "[I" : Cond) ∈ AllW := aw 75 (by decide +kernel) rfl
theorem f_D_76 : FR "PartitionDesk" 76 1 2 := ⟨lay1, by decide, q_103⟩
theorem q_104 : (.code ⟨"PartitionDesk", "checkTable", "()I"⟩ prog_1_method_17_code 1 (some .int) : Cond) ∈ AllW := aw 231 (by decide +kernel) rfl
theorem k_D_checkTable : CodeOK u_D_checkTable 0 := ⟨q_104, q_84, by decide, by decide, by decide, by decide +kernel⟩
theorem q_105 : (.methodLink "PartitionDesk" 79 ⟨"PartitionDesk", "checkTable", "()I"⟩ : Cond) ∈ AllW := aw 228 (by decide +kernel) rfl
theorem q_106 : (.instanceMethod ⟨"PartitionDesk", "checkTable", "()I"⟩ : Cond) ∈ AllW := aw 230 (by decide +kernel) rfl
theorem q_107 : (.selects "PartitionDesk" ⟨"PartitionDesk", "checkTable", "()I"⟩ ⟨"PartitionDesk", "checkTable", "()I"⟩ : Cond) ∈ AllW := aw 0 (by decide +kernel) rfl
theorem g_D_79 : CallV "PartitionDesk" 79 u_D_checkTable 0 0 := ⟨k_D_checkTable, q_105, q_106, q_107, rfl, rfl⟩
theorem q_108 : (.code ⟨"PartitionDesk", "beginAnew", "()V"⟩ prog_1_method_22_code 2 none : Cond) ∈ AllW := aw 264 (by decide +kernel) rfl
theorem k_D_beginAnew : CodeOK u_D_beginAnew 0 := ⟨q_108, q_84, by decide, by decide, by decide, by decide +kernel⟩
theorem q_109 : (.methodLink "PartitionDesk" 83 ⟨"PartitionDesk", "beginAnew", "()V"⟩ : Cond) ∈ AllW := aw 261 (by decide +kernel) rfl
theorem q_110 : (.instanceMethod ⟨"PartitionDesk", "beginAnew", "()V"⟩ : Cond) ∈ AllW := aw 263 (by decide +kernel) rfl
theorem q_111 : (.selects "PartitionDesk" ⟨"PartitionDesk", "beginAnew", "()V"⟩ ⟨"PartitionDesk", "beginAnew", "()V"⟩ : Cond) ∈ AllW := aw 5 (by decide +kernel) rfl
theorem g_D_83 : CallV "PartitionDesk" 83 u_D_beginAnew 0 0 := ⟨k_D_beginAnew, q_109, q_110, q_111, rfl, rfl⟩
theorem q_112 : (.fieldLink "PartitionDesk" 86 "PartitionDesk$Partition" "inputs" "LPartitionDesk$ValueQueue;" : Cond) ∈ AllW := aw 87 (by decide +kernel) rfl
theorem f_D_86 : FR "PartitionDesk" 86 1 5 := ⟨lay1, by decide, q_112⟩
theorem q_113 : (.code ⟨"PartitionDesk$ValueQueue", "put", "(II)Z"⟩ prog_5_method_2_code 4 (some .boolean) : Cond) ∈ AllW := aw 288 (by decide +kernel) rfl
theorem q_114 : (.initialized "PartitionDesk$ValueQueue" : Cond) ∈ AllW := aw 26 (by decide +kernel) rfl
theorem k_V_put : CodeOK u_V_put 2 := ⟨q_113, q_114, by decide, by decide, by decide, by decide +kernel⟩
theorem q_115 : (.methodLink "PartitionDesk" 90 ⟨"PartitionDesk$ValueQueue", "put", "(II)Z"⟩ : Cond) ∈ AllW := aw 285 (by decide +kernel) rfl
theorem q_116 : (.instanceMethod ⟨"PartitionDesk$ValueQueue", "put", "(II)Z"⟩ : Cond) ∈ AllW := aw 286 (by decide +kernel) rfl
theorem q_117 : (.selects "PartitionDesk$ValueQueue" ⟨"PartitionDesk$ValueQueue", "put", "(II)Z"⟩ ⟨"PartitionDesk$ValueQueue", "put", "(II)Z"⟩ : Cond) ∈ AllW := aw 287 (by decide +kernel) rfl
theorem g_D_90 : CallV "PartitionDesk" 90 u_V_put 2 4 := ⟨k_V_put, q_115, q_116, q_117, rfl, rfl⟩
theorem q_118 : (.fieldLink "PartitionDesk" 96 "PartitionDesk$ValueQueue" "count" "I" : Cond) ∈ AllW := aw 57 (by decide +kernel) rfl
theorem f_D_96 : FR "PartitionDesk" 96 4 2 := ⟨lay4, by decide, q_118⟩
theorem q_119 : (.code ⟨"PartitionDesk", "passTick", "()Z"⟩ prog_1_method_23_code 3 (some .boolean) : Cond) ∈ AllW := aw 296 (by decide +kernel) rfl
theorem k_D_passTick : CodeOK u_D_passTick 0 := ⟨q_119, q_84, by decide, by decide, by decide, by decide +kernel⟩
theorem q_120 : (.methodLink "PartitionDesk" 99 ⟨"PartitionDesk", "passTick", "()Z"⟩ : Cond) ∈ AllW := aw 293 (by decide +kernel) rfl
theorem q_121 : (.instanceMethod ⟨"PartitionDesk", "passTick", "()Z"⟩ : Cond) ∈ AllW := aw 295 (by decide +kernel) rfl
theorem q_122 : (.selects "PartitionDesk" ⟨"PartitionDesk", "passTick", "()Z"⟩ ⟨"PartitionDesk", "passTick", "()Z"⟩ : Cond) ∈ AllW := aw 6 (by decide +kernel) rfl
theorem g_D_99 : CallV "PartitionDesk" 99 u_D_passTick 0 0 := ⟨k_D_passTick, q_120, q_121, q_122, rfl, rfl⟩
theorem q_123 : (.code ⟨"PartitionDesk$Partition", "outputAt", "(I)I"⟩ prog_3_method_9_code 2 (some .int) : Cond) ∈ AllW := aw 393 (by decide +kernel) rfl
theorem k_P_outputAt : CodeOK u_P_outputAt 1 := ⟨q_123, q_68, by decide, by decide, by decide, by decide +kernel⟩
theorem q_124 : (.methodLink "PartitionDesk" 102 ⟨"PartitionDesk$Partition", "outputAt", "(I)I"⟩ : Cond) ∈ AllW := aw 390 (by decide +kernel) rfl
theorem q_125 : (.instanceMethod ⟨"PartitionDesk$Partition", "outputAt", "(I)I"⟩ : Cond) ∈ AllW := aw 391 (by decide +kernel) rfl
theorem q_126 : (.selects "PartitionDesk$Partition" ⟨"PartitionDesk$Partition", "outputAt", "(I)I"⟩ ⟨"PartitionDesk$Partition", "outputAt", "(I)I"⟩ : Cond) ∈ AllW := aw 392 (by decide +kernel) rfl
theorem g_D_102 : CallV "PartitionDesk" 102 u_P_outputAt 1 1 := ⟨k_P_outputAt, q_124, q_125, q_126, rfl, rfl⟩
theorem q_127 : (.code ⟨"PartitionDesk$Partition", "tell", "(I)I"⟩ prog_3_method_10_code 2 (some .int) : Cond) ∈ AllW := aw 401 (by decide +kernel) rfl
theorem k_P_tell : CodeOK u_P_tell 1 := ⟨q_127, q_68, by decide, by decide, by decide, by decide +kernel⟩
theorem q_128 : (.methodLink "PartitionDesk" 106 ⟨"PartitionDesk$Partition", "tell", "(I)I"⟩ : Cond) ∈ AllW := aw 398 (by decide +kernel) rfl
theorem q_129 : (.instanceMethod ⟨"PartitionDesk$Partition", "tell", "(I)I"⟩ : Cond) ∈ AllW := aw 399 (by decide +kernel) rfl
theorem q_130 : (.selects "PartitionDesk$Partition" ⟨"PartitionDesk$Partition", "tell", "(I)I"⟩ ⟨"PartitionDesk$Partition", "tell", "(I)I"⟩ : Cond) ∈ AllW := aw 400 (by decide +kernel) rfl
theorem g_D_106 : CallV "PartitionDesk" 106 u_P_tell 1 1 := ⟨k_P_tell, q_128, q_129, q_130, rfl, rfl⟩
theorem q_131 : (.code ⟨"PartitionDesk", "isPort", "(I)Z"⟩ prog_1_method_16_code 2 (some .boolean) : Cond) ∈ AllW := aw 331 (by decide +kernel) rfl
theorem k_D_isPort : CodeOK u_D_isPort 1 := ⟨q_131, q_84, by decide, by decide, by decide, by decide +kernel⟩
theorem q_132 : (.methodLink "PartitionDesk" 109 ⟨"PartitionDesk", "isPort", "(I)Z"⟩ : Cond) ∈ AllW := aw 328 (by decide +kernel) rfl
theorem q_133 : (.instanceMethod ⟨"PartitionDesk", "isPort", "(I)Z"⟩ : Cond) ∈ AllW := aw 330 (by decide +kernel) rfl
theorem q_134 : (.selects "PartitionDesk" ⟨"PartitionDesk", "isPort", "(I)Z"⟩ ⟨"PartitionDesk", "isPort", "(I)Z"⟩ : Cond) ∈ AllW := aw 11 (by decide +kernel) rfl
theorem g_D_109 : CallV "PartitionDesk" 109 u_D_isPort 1 0 := ⟨k_D_isPort, q_132, q_133, q_134, rfl, rfl⟩
theorem q_135 : (.fieldLink "PartitionDesk" 112 "PartitionDesk$Port" "values" "LPartitionDesk$ValueQueue;" : Cond) ∈ AllW := aw 131 (by decide +kernel) rfl
theorem f_D_112 : FR "PartitionDesk" 112 2 0 := ⟨lay2, by decide, q_135⟩
theorem q_136 : (.code ⟨"PartitionDesk$Frame", "tell", "(I)I"⟩ prog_2_method_8_code 2 (some .int) : Cond) ∈ AllW := aw 417 (by decide +kernel) rfl
theorem k_F_tell : CodeOK u_F_tell 1 := ⟨q_136, q_77, by decide, by decide, by decide, by decide +kernel⟩
theorem q_137 : (.methodLink "PartitionDesk" 115 ⟨"PartitionDesk$Frame", "tell", "(I)I"⟩ : Cond) ∈ AllW := aw 414 (by decide +kernel) rfl
theorem q_138 : (.instanceMethod ⟨"PartitionDesk$Frame", "tell", "(I)I"⟩ : Cond) ∈ AllW := aw 415 (by decide +kernel) rfl
theorem q_139 : (.selects "PartitionDesk$Frame" ⟨"PartitionDesk$Frame", "tell", "(I)I"⟩ ⟨"PartitionDesk$Frame", "tell", "(I)I"⟩ : Cond) ∈ AllW := aw 416 (by decide +kernel) rfl
theorem g_D_115 : CallV "PartitionDesk" 115 u_F_tell 1 3 := ⟨k_F_tell, q_137, q_138, q_139, rfl, rfl⟩
theorem q_140 : (.code ⟨"PartitionDesk", "somebodyTakesPart", "()Z"⟩ prog_1_method_18_code 2 (some .boolean) : Cond) ∈ AllW := aw 235 (by decide +kernel) rfl
theorem k_D_somebodyTakesPart : CodeOK u_D_somebodyTakesPart 0 := ⟨q_140, q_84, by decide, by decide, by decide, by decide +kernel⟩
theorem q_141 : (.methodLink "PartitionDesk" 116 ⟨"PartitionDesk", "somebodyTakesPart", "()Z"⟩ : Cond) ∈ AllW := aw 232 (by decide +kernel) rfl
theorem q_142 : (.instanceMethod ⟨"PartitionDesk", "somebodyTakesPart", "()Z"⟩ : Cond) ∈ AllW := aw 234 (by decide +kernel) rfl
theorem q_143 : (.selects "PartitionDesk" ⟨"PartitionDesk", "somebodyTakesPart", "()Z"⟩ ⟨"PartitionDesk", "somebodyTakesPart", "()Z"⟩ : Cond) ∈ AllW := aw 1 (by decide +kernel) rfl
theorem g_D_116 : CallV "PartitionDesk" 116 u_D_somebodyTakesPart 0 0 := ⟨k_D_somebodyTakesPart, q_141, q_142, q_143, rfl, rfl⟩
theorem q_144 : (.code ⟨"PartitionDesk", "someRegionsOverlap", "()Z"⟩ prog_1_method_19_code 3 (some .boolean) : Cond) ∈ AllW := aw 243 (by decide +kernel) rfl
theorem k_D_someRegionsOverlap : CodeOK u_D_someRegionsOverlap 0 := ⟨q_144, q_84, by decide, by decide, by decide, by decide +kernel⟩
theorem q_145 : (.methodLink "PartitionDesk" 119 ⟨"PartitionDesk", "someRegionsOverlap", "()Z"⟩ : Cond) ∈ AllW := aw 240 (by decide +kernel) rfl
theorem q_146 : (.instanceMethod ⟨"PartitionDesk", "someRegionsOverlap", "()Z"⟩ : Cond) ∈ AllW := aw 242 (by decide +kernel) rfl
theorem q_147 : (.selects "PartitionDesk" ⟨"PartitionDesk", "someRegionsOverlap", "()Z"⟩ ⟨"PartitionDesk", "someRegionsOverlap", "()Z"⟩ : Cond) ∈ AllW := aw 2 (by decide +kernel) rfl
theorem g_D_119 : CallV "PartitionDesk" 119 u_D_someRegionsOverlap 0 0 := ⟨k_D_someRegionsOverlap, q_145, q_146, q_147, rfl, rfl⟩
theorem q_148 : (.code ⟨"PartitionDesk", "windowsFit", "()Z"⟩ prog_1_method_20_code 2 (some .boolean) : Cond) ∈ AllW := aw 252 (by decide +kernel) rfl
theorem k_D_windowsFit : CodeOK u_D_windowsFit 0 := ⟨q_148, q_84, by decide, by decide, by decide, by decide +kernel⟩
theorem q_149 : (.methodLink "PartitionDesk" 122 ⟨"PartitionDesk", "windowsFit", "()Z"⟩ : Cond) ∈ AllW := aw 249 (by decide +kernel) rfl
theorem q_150 : (.instanceMethod ⟨"PartitionDesk", "windowsFit", "()Z"⟩ : Cond) ∈ AllW := aw 251 (by decide +kernel) rfl
theorem q_151 : (.selects "PartitionDesk" ⟨"PartitionDesk", "windowsFit", "()Z"⟩ ⟨"PartitionDesk", "windowsFit", "()Z"⟩ : Cond) ∈ AllW := aw 3 (by decide +kernel) rfl
theorem g_D_122 : CallV "PartitionDesk" 122 u_D_windowsFit 0 0 := ⟨k_D_windowsFit, q_149, q_150, q_151, rfl, rfl⟩
theorem q_152 : (.code ⟨"PartitionDesk", "portsFit", "()Z"⟩ prog_1_method_21_code 2 (some .boolean) : Cond) ∈ AllW := aw 260 (by decide +kernel) rfl
theorem k_D_portsFit : CodeOK u_D_portsFit 0 := ⟨q_152, q_84, by decide, by decide, by decide, by decide +kernel⟩
theorem q_153 : (.methodLink "PartitionDesk" 125 ⟨"PartitionDesk", "portsFit", "()Z"⟩ : Cond) ∈ AllW := aw 257 (by decide +kernel) rfl
theorem q_154 : (.instanceMethod ⟨"PartitionDesk", "portsFit", "()Z"⟩ : Cond) ∈ AllW := aw 259 (by decide +kernel) rfl
theorem q_155 : (.selects "PartitionDesk" ⟨"PartitionDesk", "portsFit", "()Z"⟩ ⟨"PartitionDesk", "portsFit", "()Z"⟩ : Cond) ∈ AllW := aw 4 (by decide +kernel) rfl
theorem g_D_125 : CallV "PartitionDesk" 125 u_D_portsFit 0 0 := ⟨k_D_portsFit, q_153, q_154, q_155, rfl, rfl⟩
theorem q_156 : (.code ⟨"PartitionDesk$Partition", "takesPart", "()Z"⟩ prog_3_method_2_code 1 (some .boolean) : Cond) ∈ AllW := aw 239 (by decide +kernel) rfl
theorem k_P_takesPart : CodeOK u_P_takesPart 0 := ⟨q_156, q_68, by decide, by decide, by decide, by decide +kernel⟩
theorem q_157 : (.methodLink "PartitionDesk" 128 ⟨"PartitionDesk$Partition", "takesPart", "()Z"⟩ : Cond) ∈ AllW := aw 236 (by decide +kernel) rfl
theorem q_158 : (.instanceMethod ⟨"PartitionDesk$Partition", "takesPart", "()Z"⟩ : Cond) ∈ AllW := aw 237 (by decide +kernel) rfl
theorem q_159 : (.selects "PartitionDesk$Partition" ⟨"PartitionDesk$Partition", "takesPart", "()Z"⟩ ⟨"PartitionDesk$Partition", "takesPart", "()Z"⟩ : Cond) ∈ AllW := aw 238 (by decide +kernel) rfl
theorem g_D_128 : CallV "PartitionDesk" 128 u_P_takesPart 0 1 := ⟨k_P_takesPart, q_157, q_158, q_159, rfl, rfl⟩
theorem q_160 : (.code ⟨"PartitionDesk$Partition", "overlaps", "(LPartitionDesk$Partition;)Z"⟩ prog_3_method_3_code 2 (some .boolean) : Cond) ∈ AllW := aw 247 (by decide +kernel) rfl
theorem k_P_overlaps : CodeOK u_P_overlaps 1 := ⟨q_160, q_68, by decide, by decide, by decide, by decide +kernel⟩
theorem q_161 : (.methodLink "PartitionDesk" 131 ⟨"PartitionDesk$Partition", "overlaps", "(LPartitionDesk$Partition;)Z"⟩ : Cond) ∈ AllW := aw 244 (by decide +kernel) rfl
theorem q_162 : (.instanceMethod ⟨"PartitionDesk$Partition", "overlaps", "(LPartitionDesk$Partition;)Z"⟩ : Cond) ∈ AllW := aw 245 (by decide +kernel) rfl
theorem q_163 : (.selects "PartitionDesk$Partition" ⟨"PartitionDesk$Partition", "overlaps", "(LPartitionDesk$Partition;)Z"⟩ ⟨"PartitionDesk$Partition", "overlaps", "(LPartitionDesk$Partition;)Z"⟩ : Cond) ∈ AllW := aw 246 (by decide +kernel) rfl
theorem g_D_131 : CallV "PartitionDesk" 131 u_P_overlaps 1 1 := ⟨k_P_overlaps, q_161, q_162, q_163, rfl, rfl⟩
theorem q_164 : (.code ⟨"PartitionDesk$Frame", "hasWindowOf", "(I)Z"⟩ prog_2_method_4_code 3 (some .boolean) : Cond) ∈ AllW := aw 256 (by decide +kernel) rfl
theorem k_F_hasWindowOf : CodeOK u_F_hasWindowOf 1 := ⟨q_164, q_77, by decide, by decide, by decide, by decide +kernel⟩
theorem q_165 : (.methodLink "PartitionDesk" 135 ⟨"PartitionDesk$Frame", "hasWindowOf", "(I)Z"⟩ : Cond) ∈ AllW := aw 253 (by decide +kernel) rfl
theorem q_166 : (.instanceMethod ⟨"PartitionDesk$Frame", "hasWindowOf", "(I)Z"⟩ : Cond) ∈ AllW := aw 254 (by decide +kernel) rfl
theorem q_167 : (.selects "PartitionDesk$Frame" ⟨"PartitionDesk$Frame", "hasWindowOf", "(I)Z"⟩ ⟨"PartitionDesk$Frame", "hasWindowOf", "(I)Z"⟩ : Cond) ∈ AllW := aw 255 (by decide +kernel) rfl
theorem g_D_135 : CallV "PartitionDesk" 135 u_F_hasWindowOf 1 3 := ⟨k_F_hasWindowOf, q_165, q_166, q_167, rfl, rfl⟩
theorem q_168 : (.code ⟨"PartitionDesk$Partition", "beginAnew", "()V"⟩ prog_3_method_4_code 1 none : Cond) ∈ AllW := aw 268 (by decide +kernel) rfl
theorem k_P_beginAnew : CodeOK u_P_beginAnew 0 := ⟨q_168, q_68, by decide, by decide, by decide, by decide +kernel⟩
theorem q_169 : (.methodLink "PartitionDesk" 138 ⟨"PartitionDesk$Partition", "beginAnew", "()V"⟩ : Cond) ∈ AllW := aw 265 (by decide +kernel) rfl
theorem q_170 : (.instanceMethod ⟨"PartitionDesk$Partition", "beginAnew", "()V"⟩ : Cond) ∈ AllW := aw 266 (by decide +kernel) rfl
theorem q_171 : (.selects "PartitionDesk$Partition" ⟨"PartitionDesk$Partition", "beginAnew", "()V"⟩ ⟨"PartitionDesk$Partition", "beginAnew", "()V"⟩ : Cond) ∈ AllW := aw 267 (by decide +kernel) rfl
theorem g_D_138 : CallV "PartitionDesk" 138 u_P_beginAnew 0 1 := ⟨k_P_beginAnew, q_169, q_170, q_171, rfl, rfl⟩
theorem q_172 : (.code ⟨"PartitionDesk$ValueQueue", "clear", "()V"⟩ prog_5_method_5_code 1 none : Cond) ∈ AllW := aw 276 (by decide +kernel) rfl
theorem k_V_clear : CodeOK u_V_clear 0 := ⟨q_172, q_114, by decide, by decide, by decide, by decide +kernel⟩
theorem q_173 : (.methodLink "PartitionDesk" 139 ⟨"PartitionDesk$ValueQueue", "clear", "()V"⟩ : Cond) ∈ AllW := aw 273 (by decide +kernel) rfl
theorem q_174 : (.instanceMethod ⟨"PartitionDesk$ValueQueue", "clear", "()V"⟩ : Cond) ∈ AllW := aw 274 (by decide +kernel) rfl
theorem q_175 : (.selects "PartitionDesk$ValueQueue" ⟨"PartitionDesk$ValueQueue", "clear", "()V"⟩ ⟨"PartitionDesk$ValueQueue", "clear", "()V"⟩ : Cond) ∈ AllW := aw 275 (by decide +kernel) rfl
theorem g_D_139 : CallV "PartitionDesk" 139 u_V_clear 0 4 := ⟨k_V_clear, q_173, q_174, q_175, rfl, rfl⟩
theorem q_176 : (.code ⟨"PartitionDesk$Frame", "beginAnew", "()V"⟩ prog_2_method_5_code 1 none : Cond) ∈ AllW := aw 280 (by decide +kernel) rfl
theorem k_F_beginAnew : CodeOK u_F_beginAnew 0 := ⟨q_176, q_77, by decide, by decide, by decide, by decide +kernel⟩
theorem q_177 : (.methodLink "PartitionDesk" 142 ⟨"PartitionDesk$Frame", "beginAnew", "()V"⟩ : Cond) ∈ AllW := aw 277 (by decide +kernel) rfl
theorem q_178 : (.instanceMethod ⟨"PartitionDesk$Frame", "beginAnew", "()V"⟩ : Cond) ∈ AllW := aw 278 (by decide +kernel) rfl
theorem q_179 : (.selects "PartitionDesk$Frame" ⟨"PartitionDesk$Frame", "beginAnew", "()V"⟩ ⟨"PartitionDesk$Frame", "beginAnew", "()V"⟩ : Cond) ∈ AllW := aw 279 (by decide +kernel) rfl
theorem g_D_142 : CallV "PartitionDesk" 142 u_F_beginAnew 0 3 := ⟨k_F_beginAnew, q_177, q_178, q_179, rfl, rfl⟩
theorem q_180 : (.code ⟨"PartitionDesk$Frame", "partitionAtHand", "()I"⟩ prog_2_method_6_code 1 (some .int) : Cond) ∈ AllW := aw 300 (by decide +kernel) rfl
theorem k_F_partitionAtHand : CodeOK u_F_partitionAtHand 0 := ⟨q_180, q_77, by decide, by decide, by decide, by decide +kernel⟩
theorem q_181 : (.methodLink "PartitionDesk" 143 ⟨"PartitionDesk$Frame", "partitionAtHand", "()I"⟩ : Cond) ∈ AllW := aw 297 (by decide +kernel) rfl
theorem q_182 : (.instanceMethod ⟨"PartitionDesk$Frame", "partitionAtHand", "()I"⟩ : Cond) ∈ AllW := aw 298 (by decide +kernel) rfl
theorem q_183 : (.selects "PartitionDesk$Frame" ⟨"PartitionDesk$Frame", "partitionAtHand", "()I"⟩ ⟨"PartitionDesk$Frame", "partitionAtHand", "()I"⟩ : Cond) ∈ AllW := aw 299 (by decide +kernel) rfl
theorem g_D_143 : CallV "PartitionDesk" 143 u_F_partitionAtHand 0 3 := ⟨k_F_partitionAtHand, q_181, q_182, q_183, rfl, rfl⟩
theorem q_184 : (.fieldLink "PartitionDesk" 146 "PartitionDesk$Partition" "running" "Z" : Cond) ∈ AllW := aw 83 (by decide +kernel) rfl
theorem f_D_146 : FR "PartitionDesk" 146 1 10 := ⟨lay1, by decide, q_184⟩
theorem q_185 : (.fieldLink "PartitionDesk" 149 "PartitionDesk$Frame" "waited" "Z" : Cond) ∈ AllW := aw 158 (by decide +kernel) rfl
theorem f_D_149 : FR "PartitionDesk" 149 3 6 := ⟨lay3, by decide, q_185⟩
theorem q_186 : (.code ⟨"PartitionDesk", "doInstruction", "(I)V"⟩ prog_1_method_24_code 5 none : Cond) ∈ AllW := aw 304 (by decide +kernel) rfl
theorem k_D_doInstruction : CodeOK u_D_doInstruction 1 := ⟨q_186, q_84, by decide, by decide, by decide, by decide +kernel⟩
theorem q_187 : (.methodLink "PartitionDesk" 152 ⟨"PartitionDesk", "doInstruction", "(I)V"⟩ : Cond) ∈ AllW := aw 301 (by decide +kernel) rfl
theorem q_188 : (.instanceMethod ⟨"PartitionDesk", "doInstruction", "(I)V"⟩ : Cond) ∈ AllW := aw 303 (by decide +kernel) rfl
theorem q_189 : (.selects "PartitionDesk" ⟨"PartitionDesk", "doInstruction", "(I)V"⟩ ⟨"PartitionDesk", "doInstruction", "(I)V"⟩ : Cond) ∈ AllW := aw 7 (by decide +kernel) rfl
theorem g_D_152 : CallV "PartitionDesk" 152 u_D_doInstruction 1 0 := ⟨k_D_doInstruction, q_187, q_188, q_189, rfl, rfl⟩
theorem q_190 : (.code ⟨"PartitionDesk$Frame", "endTick", "()V"⟩ prog_2_method_7_code 1 none : Cond) ∈ AllW := aw 385 (by decide +kernel) rfl
theorem k_F_endTick : CodeOK u_F_endTick 0 := ⟨q_190, q_77, by decide, by decide, by decide, by decide +kernel⟩
theorem q_191 : (.methodLink "PartitionDesk" 156 ⟨"PartitionDesk$Frame", "endTick", "()V"⟩ : Cond) ∈ AllW := aw 382 (by decide +kernel) rfl
theorem q_192 : (.instanceMethod ⟨"PartitionDesk$Frame", "endTick", "()V"⟩ : Cond) ∈ AllW := aw 383 (by decide +kernel) rfl
theorem q_193 : (.selects "PartitionDesk$Frame" ⟨"PartitionDesk$Frame", "endTick", "()V"⟩ ⟨"PartitionDesk$Frame", "endTick", "()V"⟩ : Cond) ∈ AllW := aw 384 (by decide +kernel) rfl
theorem g_D_156 : CallV "PartitionDesk" 156 u_F_endTick 0 3 := ⟨k_F_endTick, q_191, q_192, q_193, rfl, rfl⟩
theorem q_194 : (.fieldLink "PartitionDesk" 159 "PartitionDesk$Partition" "place" "I" : Cond) ∈ AllW := aw 81 (by decide +kernel) rfl
theorem f_D_159 : FR "PartitionDesk" 159 1 9 := ⟨lay1, by decide, q_194⟩
theorem q_195 : (.code ⟨"PartitionDesk", "answerFault", "(II)V"⟩ prog_1_method_31_code 4 none : Cond) ∈ AllW := aw 308 (by decide +kernel) rfl
theorem k_D_answerFault : CodeOK u_D_answerFault 2 := ⟨q_195, q_84, by decide, by decide, by decide, by decide +kernel⟩
theorem q_196 : (.methodLink "PartitionDesk" 162 ⟨"PartitionDesk", "answerFault", "(II)V"⟩ : Cond) ∈ AllW := aw 305 (by decide +kernel) rfl
theorem q_197 : (.instanceMethod ⟨"PartitionDesk", "answerFault", "(II)V"⟩ : Cond) ∈ AllW := aw 307 (by decide +kernel) rfl
theorem q_198 : (.selects "PartitionDesk" ⟨"PartitionDesk", "answerFault", "(II)V"⟩ ⟨"PartitionDesk", "answerFault", "(II)V"⟩ : Cond) ∈ AllW := aw 8 (by decide +kernel) rfl
theorem g_D_162 : CallV "PartitionDesk" 162 u_D_answerFault 2 0 := ⟨k_D_answerFault, q_196, q_197, q_198, rfl, rfl⟩
theorem q_199 : (.code ⟨"PartitionDesk", "faultAhead", "(IIII)I"⟩ prog_1_method_25_code 5 (some .int) : Cond) ∈ AllW := aw 317 (by decide +kernel) rfl
theorem k_D_faultAhead : CodeOK u_D_faultAhead 4 := ⟨q_199, q_84, by decide, by decide, by decide, by decide +kernel⟩
theorem q_200 : (.methodLink "PartitionDesk" 165 ⟨"PartitionDesk", "faultAhead", "(IIII)I"⟩ : Cond) ∈ AllW := aw 314 (by decide +kernel) rfl
theorem q_201 : (.instanceMethod ⟨"PartitionDesk", "faultAhead", "(IIII)I"⟩ : Cond) ∈ AllW := aw 316 (by decide +kernel) rfl
theorem q_202 : (.selects "PartitionDesk" ⟨"PartitionDesk", "faultAhead", "(IIII)I"⟩ ⟨"PartitionDesk", "faultAhead", "(IIII)I"⟩ : Cond) ∈ AllW := aw 10 (by decide +kernel) rfl
theorem g_D_165 : CallV "PartitionDesk" 165 u_D_faultAhead 4 0 := ⟨k_D_faultAhead, q_200, q_201, q_202, rfl, rfl⟩
theorem q_203 : (.code ⟨"PartitionDesk", "carryOut", "(LPartitionDesk$Partition;III)V"⟩ prog_1_method_26_code 5 none : Cond) ∈ AllW := aw 335 (by decide +kernel) rfl
theorem k_D_carryOut : CodeOK u_D_carryOut 4 := ⟨q_203, q_84, by decide, by decide, by decide, by decide +kernel⟩
theorem q_204 : (.methodLink "PartitionDesk" 169 ⟨"PartitionDesk", "carryOut", "(LPartitionDesk$Partition;III)V"⟩ : Cond) ∈ AllW := aw 332 (by decide +kernel) rfl
theorem q_205 : (.instanceMethod ⟨"PartitionDesk", "carryOut", "(LPartitionDesk$Partition;III)V"⟩ : Cond) ∈ AllW := aw 334 (by decide +kernel) rfl
theorem q_206 : (.selects "PartitionDesk" ⟨"PartitionDesk", "carryOut", "(LPartitionDesk$Partition;III)V"⟩ ⟨"PartitionDesk", "carryOut", "(LPartitionDesk$Partition;III)V"⟩ : Cond) ∈ AllW := aw 12 (by decide +kernel) rfl
theorem g_D_169 : CallV "PartitionDesk" 169 u_D_carryOut 4 0 := ⟨k_D_carryOut, q_204, q_205, q_206, rfl, rfl⟩
theorem q_207 : (.code ⟨"PartitionDesk$Partition", "hasWord", "(I)Z"⟩ prog_3_method_6_code 3 (some .boolean) : Cond) ∈ AllW := aw 321 (by decide +kernel) rfl
theorem k_P_hasWord : CodeOK u_P_hasWord 1 := ⟨q_207, q_68, by decide, by decide, by decide, by decide +kernel⟩
theorem q_208 : (.methodLink "PartitionDesk" 173 ⟨"PartitionDesk$Partition", "hasWord", "(I)Z"⟩ : Cond) ∈ AllW := aw 318 (by decide +kernel) rfl
theorem q_209 : (.instanceMethod ⟨"PartitionDesk$Partition", "hasWord", "(I)Z"⟩ : Cond) ∈ AllW := aw 319 (by decide +kernel) rfl
theorem q_210 : (.selects "PartitionDesk$Partition" ⟨"PartitionDesk$Partition", "hasWord", "(I)Z"⟩ ⟨"PartitionDesk$Partition", "hasWord", "(I)Z"⟩ : Cond) ∈ AllW := aw 320 (by decide +kernel) rfl
theorem g_D_173 : CallV "PartitionDesk" 173 u_P_hasWord 1 1 := ⟨k_P_hasWord, q_208, q_209, q_210, rfl, rfl⟩
theorem q_211 : (.code ⟨"PartitionDesk", "compute", "(LPartitionDesk$Partition;III)V"⟩ prog_1_method_27_code 8 none : Cond) ∈ AllW := aw 339 (by decide +kernel) rfl
theorem k_D_compute : CodeOK u_D_compute 4 := ⟨q_211, q_84, by decide, by decide, by decide, by decide +kernel⟩
theorem q_212 : (.methodLink "PartitionDesk" 176 ⟨"PartitionDesk", "compute", "(LPartitionDesk$Partition;III)V"⟩ : Cond) ∈ AllW := aw 336 (by decide +kernel) rfl
theorem q_213 : (.instanceMethod ⟨"PartitionDesk", "compute", "(LPartitionDesk$Partition;III)V"⟩ : Cond) ∈ AllW := aw 338 (by decide +kernel) rfl
theorem q_214 : (.selects "PartitionDesk" ⟨"PartitionDesk", "compute", "(LPartitionDesk$Partition;III)V"⟩ ⟨"PartitionDesk", "compute", "(LPartitionDesk$Partition;III)V"⟩ : Cond) ∈ AllW := aw 13 (by decide +kernel) rfl
theorem g_D_176 : CallV "PartitionDesk" 176 u_D_compute 4 0 := ⟨k_D_compute, q_212, q_213, q_214, rfl, rfl⟩
theorem q_215 : (.code ⟨"PartitionDesk", "jump", "(LPartitionDesk$Partition;III)V"⟩ prog_1_method_28_code 4 none : Cond) ∈ AllW := aw 343 (by decide +kernel) rfl
theorem k_D_jump : CodeOK u_D_jump 4 := ⟨q_215, q_84, by decide, by decide, by decide, by decide +kernel⟩
theorem q_216 : (.methodLink "PartitionDesk" 179 ⟨"PartitionDesk", "jump", "(LPartitionDesk$Partition;III)V"⟩ : Cond) ∈ AllW := aw 341 (by decide +kernel) rfl
theorem q_217 : (.static ⟨"PartitionDesk", "jump", "(LPartitionDesk$Partition;III)V"⟩ : Cond) ∈ AllW := aw 342 (by decide +kernel) rfl
theorem g_D_179 : CallS "PartitionDesk" 179 u_D_jump 4 := ⟨k_D_jump, q_216, q_217⟩
theorem q_218 : (.code ⟨"PartitionDesk", "communicate", "(LPartitionDesk$Partition;III)V"⟩ prog_1_method_29_code 7 none : Cond) ∈ AllW := aw 347 (by decide +kernel) rfl
theorem k_D_communicate : CodeOK u_D_communicate 4 := ⟨q_218, q_84, by decide, by decide, by decide, by decide +kernel⟩
theorem q_219 : (.methodLink "PartitionDesk" 182 ⟨"PartitionDesk", "communicate", "(LPartitionDesk$Partition;III)V"⟩ : Cond) ∈ AllW := aw 344 (by decide +kernel) rfl
theorem q_220 : (.instanceMethod ⟨"PartitionDesk", "communicate", "(LPartitionDesk$Partition;III)V"⟩ : Cond) ∈ AllW := aw 346 (by decide +kernel) rfl
theorem q_221 : (.selects "PartitionDesk" ⟨"PartitionDesk", "communicate", "(LPartitionDesk$Partition;III)V"⟩ ⟨"PartitionDesk", "communicate", "(LPartitionDesk$Partition;III)V"⟩ : Cond) ∈ AllW := aw 14 (by decide +kernel) rfl
theorem g_D_182 : CallV "PartitionDesk" 182 u_D_communicate 4 0 := ⟨k_D_communicate, q_219, q_220, q_221, rfl, rfl⟩
theorem q_222 : (.code ⟨"PartitionDesk", "registerNamed", "(I)I"⟩ prog_1_method_30_code 1 (some .int) : Cond) ∈ AllW := aw 324 (by decide +kernel) rfl
theorem k_D_registerNamed : CodeOK u_D_registerNamed 1 := ⟨q_222, q_84, by decide, by decide, by decide, by decide +kernel⟩
theorem q_223 : (.methodLink "PartitionDesk" 185 ⟨"PartitionDesk", "registerNamed", "(I)I"⟩ : Cond) ∈ AllW := aw 340 (by decide +kernel) rfl
theorem q_224 : (.static ⟨"PartitionDesk", "registerNamed", "(I)I"⟩ : Cond) ∈ AllW := aw 323 (by decide +kernel) rfl
theorem g_D_185 : CallS "PartitionDesk" 185 u_D_registerNamed 1 := ⟨k_D_registerNamed, q_223, q_224⟩
theorem q_225 : (.fieldLink "PartitionDesk" 188 "PartitionDesk$Partition" "registers" "[I" : Cond) ∈ AllW := aw 79 (by decide +kernel) rfl
theorem f_D_188 : FR "PartitionDesk" 188 1 4 := ⟨lay1, by decide, q_225⟩
theorem q_226 : (.fieldLink "PartitionDesk" 191 "PartitionDesk$Frame" "passed" "I" : Cond) ∈ AllW := aw 156 (by decide +kernel) rfl
theorem f_D_191 : FR "PartitionDesk" 191 3 5 := ⟨lay3, by decide, q_226⟩
theorem q_227 : (.code ⟨"PartitionDesk$Port", "send", "([III)V"⟩ prog_4_method_3_code 4 none : Cond) ∈ AllW := aw 351 (by decide +kernel) rfl
theorem k_Q_send : CodeOK u_Q_send 3 := ⟨q_227, q_73, by decide, by decide, by decide, by decide +kernel⟩
theorem q_228 : (.methodLink "PartitionDesk" 194 ⟨"PartitionDesk$Port", "send", "([III)V"⟩ : Cond) ∈ AllW := aw 348 (by decide +kernel) rfl
theorem q_229 : (.instanceMethod ⟨"PartitionDesk$Port", "send", "([III)V"⟩ : Cond) ∈ AllW := aw 349 (by decide +kernel) rfl
theorem q_230 : (.selects "PartitionDesk$Port" ⟨"PartitionDesk$Port", "send", "([III)V"⟩ ⟨"PartitionDesk$Port", "send", "([III)V"⟩ : Cond) ∈ AllW := aw 350 (by decide +kernel) rfl
theorem g_D_194 : CallV "PartitionDesk" 194 u_Q_send 3 2 := ⟨k_Q_send, q_228, q_229, q_230, rfl, rfl⟩
theorem q_231 : (.code ⟨"PartitionDesk$Port", "receive", "([III)V"⟩ prog_4_method_4_code 4 none : Cond) ∈ AllW := aw 361 (by decide +kernel) rfl
theorem k_Q_receive : CodeOK u_Q_receive 3 := ⟨q_231, q_73, by decide, by decide, by decide, by decide +kernel⟩
theorem q_232 : (.methodLink "PartitionDesk" 198 ⟨"PartitionDesk$Port", "receive", "([III)V"⟩ : Cond) ∈ AllW := aw 358 (by decide +kernel) rfl
theorem q_233 : (.instanceMethod ⟨"PartitionDesk$Port", "receive", "([III)V"⟩ : Cond) ∈ AllW := aw 359 (by decide +kernel) rfl
theorem q_234 : (.selects "PartitionDesk$Port" ⟨"PartitionDesk$Port", "receive", "([III)V"⟩ ⟨"PartitionDesk$Port", "receive", "([III)V"⟩ : Cond) ∈ AllW := aw 360 (by decide +kernel) rfl
theorem g_D_198 : CallV "PartitionDesk" 198 u_Q_receive 3 2 := ⟨k_Q_receive, q_232, q_233, q_234, rfl, rfl⟩
theorem q_235 : (.code ⟨"PartitionDesk$Partition", "takeInput", "(I)V"⟩ prog_3_method_7_code 3 none : Cond) ∈ AllW := aw 376 (by decide +kernel) rfl
theorem k_P_takeInput : CodeOK u_P_takeInput 1 := ⟨q_235, q_68, by decide, by decide, by decide, by decide +kernel⟩
theorem q_236 : (.methodLink "PartitionDesk" 201 ⟨"PartitionDesk$Partition", "takeInput", "(I)V"⟩ : Cond) ∈ AllW := aw 373 (by decide +kernel) rfl
theorem q_237 : (.instanceMethod ⟨"PartitionDesk$Partition", "takeInput", "(I)V"⟩ : Cond) ∈ AllW := aw 374 (by decide +kernel) rfl
theorem q_238 : (.selects "PartitionDesk$Partition" ⟨"PartitionDesk$Partition", "takeInput", "(I)V"⟩ ⟨"PartitionDesk$Partition", "takeInput", "(I)V"⟩ : Cond) ∈ AllW := aw 375 (by decide +kernel) rfl
theorem g_D_201 : CallV "PartitionDesk" 201 u_P_takeInput 1 1 := ⟨k_P_takeInput, q_236, q_237, q_238, rfl, rfl⟩
theorem q_239 : (.code ⟨"PartitionDesk$Partition", "putOut", "(I)V"⟩ prog_3_method_8_code 2 none : Cond) ∈ AllW := aw 381 (by decide +kernel) rfl
theorem k_P_putOut : CodeOK u_P_putOut 1 := ⟨q_239, q_68, by decide, by decide, by decide, by decide +kernel⟩
theorem q_240 : (.methodLink "PartitionDesk" 204 ⟨"PartitionDesk$Partition", "putOut", "(I)V"⟩ : Cond) ∈ AllW := aw 378 (by decide +kernel) rfl
theorem q_241 : (.instanceMethod ⟨"PartitionDesk$Partition", "putOut", "(I)V"⟩ : Cond) ∈ AllW := aw 379 (by decide +kernel) rfl
theorem q_242 : (.selects "PartitionDesk$Partition" ⟨"PartitionDesk$Partition", "putOut", "(I)V"⟩ ⟨"PartitionDesk$Partition", "putOut", "(I)V"⟩ : Cond) ∈ AllW := aw 380 (by decide +kernel) rfl
theorem g_D_204 : CallV "PartitionDesk" 204 u_P_putOut 1 1 := ⟨k_P_putOut, q_240, q_241, q_242, rfl, rfl⟩
theorem q_243 : (.code ⟨"java/lang/Math", "floorMod", "(II)I"⟩ prog_8_method_50_code 3 (some .int) : Cond) ∈ AllW := aw 327 (by decide +kernel) rfl
theorem q_244 : (.initialized "java/lang/Math" : Cond) ∈ AllW := aw 30 (by decide +kernel) rfl
theorem k_J_floorMod : CodeOK u_J_floorMod 2 := ⟨q_243, q_244, by decide, by decide, by decide, by decide +kernel⟩
theorem q_245 : (.methodLink "PartitionDesk" 207 ⟨"java/lang/Math", "floorMod", "(II)I"⟩ : Cond) ∈ AllW := aw 325 (by decide +kernel) rfl
theorem q_246 : (.static ⟨"java/lang/Math", "floorMod", "(II)I"⟩ : Cond) ∈ AllW := aw 326 (by decide +kernel) rfl
theorem g_D_207 : CallS "PartitionDesk" 207 u_J_floorMod 2 := ⟨k_J_floorMod, q_245, q_246⟩
theorem q_247 : (.fieldLink "PartitionDesk" 213 "PartitionDesk$Partition" "faults" "I" : Cond) ∈ AllW := aw 85 (by decide +kernel) rfl
theorem f_D_213 : FR "PartitionDesk" 213 1 11 := ⟨lay1, by decide, q_247⟩
theorem q_248 : (.code ⟨"PartitionDesk", "restart", "(I)V"⟩ prog_1_method_32_code 4 none : Cond) ∈ AllW := aw 312 (by decide +kernel) rfl
theorem k_D_restart : CodeOK u_D_restart 1 := ⟨q_248, q_84, by decide, by decide, by decide, by decide +kernel⟩
theorem q_249 : (.methodLink "PartitionDesk" 216 ⟨"PartitionDesk", "restart", "(I)V"⟩ : Cond) ∈ AllW := aw 309 (by decide +kernel) rfl
theorem q_250 : (.instanceMethod ⟨"PartitionDesk", "restart", "(I)V"⟩ : Cond) ∈ AllW := aw 311 (by decide +kernel) rfl
theorem q_251 : (.selects "PartitionDesk" ⟨"PartitionDesk", "restart", "(I)V"⟩ ⟨"PartitionDesk", "restart", "(I)V"⟩ : Cond) ∈ AllW := aw 9 (by decide +kernel) rfl
theorem g_D_216 : CallV "PartitionDesk" 216 u_D_restart 1 0 := ⟨k_D_restart, q_249, q_250, q_251, rfl, rfl⟩
theorem q_252 : (.code ⟨"PartitionDesk$Partition", "clearRegistersAndPlace", "()V"⟩ prog_3_method_5_code 2 none : Cond) ∈ AllW := aw 272 (by decide +kernel) rfl
theorem k_P_clearRegistersAndPlace : CodeOK u_P_clearRegistersAndPlace 0 := ⟨q_252, q_68, by decide, by decide, by decide, by decide +kernel⟩
theorem q_253 : (.methodLink "PartitionDesk" 219 ⟨"PartitionDesk$Partition", "clearRegistersAndPlace", "()V"⟩ : Cond) ∈ AllW := aw 313 (by decide +kernel) rfl
theorem q_254 : (.instanceMethod ⟨"PartitionDesk$Partition", "clearRegistersAndPlace", "()V"⟩ : Cond) ∈ AllW := aw 270 (by decide +kernel) rfl
theorem q_255 : (.selects "PartitionDesk$Partition" ⟨"PartitionDesk$Partition", "clearRegistersAndPlace", "()V"⟩ ⟨"PartitionDesk$Partition", "clearRegistersAndPlace", "()V"⟩ : Cond) ∈ AllW := aw 271 (by decide +kernel) rfl
theorem g_D_219 : CallV "PartitionDesk" 219 u_P_clearRegistersAndPlace 0 1 := ⟨k_P_clearRegistersAndPlace, q_253, q_254, q_255, rfl, rfl⟩
theorem q_256 : (.fieldLink "PartitionDesk$Partition" 9 "PartitionDesk$Partition" "ops" "[I" : Cond) ∈ AllW := aw 70 (by decide +kernel) rfl
theorem f_P_9 : FR "PartitionDesk$Partition" 9 1 0 := ⟨lay1, by decide, q_256⟩
theorem q_257 : (.fieldLink "PartitionDesk$Partition" 15 "PartitionDesk$Partition" "firsts" "[I" : Cond) ∈ AllW := aw 72 (by decide +kernel) rfl
theorem f_P_15 : FR "PartitionDesk$Partition" 15 1 1 := ⟨lay1, by decide, q_257⟩
theorem q_258 : (.fieldLink "PartitionDesk$Partition" 18 "PartitionDesk$Partition" "seconds" "[I" : Cond) ∈ AllW := aw 74 (by decide +kernel) rfl
theorem f_P_18 : FR "PartitionDesk$Partition" 18 1 2 := ⟨lay1, by decide, q_258⟩
theorem q_259 : (.fieldLink "PartitionDesk$Partition" 21 "PartitionDesk$Partition" "actions" "[I" : Cond) ∈ AllW := aw 76 (by decide +kernel) rfl
theorem f_P_21 : FR "PartitionDesk$Partition" 21 1 3 := ⟨lay1, by decide, q_259⟩
theorem q_260 : (.fieldLink "PartitionDesk$Partition" 24 "PartitionDesk$Partition" "registers" "[I" : Cond) ∈ AllW := aw 78 (by decide +kernel) rfl
theorem f_P_24 : FR "PartitionDesk$Partition" 24 1 4 := ⟨lay1, by decide, q_260⟩
theorem q_261 : (.code ⟨"PartitionDesk$ValueQueue", "<init>", "(I)V"⟩ prog_5_method_1_code 2 none : Cond) ∈ AllW := aw 50 (by decide +kernel) rfl
theorem k_V_init : CodeOK u_V_init 1 := ⟨q_261, q_114, by decide, by decide, by decide, by decide +kernel⟩
theorem q_262 : (.methodLink "PartitionDesk$Partition" 29 ⟨"PartitionDesk$ValueQueue", "<init>", "(I)V"⟩ : Cond) ∈ AllW := aw 48 (by decide +kernel) rfl
theorem q_263 : (.instanceMethod ⟨"PartitionDesk$ValueQueue", "<init>", "(I)V"⟩ : Cond) ∈ AllW := aw 49 (by decide +kernel) rfl
theorem g_P_29 : CallI "PartitionDesk$Partition" 29 u_V_init 1 := ⟨k_V_init, q_262, q_263, rfl, rfl⟩
theorem q_264 : (.fieldLink "PartitionDesk$Partition" 32 "PartitionDesk$Partition" "inputs" "LPartitionDesk$ValueQueue;" : Cond) ∈ AllW := aw 86 (by decide +kernel) rfl
theorem f_P_32 : FR "PartitionDesk$Partition" 32 1 5 := ⟨lay1, by decide, q_264⟩
theorem q_265 : (.fieldLink "PartitionDesk$Partition" 36 "PartitionDesk$Partition" "outputs" "[I" : Cond) ∈ AllW := aw 88 (by decide +kernel) rfl
theorem f_P_36 : FR "PartitionDesk$Partition" 36 1 6 := ⟨lay1, by decide, q_265⟩
theorem q_266 : (.fieldLink "PartitionDesk$Partition" 39 "PartitionDesk$Partition" "size" "I" : Cond) ∈ AllW := aw 68 (by decide +kernel) rfl
theorem f_P_39 : FR "PartitionDesk$Partition" 39 1 8 := ⟨lay1, by decide, q_266⟩
theorem q_267 : (.methodLink "PartitionDesk$Partition" 43 ⟨"PartitionDesk$Partition", "takesPart", "()Z"⟩ : Cond) ∈ AllW := aw 248 (by decide +kernel) rfl
theorem g_P_43 : CallV "PartitionDesk$Partition" 43 u_P_takesPart 0 1 := ⟨k_P_takesPart, q_267, q_158, q_159, rfl, rfl⟩
theorem q_268 : (.fieldLink "PartitionDesk$Partition" 47 "PartitionDesk$Partition" "from" "I" : Cond) ∈ AllW := aw 67 (by decide +kernel) rfl
theorem f_P_47 : FR "PartitionDesk$Partition" 47 1 7 := ⟨lay1, by decide, q_268⟩
theorem q_269 : (.methodLink "PartitionDesk$Partition" 50 ⟨"PartitionDesk$Partition", "clearRegistersAndPlace", "()V"⟩ : Cond) ∈ AllW := aw 269 (by decide +kernel) rfl
theorem g_P_50 : CallV "PartitionDesk$Partition" 50 u_P_clearRegistersAndPlace 0 1 := ⟨k_P_clearRegistersAndPlace, q_269, q_254, q_255, rfl, rfl⟩
theorem q_270 : (.fieldLink "PartitionDesk$Partition" 53 "PartitionDesk$Partition" "running" "Z" : Cond) ∈ AllW := aw 82 (by decide +kernel) rfl
theorem f_P_53 : FR "PartitionDesk$Partition" 53 1 10 := ⟨lay1, by decide, q_270⟩
theorem q_271 : (.fieldLink "PartitionDesk$Partition" 57 "PartitionDesk$Partition" "faults" "I" : Cond) ∈ AllW := aw 84 (by decide +kernel) rfl
theorem f_P_57 : FR "PartitionDesk$Partition" 57 1 11 := ⟨lay1, by decide, q_271⟩
theorem q_272 : (.fieldLink "PartitionDesk$Partition" 60 "PartitionDesk$Partition" "place" "I" : Cond) ∈ AllW := aw 80 (by decide +kernel) rfl
theorem f_P_60 : FR "PartitionDesk$Partition" 60 1 9 := ⟨lay1, by decide, q_272⟩
theorem g_P_63 : CallSN "PartitionDesk$Partition" "PartitionDesk" 63 u_D_registerNamed 1 := ⟨k_D_registerNamed, List.mem_singleton.mpr rfl, q_224⟩
theorem q_273 : (.fieldLink "PartitionDesk$Partition" 67 "PartitionDesk$ValueQueue" "count" "I" : Cond) ∈ AllW := aw 56 (by decide +kernel) rfl
theorem f_P_67 : FR "PartitionDesk$Partition" 67 4 2 := ⟨lay4, by decide, q_273⟩
theorem q_274 : (.code ⟨"PartitionDesk$ValueQueue", "take", "()I"⟩ prog_5_method_4_code 2 (some .int) : Cond) ∈ AllW := aw 372 (by decide +kernel) rfl
theorem k_V_take : CodeOK u_V_take 0 := ⟨q_274, q_114, by decide, by decide, by decide, by decide +kernel⟩
theorem q_275 : (.methodLink "PartitionDesk$Partition" 70 ⟨"PartitionDesk$ValueQueue", "take", "()I"⟩ : Cond) ∈ AllW := aw 377 (by decide +kernel) rfl
theorem q_276 : (.instanceMethod ⟨"PartitionDesk$ValueQueue", "take", "()I"⟩ : Cond) ∈ AllW := aw 370 (by decide +kernel) rfl
theorem q_277 : (.selects "PartitionDesk$ValueQueue" ⟨"PartitionDesk$ValueQueue", "take", "()I"⟩ ⟨"PartitionDesk$ValueQueue", "take", "()I"⟩ : Cond) ∈ AllW := aw 371 (by decide +kernel) rfl
theorem g_P_70 : CallV "PartitionDesk$Partition" 70 u_V_take 0 4 := ⟨k_V_take, q_275, q_276, q_277, rfl, rfl⟩
theorem q_278 : (.fieldLink "PartitionDesk$Partition" 74 "PartitionDesk$Partition" "outputCount" "I" : Cond) ∈ AllW := aw 89 (by decide +kernel) rfl
theorem f_P_74 : FR "PartitionDesk$Partition" 74 1 12 := ⟨lay1, by decide, q_278⟩
theorem q_279 : (.methodLink "PartitionDesk$Port" 11 ⟨"PartitionDesk$ValueQueue", "<init>", "(I)V"⟩ : Cond) ∈ AllW := aw 125 (by decide +kernel) rfl
theorem g_Q_11 : CallI "PartitionDesk$Port" 11 u_V_init 1 := ⟨k_V_init, q_279, q_263, rfl, rfl⟩
theorem q_280 : (.fieldLink "PartitionDesk$Port" 14 "PartitionDesk$Port" "values" "LPartitionDesk$ValueQueue;" : Cond) ∈ AllW := aw 130 (by decide +kernel) rfl
theorem f_Q_14 : FR "PartitionDesk$Port" 14 2 0 := ⟨lay2, by decide, q_280⟩
theorem q_281 : (.fieldLink "PartitionDesk$Port" 20 "PartitionDesk$Port" "depth" "I" : Cond) ∈ AllW := aw 128 (by decide +kernel) rfl
theorem f_Q_20 : FR "PartitionDesk$Port" 20 2 3 := ⟨lay2, by decide, q_281⟩
theorem q_282 : (.code ⟨"PartitionDesk$Port", "isSampling", "()Z"⟩ prog_4_method_2_code 1 (some .boolean) : Cond) ∈ AllW := aw 355 (by decide +kernel) rfl
theorem k_Q_isSampling : CodeOK u_Q_isSampling 0 := ⟨q_282, q_73, by decide, by decide, by decide, by decide +kernel⟩
theorem q_283 : (.methodLink "PartitionDesk$Port" 24 ⟨"PartitionDesk$Port", "isSampling", "()Z"⟩ : Cond) ∈ AllW := aw 352 (by decide +kernel) rfl
theorem q_284 : (.instanceMethod ⟨"PartitionDesk$Port", "isSampling", "()Z"⟩ : Cond) ∈ AllW := aw 353 (by decide +kernel) rfl
theorem q_285 : (.selects "PartitionDesk$Port" ⟨"PartitionDesk$Port", "isSampling", "()Z"⟩ ⟨"PartitionDesk$Port", "isSampling", "()Z"⟩ : Cond) ∈ AllW := aw 354 (by decide +kernel) rfl
theorem g_Q_24 : CallV "PartitionDesk$Port" 24 u_Q_isSampling 0 2 := ⟨k_Q_isSampling, q_283, q_284, q_285, rfl, rfl⟩
theorem q_286 : (.methodLink "PartitionDesk$Port" 28 ⟨"PartitionDesk$ValueQueue", "clear", "()V"⟩ : Cond) ∈ AllW := aw 356 (by decide +kernel) rfl
theorem g_Q_28 : CallV "PartitionDesk$Port" 28 u_V_clear 0 4 := ⟨k_V_clear, q_286, q_174, q_175, rfl, rfl⟩
theorem q_287 : (.methodLink "PartitionDesk$Port" 31 ⟨"PartitionDesk$ValueQueue", "put", "(II)Z"⟩ : Cond) ∈ AllW := aw 357 (by decide +kernel) rfl
theorem g_Q_31 : CallV "PartitionDesk$Port" 31 u_V_put 2 4 := ⟨k_V_put, q_287, q_116, q_117, rfl, rfl⟩
theorem q_288 : (.fieldLink "PartitionDesk$Port" 35 "PartitionDesk$Port" "writtenAt" "I" : Cond) ∈ AllW := aw 132 (by decide +kernel) rfl
theorem f_Q_35 : FR "PartitionDesk$Port" 35 2 4 := ⟨lay2, by decide, q_288⟩
theorem q_289 : (.fieldLink "PartitionDesk$Port" 38 "PartitionDesk$ValueQueue" "count" "I" : Cond) ∈ AllW := aw 55 (by decide +kernel) rfl
theorem f_Q_38 : FR "PartitionDesk$Port" 38 4 2 := ⟨lay4, by decide, q_289⟩
theorem q_290 : (.code ⟨"PartitionDesk$ValueQueue", "peek", "()I"⟩ prog_5_method_3_code 1 (some .int) : Cond) ∈ AllW := aw 365 (by decide +kernel) rfl
theorem k_V_peek : CodeOK u_V_peek 0 := ⟨q_290, q_114, by decide, by decide, by decide, by decide +kernel⟩
theorem q_291 : (.methodLink "PartitionDesk$Port" 41 ⟨"PartitionDesk$ValueQueue", "peek", "()I"⟩ : Cond) ∈ AllW := aw 362 (by decide +kernel) rfl
theorem q_292 : (.instanceMethod ⟨"PartitionDesk$ValueQueue", "peek", "()I"⟩ : Cond) ∈ AllW := aw 363 (by decide +kernel) rfl
theorem q_293 : (.selects "PartitionDesk$ValueQueue" ⟨"PartitionDesk$ValueQueue", "peek", "()I"⟩ ⟨"PartitionDesk$ValueQueue", "peek", "()I"⟩ : Cond) ∈ AllW := aw 364 (by decide +kernel) rfl
theorem g_Q_41 : CallV "PartitionDesk$Port" 41 u_V_peek 0 4 := ⟨k_V_peek, q_291, q_292, q_293, rfl, rfl⟩
theorem q_294 : (.code ⟨"java/lang/Math", "min", "(II)I"⟩ prog_8_method_69_code 2 (some .int) : Cond) ∈ AllW := aw 368 (by decide +kernel) rfl
theorem k_J_min : CodeOK u_J_min 2 := ⟨q_294, q_244, by decide, by decide, by decide, by decide +kernel⟩
theorem q_295 : (.methodLink "PartitionDesk$Port" 45 ⟨"java/lang/Math", "min", "(II)I"⟩ : Cond) ∈ AllW := aw 366 (by decide +kernel) rfl
theorem q_296 : (.static ⟨"java/lang/Math", "min", "(II)I"⟩ : Cond) ∈ AllW := aw 367 (by decide +kernel) rfl
theorem g_Q_45 : CallS "PartitionDesk$Port" 45 u_J_min 2 := ⟨k_J_min, q_295, q_296⟩
theorem q_297 : (.methodLink "PartitionDesk$Port" 51 ⟨"PartitionDesk$ValueQueue", "take", "()I"⟩ : Cond) ∈ AllW := aw 369 (by decide +kernel) rfl
theorem g_Q_51 : CallV "PartitionDesk$Port" 51 u_V_take 0 4 := ⟨k_V_take, q_297, q_276, q_277, rfl, rfl⟩
theorem q_298 : (.fieldLink "PartitionDesk$Frame" 9 "PartitionDesk$Frame" "owners" "[I" : Cond) ∈ AllW := aw 150 (by decide +kernel) rfl
theorem f_F_9 : FR "PartitionDesk$Frame" 9 3 0 := ⟨lay3, by decide, q_298⟩
theorem q_299 : (.fieldLink "PartitionDesk$Frame" 15 "PartitionDesk$Frame" "lengths" "[I" : Cond) ∈ AllW := aw 151 (by decide +kernel) rfl
theorem f_F_15 : FR "PartitionDesk$Frame" 15 3 1 := ⟨lay3, by decide, q_299⟩
theorem q_300 : (.fieldLink "PartitionDesk$Frame" 18 "PartitionDesk$Frame" "windows" "I" : Cond) ∈ AllW := aw 152 (by decide +kernel) rfl
theorem f_F_18 : FR "PartitionDesk$Frame" 18 3 2 := ⟨lay3, by decide, q_300⟩
theorem q_301 : (.fieldLink "PartitionDesk$Frame" 22 "PartitionDesk$Frame" "atHand" "I" : Cond) ∈ AllW := aw 153 (by decide +kernel) rfl
theorem f_F_22 : FR "PartitionDesk$Frame" 22 3 3 := ⟨lay3, by decide, q_301⟩
theorem q_302 : (.fieldLink "PartitionDesk$Frame" 25 "PartitionDesk$Frame" "over" "I" : Cond) ∈ AllW := aw 154 (by decide +kernel) rfl
theorem f_F_25 : FR "PartitionDesk$Frame" 25 3 4 := ⟨lay3, by decide, q_302⟩
theorem q_303 : (.fieldLink "PartitionDesk$Frame" 28 "PartitionDesk$Frame" "passed" "I" : Cond) ∈ AllW := aw 155 (by decide +kernel) rfl
theorem f_F_28 : FR "PartitionDesk$Frame" 28 3 5 := ⟨lay3, by decide, q_303⟩
theorem q_304 : (.fieldLink "PartitionDesk$Frame" 31 "PartitionDesk$Frame" "waited" "Z" : Cond) ∈ AllW := aw 157 (by decide +kernel) rfl
theorem f_F_31 : FR "PartitionDesk$Frame" 31 3 6 := ⟨lay3, by decide, q_304⟩
theorem q_305 : (.fieldLink "PartitionDesk$ValueQueue" 7 "PartitionDesk$ValueQueue" "values" "[I" : Cond) ∈ AllW := aw 52 (by decide +kernel) rfl
theorem f_V_7 : FR "PartitionDesk$ValueQueue" 7 4 0 := ⟨lay4, by decide, q_305⟩
theorem q_306 : (.fieldLink "PartitionDesk$ValueQueue" 13 "PartitionDesk$ValueQueue" "first" "I" : Cond) ∈ AllW := aw 53 (by decide +kernel) rfl
theorem f_V_13 : FR "PartitionDesk$ValueQueue" 13 4 1 := ⟨lay4, by decide, q_306⟩
theorem q_307 : (.fieldLink "PartitionDesk$ValueQueue" 17 "PartitionDesk$ValueQueue" "count" "I" : Cond) ∈ AllW := aw 54 (by decide +kernel) rfl
theorem f_V_17 : FR "PartitionDesk$ValueQueue" 17 4 2 := ⟨lay4, by decide, q_307⟩
theorem q_308 : (.fieldLink "PartitionDeskModel" 7 "PartitionDeskModel" "from" "[I" : Cond) ∈ AllW := aw 424 (by decide +kernel) rfl
theorem f_M_7 : FR "PartitionDeskModel" 7 5 0 := ⟨lay5, by decide, q_308⟩
theorem q_309 : (.fieldLink "PartitionDeskModel" 13 "PartitionDeskModel" "size" "[I" : Cond) ∈ AllW := aw 425 (by decide +kernel) rfl
theorem f_M_13 : FR "PartitionDeskModel" 13 5 1 := ⟨lay5, by decide, q_309⟩
theorem q_310 : (.fieldLink "PartitionDeskModel" 16 "PartitionDeskModel" "whose" "[I" : Cond) ∈ AllW := aw 428 (by decide +kernel) rfl
theorem f_M_16 : FR "PartitionDeskModel" 16 5 2 := ⟨lay5, by decide, q_310⟩
theorem q_311 : (.fieldLink "PartitionDeskModel" 19 "PartitionDeskModel" "ticks" "[I" : Cond) ∈ AllW := aw 429 (by decide +kernel) rfl
theorem f_M_19 : FR "PartitionDeskModel" 19 5 3 := ⟨lay5, by decide, q_311⟩
theorem q_312 : (.fieldLink "PartitionDeskModel" 22 "PartitionDeskModel" "sender" "[I" : Cond) ∈ AllW := aw 430 (by decide +kernel) rfl
theorem f_M_22 : FR "PartitionDeskModel" 22 5 4 := ⟨lay5, by decide, q_312⟩
theorem q_313 : (.fieldLink "PartitionDeskModel" 25 "PartitionDeskModel" "taker" "[I" : Cond) ∈ AllW := aw 431 (by decide +kernel) rfl
theorem f_M_25 : FR "PartitionDeskModel" 25 5 5 := ⟨lay5, by decide, q_313⟩
theorem q_314 : (.fieldLink "PartitionDeskModel" 28 "PartitionDeskModel" "depth" "[I" : Cond) ∈ AllW := aw 432 (by decide +kernel) rfl
theorem f_M_28 : FR "PartitionDeskModel" 28 5 6 := ⟨lay5, by decide, q_314⟩
theorem q_315 : (.fieldLink "PartitionDeskModel" 31 "PartitionDeskModel" "held" "[I" : Cond) ∈ AllW := aw 433 (by decide +kernel) rfl
theorem f_M_31 : FR "PartitionDeskModel" 31 5 7 := ⟨lay5, by decide, q_315⟩
theorem q_316 : (.fieldLink "PartitionDeskModel" 34 "PartitionDeskModel" "written" "[I" : Cond) ∈ AllW := aw 434 (by decide +kernel) rfl
theorem f_M_34 : FR "PartitionDeskModel" 34 5 8 := ⟨lay5, by decide, q_316⟩
theorem q_317 : (.fieldLink "PartitionDeskModel" 37 "PartitionDeskModel" "value" "[I" : Cond) ∈ AllW := aw 435 (by decide +kernel) rfl
theorem f_M_37 : FR "PartitionDeskModel" 37 5 9 := ⟨lay5, by decide, q_317⟩
theorem q_318 : (.fieldLink "PartitionDeskModel" 40 "PartitionDeskModel" "action" "[I" : Cond) ∈ AllW := aw 436 (by decide +kernel) rfl
theorem f_M_40 : FR "PartitionDeskModel" 40 5 10 := ⟨lay5, by decide, q_318⟩
theorem q_319 : (.fieldLink "PartitionDeskModel" 43 "PartitionDeskModel" "op" "[I" : Cond) ∈ AllW := aw 437 (by decide +kernel) rfl
theorem f_M_43 : FR "PartitionDeskModel" 43 5 11 := ⟨lay5, by decide, q_319⟩
theorem q_320 : (.fieldLink "PartitionDeskModel" 46 "PartitionDeskModel" "first" "[I" : Cond) ∈ AllW := aw 438 (by decide +kernel) rfl
theorem f_M_46 : FR "PartitionDeskModel" 46 5 12 := ⟨lay5, by decide, q_320⟩
theorem q_321 : (.fieldLink "PartitionDeskModel" 49 "PartitionDeskModel" "second" "[I" : Cond) ∈ AllW := aw 439 (by decide +kernel) rfl
theorem f_M_49 : FR "PartitionDeskModel" 49 5 13 := ⟨lay5, by decide, q_321⟩
theorem q_322 : (.fieldLink "PartitionDeskModel" 52 "PartitionDeskModel" "memory" "[I" : Cond) ∈ AllW := aw 445 (by decide +kernel) rfl
theorem f_M_52 : FR "PartitionDeskModel" 52 5 14 := ⟨lay5, by decide, q_322⟩
theorem q_323 : (.fieldLink "PartitionDeskModel" 55 "PartitionDeskModel" "register" "[I" : Cond) ∈ AllW := aw 446 (by decide +kernel) rfl
theorem f_M_55 : FR "PartitionDeskModel" 55 5 15 := ⟨lay5, by decide, q_323⟩
theorem q_324 : (.fieldLink "PartitionDeskModel" 58 "PartitionDeskModel" "place" "[I" : Cond) ∈ AllW := aw 447 (by decide +kernel) rfl
theorem f_M_58 : FR "PartitionDeskModel" 58 5 16 := ⟨lay5, by decide, q_324⟩
theorem q_325 : (.fieldLink "PartitionDeskModel" 61 "PartitionDeskModel" "faults" "[I" : Cond) ∈ AllW := aw 448 (by decide +kernel) rfl
theorem f_M_61 : FR "PartitionDeskModel" 61 5 17 := ⟨lay5, by decide, q_325⟩
theorem q_326 : (.fieldLink "PartitionDeskModel" 64 "PartitionDeskModel" "runs" "[Z" : Cond) ∈ AllW := aw 449 (by decide +kernel) rfl
theorem f_M_64 : FR "PartitionDeskModel" 64 5 18 := ⟨lay5, by decide, q_326⟩
theorem q_327 : (.fieldLink "PartitionDeskModel" 68 "PartitionDeskModel" "waits" "[Z" : Cond) ∈ AllW := aw 450 (by decide +kernel) rfl
theorem f_M_68 : FR "PartitionDeskModel" 68 5 19 := ⟨lay5, by decide, q_327⟩
theorem q_328 : (.fieldLink "PartitionDeskModel" 71 "PartitionDeskModel" "inputs" "[I" : Cond) ∈ AllW := aw 451 (by decide +kernel) rfl
theorem f_M_71 : FR "PartitionDeskModel" 71 5 20 := ⟨lay5, by decide, q_328⟩
theorem q_329 : (.fieldLink "PartitionDeskModel" 74 "PartitionDeskModel" "input" "[I" : Cond) ∈ AllW := aw 452 (by decide +kernel) rfl
theorem f_M_74 : FR "PartitionDeskModel" 74 5 21 := ⟨lay5, by decide, q_329⟩
theorem q_330 : (.fieldLink "PartitionDeskModel" 77 "PartitionDeskModel" "outputs" "[I" : Cond) ∈ AllW := aw 453 (by decide +kernel) rfl
theorem f_M_77 : FR "PartitionDeskModel" 77 5 22 := ⟨lay5, by decide, q_330⟩
theorem q_331 : (.fieldLink "PartitionDeskModel" 80 "PartitionDeskModel" "output" "[I" : Cond) ∈ AllW := aw 454 (by decide +kernel) rfl
theorem f_M_80 : FR "PartitionDeskModel" 80 5 23 := ⟨lay5, by decide, q_331⟩
theorem q_332 : (.code ⟨"PartitionDeskModel", "in", "(III)Z"⟩ prog_7_method_2_code 3 (some .boolean) : Cond) ∈ AllW := aw 528 (by decide +kernel) rfl
theorem q_333 : (.initialized "PartitionDeskModel" : Cond) ∈ AllW := aw 29 (by decide +kernel) rfl
theorem k_M_in : CodeOK u_M_in 3 := ⟨q_332, q_333, by decide, by decide, by decide, by decide +kernel⟩
theorem q_334 : (.methodLink "PartitionDeskModel" 83 ⟨"PartitionDeskModel", "in", "(III)Z"⟩ : Cond) ∈ AllW := aw 526 (by decide +kernel) rfl
theorem q_335 : (.static ⟨"PartitionDeskModel", "in", "(III)Z"⟩ : Cond) ∈ AllW := aw 527 (by decide +kernel) rfl
theorem g_M_83 : CallS "PartitionDeskModel" 83 u_M_in 3 := ⟨k_M_in, q_334, q_335⟩
theorem q_336 : (.code ⟨"PartitionDeskModel", "isOne", "(I)Z"⟩ prog_7_method_3_code 1 (some .boolean) : Cond) ∈ AllW := aw 525 (by decide +kernel) rfl
theorem k_M_isOne : CodeOK u_M_isOne 1 := ⟨q_336, q_333, by decide, by decide, by decide, by decide +kernel⟩
theorem q_337 : (.methodLink "PartitionDeskModel" 87 ⟨"PartitionDeskModel", "isOne", "(I)Z"⟩ : Cond) ∈ AllW := aw 523 (by decide +kernel) rfl
theorem q_338 : (.static ⟨"PartitionDeskModel", "isOne", "(I)Z"⟩ : Cond) ∈ AllW := aw 524 (by decide +kernel) rfl
theorem g_M_87 : CallS "PartitionDeskModel" 87 u_M_isOne 1 := ⟨k_M_isOne, q_337, q_338⟩
theorem q_339 : (.fieldLink "PartitionDeskModel" 91 "PartitionDeskModel" "started" "Z" : Cond) ∈ AllW := aw 440 (by decide +kernel) rfl
theorem f_M_91 : FR "PartitionDeskModel" 91 5 26 := ⟨lay5, by decide, q_339⟩
theorem q_340 : (.fieldLink "PartitionDeskModel" 95 "PartitionDeskModel" "windows" "I" : Cond) ∈ AllW := aw 426 (by decide +kernel) rfl
theorem f_M_95 : FR "PartitionDeskModel" 95 5 24 := ⟨lay5, by decide, q_340⟩
theorem q_341 : (.fieldLink "PartitionDeskModel" 99 "PartitionDeskModel" "ports" "I" : Cond) ∈ AllW := aw 427 (by decide +kernel) rfl
theorem f_M_99 : FR "PartitionDeskModel" 99 5 25 := ⟨lay5, by decide, q_341⟩
theorem q_342 : (.code ⟨"PartitionDeskModel", "takesPart", "(I)Z"⟩ prog_7_method_9_code 2 (some .boolean) : Cond) ∈ AllW := aw 556 (by decide +kernel) rfl
theorem k_M_takesPart : CodeOK u_M_takesPart 1 := ⟨q_342, q_333, by decide, by decide, by decide, by decide +kernel⟩
theorem q_343 : (.methodLink "PartitionDeskModel" 102 ⟨"PartitionDeskModel", "takesPart", "(I)Z"⟩ : Cond) ∈ AllW := aw 553 (by decide +kernel) rfl
theorem q_344 : (.instanceMethod ⟨"PartitionDeskModel", "takesPart", "(I)Z"⟩ : Cond) ∈ AllW := aw 555 (by decide +kernel) rfl
theorem q_345 : (.selects "PartitionDeskModel" ⟨"PartitionDeskModel", "takesPart", "(I)Z"⟩ ⟨"PartitionDeskModel", "takesPart", "(I)Z"⟩ : Cond) ∈ AllW := aw 16 (by decide +kernel) rfl
theorem g_M_102 : CallV "PartitionDeskModel" 102 u_M_takesPart 1 5 := ⟨k_M_takesPart, q_343, q_344, q_345, rfl, rfl⟩
theorem q_346 : (.code ⟨"PartitionDeskModel", "wrong", "()I"⟩ prog_7_method_10_code 9 (some .int) : Cond) ∈ AllW := aw 552 (by decide +kernel) rfl
theorem k_M_wrong : CodeOK u_M_wrong 0 := ⟨q_346, q_333, by decide, by decide, by decide, by decide +kernel⟩
theorem q_347 : (.methodLink "PartitionDeskModel" 105 ⟨"PartitionDeskModel", "wrong", "()I"⟩ : Cond) ∈ AllW := aw 549 (by decide +kernel) rfl
theorem q_348 : (.instanceMethod ⟨"PartitionDeskModel", "wrong", "()I"⟩ : Cond) ∈ AllW := aw 551 (by decide +kernel) rfl
theorem q_349 : (.selects "PartitionDeskModel" ⟨"PartitionDeskModel", "wrong", "()I"⟩ ⟨"PartitionDeskModel", "wrong", "()I"⟩ : Cond) ∈ AllW := aw 15 (by decide +kernel) rfl
theorem g_M_105 : CallV "PartitionDeskModel" 105 u_M_wrong 0 5 := ⟨k_M_wrong, q_347, q_348, q_349, rfl, rfl⟩
theorem q_350 : (.fieldLink "PartitionDeskModel" 109 "PartitionDeskModel" "window" "I" : Cond) ∈ AllW := aw 441 (by decide +kernel) rfl
theorem f_M_109 : FR "PartitionDeskModel" 109 5 27 := ⟨lay5, by decide, q_350⟩
theorem q_351 : (.fieldLink "PartitionDeskModel" 112 "PartitionDeskModel" "over" "I" : Cond) ∈ AllW := aw 442 (by decide +kernel) rfl
theorem f_M_112 : FR "PartitionDeskModel" 112 5 28 := ⟨lay5, by decide, q_351⟩
theorem q_352 : (.fieldLink "PartitionDeskModel" 115 "PartitionDeskModel" "time" "I" : Cond) ∈ AllW := aw 443 (by decide +kernel) rfl
theorem f_M_115 : FR "PartitionDeskModel" 115 5 29 := ⟨lay5, by decide, q_352⟩
theorem q_353 : (.fieldLink "PartitionDeskModel" 118 "PartitionDeskModel" "done" "I" : Cond) ∈ AllW := aw 444 (by decide +kernel) rfl
theorem f_M_118 : FR "PartitionDeskModel" 118 5 30 := ⟨lay5, by decide, q_353⟩
theorem q_354 : (.code ⟨"PartitionDeskModel", "step", "(I)V"⟩ prog_7_method_14_code 5 none : Cond) ∈ AllW := aw 568 (by decide +kernel) rfl
theorem k_M_step : CodeOK u_M_step 1 := ⟨q_354, q_333, by decide, by decide, by decide, by decide +kernel⟩
theorem q_355 : (.methodLink "PartitionDeskModel" 121 ⟨"PartitionDeskModel", "step", "(I)V"⟩ : Cond) ∈ AllW := aw 565 (by decide +kernel) rfl
theorem q_356 : (.instanceMethod ⟨"PartitionDeskModel", "step", "(I)V"⟩ : Cond) ∈ AllW := aw 567 (by decide +kernel) rfl
theorem q_357 : (.selects "PartitionDeskModel" ⟨"PartitionDeskModel", "step", "(I)V"⟩ ⟨"PartitionDeskModel", "step", "(I)V"⟩ : Cond) ∈ AllW := aw 17 (by decide +kernel) rfl
theorem g_M_121 : CallV "PartitionDeskModel" 121 u_M_step 1 5 := ⟨k_M_step, q_355, q_356, q_357, rfl, rfl⟩
theorem q_358 : (.code ⟨"PartitionDeskModel", "simple", "(IIII)I"⟩ prog_7_method_16_code 9 (some .int) : Cond) ∈ AllW := aw 572 (by decide +kernel) rfl
theorem k_M_simple : CodeOK u_M_simple 4 := ⟨q_358, q_333, by decide, by decide, by decide, by decide +kernel⟩
theorem q_359 : (.methodLink "PartitionDeskModel" 125 ⟨"PartitionDeskModel", "simple", "(IIII)I"⟩ : Cond) ∈ AllW := aw 569 (by decide +kernel) rfl
theorem q_360 : (.instanceMethod ⟨"PartitionDeskModel", "simple", "(IIII)I"⟩ : Cond) ∈ AllW := aw 571 (by decide +kernel) rfl
theorem q_361 : (.selects "PartitionDeskModel" ⟨"PartitionDeskModel", "simple", "(IIII)I"⟩ ⟨"PartitionDeskModel", "simple", "(IIII)I"⟩ : Cond) ∈ AllW := aw 18 (by decide +kernel) rfl
theorem g_M_125 : CallV "PartitionDeskModel" 125 u_M_simple 4 5 := ⟨k_M_simple, q_359, q_360, q_361, rfl, rfl⟩
theorem q_362 : (.code ⟨"PartitionDeskModel", "inside", "(IIII)I"⟩ prog_7_method_17_code 7 (some .int) : Cond) ∈ AllW := aw 580 (by decide +kernel) rfl
theorem k_M_inside : CodeOK u_M_inside 4 := ⟨q_362, q_333, by decide, by decide, by decide, by decide +kernel⟩
theorem q_363 : (.methodLink "PartitionDeskModel" 129 ⟨"PartitionDeskModel", "inside", "(IIII)I"⟩ : Cond) ∈ AllW := aw 577 (by decide +kernel) rfl
theorem q_364 : (.instanceMethod ⟨"PartitionDeskModel", "inside", "(IIII)I"⟩ : Cond) ∈ AllW := aw 579 (by decide +kernel) rfl
theorem q_365 : (.selects "PartitionDeskModel" ⟨"PartitionDeskModel", "inside", "(IIII)I"⟩ ⟨"PartitionDeskModel", "inside", "(IIII)I"⟩ : Cond) ∈ AllW := aw 20 (by decide +kernel) rfl
theorem g_M_129 : CallV "PartitionDeskModel" 129 u_M_inside 4 5 := ⟨k_M_inside, q_363, q_364, q_365, rfl, rfl⟩
theorem q_366 : (.code ⟨"PartitionDeskModel", "message", "(IIII)I"⟩ prog_7_method_18_code 8 (some .int) : Cond) ∈ AllW := aw 584 (by decide +kernel) rfl
theorem k_M_message : CodeOK u_M_message 4 := ⟨q_366, q_333, by decide, by decide, by decide, by decide +kernel⟩
theorem q_367 : (.methodLink "PartitionDeskModel" 132 ⟨"PartitionDeskModel", "message", "(IIII)I"⟩ : Cond) ∈ AllW := aw 581 (by decide +kernel) rfl
theorem q_368 : (.instanceMethod ⟨"PartitionDeskModel", "message", "(IIII)I"⟩ : Cond) ∈ AllW := aw 583 (by decide +kernel) rfl
theorem q_369 : (.selects "PartitionDeskModel" ⟨"PartitionDeskModel", "message", "(IIII)I"⟩ ⟨"PartitionDeskModel", "message", "(IIII)I"⟩ : Cond) ∈ AllW := aw 21 (by decide +kernel) rfl
theorem g_M_132 : CallV "PartitionDeskModel" 132 u_M_message 4 5 := ⟨k_M_message, q_367, q_368, q_369, rfl, rfl⟩
theorem q_370 : (.code ⟨"PartitionDeskModel", "react", "(II)V"⟩ prog_7_method_19_code 5 none : Cond) ∈ AllW := aw 588 (by decide +kernel) rfl
theorem k_M_react : CodeOK u_M_react 2 := ⟨q_370, q_333, by decide, by decide, by decide, by decide +kernel⟩
theorem q_371 : (.methodLink "PartitionDeskModel" 135 ⟨"PartitionDeskModel", "react", "(II)V"⟩ : Cond) ∈ AllW := aw 585 (by decide +kernel) rfl
theorem q_372 : (.instanceMethod ⟨"PartitionDeskModel", "react", "(II)V"⟩ : Cond) ∈ AllW := aw 587 (by decide +kernel) rfl
theorem q_373 : (.selects "PartitionDeskModel" ⟨"PartitionDeskModel", "react", "(II)V"⟩ ⟨"PartitionDeskModel", "react", "(II)V"⟩ : Cond) ∈ AllW := aw 22 (by decide +kernel) rfl
theorem g_M_135 : CallV "PartitionDeskModel" 135 u_M_react 2 5 := ⟨k_M_react, q_371, q_372, q_373, rfl, rfl⟩
theorem q_374 : (.code ⟨"PartitionDeskModel", "goOn", "(I)V"⟩ prog_7_method_15_code 2 none : Cond) ∈ AllW := aw 576 (by decide +kernel) rfl
theorem k_M_goOn : CodeOK u_M_goOn 1 := ⟨q_374, q_333, by decide, by decide, by decide, by decide +kernel⟩
theorem q_375 : (.methodLink "PartitionDeskModel" 139 ⟨"PartitionDeskModel", "goOn", "(I)V"⟩ : Cond) ∈ AllW := aw 573 (by decide +kernel) rfl
theorem q_376 : (.instanceMethod ⟨"PartitionDeskModel", "goOn", "(I)V"⟩ : Cond) ∈ AllW := aw 575 (by decide +kernel) rfl
theorem q_377 : (.selects "PartitionDeskModel" ⟨"PartitionDeskModel", "goOn", "(I)V"⟩ ⟨"PartitionDeskModel", "goOn", "(I)V"⟩ : Cond) ∈ AllW := aw 19 (by decide +kernel) rfl
theorem g_M_139 : CallV "PartitionDeskModel" 139 u_M_goOn 1 5 := ⟨k_M_goOn, q_375, q_376, q_377, rfl, rfl⟩
theorem q_378 : (.code ⟨"PartitionDesk", "<init>", "()V"⟩ prog_1_method_1_code 2 none : Cond) ∈ AllW := aw 35 (by decide +kernel) rfl
theorem k_D_init : CodeOK u_D_init 0 := ⟨q_378, q_84, by decide, by decide, by decide, by decide +kernel⟩
theorem q_379 : (.methodLink "PartitionDeskLaw" 9 ⟨"PartitionDesk", "<init>", "()V"⟩ : Cond) ∈ AllW := aw 33 (by decide +kernel) rfl
theorem q_380 : (.instanceMethod ⟨"PartitionDesk", "<init>", "()V"⟩ : Cond) ∈ AllW := aw 34 (by decide +kernel) rfl
theorem g_L_9 : CallI "PartitionDeskLaw" 9 u_D_init 0 := ⟨k_D_init, q_379, q_380, rfl, rfl⟩
theorem q_381 : (.code ⟨"PartitionDeskModel", "<init>", "()V"⟩ prog_7_method_1_code 1 none : Cond) ∈ AllW := aw 422 (by decide +kernel) rfl
theorem k_M_init : CodeOK u_M_init 0 := ⟨q_381, q_333, by decide, by decide, by decide, by decide +kernel⟩
theorem q_382 : (.methodLink "PartitionDeskLaw" 12 ⟨"PartitionDeskModel", "<init>", "()V"⟩ : Cond) ∈ AllW := aw 420 (by decide +kernel) rfl
theorem q_383 : (.instanceMethod ⟨"PartitionDeskModel", "<init>", "()V"⟩ : Cond) ∈ AllW := aw 421 (by decide +kernel) rfl
theorem g_L_12 : CallI "PartitionDeskLaw" 12 u_M_init 0 := ⟨k_M_init, q_382, q_383, rfl, rfl⟩
theorem q_384 : (.code ⟨"PartitionDesk", "region", "(III)Z"⟩ prog_1_method_2_code 4 (some .boolean) : Cond) ∈ AllW := aw 196 (by decide +kernel) rfl
theorem k_D_region : CodeOK u_D_region 3 := ⟨q_384, q_84, by decide, by decide, by decide, by decide +kernel⟩
theorem q_385 : (.methodLink "PartitionDeskLaw" 13 ⟨"PartitionDesk", "region", "(III)Z"⟩ : Cond) ∈ AllW := aw 193 (by decide +kernel) rfl
theorem q_386 : (.instanceMethod ⟨"PartitionDesk", "region", "(III)Z"⟩ : Cond) ∈ AllW := aw 194 (by decide +kernel) rfl
theorem q_387 : (.selects "PartitionDesk" ⟨"PartitionDesk", "region", "(III)Z"⟩ ⟨"PartitionDesk", "region", "(III)Z"⟩ : Cond) ∈ AllW := aw 195 (by decide +kernel) rfl
theorem g_L_13 : CallV "PartitionDeskLaw" 13 u_D_region 3 0 := ⟨k_D_region, q_385, q_386, q_387, rfl, rfl⟩
theorem q_388 : (.code ⟨"PartitionDeskModel", "region", "(III)Z"⟩ prog_7_method_4_code 4 (some .boolean) : Cond) ∈ AllW := aw 522 (by decide +kernel) rfl
theorem k_M_region : CodeOK u_M_region 3 := ⟨q_388, q_333, by decide, by decide, by decide, by decide +kernel⟩
theorem q_389 : (.methodLink "PartitionDeskLaw" 17 ⟨"PartitionDeskModel", "region", "(III)Z"⟩ : Cond) ∈ AllW := aw 519 (by decide +kernel) rfl
theorem q_390 : (.instanceMethod ⟨"PartitionDeskModel", "region", "(III)Z"⟩ : Cond) ∈ AllW := aw 520 (by decide +kernel) rfl
theorem q_391 : (.selects "PartitionDeskModel" ⟨"PartitionDeskModel", "region", "(III)Z"⟩ ⟨"PartitionDeskModel", "region", "(III)Z"⟩ : Cond) ∈ AllW := aw 521 (by decide +kernel) rfl
theorem g_L_17 : CallV "PartitionDeskLaw" 17 u_M_region 3 5 := ⟨k_M_region, q_389, q_390, q_391, rfl, rfl⟩
theorem q_392 : (.code ⟨"PartitionDesk", "window", "(II)Z"⟩ prog_1_method_3_code 3 (some .boolean) : Cond) ∈ AllW := aw 203 (by decide +kernel) rfl
theorem k_D_window : CodeOK u_D_window 2 := ⟨q_392, q_84, by decide, by decide, by decide, by decide +kernel⟩
theorem q_393 : (.methodLink "PartitionDeskLaw" 18 ⟨"PartitionDesk", "window", "(II)Z"⟩ : Cond) ∈ AllW := aw 200 (by decide +kernel) rfl
theorem q_394 : (.instanceMethod ⟨"PartitionDesk", "window", "(II)Z"⟩ : Cond) ∈ AllW := aw 201 (by decide +kernel) rfl
theorem q_395 : (.selects "PartitionDesk" ⟨"PartitionDesk", "window", "(II)Z"⟩ ⟨"PartitionDesk", "window", "(II)Z"⟩ : Cond) ∈ AllW := aw 202 (by decide +kernel) rfl
theorem g_L_18 : CallV "PartitionDeskLaw" 18 u_D_window 2 0 := ⟨k_D_window, q_393, q_394, q_395, rfl, rfl⟩
theorem q_396 : (.code ⟨"PartitionDeskModel", "window", "(II)Z"⟩ prog_7_method_5_code 3 (some .boolean) : Cond) ∈ AllW := aw 532 (by decide +kernel) rfl
theorem k_M_window : CodeOK u_M_window 2 := ⟨q_396, q_333, by decide, by decide, by decide, by decide +kernel⟩
theorem q_397 : (.methodLink "PartitionDeskLaw" 22 ⟨"PartitionDeskModel", "window", "(II)Z"⟩ : Cond) ∈ AllW := aw 529 (by decide +kernel) rfl
theorem q_398 : (.instanceMethod ⟨"PartitionDeskModel", "window", "(II)Z"⟩ : Cond) ∈ AllW := aw 530 (by decide +kernel) rfl
theorem q_399 : (.selects "PartitionDeskModel" ⟨"PartitionDeskModel", "window", "(II)Z"⟩ ⟨"PartitionDeskModel", "window", "(II)Z"⟩ : Cond) ∈ AllW := aw 531 (by decide +kernel) rfl
theorem g_L_22 : CallV "PartitionDeskLaw" 22 u_M_window 2 5 := ⟨k_M_window, q_397, q_398, q_399, rfl, rfl⟩
theorem q_400 : (.code ⟨"PartitionDesk", "port", "(III)I"⟩ prog_1_method_4_code 5 (some .int) : Cond) ∈ AllW := aw 215 (by decide +kernel) rfl
theorem k_D_port : CodeOK u_D_port 3 := ⟨q_400, q_84, by decide, by decide, by decide, by decide +kernel⟩
theorem q_401 : (.methodLink "PartitionDeskLaw" 23 ⟨"PartitionDesk", "port", "(III)I"⟩ : Cond) ∈ AllW := aw 212 (by decide +kernel) rfl
theorem q_402 : (.instanceMethod ⟨"PartitionDesk", "port", "(III)I"⟩ : Cond) ∈ AllW := aw 213 (by decide +kernel) rfl
theorem q_403 : (.selects "PartitionDesk" ⟨"PartitionDesk", "port", "(III)I"⟩ ⟨"PartitionDesk", "port", "(III)I"⟩ : Cond) ∈ AllW := aw 214 (by decide +kernel) rfl
theorem g_L_23 : CallV "PartitionDeskLaw" 23 u_D_port 3 0 := ⟨k_D_port, q_401, q_402, q_403, rfl, rfl⟩
theorem q_404 : (.code ⟨"PartitionDeskModel", "port", "(III)I"⟩ prog_7_method_6_code 4 (some .int) : Cond) ∈ AllW := aw 536 (by decide +kernel) rfl
theorem k_M_port : CodeOK u_M_port 3 := ⟨q_404, q_333, by decide, by decide, by decide, by decide +kernel⟩
theorem q_405 : (.methodLink "PartitionDeskLaw" 27 ⟨"PartitionDeskModel", "port", "(III)I"⟩ : Cond) ∈ AllW := aw 533 (by decide +kernel) rfl
theorem q_406 : (.instanceMethod ⟨"PartitionDeskModel", "port", "(III)I"⟩ : Cond) ∈ AllW := aw 534 (by decide +kernel) rfl
theorem q_407 : (.selects "PartitionDeskModel" ⟨"PartitionDeskModel", "port", "(III)I"⟩ ⟨"PartitionDeskModel", "port", "(III)I"⟩ : Cond) ∈ AllW := aw 535 (by decide +kernel) rfl
theorem g_L_27 : CallV "PartitionDeskLaw" 27 u_M_port 3 5 := ⟨k_M_port, q_405, q_406, q_407, rfl, rfl⟩
theorem q_408 : (.code ⟨"PartitionDesk", "action", "(III)Z"⟩ prog_1_method_5_code 4 (some .boolean) : Cond) ∈ AllW := aw 219 (by decide +kernel) rfl
theorem k_D_action : CodeOK u_D_action 3 := ⟨q_408, q_84, by decide, by decide, by decide, by decide +kernel⟩
theorem q_409 : (.methodLink "PartitionDeskLaw" 28 ⟨"PartitionDesk", "action", "(III)Z"⟩ : Cond) ∈ AllW := aw 216 (by decide +kernel) rfl
theorem q_410 : (.instanceMethod ⟨"PartitionDesk", "action", "(III)Z"⟩ : Cond) ∈ AllW := aw 217 (by decide +kernel) rfl
theorem q_411 : (.selects "PartitionDesk" ⟨"PartitionDesk", "action", "(III)Z"⟩ ⟨"PartitionDesk", "action", "(III)Z"⟩ : Cond) ∈ AllW := aw 218 (by decide +kernel) rfl
theorem g_L_28 : CallV "PartitionDeskLaw" 28 u_D_action 3 0 := ⟨k_D_action, q_409, q_410, q_411, rfl, rfl⟩
theorem q_412 : (.code ⟨"PartitionDeskModel", "action", "(III)Z"⟩ prog_7_method_7_code 4 (some .boolean) : Cond) ∈ AllW := aw 540 (by decide +kernel) rfl
theorem k_M_action : CodeOK u_M_action 3 := ⟨q_412, q_333, by decide, by decide, by decide, by decide +kernel⟩
theorem q_413 : (.methodLink "PartitionDeskLaw" 31 ⟨"PartitionDeskModel", "action", "(III)Z"⟩ : Cond) ∈ AllW := aw 537 (by decide +kernel) rfl
theorem q_414 : (.instanceMethod ⟨"PartitionDeskModel", "action", "(III)Z"⟩ : Cond) ∈ AllW := aw 538 (by decide +kernel) rfl
theorem q_415 : (.selects "PartitionDeskModel" ⟨"PartitionDeskModel", "action", "(III)Z"⟩ ⟨"PartitionDeskModel", "action", "(III)Z"⟩ : Cond) ∈ AllW := aw 539 (by decide +kernel) rfl
theorem g_L_31 : CallV "PartitionDeskLaw" 31 u_M_action 3 5 := ⟨k_M_action, q_413, q_414, q_415, rfl, rfl⟩
theorem q_416 : (.code ⟨"PartitionDesk", "code", "(IIIII)Z"⟩ prog_1_method_6_code 6 (some .boolean) : Cond) ∈ AllW := aw 223 (by decide +kernel) rfl
theorem k_D_code : CodeOK u_D_code 5 := ⟨q_416, q_84, by decide, by decide, by decide, by decide +kernel⟩
theorem q_417 : (.methodLink "PartitionDeskLaw" 32 ⟨"PartitionDesk", "code", "(IIIII)Z"⟩ : Cond) ∈ AllW := aw 220 (by decide +kernel) rfl
theorem q_418 : (.instanceMethod ⟨"PartitionDesk", "code", "(IIIII)Z"⟩ : Cond) ∈ AllW := aw 221 (by decide +kernel) rfl
theorem q_419 : (.selects "PartitionDesk" ⟨"PartitionDesk", "code", "(IIIII)Z"⟩ ⟨"PartitionDesk", "code", "(IIIII)Z"⟩ : Cond) ∈ AllW := aw 222 (by decide +kernel) rfl
theorem g_L_32 : CallV "PartitionDeskLaw" 32 u_D_code 5 0 := ⟨k_D_code, q_417, q_418, q_419, rfl, rfl⟩
theorem q_420 : (.code ⟨"PartitionDeskModel", "code", "(IIIII)Z"⟩ prog_7_method_8_code 7 (some .boolean) : Cond) ∈ AllW := aw 544 (by decide +kernel) rfl
theorem k_M_code : CodeOK u_M_code 5 := ⟨q_420, q_333, by decide, by decide, by decide, by decide +kernel⟩
theorem q_421 : (.methodLink "PartitionDeskLaw" 36 ⟨"PartitionDeskModel", "code", "(IIIII)Z"⟩ : Cond) ∈ AllW := aw 541 (by decide +kernel) rfl
theorem q_422 : (.instanceMethod ⟨"PartitionDeskModel", "code", "(IIIII)Z"⟩ : Cond) ∈ AllW := aw 542 (by decide +kernel) rfl
theorem q_423 : (.selects "PartitionDeskModel" ⟨"PartitionDeskModel", "code", "(IIIII)Z"⟩ ⟨"PartitionDeskModel", "code", "(IIIII)Z"⟩ : Cond) ∈ AllW := aw 543 (by decide +kernel) rfl
theorem g_L_36 : CallV "PartitionDeskLaw" 36 u_M_code 5 5 := ⟨k_M_code, q_421, q_422, q_423, rfl, rfl⟩
theorem q_424 : (.code ⟨"PartitionDesk", "start", "()I"⟩ prog_1_method_7_code 2 (some .int) : Cond) ∈ AllW := aw 227 (by decide +kernel) rfl
theorem k_D_start : CodeOK u_D_start 0 := ⟨q_424, q_84, by decide, by decide, by decide, by decide +kernel⟩
theorem q_425 : (.methodLink "PartitionDeskLaw" 37 ⟨"PartitionDesk", "start", "()I"⟩ : Cond) ∈ AllW := aw 224 (by decide +kernel) rfl
theorem q_426 : (.instanceMethod ⟨"PartitionDesk", "start", "()I"⟩ : Cond) ∈ AllW := aw 225 (by decide +kernel) rfl
theorem q_427 : (.selects "PartitionDesk" ⟨"PartitionDesk", "start", "()I"⟩ ⟨"PartitionDesk", "start", "()I"⟩ : Cond) ∈ AllW := aw 226 (by decide +kernel) rfl
theorem g_L_37 : CallV "PartitionDeskLaw" 37 u_D_start 0 0 := ⟨k_D_start, q_425, q_426, q_427, rfl, rfl⟩
theorem q_428 : (.code ⟨"PartitionDeskModel", "start", "()I"⟩ prog_7_method_11_code 3 (some .int) : Cond) ∈ AllW := aw 548 (by decide +kernel) rfl
theorem k_M_start : CodeOK u_M_start 0 := ⟨q_428, q_333, by decide, by decide, by decide, by decide +kernel⟩
theorem q_429 : (.methodLink "PartitionDeskLaw" 41 ⟨"PartitionDeskModel", "start", "()I"⟩ : Cond) ∈ AllW := aw 545 (by decide +kernel) rfl
theorem q_430 : (.instanceMethod ⟨"PartitionDeskModel", "start", "()I"⟩ : Cond) ∈ AllW := aw 546 (by decide +kernel) rfl
theorem q_431 : (.selects "PartitionDeskModel" ⟨"PartitionDeskModel", "start", "()I"⟩ ⟨"PartitionDeskModel", "start", "()I"⟩ : Cond) ∈ AllW := aw 547 (by decide +kernel) rfl
theorem g_L_41 : CallV "PartitionDeskLaw" 41 u_M_start 0 5 := ⟨k_M_start, q_429, q_430, q_431, rfl, rfl⟩
theorem q_432 : (.code ⟨"PartitionDesk", "input", "(II)I"⟩ prog_1_method_8_code 4 (some .int) : Cond) ∈ AllW := aw 284 (by decide +kernel) rfl
theorem k_D_input : CodeOK u_D_input 2 := ⟨q_432, q_84, by decide, by decide, by decide, by decide +kernel⟩
theorem q_433 : (.methodLink "PartitionDeskLaw" 42 ⟨"PartitionDesk", "input", "(II)I"⟩ : Cond) ∈ AllW := aw 281 (by decide +kernel) rfl
theorem q_434 : (.instanceMethod ⟨"PartitionDesk", "input", "(II)I"⟩ : Cond) ∈ AllW := aw 282 (by decide +kernel) rfl
theorem q_435 : (.selects "PartitionDesk" ⟨"PartitionDesk", "input", "(II)I"⟩ ⟨"PartitionDesk", "input", "(II)I"⟩ : Cond) ∈ AllW := aw 283 (by decide +kernel) rfl
theorem g_L_42 : CallV "PartitionDeskLaw" 42 u_D_input 2 0 := ⟨k_D_input, q_433, q_434, q_435, rfl, rfl⟩
theorem q_436 : (.code ⟨"PartitionDeskModel", "input", "(II)I"⟩ prog_7_method_12_code 3 (some .int) : Cond) ∈ AllW := aw 560 (by decide +kernel) rfl
theorem k_M_input : CodeOK u_M_input 2 := ⟨q_436, q_333, by decide, by decide, by decide, by decide +kernel⟩
theorem q_437 : (.methodLink "PartitionDeskLaw" 46 ⟨"PartitionDeskModel", "input", "(II)I"⟩ : Cond) ∈ AllW := aw 557 (by decide +kernel) rfl
theorem q_438 : (.instanceMethod ⟨"PartitionDeskModel", "input", "(II)I"⟩ : Cond) ∈ AllW := aw 558 (by decide +kernel) rfl
theorem q_439 : (.selects "PartitionDeskModel" ⟨"PartitionDeskModel", "input", "(II)I"⟩ ⟨"PartitionDeskModel", "input", "(II)I"⟩ : Cond) ∈ AllW := aw 559 (by decide +kernel) rfl
theorem g_L_46 : CallV "PartitionDeskLaw" 46 u_M_input 2 5 := ⟨k_M_input, q_437, q_438, q_439, rfl, rfl⟩
theorem q_440 : (.code ⟨"PartitionDesk", "run", "(I)I"⟩ prog_1_method_9_code 4 (some .int) : Cond) ∈ AllW := aw 292 (by decide +kernel) rfl
theorem k_D_run : CodeOK u_D_run 1 := ⟨q_440, q_84, by decide, by decide, by decide, by decide +kernel⟩
theorem q_441 : (.methodLink "PartitionDeskLaw" 47 ⟨"PartitionDesk", "run", "(I)I"⟩ : Cond) ∈ AllW := aw 289 (by decide +kernel) rfl
theorem q_442 : (.instanceMethod ⟨"PartitionDesk", "run", "(I)I"⟩ : Cond) ∈ AllW := aw 290 (by decide +kernel) rfl
theorem q_443 : (.selects "PartitionDesk" ⟨"PartitionDesk", "run", "(I)I"⟩ ⟨"PartitionDesk", "run", "(I)I"⟩ : Cond) ∈ AllW := aw 291 (by decide +kernel) rfl
theorem g_L_47 : CallV "PartitionDeskLaw" 47 u_D_run 1 0 := ⟨k_D_run, q_441, q_442, q_443, rfl, rfl⟩
theorem q_444 : (.code ⟨"PartitionDeskModel", "run", "(I)I"⟩ prog_7_method_13_code 4 (some .int) : Cond) ∈ AllW := aw 564 (by decide +kernel) rfl
theorem k_M_run : CodeOK u_M_run 1 := ⟨q_444, q_333, by decide, by decide, by decide, by decide +kernel⟩
theorem q_445 : (.methodLink "PartitionDeskLaw" 51 ⟨"PartitionDeskModel", "run", "(I)I"⟩ : Cond) ∈ AllW := aw 561 (by decide +kernel) rfl
theorem q_446 : (.instanceMethod ⟨"PartitionDeskModel", "run", "(I)I"⟩ : Cond) ∈ AllW := aw 562 (by decide +kernel) rfl
theorem q_447 : (.selects "PartitionDeskModel" ⟨"PartitionDeskModel", "run", "(I)I"⟩ ⟨"PartitionDeskModel", "run", "(I)I"⟩ : Cond) ∈ AllW := aw 563 (by decide +kernel) rfl
theorem g_L_51 : CallV "PartitionDeskLaw" 51 u_M_run 1 5 := ⟨k_M_run, q_445, q_446, q_447, rfl, rfl⟩
theorem q_448 : (.code ⟨"PartitionDesk", "output", "(II)I"⟩ prog_1_method_10_code 3 (some .int) : Cond) ∈ AllW := aw 389 (by decide +kernel) rfl
theorem k_D_output : CodeOK u_D_output 2 := ⟨q_448, q_84, by decide, by decide, by decide, by decide +kernel⟩
theorem q_449 : (.methodLink "PartitionDeskLaw" 52 ⟨"PartitionDesk", "output", "(II)I"⟩ : Cond) ∈ AllW := aw 386 (by decide +kernel) rfl
theorem q_450 : (.instanceMethod ⟨"PartitionDesk", "output", "(II)I"⟩ : Cond) ∈ AllW := aw 387 (by decide +kernel) rfl
theorem q_451 : (.selects "PartitionDesk" ⟨"PartitionDesk", "output", "(II)I"⟩ ⟨"PartitionDesk", "output", "(II)I"⟩ : Cond) ∈ AllW := aw 388 (by decide +kernel) rfl
theorem g_L_52 : CallV "PartitionDeskLaw" 52 u_D_output 2 0 := ⟨k_D_output, q_449, q_450, q_451, rfl, rfl⟩
theorem q_452 : (.code ⟨"PartitionDeskModel", "output", "(II)I"⟩ prog_7_method_20_code 3 (some .int) : Cond) ∈ AllW := aw 592 (by decide +kernel) rfl
theorem k_M_output : CodeOK u_M_output 2 := ⟨q_452, q_333, by decide, by decide, by decide, by decide +kernel⟩
theorem q_453 : (.methodLink "PartitionDeskLaw" 55 ⟨"PartitionDeskModel", "output", "(II)I"⟩ : Cond) ∈ AllW := aw 589 (by decide +kernel) rfl
theorem q_454 : (.instanceMethod ⟨"PartitionDeskModel", "output", "(II)I"⟩ : Cond) ∈ AllW := aw 590 (by decide +kernel) rfl
theorem q_455 : (.selects "PartitionDeskModel" ⟨"PartitionDeskModel", "output", "(II)I"⟩ ⟨"PartitionDeskModel", "output", "(II)I"⟩ : Cond) ∈ AllW := aw 591 (by decide +kernel) rfl
theorem g_L_55 : CallV "PartitionDeskLaw" 55 u_M_output 2 5 := ⟨k_M_output, q_453, q_454, q_455, rfl, rfl⟩
theorem q_456 : (.code ⟨"PartitionDesk", "about", "(II)I"⟩ prog_1_method_11_code 3 (some .int) : Cond) ∈ AllW := aw 397 (by decide +kernel) rfl
theorem k_D_about : CodeOK u_D_about 2 := ⟨q_456, q_84, by decide, by decide, by decide, by decide +kernel⟩
theorem q_457 : (.methodLink "PartitionDeskLaw" 56 ⟨"PartitionDesk", "about", "(II)I"⟩ : Cond) ∈ AllW := aw 394 (by decide +kernel) rfl
theorem q_458 : (.instanceMethod ⟨"PartitionDesk", "about", "(II)I"⟩ : Cond) ∈ AllW := aw 395 (by decide +kernel) rfl
theorem q_459 : (.selects "PartitionDesk" ⟨"PartitionDesk", "about", "(II)I"⟩ ⟨"PartitionDesk", "about", "(II)I"⟩ : Cond) ∈ AllW := aw 396 (by decide +kernel) rfl
theorem g_L_56 : CallV "PartitionDeskLaw" 56 u_D_about 2 0 := ⟨k_D_about, q_457, q_458, q_459, rfl, rfl⟩
theorem q_460 : (.code ⟨"PartitionDeskModel", "about", "(II)I"⟩ prog_7_method_21_code 3 (some .int) : Cond) ∈ AllW := aw 596 (by decide +kernel) rfl
theorem k_M_about : CodeOK u_M_about 2 := ⟨q_460, q_333, by decide, by decide, by decide, by decide +kernel⟩
theorem q_461 : (.methodLink "PartitionDeskLaw" 59 ⟨"PartitionDeskModel", "about", "(II)I"⟩ : Cond) ∈ AllW := aw 593 (by decide +kernel) rfl
theorem q_462 : (.instanceMethod ⟨"PartitionDeskModel", "about", "(II)I"⟩ : Cond) ∈ AllW := aw 594 (by decide +kernel) rfl
theorem q_463 : (.selects "PartitionDeskModel" ⟨"PartitionDeskModel", "about", "(II)I"⟩ ⟨"PartitionDeskModel", "about", "(II)I"⟩ : Cond) ∈ AllW := aw 595 (by decide +kernel) rfl
theorem g_L_59 : CallV "PartitionDeskLaw" 59 u_M_about 2 5 := ⟨k_M_about, q_461, q_462, q_463, rfl, rfl⟩
theorem q_464 : (.code ⟨"PartitionDesk", "word", "(I)I"⟩ prog_1_method_12_code 2 (some .int) : Cond) ∈ AllW := aw 405 (by decide +kernel) rfl
theorem k_D_word : CodeOK u_D_word 1 := ⟨q_464, q_84, by decide, by decide, by decide, by decide +kernel⟩
theorem q_465 : (.methodLink "PartitionDeskLaw" 60 ⟨"PartitionDesk", "word", "(I)I"⟩ : Cond) ∈ AllW := aw 402 (by decide +kernel) rfl
theorem q_466 : (.instanceMethod ⟨"PartitionDesk", "word", "(I)I"⟩ : Cond) ∈ AllW := aw 403 (by decide +kernel) rfl
theorem q_467 : (.selects "PartitionDesk" ⟨"PartitionDesk", "word", "(I)I"⟩ ⟨"PartitionDesk", "word", "(I)I"⟩ : Cond) ∈ AllW := aw 404 (by decide +kernel) rfl
theorem g_L_60 : CallV "PartitionDeskLaw" 60 u_D_word 1 0 := ⟨k_D_word, q_465, q_466, q_467, rfl, rfl⟩
theorem q_468 : (.code ⟨"PartitionDeskModel", "word", "(I)I"⟩ prog_7_method_22_code 2 (some .int) : Cond) ∈ AllW := aw 600 (by decide +kernel) rfl
theorem k_M_word : CodeOK u_M_word 1 := ⟨q_468, q_333, by decide, by decide, by decide, by decide +kernel⟩
theorem q_469 : (.methodLink "PartitionDeskLaw" 63 ⟨"PartitionDeskModel", "word", "(I)I"⟩ : Cond) ∈ AllW := aw 597 (by decide +kernel) rfl
theorem q_470 : (.instanceMethod ⟨"PartitionDeskModel", "word", "(I)I"⟩ : Cond) ∈ AllW := aw 598 (by decide +kernel) rfl
theorem q_471 : (.selects "PartitionDeskModel" ⟨"PartitionDeskModel", "word", "(I)I"⟩ ⟨"PartitionDeskModel", "word", "(I)I"⟩ : Cond) ∈ AllW := aw 599 (by decide +kernel) rfl
theorem g_L_63 : CallV "PartitionDeskLaw" 63 u_M_word 1 5 := ⟨k_M_word, q_469, q_470, q_471, rfl, rfl⟩
theorem q_472 : (.code ⟨"PartitionDesk", "waiting", "(I)I"⟩ prog_1_method_13_code 2 (some .int) : Cond) ∈ AllW := aw 409 (by decide +kernel) rfl
theorem k_D_waiting : CodeOK u_D_waiting 1 := ⟨q_472, q_84, by decide, by decide, by decide, by decide +kernel⟩
theorem q_473 : (.methodLink "PartitionDeskLaw" 64 ⟨"PartitionDesk", "waiting", "(I)I"⟩ : Cond) ∈ AllW := aw 406 (by decide +kernel) rfl
theorem q_474 : (.instanceMethod ⟨"PartitionDesk", "waiting", "(I)I"⟩ : Cond) ∈ AllW := aw 407 (by decide +kernel) rfl
theorem q_475 : (.selects "PartitionDesk" ⟨"PartitionDesk", "waiting", "(I)I"⟩ ⟨"PartitionDesk", "waiting", "(I)I"⟩ : Cond) ∈ AllW := aw 408 (by decide +kernel) rfl
theorem g_L_64 : CallV "PartitionDeskLaw" 64 u_D_waiting 1 0 := ⟨k_D_waiting, q_473, q_474, q_475, rfl, rfl⟩
theorem q_476 : (.code ⟨"PartitionDeskModel", "waiting", "(I)I"⟩ prog_7_method_23_code 2 (some .int) : Cond) ∈ AllW := aw 604 (by decide +kernel) rfl
theorem k_M_waiting : CodeOK u_M_waiting 1 := ⟨q_476, q_333, by decide, by decide, by decide, by decide +kernel⟩
theorem q_477 : (.methodLink "PartitionDeskLaw" 67 ⟨"PartitionDeskModel", "waiting", "(I)I"⟩ : Cond) ∈ AllW := aw 601 (by decide +kernel) rfl
theorem q_478 : (.instanceMethod ⟨"PartitionDeskModel", "waiting", "(I)I"⟩ : Cond) ∈ AllW := aw 602 (by decide +kernel) rfl
theorem q_479 : (.selects "PartitionDeskModel" ⟨"PartitionDeskModel", "waiting", "(I)I"⟩ ⟨"PartitionDeskModel", "waiting", "(I)I"⟩ : Cond) ∈ AllW := aw 603 (by decide +kernel) rfl
theorem g_L_67 : CallV "PartitionDeskLaw" 67 u_M_waiting 1 5 := ⟨k_M_waiting, q_477, q_478, q_479, rfl, rfl⟩
theorem q_480 : (.code ⟨"PartitionDesk", "clock", "(I)I"⟩ prog_1_method_14_code 2 (some .int) : Cond) ∈ AllW := aw 413 (by decide +kernel) rfl
theorem k_D_clock : CodeOK u_D_clock 1 := ⟨q_480, q_84, by decide, by decide, by decide, by decide +kernel⟩
theorem q_481 : (.methodLink "PartitionDeskLaw" 68 ⟨"PartitionDesk", "clock", "(I)I"⟩ : Cond) ∈ AllW := aw 410 (by decide +kernel) rfl
theorem q_482 : (.instanceMethod ⟨"PartitionDesk", "clock", "(I)I"⟩ : Cond) ∈ AllW := aw 411 (by decide +kernel) rfl
theorem q_483 : (.selects "PartitionDesk" ⟨"PartitionDesk", "clock", "(I)I"⟩ ⟨"PartitionDesk", "clock", "(I)I"⟩ : Cond) ∈ AllW := aw 412 (by decide +kernel) rfl
theorem g_L_68 : CallV "PartitionDeskLaw" 68 u_D_clock 1 0 := ⟨k_D_clock, q_481, q_482, q_483, rfl, rfl⟩
theorem q_484 : (.code ⟨"PartitionDeskModel", "clock", "(I)I"⟩ prog_7_method_24_code 2 (some .int) : Cond) ∈ AllW := aw 608 (by decide +kernel) rfl
theorem k_M_clock : CodeOK u_M_clock 1 := ⟨q_484, q_333, by decide, by decide, by decide, by decide +kernel⟩
theorem q_485 : (.methodLink "PartitionDeskLaw" 71 ⟨"PartitionDeskModel", "clock", "(I)I"⟩ : Cond) ∈ AllW := aw 605 (by decide +kernel) rfl
theorem q_486 : (.instanceMethod ⟨"PartitionDeskModel", "clock", "(I)I"⟩ : Cond) ∈ AllW := aw 606 (by decide +kernel) rfl
theorem q_487 : (.selects "PartitionDeskModel" ⟨"PartitionDeskModel", "clock", "(I)I"⟩ ⟨"PartitionDeskModel", "clock", "(I)I"⟩ : Cond) ∈ AllW := aw 607 (by decide +kernel) rfl
theorem g_L_71 : CallV "PartitionDeskLaw" 71 u_M_clock 1 5 := ⟨k_M_clock, q_485, q_486, q_487, rfl, rfl⟩
theorem q_488 : (.methodLink "PartitionDesk" 1 ⟨"java/lang/Object", "<init>", "()V"⟩ : Cond) ∈ AllW := aw 36 (by decide +kernel) rfl
theorem o_D : (.methodLink "PartitionDesk" 1 Lib.objectInit : Cond) ∈ AllW := q_488
theorem q_489 : (.methodLink "PartitionDesk$Partition" 3 ⟨"java/lang/Object", "<init>", "()V"⟩ : Cond) ∈ AllW := aw 45 (by decide +kernel) rfl
theorem o_P : (.methodLink "PartitionDesk$Partition" 3 Lib.objectInit : Cond) ∈ AllW := q_489
theorem q_490 : (.methodLink "PartitionDesk$Port" 3 ⟨"java/lang/Object", "<init>", "()V"⟩ : Cond) ∈ AllW := aw 123 (by decide +kernel) rfl
theorem o_Q : (.methodLink "PartitionDesk$Port" 3 Lib.objectInit : Cond) ∈ AllW := q_490
theorem q_491 : (.methodLink "PartitionDesk$Frame" 3 ⟨"java/lang/Object", "<init>", "()V"⟩ : Cond) ∈ AllW := aw 149 (by decide +kernel) rfl
theorem o_F : (.methodLink "PartitionDesk$Frame" 3 Lib.objectInit : Cond) ∈ AllW := q_491
theorem q_492 : (.methodLink "PartitionDesk$ValueQueue" 1 ⟨"java/lang/Object", "<init>", "()V"⟩ : Cond) ∈ AllW := aw 51 (by decide +kernel) rfl
theorem o_V : (.methodLink "PartitionDesk$ValueQueue" 1 Lib.objectInit : Cond) ∈ AllW := q_492
theorem q_493 : (.methodLink "PartitionDeskModel" 1 ⟨"java/lang/Object", "<init>", "()V"⟩ : Cond) ∈ AllW := aw 423 (by decide +kernel) rfl
theorem o_M : (.methodLink "PartitionDeskModel" 1 Lib.objectInit : Cond) ∈ AllW := q_493
theorem q_494 : (.instanceMethod ⟨"java/lang/Object", "<init>", "()V"⟩ : Cond) ∈ AllW := aw 37 (by decide +kernel) rfl
theorem o_inst : (.instanceMethod Lib.objectInit : Cond) ∈ AllW := q_494
theorem q_495 : (.code ⟨"java/lang/Object", "<init>", "()V"⟩ object_method_1_code 1 none : Cond) ∈ AllW := aw 38 (by decide +kernel) rfl
theorem o_code : (.code Lib.objectInit ⟨#[0xb1]⟩ 1 none : Cond) ∈ AllW := q_495
theorem q_496 : (.classLink "PartitionDesk" 13 "PartitionDesk$Partition" : Cond) ∈ AllW := aw 39 (by decide +kernel) rfl
theorem cl_D_13 : (.classLink "PartitionDesk" 13 "PartitionDesk$Partition" : Cond) ∈ AllW := q_496
theorem q_497 : (.classLink "PartitionDesk" 20 "PartitionDesk$Port" : Cond) ∈ AllW := aw 117 (by decide +kernel) rfl
theorem cl_D_20 : (.classLink "PartitionDesk" 20 "PartitionDesk$Port" : Cond) ∈ AllW := q_497
theorem q_498 : (.classLink "PartitionDesk" 27 "PartitionDesk$Frame" : Cond) ∈ AllW := aw 144 (by decide +kernel) rfl
theorem cl_D_27 : (.classLink "PartitionDesk" 27 "PartitionDesk$Frame" : Cond) ∈ AllW := q_498
theorem q_499 : (.classLink "PartitionDesk$Partition" 27 "PartitionDesk$ValueQueue" : Cond) ∈ AllW := aw 46 (by decide +kernel) rfl
theorem cl_P_27 : (.classLink "PartitionDesk$Partition" 27 "PartitionDesk$ValueQueue" : Cond) ∈ AllW := q_499
theorem q_500 : (.classLink "PartitionDesk$Port" 9 "PartitionDesk$ValueQueue" : Cond) ∈ AllW := aw 124 (by decide +kernel) rfl
theorem cl_Q_9 : (.classLink "PartitionDesk$Port" 9 "PartitionDesk$ValueQueue" : Cond) ∈ AllW := q_500
theorem q_501 : (.classLink "PartitionDeskLaw" 7 "PartitionDesk" : Cond) ∈ AllW := aw 31 (by decide +kernel) rfl
theorem cl_L_7 : (.classLink "PartitionDeskLaw" 7 "PartitionDesk" : Cond) ∈ AllW := q_501
theorem q_502 : (.classLink "PartitionDeskLaw" 10 "PartitionDeskModel" : Cond) ∈ AllW := aw 418 (by decide +kernel) rfl
theorem cl_L_10 : (.classLink "PartitionDeskLaw" 10 "PartitionDeskModel" : Cond) ∈ AllW := q_502
theorem q_503 : (.instantiable "PartitionDesk" 6 : Cond) ∈ AllW := aw 32 (by decide +kernel) rfl
theorem in0 : (.instantiable (cls 0).1 (cls 0).2.2 : Cond) ∈ AllW := q_503
theorem ii0 : (.initialized (cls 0).1 : Cond) ∈ AllW := q_84
theorem q_504 : (.instantiable "PartitionDesk$Partition" 13 : Cond) ∈ AllW := aw 41 (by decide +kernel) rfl
theorem in1 : (.instantiable (cls 1).1 (cls 1).2.2 : Cond) ∈ AllW := q_504
theorem ii1 : (.initialized (cls 1).1 : Cond) ∈ AllW := q_68
theorem q_505 : (.instantiable "PartitionDesk$Port" 5 : Cond) ∈ AllW := aw 119 (by decide +kernel) rfl
theorem in2 : (.instantiable (cls 2).1 (cls 2).2.2 : Cond) ∈ AllW := q_505
theorem ii2 : (.initialized (cls 2).1 : Cond) ∈ AllW := q_73
theorem q_506 : (.instantiable "PartitionDesk$Frame" 7 : Cond) ∈ AllW := aw 145 (by decide +kernel) rfl
theorem in3 : (.instantiable (cls 3).1 (cls 3).2.2 : Cond) ∈ AllW := q_506
theorem ii3 : (.initialized (cls 3).1 : Cond) ∈ AllW := q_77
theorem q_507 : (.instantiable "PartitionDesk$ValueQueue" 3 : Cond) ∈ AllW := aw 47 (by decide +kernel) rfl
theorem in4 : (.instantiable (cls 4).1 (cls 4).2.2 : Cond) ∈ AllW := q_507
theorem ii4 : (.initialized (cls 4).1 : Cond) ∈ AllW := q_114
theorem q_508 : (.instantiable "PartitionDeskModel" 31 : Cond) ∈ AllW := aw 419 (by decide +kernel) rfl
theorem in5 : (.instantiable (cls 5).1 (cls 5).2.2 : Cond) ∈ AllW := q_508
theorem ii5 : (.initialized (cls 5).1 : Cond) ∈ AllW := q_333
theorem q_509 : (.arrayClass .int : Cond) ∈ AllW := aw 65 (by decide +kernel) rfl
theorem ac_int : (.arrayClass .int : Cond) ∈ AllW := q_509
theorem q_510 : (.arrayClass .boolean : Cond) ∈ AllW := aw 518 (by decide +kernel) rfl
theorem ac_bool : (.arrayClass .boolean : Cond) ∈ AllW := q_510
end
section
/-! the world behind the two constructors: 61 cells of the desk, 25 of the reference -/
def K0 : List (Nat × Nat) := [(4, 0), (0, 64), (2, 4),
  (5, 0), (0, 16), (0, 16), (0, 16), (0, 4), (0, 4), (8, 0), (0, 8), (0, 16),
  (5, 0), (0, 16), (0, 16), (0, 16), (0, 4), (0, 4), (8, 0), (0, 8), (0, 16),
  (5, 0), (0, 16), (0, 16), (0, 16), (0, 4), (0, 4), (8, 0), (0, 8), (0, 16),
  (5, 0), (0, 16), (0, 16), (0, 16), (0, 4), (0, 4), (8, 0), (0, 8), (0, 16),
  (3, 6), (6, 0), (8, 0), (0, 4), (6, 0), (8, 0), (0, 4), (6, 0), (8, 0), (0, 4), (6, 0), (8, 0), (0, 4), (6, 0), (8, 0), (0, 4), (6, 0), (8, 0), (0, 4),
  (7, 0), (0, 8), (0, 8),
  (9, 0), (0, 4), (0, 4), (0, 8), (0, 8), (0, 6), (0, 6), (0, 6), (0, 6), (0, 6), (0, 24), (0, 16), (0, 64), (0, 64), (0, 64), (0, 64), (0, 16), (0, 4), (0, 4), (1, 4), (1, 4), (0, 4), (0, 32), (0, 4), (0, 64)]
def k0 (o : Nat) : Nat × Nat := K0.getD o (0, 0)
def r0 (o k : Nat) : Option Nat :=
  if o = 0 then [some 1, some 2, some 39, some 58].getD k none
  else if o = 2 then (if k < 4 then some (3 + 9 * k) else none)
  else if o = 39 then (if k < 6 then some (40 + 3 * k) else none)
  else if o = 58 then [some 59, some 60].getD k none
  else if o = 61 then (if k < 24 then some (62 + k) else none)
  else if (k0 o).1 = 5 then [some (o + 1), some (o + 2), some (o + 3), some (o + 4), some (o + 5), some (o + 6), some (o + 8)].getD k none
  else if (k0 o).1 = 8 ∨ (k0 o).1 = 6 then (if k = 0 then some (o + 1) else none)
  else none
abbrev Hp : Type := Nat → Nat → Int32
abbrev w0 (h : Hp) : Wd := (86, k0, r0, h)
theorem kP : ∀ {j : Nat}, j < 4 → (k0 (3 + 9 * j)).1 = 1 + 4 := by decide
theorem kA4 : ∀ {j : Nat}, j < 4 → k0 (4 + 9 * j) = (0, 16) := by decide
theorem kA5 : ∀ {j : Nat}, j < 4 → k0 (5 + 9 * j) = (0, 16) := by decide
theorem kA6 : ∀ {j : Nat}, j < 4 → k0 (6 + 9 * j) = (0, 16) := by decide
theorem kA7 : ∀ {j : Nat}, j < 4 → k0 (7 + 9 * j) = (0, 4) := by decide
theorem kA8 : ∀ {j : Nat}, j < 4 → k0 (8 + 9 * j) = (0, 4) := by decide
theorem kV9 : ∀ {j : Nat}, j < 4 → (k0 (9 + 9 * j)).1 = 4 + 4 := by decide
theorem kA10 : ∀ {j : Nat}, j < 4 → k0 (10 + 9 * j) = (0, 8) := by decide
theorem kA11 : ∀ {j : Nat}, j < 4 → k0 (11 + 9 * j) = (0, 16) := by decide
theorem kQ : ∀ {i : Nat}, i < 6 → (k0 (40 + 3 * i)).1 = 2 + 4 := by decide
theorem kV41 : ∀ {i : Nat}, i < 6 → (k0 (41 + 3 * i)).1 = 4 + 4 := by decide
theorem kA42 : ∀ {i : Nat}, i < 6 → k0 (42 + 3 * i) = (0, 4) := by decide
theorem rPs : ∀ {j : Nat}, j < 4 → r0 2 j = some (3 + 9 * j) := by decide
theorem rQs : ∀ {i : Nat}, i < 6 → r0 39 i = some (40 + 3 * i) := by decide
theorem rP0 : ∀ {j : Nat}, j < 4 → r0 (3 + 9 * j) 0 = some (4 + 9 * j) := by decide
theorem rP1 : ∀ {j : Nat}, j < 4 → r0 (3 + 9 * j) 1 = some (5 + 9 * j) := by decide
theorem rP2 : ∀ {j : Nat}, j < 4 → r0 (3 + 9 * j) 2 = some (6 + 9 * j) := by decide
theorem rP3 : ∀ {j : Nat}, j < 4 → r0 (3 + 9 * j) 3 = some (7 + 9 * j) := by decide
theorem rP4 : ∀ {j : Nat}, j < 4 → r0 (3 + 9 * j) 4 = some (8 + 9 * j) := by decide
theorem rP5 : ∀ {j : Nat}, j < 4 → r0 (3 + 9 * j) 5 = some (9 + 9 * j) := by decide
theorem rP6 : ∀ {j : Nat}, j < 4 → r0 (3 + 9 * j) 6 = some (11 + 9 * j) := by decide
theorem rV9 : ∀ {j : Nat}, j < 4 → r0 (9 + 9 * j) 0 = some (10 + 9 * j) := by decide
theorem rQ0 : ∀ {i : Nat}, i < 6 → r0 (40 + 3 * i) 0 = some (41 + 3 * i) := by decide
theorem rV41 : ∀ {i : Nat}, i < 6 → r0 (41 + 3 * i) 0 = some (42 + 3 * i) := by decide
theorem refs0 (h : Hp) : RefsOK (w0 h) := by
  intro j i o ho
  have ho : r0 j i = some o := ho
  show o < 86
  have hk : ∀ j, j < 86 → ((k0 j).1 = 5 → j + 8 < 86) ∧ (((k0 j).1 = 8 ∨ (k0 j).1 = 6) → j + 1 < 86) := by decide
  have hbig : ∀ j, 86 ≤ j → k0 j = (0, 0) := by
    intro j hj
    unfold k0
    rw [List.getD_eq_getElem?_getD, List.getElem?_eq_none (by show 86 ≤ j; exact hj)]
    rfl
  unfold r0 at ho
  split at ho
  · rcases i with _ | _ | _ | _ | i <;> simp at ho <;> omega
  split at ho
  · split at ho
    · cases ho; omega
    · cases ho
  split at ho
  · split at ho
    · cases ho; omega
    · cases ho
  split at ho
  · rcases i with _ | _ | i <;> simp at ho <;> omega
  split at ho
  · split at ho
    · cases ho; omega
    · cases ho
  split at ho
  · rename_i h5
    have hj : j < 86 := by
      apply Nat.lt_of_not_le
      intro hj
      rw [hbig j hj] at h5
      cases h5
    have := (hk j hj).1 h5
    rcases i with _ | _ | _ | _ | _ | _ | _ | i <;> simp at ho <;> omega
  split at ho
  · rename_i h5
    have hj : j < 86 := by
      apply Nat.lt_of_not_le
      intro hj
      rw [hbig j hj] at h5
      rcases h5 with h5 | h5 <;> cases h5
    have := (hk j hj).2 h5
    split at ho
    · cases ho; omega
    · cases ho
  · cases ho
/-! truth as a number; what a call leaves on the stack -/
def bI (c : Prop) [Decidable c] : Int32 := if c then 1 else 0
theorem bI_t {c : Prop} [Decidable c] (h : c) : bI c = 1 := if_pos h
theorem bI_f {c : Prop} [Decidable c] (h : ¬ c) : bI c = 0 := if_neg h
theorem bI_nar {c : Prop} [Decidable c] : narrow .boolean (.int (bI c)) = .int (bI c) := by
  by_cases h : c
  · rw [bI_t h]; rfl
  · rw [bI_f h]; rfl
theorem bI_vp {c : Prop} [Decidable c] : vp_nar .boolean (bI c) = bI c := by
  by_cases h : c
  · rw [bI_t h]; rfl
  · rw [bI_f h]; rfl
theorem bI_eq0 {c : Prop} [Decidable c] : bI c = 0 ↔ ¬ c := by
  by_cases h : c
  · rw [bI_t h]; exact ⟨fun z => absurd z (by decide), fun z => absurd h z⟩
  · rw [bI_f h]; exact ⟨fun _ => h, fun _ => rfl⟩
theorem bI_ne0 {c : Prop} [Decidable c] : ¬ bI c = 0 ↔ c := by
  rw [bI_eq0]; exact Decidable.not_not
theorem bI_congr {c e : Prop} [Decidable c] [Decidable e] (h : c ↔ e) : bI c = bI e := by
  by_cases hc : c
  · rw [bI_t hc, bI_t (h.mp hc)]
  · rw [bI_f hc, bI_f (fun z => hc (h.mpr z))]
section XB
variable {u : Mi} {d : Nat} {E : En} {cl sl : Nat} {ad : Nat → Nat} {w : Wd} {lv : List (Nat × AV)} {st : List AV}
theorem x_st1 {pc : Nat} {v : Int32} (k : X E cl sl ad w pc lv (.inl v :: st)) : X E cl sl ad w pc lv ((some v).toList.map .inl ++ st) := k
theorem x_st0 {pc : Nat} (k : X E cl sl ad w pc lv st) : X E cl sl ad w pc lv ((none : Option Int32).toList.map .inl ++ st) := k
/-- a branch over a truth -/
theorem x_ifB_eq (a : Amb u d E) (pc tgt : Nat) {off : Int} {c : Prop} [Decidable c] (hdg : decode u.2.1 pc = .ok (.ifCond .eq off, 3)) (ht : (pc : Int) + off = (tgt : Int)) (kt : ¬ c → X E cl sl ad w tgt lv st) (kf : c → X E cl sl ad w (pc + 3) lv st) : X E cl sl ad w pc lv (.inl (bI c) :: st) :=
  x_if_eq a pc tgt hdg ht (fun z => kt (bI_eq0.mp z)) (fun z => kf (bI_ne0.mp z))
theorem x_ifB_ne (a : Amb u d E) (pc tgt : Nat) {off : Int} {c : Prop} [Decidable c] (hdg : decode u.2.1 pc = .ok (.ifCond .ne off, 3)) (ht : (pc : Int) + off = (tgt : Int)) (kt : c → X E cl sl ad w tgt lv st) (kf : ¬ c → X E cl sl ad w (pc + 3) lv st) : X E cl sl ad w pc lv (.inl (bI c) :: st) :=
  x_if_ne a pc tgt hdg ht (fun z => kt (bI_ne0.mp z)) (fun z => kf (bI_eq0.mp z))
theorem x_push {pc : Nat} {x y : Int32} (h : x = y) (k : X E cl sl ad w pc lv (.inl y :: st)) : X E cl sl ad w pc lv (.inl x :: st) := h ▸ k
theorem x_w {pc : Nat} {w' : Wd} (h : w = w') (k : X E cl sl ad w' pc lv st) : X E cl sl ad w pc lv st := h ▸ k
end XB
theorem up2_s (h : Hp) (o k : Nat) (x : Int32) : up2 h o k x o k = x := by simp [up2, upd]
theorem up2_k (h : Hp) (o : Nat) {k j : Nat} (x : Int32) (hj : j ≠ k) : up2 h o k x o j = h o j := by simp [up2, upd, hj]
theorem up2_o (h : Hp) {o a : Nat} (k : Nat) (x : Int32) (ha : a ≠ o) : up2 h o k x a = h a := by simp [up2, ha]
end
section
theorem nI_inc (k : Nat) : nI k + Int32.ofInt 1 = nI (k + 1) := nI_1 k
/-- a queue: its own cell q, its values' cell v of len places -/
def VQ (q v len : Nat) : Prop := (k0 q).1 = 4 + 4 ∧ r0 q 0 = some v ∧ k0 v = (0, len) ∧ q < 86 ∧ v < 86 ∧ q ≠ v ∧ 0 < len ∧ len ≤ 8
theorem vq9 {j : Nat} (hj : j < 4) : VQ (9 + 9 * j) (10 + 9 * j) 8 := ⟨kV9 hj, rV9 hj, kA10 hj, by omega, by omega, by omega, by omega, by omega⟩
theorem vq41 {i : Nat} (hi : i < 6) : VQ (41 + 3 * i) (42 + 3 * i) 4 := ⟨kV41 hi, rV41 hi, kA42 hi, by omega, by omega, by omega, by omega, by omega⟩
def qix (f c len : Nat) : Nat := if f + c < len then f + c else f + c - len
theorem qix_lt {f c len : Nat} (hf : f < len) (hc : c ≤ len) : qix f c len < len := by
  unfold qix
  split <;> omega
set_option maxRecDepth 100000 in
set_option maxHeartbeats 4000000 in
theorem c_D_isPartition (h : Hp) (p : Int32) : Cn u_D_isPartition 0 0 0 (w0 h) [.inl p] (fun v w' => v = some (bI (0 ≤ p ∧ p < 4)) ∧ w' = w0 h) := by
  refine Cn.of (by decide) (Nat.le_of_ble_eq_true rfl) (fun E ad a qf => ?_)
  have qa := qf.2.2.2
  have hcs : 0 ≤ (eR E).cells ∧ 0 ≤ (eR E).slots := ⟨Nat.zero_le _, Nat.zero_le _⟩
  refine x_iload_n a 0 d_D_isPartition_0 rfl ?_
  refine x_if_lt a 1 13 d_D_isPartition_1 (by decide) (fun c1 => ?_) (fun c1 => ?_)
  · refine x_iconst a 13 0 d_D_isPartition_13 (by decide) ?_
    exact x_zret a qf 14 d_D_isPartition_14 rfl rfl ⟨by first | rw [bI_f (by (try simp (disch := omega) only [Int32.le_iff_toInt_le, Int32.lt_iff_toInt_lt, ← Int32.toInt_inj, Int32.reduceToInt, nI_1, nI_add, pk_sub, nI_toInt] at *); omega)] | rw [bI_t (by (try simp (disch := omega) only [Int32.le_iff_toInt_le, Int32.lt_iff_toInt_lt, ← Int32.toInt_inj, Int32.reduceToInt, nI_1, nI_add, pk_sub, nI_toInt] at *); omega)], rfl⟩
  · refine x_iload_n a 4 d_D_isPartition_4 rfl ?_
    refine x_iconst a 5 4 d_D_isPartition_5 (by decide) ?_
    refine x_icmp_ge a 6 13 d_D_isPartition_6 (by decide) (fun c6 => ?_) (fun c6 => ?_)
    · refine x_iconst a 13 0 d_D_isPartition_13 (by decide) ?_
      exact x_zret a qf 14 d_D_isPartition_14 rfl rfl ⟨by first | rw [bI_f (by (try simp (disch := omega) only [Int32.le_iff_toInt_le, Int32.lt_iff_toInt_lt, ← Int32.toInt_inj, Int32.reduceToInt, nI_1, nI_add, pk_sub, nI_toInt] at *); omega)] | rw [bI_t (by (try simp (disch := omega) only [Int32.le_iff_toInt_le, Int32.lt_iff_toInt_lt, ← Int32.toInt_inj, Int32.reduceToInt, nI_1, nI_add, pk_sub, nI_toInt] at *); omega)], rfl⟩
    · refine x_iconst a 9 1 d_D_isPartition_9 (by decide) ?_
      refine x_goto a 10 14 d_D_isPartition_10 (by decide) ?_
      exact x_zret a qf 14 d_D_isPartition_14 rfl rfl ⟨by first | rw [bI_f (by (try simp (disch := omega) only [Int32.le_iff_toInt_le, Int32.lt_iff_toInt_lt, ← Int32.toInt_inj, Int32.reduceToInt, nI_1, nI_add, pk_sub, nI_toInt] at *); omega)] | rw [bI_t (by (try simp (disch := omega) only [Int32.le_iff_toInt_le, Int32.lt_iff_toInt_lt, ← Int32.toInt_inj, Int32.reduceToInt, nI_1, nI_add, pk_sub, nI_toInt] at *); omega)], rfl⟩
set_option maxRecDepth 100000 in
set_option maxHeartbeats 4000000 in
theorem c_D_isPort (h : Hp) (p : Int32) : Cn u_D_isPort 0 0 0 (w0 h) [.inr (some 0), .inl p] (fun v w' => v = some (bI (0 ≤ p ∧ p < h 0 4)) ∧ w' = w0 h) := by
  refine Cn.of (by decide) (Nat.le_of_ble_eq_true rfl) (fun E ad a qf => ?_)
  have qa := qf.2.2.2
  have hcs : 0 ≤ (eR E).cells ∧ 0 ≤ (eR E).slots := ⟨Nat.zero_le _, Nat.zero_le _⟩
  refine x_iload_n a 0 d_D_isPort_0 rfl ?_
  refine x_if_lt a 1 16 d_D_isPort_1 (by decide) (fun c1 => ?_) (fun c1 => ?_)
  · refine x_iconst a 16 0 d_D_isPort_16 (by decide) ?_
    exact x_zret a qf 17 d_D_isPort_17 rfl rfl ⟨by first | rw [bI_f (by (try simp (disch := omega) only [Int32.le_iff_toInt_le, Int32.lt_iff_toInt_lt, ← Int32.toInt_inj, Int32.reduceToInt, nI_1, nI_add, pk_sub, nI_toInt] at *); omega)] | rw [bI_t (by (try simp (disch := omega) only [Int32.le_iff_toInt_le, Int32.lt_iff_toInt_lt, ← Int32.toInt_inj, Int32.reduceToInt, nI_1, nI_add, pk_sub, nI_toInt] at *); omega)], rfl⟩
  · refine x_iload_n a 4 d_D_isPort_4 rfl ?_
    refine x_aload_n a 5 d_D_isPort_5 rfl ?_
    refine x_getI a 6 f_D_34 d_D_isPort_6 rfl (by omega) (by decide) rfl ?_
    refine x_icmp_ge a 9 16 d_D_isPort_9 (by decide) (fun c9 => ?_) (fun c9 => ?_)
    · refine x_iconst a 16 0 d_D_isPort_16 (by decide) ?_
      exact x_zret a qf 17 d_D_isPort_17 rfl rfl ⟨by first | rw [bI_f (by (try simp (disch := omega) only [Int32.le_iff_toInt_le, Int32.lt_iff_toInt_lt, ← Int32.toInt_inj, Int32.reduceToInt, nI_1, nI_add, pk_sub, nI_toInt] at *); omega)] | rw [bI_t (by (try simp (disch := omega) only [Int32.le_iff_toInt_le, Int32.lt_iff_toInt_lt, ← Int32.toInt_inj, Int32.reduceToInt, nI_1, nI_add, pk_sub, nI_toInt] at *); omega)], rfl⟩
    · refine x_iconst a 12 1 d_D_isPort_12 (by decide) ?_
      refine x_goto a 13 17 d_D_isPort_13 (by decide) ?_
      exact x_zret a qf 17 d_D_isPort_17 rfl rfl ⟨by first | rw [bI_f (by (try simp (disch := omega) only [Int32.le_iff_toInt_le, Int32.lt_iff_toInt_lt, ← Int32.toInt_inj, Int32.reduceToInt, nI_1, nI_add, pk_sub, nI_toInt] at *); omega)] | rw [bI_t (by (try simp (disch := omega) only [Int32.le_iff_toInt_le, Int32.lt_iff_toInt_lt, ← Int32.toInt_inj, Int32.reduceToInt, nI_1, nI_add, pk_sub, nI_toInt] at *); omega)], rfl⟩
set_option maxRecDepth 100000 in
set_option maxHeartbeats 4000000 in
theorem c_V_clear (h : Hp) {q vv len : Nat} (hV : VQ q vv len) : Cn u_V_clear 0 0 0 (w0 h) [.inr (some q)] (fun r w' => r = none ∧ w' = w0 (up2 (up2 h q 1 0) q 2 0)) := by
  refine Cn.of (by decide) (Nat.le_of_ble_eq_true rfl) (fun E ad a qf => ?_)
  have qa := qf.2.2.2
  have hcs : 0 ≤ (eR E).cells ∧ 0 ≤ (eR E).slots := ⟨Nat.zero_le _, Nat.zero_le _⟩
  obtain ⟨hkq, hrq, haq, hq8, hv8, hqv, hl0, hl8⟩ := hV
  refine x_aload_n a 0 d_V_clear_0 rfl ?_
  refine x_iconst a 1 0 d_V_clear_1 (by decide) ?_
  refine x_putI a 2 f_V_13 d_V_clear_2 hkq (by omega) (by decide) rfl rfl rfl ?_
  refine x_aload_n a 5 d_V_clear_5 rfl ?_
  refine x_iconst a 6 0 d_V_clear_6 (by decide) ?_
  refine x_putI a 7 f_V_17 d_V_clear_7 hkq (by omega) (by decide) rfl rfl rfl ?_
  exact x_vret a qf 10 d_V_clear_10 rfl ⟨rfl, rfl⟩
set_option maxRecDepth 100000 in
set_option maxHeartbeats 4000000 in
theorem c_V_peek (h : Hp) {q vv len f c : Nat} (hV : VQ q vv len) (hf : h q 1 = nI f) (hfl : f < len) (hc : h q 2 = nI c) (hcl : c ≤ len) : Cn u_V_peek 0 0 0 (w0 h) [.inr (some q)] (fun v w' => v = some (if 0 < c then h vv f else 0) ∧ w' = w0 h) := by
  refine Cn.of (by decide) (Nat.le_of_ble_eq_true rfl) (fun E ad a qf => ?_)
  have qa := qf.2.2.2
  have hcs : 0 ≤ (eR E).cells ∧ 0 ≤ (eR E).slots := ⟨Nat.zero_le _, Nat.zero_le _⟩
  obtain ⟨hkq, hrq, haq, hq8, hv8, hqv, hl0, hl8⟩ := hV
  refine x_aload_n a 0 d_V_peek_0 rfl ?_
  refine x_getI a 1 f_V_17 d_V_peek_1 hkq (by omega) (by decide) hc ?_
  refine x_if_le a 4 19 d_V_peek_4 (by decide) (fun c4 => ?_) (fun c4 => ?_)
  · refine x_iconst a 19 0 d_V_peek_19 (by decide) ?_
    exact x_iret a qf 20 d_V_peek_20 rfl ⟨by first | rw [if_pos (by (try simp (disch := omega) only [Int32.le_iff_toInt_le, Int32.lt_iff_toInt_lt, ← Int32.toInt_inj, Int32.reduceToInt, nI_1, nI_add, pk_sub, nI_toInt] at *); omega)] | rw [if_neg (by (try simp (disch := omega) only [Int32.le_iff_toInt_le, Int32.lt_iff_toInt_lt, ← Int32.toInt_inj, Int32.reduceToInt, nI_1, nI_add, pk_sub, nI_toInt] at *); omega)], rfl⟩
  · refine x_aload_n a 7 d_V_peek_7 rfl ?_
    refine x_getR a 8 f_V_7 d_V_peek_8 hkq (by omega) (by decide) hrq ?_
    refine x_aload_n a 11 d_V_peek_11 rfl ?_
    refine x_getI a 12 f_V_13 d_V_peek_12 hkq (by omega) (by decide) hf ?_
    refine x_iald a 15 d_V_peek_15 haq (by omega) (j := f) rfl hfl (by omega) rfl ?_
    refine x_goto a 16 20 d_V_peek_16 (by decide) ?_
    exact x_iret a qf 20 d_V_peek_20 rfl ⟨by first | rw [if_pos (by (try simp (disch := omega) only [Int32.le_iff_toInt_le, Int32.lt_iff_toInt_lt, ← Int32.toInt_inj, Int32.reduceToInt, nI_1, nI_add, pk_sub, nI_toInt] at *); omega)] | rw [if_neg (by (try simp (disch := omega) only [Int32.le_iff_toInt_le, Int32.lt_iff_toInt_lt, ← Int32.toInt_inj, Int32.reduceToInt, nI_1, nI_add, pk_sub, nI_toInt] at *); omega)], rfl⟩
set_option maxRecDepth 100000 in
set_option maxHeartbeats 4000000 in
theorem c_V_take (h : Hp) {q vv len f c : Nat} (hV : VQ q vv len) (hf : h q 1 = nI f) (hfl : f < len) (hc : h q 2 = nI c) (hcl : c ≤ len) : Cn u_V_take 0 0 0 (w0 h) [.inr (some q)] (fun r w' => r = some (if 0 < c then h vv f else 0) ∧ w' = w0 (if 0 < c then up2 (up2 h q 1 (nI (if f + 1 < len then f + 1 else 0))) q 2 (nI (c - 1)) else h)) := by
  refine Cn.of (by decide) (Nat.le_of_ble_eq_true rfl) (fun E ad a qf => ?_)
  have qa := qf.2.2.2
  have hcs : 0 ≤ (eR E).cells ∧ 0 ≤ (eR E).slots := ⟨Nat.zero_le _, Nat.zero_le _⟩
  obtain ⟨hkq, hrq, haq, hq8, hv8, hqv, hl0, hl8⟩ := hV
  refine x_aload_n a 0 d_V_take_0 rfl ?_
  refine x_getI a 1 f_V_17 d_V_take_1 hkq (by omega) (by decide) hc ?_
  refine x_if_ne a 4 9 d_V_take_4 (by decide) (fun c4 => ?_) (fun c4 => ?_)
  · refine x_aload_n a 9 d_V_take_9 rfl ?_
    refine x_getR a 10 f_V_7 d_V_take_10 hkq (by omega) (by decide) hrq ?_
    refine x_aload_n a 13 d_V_take_13 rfl ?_
    refine x_getI a 14 f_V_13 d_V_take_14 hkq (by omega) (by decide) hf ?_
    refine x_iald a 17 d_V_take_17 haq (by omega) (j := f) rfl hfl (by omega) rfl ?_
    refine x_istore_n a 18 d_V_take_18 (by decide) ?_
    refine x_aload_n a 19 d_V_take_19 rfl ?_
    refine x_aload_n a 20 d_V_take_20 rfl ?_
    refine x_getI a 21 f_V_13 d_V_take_21 hkq (by omega) (by decide) hf ?_
    refine x_iconst a 24 1 d_V_take_24 (by decide) ?_
    refine x_iadd a 25 d_V_take_25 ?_
    refine x_aload_n a 26 d_V_take_26 rfl ?_
    refine x_getR a 27 f_V_7 d_V_take_27 hkq (by omega) (by decide) hrq ?_
    refine x_alen a 30 d_V_take_30 haq (by omega) ?_
    refine x_icmp_ge a 31 43 d_V_take_31 (by decide) (fun c31 => ?_) (fun c31 => ?_)
    · refine x_iconst a 43 0 d_V_take_43 (by decide) ?_
      refine x_push (y := nI (if f + 1 < len then f + 1 else 0)) (by first | (rw [if_pos (by (try simp (disch := omega) only [Int32.le_iff_toInt_le, Int32.lt_iff_toInt_lt, ← Int32.toInt_inj, Int32.reduceToInt, nI_1, nI_add, pk_sub, nI_toInt] at *); omega)]; exact nI_1 f) | (rw [if_neg (by (try simp (disch := omega) only [Int32.le_iff_toInt_le, Int32.lt_iff_toInt_lt, ← Int32.toInt_inj, Int32.reduceToInt, nI_1, nI_add, pk_sub, nI_toInt] at *); omega)]; rfl)) ?_
      refine x_putI a 44 f_V_13 d_V_take_44 hkq (by omega) (by decide) rfl rfl rfl ?_
      refine x_aload_n a 47 d_V_take_47 rfl ?_
      refine x_dup a 48 d_V_take_48 ?_
      refine x_getI a 49 f_V_17 d_V_take_49 hkq (by omega) (by decide) (v := nI c) (by rw [up2_k _ _ _ (by decide)]; exact hc) ?_
      refine x_iconst a 52 1 d_V_take_52 (by decide) ?_
      refine x_isub a 53 d_V_take_53 ?_
      refine x_push (y := nI (c - 1)) (pk_sub (b := 1) (by (try simp (disch := omega) only [Int32.le_iff_toInt_le, Int32.lt_iff_toInt_lt, ← Int32.toInt_inj, Int32.reduceToInt, nI_1, nI_add, pk_sub, nI_toInt] at *); omega)) ?_
      refine x_putI a 54 f_V_17 d_V_take_54 hkq (by omega) (by decide) rfl rfl rfl ?_
      refine x_iload_n a 57 d_V_take_57 rfl ?_
      exact x_iret a qf 58 d_V_take_58 rfl ⟨by rw [if_pos (show 0 < c from (by (try simp (disch := omega) only [Int32.le_iff_toInt_le, Int32.lt_iff_toInt_lt, ← Int32.toInt_inj, Int32.reduceToInt, nI_1, nI_add, pk_sub, nI_toInt] at *); omega))], by rw [if_pos (show 0 < c from (by (try simp (disch := omega) only [Int32.le_iff_toInt_le, Int32.lt_iff_toInt_lt, ← Int32.toInt_inj, Int32.reduceToInt, nI_1, nI_add, pk_sub, nI_toInt] at *); omega))]⟩
    · refine x_aload_n a 34 d_V_take_34 rfl ?_
      refine x_getI a 35 f_V_13 d_V_take_35 hkq (by omega) (by decide) hf ?_
      refine x_iconst a 38 1 d_V_take_38 (by decide) ?_
      refine x_iadd a 39 d_V_take_39 ?_
      refine x_goto a 40 44 d_V_take_40 (by decide) ?_
      refine x_push (y := nI (if f + 1 < len then f + 1 else 0)) (by first | (rw [if_pos (by (try simp (disch := omega) only [Int32.le_iff_toInt_le, Int32.lt_iff_toInt_lt, ← Int32.toInt_inj, Int32.reduceToInt, nI_1, nI_add, pk_sub, nI_toInt] at *); omega)]; exact nI_1 f) | (rw [if_neg (by (try simp (disch := omega) only [Int32.le_iff_toInt_le, Int32.lt_iff_toInt_lt, ← Int32.toInt_inj, Int32.reduceToInt, nI_1, nI_add, pk_sub, nI_toInt] at *); omega)]; rfl)) ?_
      refine x_putI a 44 f_V_13 d_V_take_44 hkq (by omega) (by decide) rfl rfl rfl ?_
      refine x_aload_n a 47 d_V_take_47 rfl ?_
      refine x_dup a 48 d_V_take_48 ?_
      refine x_getI a 49 f_V_17 d_V_take_49 hkq (by omega) (by decide) (v := nI c) (by rw [up2_k _ _ _ (by decide)]; exact hc) ?_
      refine x_iconst a 52 1 d_V_take_52 (by decide) ?_
      refine x_isub a 53 d_V_take_53 ?_
      refine x_push (y := nI (c - 1)) (pk_sub (b := 1) (by (try simp (disch := omega) only [Int32.le_iff_toInt_le, Int32.lt_iff_toInt_lt, ← Int32.toInt_inj, Int32.reduceToInt, nI_1, nI_add, pk_sub, nI_toInt] at *); omega)) ?_
      refine x_putI a 54 f_V_17 d_V_take_54 hkq (by omega) (by decide) rfl rfl rfl ?_
      refine x_iload_n a 57 d_V_take_57 rfl ?_
      exact x_iret a qf 58 d_V_take_58 rfl ⟨by rw [if_pos (show 0 < c from (by (try simp (disch := omega) only [Int32.le_iff_toInt_le, Int32.lt_iff_toInt_lt, ← Int32.toInt_inj, Int32.reduceToInt, nI_1, nI_add, pk_sub, nI_toInt] at *); omega))], by rw [if_pos (show 0 < c from (by (try simp (disch := omega) only [Int32.le_iff_toInt_le, Int32.lt_iff_toInt_lt, ← Int32.toInt_inj, Int32.reduceToInt, nI_1, nI_add, pk_sub, nI_toInt] at *); omega))]⟩
  · refine x_iconst a 7 0 d_V_take_7 (by decide) ?_
    exact x_iret a qf 8 d_V_take_8 rfl ⟨by rw [if_neg (by (try simp (disch := omega) only [Int32.le_iff_toInt_le, Int32.lt_iff_toInt_lt, ← Int32.toInt_inj, Int32.reduceToInt, nI_1, nI_add, pk_sub, nI_toInt] at *); omega)], by rw [if_neg (by (try simp (disch := omega) only [Int32.le_iff_toInt_le, Int32.lt_iff_toInt_lt, ← Int32.toInt_inj, Int32.reduceToInt, nI_1, nI_add, pk_sub, nI_toInt] at *); omega)]⟩
set_option maxRecDepth 100000 in
set_option maxHeartbeats 4000000 in
theorem c_V_put (h : Hp) {q vv len f c : Nat} (hV : VQ q vv len) (hf : h q 1 = nI f) (hfl : f < len) (hc : h q 2 = nI c) (hcl : c ≤ len) (x : Int32) {lim : Nat} (hlim : lim < 2 ^ 31) : Cn u_V_put 0 0 0 (w0 h) [.inr (some q), .inl x, .inl (nI lim)] (fun r w' => r = some (bI (c < lim ∧ c < len)) ∧ w' = w0 (if c < lim ∧ c < len then up2 (up2 h vv (qix f c len) x) q 2 (nI (c + 1)) else h)) := by
  refine Cn.of (by decide) (Nat.le_of_ble_eq_true rfl) (fun E ad a qf => ?_)
  have qa := qf.2.2.2
  have hcs : 0 ≤ (eR E).cells ∧ 0 ≤ (eR E).slots := ⟨Nat.zero_le _, Nat.zero_le _⟩
  obtain ⟨hkq, hrq, haq, hq8, hv8, hqv, hl0, hl8⟩ := hV
  refine x_aload_n a 0 d_V_put_0 rfl ?_
  refine x_getI a 1 f_V_17 d_V_put_1 hkq (by omega) (by decide) hc ?_
  refine x_iload_n a 4 d_V_put_4 rfl ?_
  refine x_icmp_ge a 5 20 d_V_put_5 (by decide) (fun c5 => ?_) (fun c5 => ?_)
  · refine x_iconst a 20 0 d_V_put_20 (by decide) ?_
    exact x_zret a qf 21 d_V_put_21 rfl rfl ⟨by rw [bI_f (by (try simp (disch := omega) only [Int32.le_iff_toInt_le, Int32.lt_iff_toInt_lt, ← Int32.toInt_inj, Int32.reduceToInt, nI_1, nI_add, pk_sub, nI_toInt] at *); omega)], by rw [if_neg (by (try simp (disch := omega) only [Int32.le_iff_toInt_le, Int32.lt_iff_toInt_lt, ← Int32.toInt_inj, Int32.reduceToInt, nI_1, nI_add, pk_sub, nI_toInt] at *); omega)]⟩
  · refine x_aload_n a 8 d_V_put_8 rfl ?_
    refine x_getI a 9 f_V_17 d_V_put_9 hkq (by omega) (by decide) hc ?_
    refine x_aload_n a 12 d_V_put_12 rfl ?_
    refine x_getR a 13 f_V_7 d_V_put_13 hkq (by omega) (by decide) hrq ?_
    refine x_alen a 16 d_V_put_16 haq (by omega) ?_
    refine x_icmp_lt a 17 22 d_V_put_17 (by decide) (fun c17 => ?_) (fun c17 => ?_)
    · refine x_aload_n a 22 d_V_put_22 rfl ?_
      refine x_getI a 23 f_V_13 d_V_put_23 hkq (by omega) (by decide) hf ?_
      refine x_aload_n a 26 d_V_put_26 rfl ?_
      refine x_getI a 27 f_V_17 d_V_put_27 hkq (by omega) (by decide) hc ?_
      refine x_iadd a 30 d_V_put_30 ?_
      refine x_istore_n a 31 d_V_put_31 (by decide) ?_
      refine x_aload_n a 32 d_V_put_32 rfl ?_
      refine x_getR a 33 f_V_7 d_V_put_33 hkq (by omega) (by decide) hrq ?_
      refine x_iload_n a 36 d_V_put_36 rfl ?_
      refine x_aload_n a 37 d_V_put_37 rfl ?_
      refine x_getR a 38 f_V_7 d_V_put_38 hkq (by omega) (by decide) hrq ?_
      refine x_alen a 41 d_V_put_41 haq (by omega) ?_
      refine x_icmp_ge a 42 49 d_V_put_42 (by decide) (fun c42 => ?_) (fun c42 => ?_)
      · refine x_iload_n a 49 d_V_put_49 rfl ?_
        refine x_aload_n a 50 d_V_put_50 rfl ?_
        refine x_getR a 51 f_V_7 d_V_put_51 hkq (by omega) (by decide) hrq ?_
        refine x_alen a 54 d_V_put_54 haq (by omega) ?_
        refine x_isub a 55 d_V_put_55 ?_
        refine x_iload_n a 56 d_V_put_56 rfl ?_
        refine x_iast a 57 d_V_put_57 haq (by omega) (j := qix f c len) (by unfold qix; first | (rw [if_pos (by rw [nI_add] at *; (try simp (disch := omega) only [Int32.le_iff_toInt_le, Int32.lt_iff_toInt_lt, ← Int32.toInt_inj, Int32.reduceToInt, nI_1, nI_add, pk_sub, nI_toInt] at *); omega), nI_add]) | (rw [if_neg (by rw [nI_add] at *; (try simp (disch := omega) only [Int32.le_iff_toInt_le, Int32.lt_iff_toInt_lt, ← Int32.toInt_inj, Int32.reduceToInt, nI_1, nI_add, pk_sub, nI_toInt] at *); omega), nI_add, pk_sub (by rw [nI_add] at *; (try simp (disch := omega) only [Int32.le_iff_toInt_le, Int32.lt_iff_toInt_lt, ← Int32.toInt_inj, Int32.reduceToInt, nI_1, nI_add, pk_sub, nI_toInt] at *); omega)])) (qix_lt hfl hcl) (by omega) ?_
        refine x_aload_n a 58 d_V_put_58 rfl ?_
        refine x_dup a 59 d_V_put_59 ?_
        refine x_getI a 60 f_V_17 d_V_put_60 hkq (by omega) (by decide) (v := nI c) (by rw [up2_o _ _ _ hqv]; exact hc) ?_
        refine x_iconst a 63 1 d_V_put_63 (by decide) ?_
        refine x_iadd a 64 d_V_put_64 ?_
        refine x_push (nI_1 c) ?_
        refine x_putI a 65 f_V_17 d_V_put_65 hkq (by omega) (by decide) rfl rfl rfl ?_
        refine x_iconst a 68 1 d_V_put_68 (by decide) ?_
        exact x_zret a qf 69 d_V_put_69 rfl rfl ⟨by rw [bI_t (by (try simp (disch := omega) only [Int32.le_iff_toInt_le, Int32.lt_iff_toInt_lt, ← Int32.toInt_inj, Int32.reduceToInt, nI_1, nI_add, pk_sub, nI_toInt] at *); omega)], by rw [if_pos (by (try simp (disch := omega) only [Int32.le_iff_toInt_le, Int32.lt_iff_toInt_lt, ← Int32.toInt_inj, Int32.reduceToInt, nI_1, nI_add, pk_sub, nI_toInt] at *); omega)]⟩
      · refine x_iload_n a 45 d_V_put_45 rfl ?_
        refine x_goto a 46 56 d_V_put_46 (by decide) ?_
        refine x_iload_n a 56 d_V_put_56 rfl ?_
        refine x_iast a 57 d_V_put_57 haq (by omega) (j := qix f c len) (by unfold qix; first | (rw [if_pos (by rw [nI_add] at *; (try simp (disch := omega) only [Int32.le_iff_toInt_le, Int32.lt_iff_toInt_lt, ← Int32.toInt_inj, Int32.reduceToInt, nI_1, nI_add, pk_sub, nI_toInt] at *); omega), nI_add]) | (rw [if_neg (by rw [nI_add] at *; (try simp (disch := omega) only [Int32.le_iff_toInt_le, Int32.lt_iff_toInt_lt, ← Int32.toInt_inj, Int32.reduceToInt, nI_1, nI_add, pk_sub, nI_toInt] at *); omega), nI_add, pk_sub (by rw [nI_add] at *; (try simp (disch := omega) only [Int32.le_iff_toInt_le, Int32.lt_iff_toInt_lt, ← Int32.toInt_inj, Int32.reduceToInt, nI_1, nI_add, pk_sub, nI_toInt] at *); omega)])) (qix_lt hfl hcl) (by omega) ?_
        refine x_aload_n a 58 d_V_put_58 rfl ?_
        refine x_dup a 59 d_V_put_59 ?_
        refine x_getI a 60 f_V_17 d_V_put_60 hkq (by omega) (by decide) (v := nI c) (by rw [up2_o _ _ _ hqv]; exact hc) ?_
        refine x_iconst a 63 1 d_V_put_63 (by decide) ?_
        refine x_iadd a 64 d_V_put_64 ?_
        refine x_push (nI_1 c) ?_
        refine x_putI a 65 f_V_17 d_V_put_65 hkq (by omega) (by decide) rfl rfl rfl ?_
        refine x_iconst a 68 1 d_V_put_68 (by decide) ?_
        exact x_zret a qf 69 d_V_put_69 rfl rfl ⟨by rw [bI_t (by (try simp (disch := omega) only [Int32.le_iff_toInt_le, Int32.lt_iff_toInt_lt, ← Int32.toInt_inj, Int32.reduceToInt, nI_1, nI_add, pk_sub, nI_toInt] at *); omega)], by rw [if_pos (by (try simp (disch := omega) only [Int32.le_iff_toInt_le, Int32.lt_iff_toInt_lt, ← Int32.toInt_inj, Int32.reduceToInt, nI_1, nI_add, pk_sub, nI_toInt] at *); omega)]⟩
    · refine x_iconst a 20 0 d_V_put_20 (by decide) ?_
      exact x_zret a qf 21 d_V_put_21 rfl rfl ⟨by rw [bI_f (by (try simp (disch := omega) only [Int32.le_iff_toInt_le, Int32.lt_iff_toInt_lt, ← Int32.toInt_inj, Int32.reduceToInt, nI_1, nI_add, pk_sub, nI_toInt] at *); omega)], by rw [if_neg (by (try simp (disch := omega) only [Int32.le_iff_toInt_le, Int32.lt_iff_toInt_lt, ← Int32.toInt_inj, Int32.reduceToInt, nI_1, nI_add, pk_sub, nI_toInt] at *); omega)]⟩
end
section
set_option maxRecDepth 100000 in
set_option maxHeartbeats 4000000 in
theorem c_F_isFull (h : Hp) : Cn u_F_isFull 0 0 0 (w0 h) [.inr (some 58)] (fun v w' => v = some (bI (8 ≤ h 58 2)) ∧ w' = w0 h) := by
  refine Cn.of (by decide) (Nat.le_of_ble_eq_true rfl) (fun E ad a qf => ?_)
  have qa := qf.2.2.2
  have hcs : 0 ≤ (eR E).cells ∧ 0 ≤ (eR E).slots := ⟨Nat.zero_le _, Nat.zero_le _⟩
  refine x_aload_n a 0 d_F_isFull_0 rfl ?_
  refine x_getI a 1 f_F_18 d_F_isFull_1 rfl (by omega) (by decide) rfl ?_
  refine x_bipush a 4 8 d_F_isFull_4 (by decide) ?_
  refine x_icmp_lt a 6 13 d_F_isFull_6 (by decide) (fun c6 => ?_) (fun c6 => ?_)
  · refine x_iconst a 13 0 d_F_isFull_13 (by decide) ?_
    exact x_zret a qf 14 d_F_isFull_14 rfl rfl ⟨by first | rw [bI_f (by (try simp (disch := omega) only [Int32.le_iff_toInt_le, Int32.lt_iff_toInt_lt, ← Int32.toInt_inj, Int32.reduceToInt, nI_1, nI_add, pk_sub, nI_toInt] at *); omega)] | rw [bI_t (by (try simp (disch := omega) only [Int32.le_iff_toInt_le, Int32.lt_iff_toInt_lt, ← Int32.toInt_inj, Int32.reduceToInt, nI_1, nI_add, pk_sub, nI_toInt] at *); omega)], rfl⟩
  · refine x_iconst a 9 1 d_F_isFull_9 (by decide) ?_
    refine x_goto a 10 14 d_F_isFull_10 (by decide) ?_
    exact x_zret a qf 14 d_F_isFull_14 rfl rfl ⟨by first | rw [bI_f (by (try simp (disch := omega) only [Int32.le_iff_toInt_le, Int32.lt_iff_toInt_lt, ← Int32.toInt_inj, Int32.reduceToInt, nI_1, nI_add, pk_sub, nI_toInt] at *); omega)] | rw [bI_t (by (try simp (disch := omega) only [Int32.le_iff_toInt_le, Int32.lt_iff_toInt_lt, ← Int32.toInt_inj, Int32.reduceToInt, nI_1, nI_add, pk_sub, nI_toInt] at *); omega)], rfl⟩
set_option maxRecDepth 100000 in
set_option maxHeartbeats 4000000 in
theorem c_F_append (h : Hp) (p t : Int32) {n : Nat} (hn : h 58 2 = nI n) (hn8 : n < 8) : Cn u_F_append 0 0 0 (w0 h) [.inr (some 58), .inl p, .inl t] (fun r w' => r = none ∧ w' = w0 (up2 (up2 (up2 h 59 n p) 60 n t) 58 2 (nI (n + 1)))) := by
  refine Cn.of (by decide) (Nat.le_of_ble_eq_true rfl) (fun E ad a qf => ?_)
  have qa := qf.2.2.2
  have hcs : 0 ≤ (eR E).cells ∧ 0 ≤ (eR E).slots := ⟨Nat.zero_le _, Nat.zero_le _⟩
  refine x_aload_n a 0 d_F_append_0 rfl ?_
  refine x_getR a 1 f_F_9 d_F_append_1 rfl (by omega) (by decide) rfl ?_
  refine x_aload_n a 4 d_F_append_4 rfl ?_
  refine x_getI a 5 f_F_18 d_F_append_5 rfl (by omega) (by decide) hn ?_
  refine x_iload_n a 8 d_F_append_8 rfl ?_
  refine x_iast a 9 d_F_append_9 rfl (by omega) (j := n) rfl hn8 (by decide) ?_
  refine x_aload_n a 10 d_F_append_10 rfl ?_
  refine x_getR a 11 f_F_15 d_F_append_11 rfl (by omega) (by decide) rfl ?_
  refine x_aload_n a 14 d_F_append_14 rfl ?_
  refine x_getI a 15 f_F_18 d_F_append_15 rfl (by omega) (by decide) (v := nI n) (by rw [up2_o _ _ _ (by decide)]; exact hn) ?_
  refine x_iload_n a 18 d_F_append_18 rfl ?_
  refine x_iast a 19 d_F_append_19 rfl (by omega) (j := n) rfl hn8 (by decide) ?_
  refine x_aload_n a 20 d_F_append_20 rfl ?_
  refine x_dup a 21 d_F_append_21 ?_
  refine x_getI a 22 f_F_18 d_F_append_22 rfl (by omega) (by decide) (v := nI n) (by rw [up2_o _ _ _ (by decide), up2_o _ _ _ (by decide)]; exact hn) ?_
  refine x_iconst a 25 1 d_F_append_25 (by decide) ?_
  refine x_iadd a 26 d_F_append_26 ?_
  refine x_push (nI_1 n) ?_
  refine x_putI a 27 f_F_18 d_F_append_27 rfl (by omega) (by decide) rfl rfl rfl ?_
  exact x_vret a qf 30 d_F_append_30 rfl ⟨rfl, rfl⟩
set_option maxRecDepth 100000 in
set_option maxHeartbeats 4000000 in
theorem c_F_beginAnew (h : Hp) : Cn u_F_beginAnew 0 0 0 (w0 h) [.inr (some 58)] (fun r w' => r = none ∧ w' = w0 (up2 (up2 (up2 (up2 h 58 3 0) 58 4 0) 58 5 0) 58 6 0)) := by
  refine Cn.of (by decide) (Nat.le_of_ble_eq_true rfl) (fun E ad a qf => ?_)
  have qa := qf.2.2.2
  have hcs : 0 ≤ (eR E).cells ∧ 0 ≤ (eR E).slots := ⟨Nat.zero_le _, Nat.zero_le _⟩
  refine x_aload_n a 0 d_F_beginAnew_0 rfl ?_
  refine x_iconst a 1 0 d_F_beginAnew_1 (by decide) ?_
  refine x_putI a 2 f_F_22 d_F_beginAnew_2 rfl (by omega) (by decide) rfl rfl rfl ?_
  refine x_aload_n a 5 d_F_beginAnew_5 rfl ?_
  refine x_iconst a 6 0 d_F_beginAnew_6 (by decide) ?_
  refine x_putI a 7 f_F_25 d_F_beginAnew_7 rfl (by omega) (by decide) rfl rfl rfl ?_
  refine x_aload_n a 10 d_F_beginAnew_10 rfl ?_
  refine x_iconst a 11 0 d_F_beginAnew_11 (by decide) ?_
  refine x_putI a 12 f_F_28 d_F_beginAnew_12 rfl (by omega) (by decide) rfl rfl rfl ?_
  refine x_aload_n a 15 d_F_beginAnew_15 rfl ?_
  refine x_iconst a 16 0 d_F_beginAnew_16 (by decide) ?_
  refine x_putI a 17 f_F_31 d_F_beginAnew_17 rfl (by omega) (by decide) rfl rfl rfl ?_
  exact x_vret a qf 20 d_F_beginAnew_20 rfl ⟨rfl, rfl⟩
set_option maxRecDepth 100000 in
set_option maxHeartbeats 4000000 in
theorem c_F_partitionAtHand (h : Hp) {n : Nat} (hn : h 58 3 = nI n) (hn8 : n < 8) : Cn u_F_partitionAtHand 0 0 0 (w0 h) [.inr (some 58)] (fun v w' => v = some (h 59 n) ∧ w' = w0 h) := by
  refine Cn.of (by decide) (Nat.le_of_ble_eq_true rfl) (fun E ad a qf => ?_)
  have qa := qf.2.2.2
  have hcs : 0 ≤ (eR E).cells ∧ 0 ≤ (eR E).slots := ⟨Nat.zero_le _, Nat.zero_le _⟩
  refine x_aload_n a 0 d_F_partitionAtHand_0 rfl ?_
  refine x_getR a 1 f_F_9 d_F_partitionAtHand_1 rfl (by omega) (by decide) rfl ?_
  refine x_aload_n a 4 d_F_partitionAtHand_4 rfl ?_
  refine x_getI a 5 f_F_22 d_F_partitionAtHand_5 rfl (by omega) (by decide) hn ?_
  refine x_iald a 8 d_F_partitionAtHand_8 rfl (by omega) (j := n) rfl hn8 (by decide) rfl ?_
  exact x_iret a qf 9 d_F_partitionAtHand_9 rfl ⟨rfl, rfl⟩
set_option maxRecDepth 100000 in
set_option maxHeartbeats 4000000 in
theorem c_F_tell (h : Hp) (x : Int32) : Cn u_F_tell 0 0 0 (w0 h) [.inr (some 58), .inl x] (fun v w' => v = some (if x = 0 then h 58 3 else if x = 1 then h 58 4 else if x = 2 then h 58 5 else -1) ∧ w' = w0 h) := by
  refine Cn.of (by decide) (Nat.le_of_ble_eq_true rfl) (fun E ad a qf => ?_)
  have qa := qf.2.2.2
  have hcs : 0 ≤ (eR E).cells ∧ 0 ≤ (eR E).slots := ⟨Nat.zero_le _, Nat.zero_le _⟩
  refine x_iload_n a 0 d_F_tell_0 rfl ?_
  by_cases s1_0 : x = 0
  · subst s1_0
    refine x_tableIn a 1 28 27 d_F_tell_1 (by decide) (by decide) rfl (by decide) ?_
    refine x_aload_n a 28 d_F_tell_28 rfl ?_
    refine x_getI a 29 f_F_22 d_F_tell_29 rfl (by omega) (by decide) rfl ?_
    exact x_iret a qf 32 d_F_tell_32 rfl ⟨rfl, rfl⟩
  by_cases s1_1 : x = 1
  · subst s1_1
    refine x_tableIn a 1 33 32 d_F_tell_1 (by decide) (by decide) rfl (by decide) ?_
    refine x_aload_n a 33 d_F_tell_33 rfl ?_
    refine x_getI a 34 f_F_25 d_F_tell_34 rfl (by omega) (by decide) rfl ?_
    exact x_iret a qf 37 d_F_tell_37 rfl ⟨rfl, rfl⟩
  by_cases s1_2 : x = 2
  · subst s1_2
    refine x_tableIn a 1 38 37 d_F_tell_1 (by decide) (by decide) rfl (by decide) ?_
    refine x_aload_n a 38 d_F_tell_38 rfl ?_
    refine x_getI a 39 f_F_28 d_F_tell_39 rfl (by omega) (by decide) rfl ?_
    exact x_iret a qf 42 d_F_tell_42 rfl ⟨rfl, rfl⟩
  refine x_tableOut a 1 43 d_F_tell_1 (by (try simp (disch := omega) only [Int32.le_iff_toInt_le, Int32.lt_iff_toInt_lt, ← Int32.toInt_inj, Int32.reduceToInt, nI_1, nI_add, pk_sub, nI_toInt] at *); omega) (by decide) ?_
  refine x_iconst a 43 (-1) d_F_tell_43 (by decide) ?_
  exact x_iret a qf 44 d_F_tell_44 rfl ⟨by rw [if_neg s1_0, if_neg s1_1, if_neg s1_2], rfl⟩
def f_end (h : Hp) (a n v l : Nat) : Hp :=
  if l ≤ v + 1 then up2 (up2 (up2 (up2 (up2 h 58 5 (h 58 5 + 1)) 58 4 (nI (v + 1))) 58 3 (nI (if a + 1 < n then a + 1 else 0))) 58 4 0) 58 6 0
  else up2 (up2 h 58 5 (h 58 5 + 1)) 58 4 (nI (v + 1))
set_option maxRecDepth 100000 in
set_option maxHeartbeats 4000000 in
theorem c_F_endTick (h : Hp) {a0 n v l : Nat} (ha : h 58 3 = nI a0) (hn : h 58 2 = nI n) (han : a0 < n) (hn8 : n ≤ 8) (hv : h 58 4 = nI v) (hv9 : v < 1000) (hl : h 60 a0 = nI l) (hl9 : l < 1000) : Cn u_F_endTick 0 0 0 (w0 h) [.inr (some 58)] (fun r w' => r = none ∧ w' = w0 (f_end h a0 n v l)) := by
  refine Cn.of (by decide) (Nat.le_of_ble_eq_true rfl) (fun E ad a qf => ?_)
  have qa := qf.2.2.2
  have hcs : 0 ≤ (eR E).cells ∧ 0 ≤ (eR E).slots := ⟨Nat.zero_le _, Nat.zero_le _⟩
  refine x_aload_n a 0 d_F_endTick_0 rfl ?_
  refine x_dup a 1 d_F_endTick_1 ?_
  refine x_getI a 2 f_F_28 d_F_endTick_2 rfl (by omega) (by decide) rfl ?_
  refine x_iconst a 5 1 d_F_endTick_5 (by decide) ?_
  refine x_iadd a 6 d_F_endTick_6 ?_
  refine x_putI a 7 f_F_28 d_F_endTick_7 rfl (by omega) (by decide) rfl rfl rfl ?_
  refine x_aload_n a 10 d_F_endTick_10 rfl ?_
  refine x_dup a 11 d_F_endTick_11 ?_
  refine x_getI a 12 f_F_25 d_F_endTick_12 rfl (by omega) (by decide) (v := nI v) (by rw [up2_k _ _ _ (by decide)]; exact hv) ?_
  refine x_iconst a 15 1 d_F_endTick_15 (by decide) ?_
  refine x_iadd a 16 d_F_endTick_16 ?_
  refine x_push (nI_1 v) ?_
  refine x_putI a 17 f_F_25 d_F_endTick_17 rfl (by omega) (by decide) rfl rfl rfl ?_
  refine x_aload_n a 20 d_F_endTick_20 rfl ?_
  refine x_getI a 21 f_F_25 d_F_endTick_21 rfl (by omega) (by decide) (v := nI (v + 1)) (up2_s _ _ _ _) ?_
  refine x_aload_n a 24 d_F_endTick_24 rfl ?_
  refine x_getR a 25 f_F_15 d_F_endTick_25 rfl (by omega) (by decide) rfl ?_
  refine x_aload_n a 28 d_F_endTick_28 rfl ?_
  refine x_getI a 29 f_F_22 d_F_endTick_29 rfl (by omega) (by decide) (v := nI a0) (by rw [up2_k _ _ _ (by decide), up2_k _ _ _ (by decide)]; exact ha) ?_
  refine x_iald a 32 d_F_endTick_32 rfl (by omega) (j := a0) rfl (by omega) (by decide) (v := nI l) (by rw [up2_o _ _ _ (by decide), up2_o _ _ _ (by decide)]; exact hl) ?_
  refine x_icmp_lt a 33 73 d_F_endTick_33 (by decide) (fun c33 => ?_) (fun c33 => ?_)
  · exact x_vret a qf 73 d_F_endTick_73 rfl ⟨rfl, by unfold f_end; first | (rw [if_pos (show l ≤ v + 1 from (by (try simp (disch := omega) only [Int32.le_iff_toInt_le, Int32.lt_iff_toInt_lt, ← Int32.toInt_inj, Int32.reduceToInt, nI_1, nI_add, pk_sub, nI_toInt] at *); omega))]) | (rw [if_neg (show ¬ l ≤ v + 1 from (by (try simp (disch := omega) only [Int32.le_iff_toInt_le, Int32.lt_iff_toInt_lt, ← Int32.toInt_inj, Int32.reduceToInt, nI_1, nI_add, pk_sub, nI_toInt] at *); omega))])⟩
  · refine x_aload_n a 36 d_F_endTick_36 rfl ?_
    refine x_aload_n a 37 d_F_endTick_37 rfl ?_
    refine x_getI a 38 f_F_22 d_F_endTick_38 rfl (by omega) (by decide) (v := nI a0) (by rw [up2_k _ _ _ (by decide), up2_k _ _ _ (by decide)]; exact ha) ?_
    refine x_iconst a 41 1 d_F_endTick_41 (by decide) ?_
    refine x_iadd a 42 d_F_endTick_42 ?_
    refine x_aload_n a 43 d_F_endTick_43 rfl ?_
    refine x_getI a 44 f_F_18 d_F_endTick_44 rfl (by omega) (by decide) (v := nI n) (by rw [up2_k _ _ _ (by decide), up2_k _ _ _ (by decide)]; exact hn) ?_
    refine x_icmp_ge a 47 59 d_F_endTick_47 (by decide) (fun c47 => ?_) (fun c47 => ?_)
    · refine x_iconst a 59 0 d_F_endTick_59 (by decide) ?_
      refine x_push (y := nI (if a0 + 1 < n then a0 + 1 else 0)) (by first | (rw [if_pos (by (try simp (disch := omega) only [Int32.le_iff_toInt_le, Int32.lt_iff_toInt_lt, ← Int32.toInt_inj, Int32.reduceToInt, nI_1, nI_add, pk_sub, nI_toInt] at *); omega)]; exact nI_1 a0) | (rw [if_neg (by (try simp (disch := omega) only [Int32.le_iff_toInt_le, Int32.lt_iff_toInt_lt, ← Int32.toInt_inj, Int32.reduceToInt, nI_1, nI_add, pk_sub, nI_toInt] at *); omega)]; rfl)) ?_
      refine x_putI a 60 f_F_22 d_F_endTick_60 rfl (by omega) (by decide) rfl rfl rfl ?_
      refine x_aload_n a 63 d_F_endTick_63 rfl ?_
      refine x_iconst a 64 0 d_F_endTick_64 (by decide) ?_
      refine x_putI a 65 f_F_25 d_F_endTick_65 rfl (by omega) (by decide) rfl rfl rfl ?_
      refine x_aload_n a 68 d_F_endTick_68 rfl ?_
      refine x_iconst a 69 0 d_F_endTick_69 (by decide) ?_
      refine x_putI a 70 f_F_31 d_F_endTick_70 rfl (by omega) (by decide) rfl rfl rfl ?_
      exact x_vret a qf 73 d_F_endTick_73 rfl ⟨rfl, by unfold f_end; first | (rw [if_pos (show l ≤ v + 1 from (by (try simp (disch := omega) only [Int32.le_iff_toInt_le, Int32.lt_iff_toInt_lt, ← Int32.toInt_inj, Int32.reduceToInt, nI_1, nI_add, pk_sub, nI_toInt] at *); omega))]) | (rw [if_neg (show ¬ l ≤ v + 1 from (by (try simp (disch := omega) only [Int32.le_iff_toInt_le, Int32.lt_iff_toInt_lt, ← Int32.toInt_inj, Int32.reduceToInt, nI_1, nI_add, pk_sub, nI_toInt] at *); omega))])⟩
    · refine x_aload_n a 50 d_F_endTick_50 rfl ?_
      refine x_getI a 51 f_F_22 d_F_endTick_51 rfl (by omega) (by decide) (v := nI a0) (by rw [up2_k _ _ _ (by decide), up2_k _ _ _ (by decide)]; exact ha) ?_
      refine x_iconst a 54 1 d_F_endTick_54 (by decide) ?_
      refine x_iadd a 55 d_F_endTick_55 ?_
      refine x_goto a 56 60 d_F_endTick_56 (by decide) ?_
      refine x_push (y := nI (if a0 + 1 < n then a0 + 1 else 0)) (by first | (rw [if_pos (by (try simp (disch := omega) only [Int32.le_iff_toInt_le, Int32.lt_iff_toInt_lt, ← Int32.toInt_inj, Int32.reduceToInt, nI_1, nI_add, pk_sub, nI_toInt] at *); omega)]; exact nI_1 a0) | (rw [if_neg (by (try simp (disch := omega) only [Int32.le_iff_toInt_le, Int32.lt_iff_toInt_lt, ← Int32.toInt_inj, Int32.reduceToInt, nI_1, nI_add, pk_sub, nI_toInt] at *); omega)]; rfl)) ?_
      refine x_putI a 60 f_F_22 d_F_endTick_60 rfl (by omega) (by decide) rfl rfl rfl ?_
      refine x_aload_n a 63 d_F_endTick_63 rfl ?_
      refine x_iconst a 64 0 d_F_endTick_64 (by decide) ?_
      refine x_putI a 65 f_F_25 d_F_endTick_65 rfl (by omega) (by decide) rfl rfl rfl ?_
      refine x_aload_n a 68 d_F_endTick_68 rfl ?_
      refine x_iconst a 69 0 d_F_endTick_69 (by decide) ?_
      refine x_putI a 70 f_F_31 d_F_endTick_70 rfl (by omega) (by decide) rfl rfl rfl ?_
      exact x_vret a qf 73 d_F_endTick_73 rfl ⟨rfl, by unfold f_end; first | (rw [if_pos (show l ≤ v + 1 from (by (try simp (disch := omega) only [Int32.le_iff_toInt_le, Int32.lt_iff_toInt_lt, ← Int32.toInt_inj, Int32.reduceToInt, nI_1, nI_add, pk_sub, nI_toInt] at *); omega))]) | (rw [if_neg (show ¬ l ≤ v + 1 from (by (try simp (disch := omega) only [Int32.le_iff_toInt_le, Int32.lt_iff_toInt_lt, ← Int32.toInt_inj, Int32.reduceToInt, nI_1, nI_add, pk_sub, nI_toInt] at *); omega))])⟩
def f_has (h : Hp) (p : Int32) (n : Nat) : Prop := ∃ k, k < n ∧ h 59 k = p
set_option maxRecDepth 100000 in
set_option maxHeartbeats 4000000 in
theorem l_F_hasWindowOf {E : En} {ad : Nat → Nat} {h : Hp} {p : Int32} {n : Nat} {Post : Option Int32 → Wd → Prop} (a : Amb u_F_hasWindowOf 0 E) (qf : Fin Post (w0 h).1 ad 0 0 E) (hn : h 58 2 = nI n) (hn8 : n ≤ 8) (ht : f_has h p n → Post (some 1) (w0 h)) (hf : ¬ f_has h p n → Post (some 0) (w0 h)) : ∀ m k : Nat, k ≤ n → n < k + m → (∀ i, i < k → ¬ h 59 i = p) → X E 0 0 ad (w0 h) 2 [(0, .inr (some 58)), (1, .inl p), (2, .inl (nI k))] [] := by
  intro m
  induction m with
  | zero => intro k h1 h2; omega
  | succ m ih =>
    intro k h1 h2 h3
    refine x_iload_n a 2 d_F_hasWindowOf_2 rfl ?_
    refine x_aload_n a 3 d_F_hasWindowOf_3 rfl ?_
    refine x_getI a 4 f_F_18 d_F_hasWindowOf_4 rfl (by omega) (by decide) hn ?_
    refine x_icmp_ge a 7 28 d_F_hasWindowOf_7 (by decide) (fun c7 => ?_) (fun c7 => ?_)
    · refine x_iconst a 28 0 d_F_hasWindowOf_28 (by decide) ?_
      exact x_zret a qf 29 d_F_hasWindowOf_29 rfl rfl (hf (fun ⟨i, hi, hp⟩ => h3 i (by (try simp (disch := omega) only [Int32.le_iff_toInt_le, Int32.lt_iff_toInt_lt, ← Int32.toInt_inj, Int32.reduceToInt, nI_1, nI_add, pk_sub, nI_toInt] at *); omega) hp))
    · refine x_aload_n a 10 d_F_hasWindowOf_10 rfl ?_
      refine x_getR a 11 f_F_9 d_F_hasWindowOf_11 rfl (by omega) (by decide) rfl ?_
      refine x_iload_n a 14 d_F_hasWindowOf_14 rfl ?_
      refine x_iald a 15 d_F_hasWindowOf_15 rfl (by omega) (j := k) rfl (by (try simp (disch := omega) only [Int32.le_iff_toInt_le, Int32.lt_iff_toInt_lt, ← Int32.toInt_inj, Int32.reduceToInt, nI_1, nI_add, pk_sub, nI_toInt] at *); omega) (by decide) rfl ?_
      refine x_iload_n a 16 d_F_hasWindowOf_16 rfl ?_
      refine x_icmp_ne a 17 22 d_F_hasWindowOf_17 (by decide) (fun c17 => ?_) (fun c17 => ?_)
      · refine x_iinc a 22 (nI (k + 1)) d_F_hasWindowOf_22 rfl (nI_inc k) (by decide) ?_
        refine x_goto a 25 2 d_F_hasWindowOf_25 (by decide) ?_
        refine x_lv [(0, .inr (some 58)), (1, .inl p), (2, .inl (nI (k + 1)))] (List.forall_mem_cons.mpr ⟨rfl, List.forall_mem_cons.mpr ⟨rfl, List.forall_mem_cons.mpr ⟨rfl, fun _ z => absurd z List.not_mem_nil⟩⟩⟩) ?_
        exact ih (k + 1) (by (try simp (disch := omega) only [Int32.le_iff_toInt_le, Int32.lt_iff_toInt_lt, ← Int32.toInt_inj, Int32.reduceToInt, nI_1, nI_add, pk_sub, nI_toInt] at *); omega) (by omega) (fun i hi => by rcases Nat.lt_succ_iff_lt_or_eq.mp hi with z | rfl; exact h3 i z; exact c17)
      · refine x_iconst a 20 1 d_F_hasWindowOf_20 (by decide) ?_
        exact x_zret a qf 21 d_F_hasWindowOf_21 rfl rfl (ht ⟨k, (by (try simp (disch := omega) only [Int32.le_iff_toInt_le, Int32.lt_iff_toInt_lt, ← Int32.toInt_inj, Int32.reduceToInt, nI_1, nI_add, pk_sub, nI_toInt] at *); omega), c17⟩)
set_option maxRecDepth 100000 in
set_option maxHeartbeats 4000000 in
theorem c_F_hasWindowOf (h : Hp) (p : Int32) {n : Nat} (hn : h 58 2 = nI n) (hn8 : n ≤ 8) : Cn u_F_hasWindowOf 0 0 0 (w0 h) [.inr (some 58), .inl p] (fun v w' => w' = w0 h ∧ ((v = some 1 ∧ f_has h p n) ∨ (v = some 0 ∧ ¬ f_has h p n))) := by
  refine Cn.of (by decide) (Nat.le_of_ble_eq_true rfl) (fun E ad a qf => ?_)
  have qa := qf.2.2.2
  have hcs : 0 ≤ (eR E).cells ∧ 0 ≤ (eR E).slots := ⟨Nat.zero_le _, Nat.zero_le _⟩
  refine x_iconst a 0 0 d_F_hasWindowOf_0 (by decide) ?_
  refine x_istore_n a 1 d_F_hasWindowOf_1 (by decide) ?_
  refine x_lv [(0, .inr (some 58)), (1, .inl p), (2, .inl (nI 0))] (List.forall_mem_cons.mpr ⟨rfl, List.forall_mem_cons.mpr ⟨rfl, List.forall_mem_cons.mpr ⟨rfl, fun _ z => absurd z List.not_mem_nil⟩⟩⟩) ?_
  exact l_F_hasWindowOf a qf hn hn8 (fun z => ⟨rfl, Or.inl ⟨rfl, z⟩⟩) (fun z => ⟨rfl, Or.inr ⟨rfl, z⟩⟩) (n + 1) 0 (by omega) (by omega) (fun i hi => absurd hi (by omega))
end
section
abbrev tn (x : Int32) : Nat := x.toNatClampNeg
/-- the register that a number names -/
def rg (a : Int32) : Nat := tn (a &&& 3)
theorem rg_and (x : Int32) : x &&& 3 = nI (x.toBitVec.toNat % 4) := pk_and x 2 (by decide)
theorem rg_nat (x : Int32) : rg x = x.toBitVec.toNat % 4 := by
  unfold rg tn
  rw [rg_and, nI_clamp (by omega)]
theorem rg_lt (x : Int32) : rg x < 4 := by rw [rg_nat]; omega
theorem rg_nI (x : Int32) : nI (rg x) = x &&& 3 := by rw [rg_nat, rg_and]
theorem rg_int (x : Int32) : (rg x : Int) = x.toInt % 4 := by
  rw [rg_nat, ← Int32.toInt_toBitVec, BitVec.toInt_eq_toNat_cond]
  have := x.toBitVec.isLt
  split <;> omega
theorem fm_rem (x : Int32) : (x - x / 4 * 4).toInt = x.toInt.tmod 4 := by
  have a := x.le_toInt
  have b := x.toInt_lt
  have c := Int.tmod_add_mul_tdiv x.toInt 4
  have e := Int.tmod_lt_of_pos x.toInt (b := 4) (by decide)
  have f := Int.lt_tmod_of_pos x.toInt (b := 4) (by decide)
  have s1 : 0 ≤ x.toInt → 0 ≤ x.toInt.tmod 4 := fun z => Int.tmod_nonneg 4 z
  have s2 : x.toInt < 0 → x.toInt.tmod 4 ≤ 0 := fun z => by
    have := Int.tmod_nonneg (a := -x.toInt) 4 (by omega)
    rw [Int.neg_tmod] at this
    omega
  have h4 : (4 : Int32).toInt = 4 := rfl
  have hd : (x / 4).toInt = x.toInt.tdiv 4 := by
    rw [Int32.toInt_div, h4]
    exact Int.bmod_eq_of_le (by omega) (by omega)
  have hm : (x / 4 * 4).toInt = x.toInt.tdiv 4 * 4 := by
    rw [Int32.toInt_mul, hd, h4]
    exact Int.bmod_eq_of_le (by omega) (by omega)
  rw [Int32.toInt_sub, hm]
  rw [show x.toInt - x.toInt.tdiv 4 * 4 = x.toInt.tmod 4 by omega]
  exact Int.bmod_eq_of_le (by omega) (by omega)
theorem fm_neg (x : Int32) : 0 ≤ x ^^^ 4 ↔ 0 ≤ x.toInt := by
  have key : ∀ y : Int32, 0 ≤ y ↔ y.toBitVec.msb = false := by
    intro y
    rw [Int32.le_iff_toInt_le, BitVec.msb_eq_toInt, Int32.toInt_toBitVec]
    simp
  rw [key, Int32.toBitVec_xor, BitVec.msb_xor]
  have h2 : (4 : Int32).toBitVec.msb = false := by decide
  rw [h2, Bool.xor_false, ← key, Int32.le_iff_toInt_le]
  rfl
theorem fm_tmod (x : Int32) : (0 ≤ x.toInt ∧ x.toInt.tmod 4 = rg x) ∨ (x.toInt < 0 ∧ ((x.toInt.tmod 4 = 0 ∧ rg x = 0) ∨ (x.toInt.tmod 4 ≠ 0 ∧ x.toInt.tmod 4 + 4 = rg x))) := by
  have e := Int.tmod_lt_of_pos x.toInt (b := 4) (by decide)
  have f := Int.lt_tmod_of_pos x.toInt (b := 4) (by decide)
  have c := Int.tmod_add_mul_tdiv x.toInt 4
  have r := rg_int x
  by_cases h : 0 ≤ x.toInt
  · left
    exact ⟨h, by rw [Int.tmod_eq_emod_of_nonneg h, r]⟩
  · right
    refine ⟨by omega, ?_⟩
    have g : x.toInt.tmod 4 ≤ 0 := by
      have := Int.tmod_nonneg (a := -x.toInt) 4 (by omega)
      rw [Int.neg_tmod] at this
      omega
    omega
theorem fm_nn {x : Int32} (h : 0 ≤ x ^^^ 4) : x - x / 4 * 4 = nI (rg x) := by
  apply Int32.toInt_inj.mp
  rw [fm_rem, nI_toInt (by have := rg_lt x; omega)]
  have := (fm_neg x).mp h
  rcases fm_tmod x with z | z <;> omega
theorem fm_0 {x : Int32} (h : x - x / 4 * 4 = 0) : x - x / 4 * 4 = nI (rg x) := by
  have h1 := fm_rem x
  rw [h] at h1
  have h1 : (0 : Int) = x.toInt.tmod 4 := h1
  apply Int32.toInt_inj.mp
  rw [fm_rem, nI_toInt (by have := rg_lt x; omega)]
  rcases fm_tmod x with z | z <;> omega
theorem fm_p {x : Int32} (h : ¬ 0 ≤ x ^^^ 4) (h0 : ¬ x - x / 4 * 4 = 0) : x - x / 4 * 4 + 4 = nI (rg x) := by
  have hx : ¬ 0 ≤ x.toInt := fun z => h ((fm_neg x).mpr z)
  have h1 : ¬ x.toInt.tmod 4 = 0 := fun z => h0 (Int32.toInt_inj.mp (by rw [fm_rem, z]; rfl))
  have e := Int.tmod_lt_of_pos x.toInt (b := 4) (by decide)
  have f := Int.lt_tmod_of_pos x.toInt (b := 4) (by decide)
  apply Int32.toInt_inj.mp
  rw [Int32.toInt_add, fm_rem, nI_toInt (by have := rg_lt x; omega)]
  rw [show (4 : Int32).toInt = 4 from rfl, Int.bmod_eq_of_le (by omega) (by omega)]
  rcases fm_tmod x with z | z <;> omega
theorem Cn.ofF {u : Mi} {d mc ms : Nat} {w : Wd} {as : List AV} {Post : Option Int32 → Wd → Prop} (hy : plainFor u.1 = true) (hlen : as.length ≤ u.2.2.1) (body : ∀ (E : En) (ad : Nat → Nat), Amb u d E → Fin Post w.1 ad mc ms E → X E 0 0 ad w 0 (argsL 0 as) []) : Cn u d mc ms w as Post := by
  intro l D cA ad sz
  refine va_MetF (cc := u.2.1) (maxL := u.2.2.1) (ret := u.2.2.2) hy rfl ?_
  intro p e s m args below meth c s₁ B hml hv
  obtain ⟨rfl, hsz, hR, hP, hK, hD0, hns, h2, h3⟩ := hv
  have hts := atoms_spec (ws := wds u) B.pre
  subst hsz
  have hD := hD0.self (sz := s.heap.size)
  have a : Amb u d (p, l, e, (headSpec (wds u) { frames := d, cells := mc, slots := ms, locals := 40 * d }).room, s, m, (as.map (cv ad)).toArray, below, meth, c, D, cA, va_A (ws cA ad w) s.heap.size, MQ below (QC Post (QB w.1 mc D cA ad (va_A (ws cA ad w) s.heap.size)) (va_A (ws cA ad w) s.heap.size)) (as.map (cv ad)).toArray s mc ms (va_A (ws cA ad w) s.heap.size)) :=
    ⟨B.exec, B.bytes, B.returns, hml, B.notSynchronized, (name_of_methodNamed B.named B.method).1, findClass_of_methodNamed B.named, fun x hx => hts x (List.mem_cons_of_mem _ hx), hns, hK, fun q hq => Or.inr hq, Nat.le_refl _, Nat.le_refl _⟩
  have hl := lv_entry (as.map (cv ad)) (n := u.2.2.1) (by rw [lg_len]; exact hlen)
  rw [lg_entry_eq]
  rw [lvc_args] at hl
  exact body _ ad a ⟨rfl, Nat.le_refl _, Nat.le_refl _, h2, h3⟩ s.heap [] _ hR hP hD va_S.rf (by rw [a.ml]; exact hl)
set_option maxRecDepth 100000 in
set_option maxHeartbeats 4000000 in
theorem c_J_floorMod (h : Hp) (x : Int32) : Cn u_J_floorMod 0 0 0 (w0 h) [.inl x, .inl 4] (fun v w' => v = some (nI (rg x)) ∧ w' = w0 h) := by
  refine Cn.ofF (by decide +kernel) (Nat.le_of_ble_eq_true rfl) (fun E ad a qf => ?_)
  have qa := qf.2.2.2
  have hcs : 0 ≤ (eR E).cells ∧ 0 ≤ (eR E).slots := ⟨Nat.zero_le _, Nat.zero_le _⟩
  refine x_iload_n a 0 d_J_floorMod_0 rfl ?_
  refine x_iload_n a 1 d_J_floorMod_1 rfl ?_
  refine x_irem a 2 d_J_floorMod_2 (by decide) ?_
  refine x_istore_n a 3 d_J_floorMod_3 (by decide) ?_
  refine x_iload_n a 4 d_J_floorMod_4 rfl ?_
  refine x_iload_n a 5 d_J_floorMod_5 rfl ?_
  refine x_ixor a 6 d_J_floorMod_6 ?_
  refine x_if_ge a 7 18 d_J_floorMod_7 (by decide) (fun c7 => ?_) (fun c7 => ?_)
  · refine x_iload_n a 18 d_J_floorMod_18 rfl ?_
    exact x_iret a qf 19 d_J_floorMod_19 rfl ⟨by first | rw [fm_nn c7] | rw [fm_0 c11], rfl⟩
  · refine x_iload_n a 10 d_J_floorMod_10 rfl ?_
    refine x_if_eq a 11 18 d_J_floorMod_11 (by decide) (fun c11 => ?_) (fun c11 => ?_)
    · refine x_iload_n a 18 d_J_floorMod_18 rfl ?_
      exact x_iret a qf 19 d_J_floorMod_19 rfl ⟨by first | rw [fm_nn c7] | rw [fm_0 c11], rfl⟩
    · refine x_iload_n a 14 d_J_floorMod_14 rfl ?_
      refine x_iload_n a 15 d_J_floorMod_15 rfl ?_
      refine x_iadd a 16 d_J_floorMod_16 ?_
      exact x_iret a qf 17 d_J_floorMod_17 rfl ⟨by rw [fm_p c7 c11], rfl⟩
set_option maxRecDepth 100000 in
set_option maxHeartbeats 4000000 in
theorem c_D_registerNamed (h : Hp) (x : Int32) : Cn u_D_registerNamed 1 0 0 (w0 h) [.inl x] (fun v w' => v = some (nI (rg x)) ∧ w' = w0 h) := by
  refine Cn.of (by decide +kernel) (Nat.le_of_ble_eq_true rfl) (fun E ad a qf => ?_)
  have qa := qf.2.2.2
  have hcs : 0 ≤ (eR E).cells ∧ 0 ≤ (eR E).slots := ⟨Nat.zero_le _, Nat.zero_le _⟩
  refine x_iload_n a 0 d_D_registerNamed_0 rfl ?_
  refine x_iconst a 1 4 d_D_registerNamed_1 (by decide) ?_
  refine x_callS a qa 2 g_D_207 d_D_registerNamed_2 (c_J_floorMod _ _) rfl rfl (by decide) (Nat.le_of_ble_eq_true rfl) hcs (fun v w' hp => ?_)
  obtain ⟨rfl, rfl⟩ := hp
  refine x_st1 ?_
  exact x_iret a qf 5 d_D_registerNamed_5 rfl ⟨rfl, rfl⟩
set_option maxRecDepth 100000 in
set_option maxHeartbeats 4000000 in
theorem c_P_takesPart (h : Hp) {j : Nat} (hj : j < 4) : Cn u_P_takesPart 0 0 0 (w0 h) [.inr (some (3 + 9 * j))] (fun v w' => v = some (bI (0 < h (3 + 9 * j) 8)) ∧ w' = w0 h) := by
  refine Cn.of (by decide +kernel) (Nat.le_of_ble_eq_true rfl) (fun E ad a qf => ?_)
  have qa := qf.2.2.2
  have hcs : 0 ≤ (eR E).cells ∧ 0 ≤ (eR E).slots := ⟨Nat.zero_le _, Nat.zero_le _⟩
  refine x_aload_n a 0 d_P_takesPart_0 rfl ?_
  refine x_getI a 1 f_P_39 d_P_takesPart_1 (kP (by omega)) (by omega) (by decide) rfl ?_
  refine x_if_le a 4 11 d_P_takesPart_4 (by decide) (fun c4 => ?_) (fun c4 => ?_)
  · refine x_iconst a 11 0 d_P_takesPart_11 (by decide) ?_
    exact x_zret a qf 12 d_P_takesPart_12 rfl rfl ⟨by first | rw [bI_f (by (try simp (disch := omega) only [Int32.le_iff_toInt_le, Int32.lt_iff_toInt_lt, ← Int32.toInt_inj, Int32.reduceToInt, nI_1, nI_add, pk_sub, nI_toInt] at *); omega)] | rw [bI_t (by (try simp (disch := omega) only [Int32.le_iff_toInt_le, Int32.lt_iff_toInt_lt, ← Int32.toInt_inj, Int32.reduceToInt, nI_1, nI_add, pk_sub, nI_toInt] at *); omega)], rfl⟩
  · refine x_iconst a 7 1 d_P_takesPart_7 (by decide) ?_
    refine x_goto a 8 12 d_P_takesPart_8 (by decide) ?_
    exact x_zret a qf 12 d_P_takesPart_12 rfl rfl ⟨by first | rw [bI_f (by (try simp (disch := omega) only [Int32.le_iff_toInt_le, Int32.lt_iff_toInt_lt, ← Int32.toInt_inj, Int32.reduceToInt, nI_1, nI_add, pk_sub, nI_toInt] at *); omega)] | rw [bI_t (by (try simp (disch := omega) only [Int32.le_iff_toInt_le, Int32.lt_iff_toInt_lt, ← Int32.toInt_inj, Int32.reduceToInt, nI_1, nI_add, pk_sub, nI_toInt] at *); omega)], rfl⟩
set_option maxRecDepth 100000 in
set_option maxHeartbeats 4000000 in
theorem c_P_overlaps (h : Hp) {j : Nat} (hj : j < 4) {i : Nat} (hi : i < 4) : Cn u_P_overlaps 1 0 0 (w0 h) [.inr (some (3 + 9 * j)), .inr (some (3 + 9 * i))] (fun v w' => v = some (bI (0 < h (3 + 9 * j) 8 ∧ 0 < h (3 + 9 * i) 8 ∧ h (3 + 9 * j) 7 < h (3 + 9 * i) 7 + h (3 + 9 * i) 8 ∧ h (3 + 9 * i) 7 < h (3 + 9 * j) 7 + h (3 + 9 * j) 8)) ∧ w' = w0 h) := by
  refine Cn.of (by decide +kernel) (Nat.le_of_ble_eq_true rfl) (fun E ad a qf => ?_)
  have qa := qf.2.2.2
  have hcs : 0 ≤ (eR E).cells ∧ 0 ≤ (eR E).slots := ⟨Nat.zero_le _, Nat.zero_le _⟩
  refine x_aload_n a 0 d_P_overlaps_0 rfl ?_
  refine x_callV a qa 1 g_P_43 d_P_overlaps_1 (c_P_takesPart _ (by omega)) rfl rfl (kP (by omega)) (show _ < 86 by omega) (by decide) (Nat.le_of_ble_eq_true rfl) hcs (fun v w' hp => ?_)
  obtain ⟨rfl, rfl⟩ := hp
  refine x_st1 ?_
  refine x_ifB_eq a 4 50 d_P_overlaps_4 (by decide) (fun c4 => ?_) (fun c4 => ?_)
  · refine x_iconst a 50 0 d_P_overlaps_50 (by decide) ?_
    exact x_zret a qf 51 d_P_overlaps_51 rfl rfl ⟨by rw [bI_f (by intro z; first | exact c4 z.1 | exact c11 z.2.1 | exact absurd z.2.2.1 (Int32.not_lt.mpr c27) | exact absurd z.2.2.2 (Int32.not_lt.mpr c43))], rfl⟩
  · refine x_aload_n a 7 d_P_overlaps_7 rfl ?_
    refine x_callV a qa 8 g_P_43 d_P_overlaps_8 (c_P_takesPart _ (by omega)) rfl rfl (kP (by omega)) (show _ < 86 by omega) (by decide) (Nat.le_of_ble_eq_true rfl) hcs (fun v w' hp => ?_)
    obtain ⟨rfl, rfl⟩ := hp
    refine x_st1 ?_
    refine x_ifB_eq a 11 50 d_P_overlaps_11 (by decide) (fun c11 => ?_) (fun c11 => ?_)
    · refine x_iconst a 50 0 d_P_overlaps_50 (by decide) ?_
      exact x_zret a qf 51 d_P_overlaps_51 rfl rfl ⟨by rw [bI_f (by intro z; first | exact c4 z.1 | exact c11 z.2.1 | exact absurd z.2.2.1 (Int32.not_lt.mpr c27) | exact absurd z.2.2.2 (Int32.not_lt.mpr c43))], rfl⟩
    · refine x_aload_n a 14 d_P_overlaps_14 rfl ?_
      refine x_getI a 15 f_P_47 d_P_overlaps_15 (kP (by omega)) (by omega) (by decide) rfl ?_
      refine x_aload_n a 18 d_P_overlaps_18 rfl ?_
      refine x_getI a 19 f_P_47 d_P_overlaps_19 (kP (by omega)) (by omega) (by decide) rfl ?_
      refine x_aload_n a 22 d_P_overlaps_22 rfl ?_
      refine x_getI a 23 f_P_39 d_P_overlaps_23 (kP (by omega)) (by omega) (by decide) rfl ?_
      refine x_iadd a 26 d_P_overlaps_26 ?_
      refine x_icmp_ge a 27 50 d_P_overlaps_27 (by decide) (fun c27 => ?_) (fun c27 => ?_)
      · refine x_iconst a 50 0 d_P_overlaps_50 (by decide) ?_
        exact x_zret a qf 51 d_P_overlaps_51 rfl rfl ⟨by rw [bI_f (by intro z; first | exact c4 z.1 | exact c11 z.2.1 | exact absurd z.2.2.1 (Int32.not_lt.mpr c27) | exact absurd z.2.2.2 (Int32.not_lt.mpr c43))], rfl⟩
      · refine x_aload_n a 30 d_P_overlaps_30 rfl ?_
        refine x_getI a 31 f_P_47 d_P_overlaps_31 (kP (by omega)) (by omega) (by decide) rfl ?_
        refine x_aload_n a 34 d_P_overlaps_34 rfl ?_
        refine x_getI a 35 f_P_47 d_P_overlaps_35 (kP (by omega)) (by omega) (by decide) rfl ?_
        refine x_aload_n a 38 d_P_overlaps_38 rfl ?_
        refine x_getI a 39 f_P_39 d_P_overlaps_39 (kP (by omega)) (by omega) (by decide) rfl ?_
        refine x_iadd a 42 d_P_overlaps_42 ?_
        refine x_icmp_ge a 43 50 d_P_overlaps_43 (by decide) (fun c43 => ?_) (fun c43 => ?_)
        · refine x_iconst a 50 0 d_P_overlaps_50 (by decide) ?_
          exact x_zret a qf 51 d_P_overlaps_51 rfl rfl ⟨by rw [bI_f (by intro z; first | exact c4 z.1 | exact c11 z.2.1 | exact absurd z.2.2.1 (Int32.not_lt.mpr c27) | exact absurd z.2.2.2 (Int32.not_lt.mpr c43))], rfl⟩
        · refine x_iconst a 46 1 d_P_overlaps_46 (by decide) ?_
          refine x_goto a 47 51 d_P_overlaps_47 (by decide) ?_
          exact x_zret a qf 51 d_P_overlaps_51 rfl rfl ⟨by rw [bI_t ⟨c4, c11, Int32.not_le.mp c27, Int32.not_le.mp c43⟩], rfl⟩
def p_clear (h : Hp) (j : Nat) : Hp := up2 (up2 (up2 (up2 (up2 h (8 + 9 * j) 0 0) (8 + 9 * j) 1 0) (8 + 9 * j) 2 0) (8 + 9 * j) 3 0) (3 + 9 * j) 9 0
def p_begin (h : Hp) (j : Nat) : Hp := up2 (up2 (p_clear h j) (3 + 9 * j) 10 (bI (0 < h (3 + 9 * j) 8))) (3 + 9 * j) 11 0
theorem bI_fit {c : Prop} [Decidable c] : fits .boolean (.int (bI c)) = true := by
  by_cases h : c
  · rw [bI_t h]; rfl
  · rw [bI_f h]; rfl
set_option maxRecDepth 100000 in
set_option maxHeartbeats 4000000 in
theorem c_P_clear (h : Hp) {j : Nat} (hj : j < 4) : Cn u_P_clearRegistersAndPlace 0 0 0 (w0 h) [.inr (some (3 + 9 * j))] (fun r w' => r = none ∧ w' = w0 (p_clear h j)) := by
  refine Cn.of (by decide +kernel) (Nat.le_of_ble_eq_true rfl) (fun E ad a qf => ?_)
  have qa := qf.2.2.2
  have hcs : 0 ≤ (eR E).cells ∧ 0 ≤ (eR E).slots := ⟨Nat.zero_le _, Nat.zero_le _⟩
  refine x_iconst a 0 0 d_P_clearRegistersAndPlace_0 (by decide) ?_
  refine x_istore_n a 1 d_P_clearRegistersAndPlace_1 (by decide) ?_
  refine x_iload_n a 2 d_P_clearRegistersAndPlace_2 rfl ?_
  refine x_iconst a 3 4 d_P_clearRegistersAndPlace_3 (by decide) ?_
  refine x_icmp_ge a 4 20 d_P_clearRegistersAndPlace_4 (by decide) (fun z => absurd z (by decide)) (fun _ => ?_)
  refine x_aload_n a 7 d_P_clearRegistersAndPlace_7 rfl ?_
  refine x_getR a 8 f_P_24 d_P_clearRegistersAndPlace_8 (kP (by omega)) (by omega) (by decide) (rP4 (by omega)) ?_
  refine x_iload_n a 11 d_P_clearRegistersAndPlace_11 rfl ?_
  refine x_iconst a 12 0 d_P_clearRegistersAndPlace_12 (by decide) ?_
  refine x_iast a 13 d_P_clearRegistersAndPlace_13 (kA8 (by omega)) (by omega) (j := 0) (by decide) (by decide) (by decide) ?_
  refine x_iinc a 14 1 d_P_clearRegistersAndPlace_14 rfl (by decide) (by decide) ?_
  refine x_goto a 17 2 d_P_clearRegistersAndPlace_17 (by decide) ?_
  refine x_iload_n a 2 d_P_clearRegistersAndPlace_2 rfl ?_
  refine x_iconst a 3 4 d_P_clearRegistersAndPlace_3 (by decide) ?_
  refine x_icmp_ge a 4 20 d_P_clearRegistersAndPlace_4 (by decide) (fun z => absurd z (by decide)) (fun _ => ?_)
  refine x_aload_n a 7 d_P_clearRegistersAndPlace_7 rfl ?_
  refine x_getR a 8 f_P_24 d_P_clearRegistersAndPlace_8 (kP (by omega)) (by omega) (by decide) (rP4 (by omega)) ?_
  refine x_iload_n a 11 d_P_clearRegistersAndPlace_11 rfl ?_
  refine x_iconst a 12 0 d_P_clearRegistersAndPlace_12 (by decide) ?_
  refine x_iast a 13 d_P_clearRegistersAndPlace_13 (kA8 (by omega)) (by omega) (j := 1) (by decide) (by decide) (by decide) ?_
  refine x_iinc a 14 2 d_P_clearRegistersAndPlace_14 rfl (by decide) (by decide) ?_
  refine x_goto a 17 2 d_P_clearRegistersAndPlace_17 (by decide) ?_
  refine x_iload_n a 2 d_P_clearRegistersAndPlace_2 rfl ?_
  refine x_iconst a 3 4 d_P_clearRegistersAndPlace_3 (by decide) ?_
  refine x_icmp_ge a 4 20 d_P_clearRegistersAndPlace_4 (by decide) (fun z => absurd z (by decide)) (fun _ => ?_)
  refine x_aload_n a 7 d_P_clearRegistersAndPlace_7 rfl ?_
  refine x_getR a 8 f_P_24 d_P_clearRegistersAndPlace_8 (kP (by omega)) (by omega) (by decide) (rP4 (by omega)) ?_
  refine x_iload_n a 11 d_P_clearRegistersAndPlace_11 rfl ?_
  refine x_iconst a 12 0 d_P_clearRegistersAndPlace_12 (by decide) ?_
  refine x_iast a 13 d_P_clearRegistersAndPlace_13 (kA8 (by omega)) (by omega) (j := 2) (by decide) (by decide) (by decide) ?_
  refine x_iinc a 14 3 d_P_clearRegistersAndPlace_14 rfl (by decide) (by decide) ?_
  refine x_goto a 17 2 d_P_clearRegistersAndPlace_17 (by decide) ?_
  refine x_iload_n a 2 d_P_clearRegistersAndPlace_2 rfl ?_
  refine x_iconst a 3 4 d_P_clearRegistersAndPlace_3 (by decide) ?_
  refine x_icmp_ge a 4 20 d_P_clearRegistersAndPlace_4 (by decide) (fun z => absurd z (by decide)) (fun _ => ?_)
  refine x_aload_n a 7 d_P_clearRegistersAndPlace_7 rfl ?_
  refine x_getR a 8 f_P_24 d_P_clearRegistersAndPlace_8 (kP (by omega)) (by omega) (by decide) (rP4 (by omega)) ?_
  refine x_iload_n a 11 d_P_clearRegistersAndPlace_11 rfl ?_
  refine x_iconst a 12 0 d_P_clearRegistersAndPlace_12 (by decide) ?_
  refine x_iast a 13 d_P_clearRegistersAndPlace_13 (kA8 (by omega)) (by omega) (j := 3) (by decide) (by decide) (by decide) ?_
  refine x_iinc a 14 4 d_P_clearRegistersAndPlace_14 rfl (by decide) (by decide) ?_
  refine x_goto a 17 2 d_P_clearRegistersAndPlace_17 (by decide) ?_
  refine x_iload_n a 2 d_P_clearRegistersAndPlace_2 rfl ?_
  refine x_iconst a 3 4 d_P_clearRegistersAndPlace_3 (by decide) ?_
  refine x_icmp_ge a 4 20 d_P_clearRegistersAndPlace_4 (by decide) (fun _ => ?_) (fun z => absurd z (by decide))
  refine x_aload_n a 20 d_P_clearRegistersAndPlace_20 rfl ?_
  refine x_iconst a 21 0 d_P_clearRegistersAndPlace_21 (by decide) ?_
  refine x_putI a 22 f_P_60 d_P_clearRegistersAndPlace_22 (kP (by omega)) (by omega) (by decide) rfl rfl rfl ?_
  exact x_vret a qf 25 d_P_clearRegistersAndPlace_25 rfl ⟨rfl, rfl⟩
set_option maxRecDepth 100000 in
set_option maxHeartbeats 4000000 in
theorem c_P_beginAnew (h : Hp) {j : Nat} (hj : j < 4) : Cn u_P_beginAnew 1 0 0 (w0 h) [.inr (some (3 + 9 * j))] (fun r w' => r = none ∧ w' = w0 (p_begin h j)) := by
  refine Cn.of (by decide +kernel) (Nat.le_of_ble_eq_true rfl) (fun E ad a qf => ?_)
  have qa := qf.2.2.2
  have hcs : 0 ≤ (eR E).cells ∧ 0 ≤ (eR E).slots := ⟨Nat.zero_le _, Nat.zero_le _⟩
  refine x_aload_n a 0 d_P_beginAnew_0 rfl ?_
  refine x_callV a qa 1 g_P_50 d_P_beginAnew_1 (c_P_clear _ (by omega)) rfl rfl (kP (by omega)) (show _ < 86 by omega) (by decide) (Nat.le_of_ble_eq_true rfl) hcs (fun v w' hp => ?_)
  obtain ⟨rfl, rfl⟩ := hp
  refine x_st0 ?_
  refine x_aload_n a 4 d_P_beginAnew_4 rfl ?_
  refine x_aload_n a 5 d_P_beginAnew_5 rfl ?_
  refine x_callV a qa 6 g_P_43 d_P_beginAnew_6 (c_P_takesPart _ (by omega)) rfl rfl (kP (by omega)) (show _ < 86 by omega) (by decide) (Nat.le_of_ble_eq_true rfl) hcs (fun v w' hp => ?_)
  obtain ⟨rfl, rfl⟩ := hp
  refine x_st1 ?_
  refine x_push (y := bI (0 < h (3 + 9 * j) 8)) (by unfold p_clear; simp (disch := omega) only [up2_k, up2_o]) ?_
  refine x_putI a 9 f_P_53 d_P_beginAnew_9 (kP (by omega)) (by omega) (by decide) rfl bI_nar bI_fit ?_
  refine x_aload_n a 12 d_P_beginAnew_12 rfl ?_
  refine x_iconst a 13 0 d_P_beginAnew_13 (by decide) ?_
  refine x_putI a 14 f_P_57 d_P_beginAnew_14 (kP (by omega)) (by omega) (by decide) rfl rfl rfl ?_
  exact x_vret a qf 17 d_P_beginAnew_17 rfl ⟨rfl, rfl⟩
set_option maxRecDepth 100000 in
set_option maxHeartbeats 4000000 in
theorem c_P_hasWord (h : Hp) {j : Nat} (hj : j < 4) (b : Int32) : Cn u_P_hasWord 2 0 0 (w0 h) [.inr (some (3 + 9 * j)), .inl b] (fun v w' => v = some (bI (0 ≤ h (8 + 9 * j) (rg b) ∧ h (8 + 9 * j) (rg b) < h (3 + 9 * j) 8)) ∧ w' = w0 h) := by
  refine Cn.of (by decide +kernel) (Nat.le_of_ble_eq_true rfl) (fun E ad a qf => ?_)
  have qa := qf.2.2.2
  have hcs : 0 ≤ (eR E).cells ∧ 0 ≤ (eR E).slots := ⟨Nat.zero_le _, Nat.zero_le _⟩
  refine x_aload_n a 0 d_P_hasWord_0 rfl ?_
  refine x_getR a 1 f_P_24 d_P_hasWord_1 (kP (by omega)) (by omega) (by decide) (rP4 (by omega)) ?_
  refine x_iload_n a 4 d_P_hasWord_4 rfl ?_
  refine x_callSN a qa 5 g_P_63 d_P_hasWord_5 (c_D_registerNamed _ _) rfl rfl (by decide) (Nat.le_of_ble_eq_true rfl) hcs (fun v w' hp => ?_)
  obtain ⟨rfl, rfl⟩ := hp
  refine x_st1 ?_
  refine x_iald a 8 d_P_hasWord_8 (kA8 (by omega)) (by omega) (j := rg b) rfl (rg_lt b) (by decide) rfl ?_
  refine x_istore_n a 9 d_P_hasWord_9 (by decide) ?_
  refine x_iload_n a 10 d_P_hasWord_10 rfl ?_
  refine x_if_lt a 11 26 d_P_hasWord_11 (by decide) (fun c11 => ?_) (fun c11 => ?_)
  · refine x_iconst a 26 0 d_P_hasWord_26 (by decide) ?_
    exact x_zret a qf 27 d_P_hasWord_27 rfl rfl ⟨by first | rw [bI_f (by (try simp (disch := omega) only [Int32.le_iff_toInt_le, Int32.lt_iff_toInt_lt, ← Int32.toInt_inj, Int32.reduceToInt, nI_1, nI_add, pk_sub, nI_toInt] at *); omega)] | rw [bI_t (by (try simp (disch := omega) only [Int32.le_iff_toInt_le, Int32.lt_iff_toInt_lt, ← Int32.toInt_inj, Int32.reduceToInt, nI_1, nI_add, pk_sub, nI_toInt] at *); omega)], rfl⟩
  · refine x_iload_n a 14 d_P_hasWord_14 rfl ?_
    refine x_aload_n a 15 d_P_hasWord_15 rfl ?_
    refine x_getI a 16 f_P_39 d_P_hasWord_16 (kP (by omega)) (by omega) (by decide) rfl ?_
    refine x_icmp_ge a 19 26 d_P_hasWord_19 (by decide) (fun c19 => ?_) (fun c19 => ?_)
    · refine x_iconst a 26 0 d_P_hasWord_26 (by decide) ?_
      exact x_zret a qf 27 d_P_hasWord_27 rfl rfl ⟨by first | rw [bI_f (by (try simp (disch := omega) only [Int32.le_iff_toInt_le, Int32.lt_iff_toInt_lt, ← Int32.toInt_inj, Int32.reduceToInt, nI_1, nI_add, pk_sub, nI_toInt] at *); omega)] | rw [bI_t (by (try simp (disch := omega) only [Int32.le_iff_toInt_le, Int32.lt_iff_toInt_lt, ← Int32.toInt_inj, Int32.reduceToInt, nI_1, nI_add, pk_sub, nI_toInt] at *); omega)], rfl⟩
    · refine x_iconst a 22 1 d_P_hasWord_22 (by decide) ?_
      refine x_goto a 23 27 d_P_hasWord_23 (by decide) ?_
      exact x_zret a qf 27 d_P_hasWord_27 rfl rfl ⟨by first | rw [bI_f (by (try simp (disch := omega) only [Int32.le_iff_toInt_le, Int32.lt_iff_toInt_lt, ← Int32.toInt_inj, Int32.reduceToInt, nI_1, nI_add, pk_sub, nI_toInt] at *); omega)] | rw [bI_t (by (try simp (disch := omega) only [Int32.le_iff_toInt_le, Int32.lt_iff_toInt_lt, ← Int32.toInt_inj, Int32.reduceToInt, nI_1, nI_add, pk_sub, nI_toInt] at *); omega)], rfl⟩
def q_take (h : Hp) (q f c len : Nat) : Hp := if 0 < c then up2 (up2 h q 1 (nI (if f + 1 < len then f + 1 else 0))) q 2 (nI (c - 1)) else h
def p_take (h : Hp) (j f c x : Nat) : Hp := up2 (up2 (q_take h (9 + 9 * j) f c 8) (8 + 9 * j) x (if 0 < c then h (10 + 9 * j) f else 0)) (8 + 9 * j) 3 (bI (0 < c))
def p_out (h : Hp) (j c : Nat) (v : Int32) : Hp := up2 (if c < 16 then up2 h (11 + 9 * j) c v else h) (3 + 9 * j) 12 (nI (c + 1))
set_option maxRecDepth 100000 in
set_option maxHeartbeats 4000000 in
theorem c_P_takeInput (h : Hp) {j : Nat} (hj : j < 4) {x : Nat} (hx : x < 4) {f c : Nat} (hf : h (9 + 9 * j) 1 = nI f) (hfl : f < 8) (hc : h (9 + 9 * j) 2 = nI c) (hcl : c ≤ 8) : Cn u_P_takeInput 1 0 0 (w0 h) [.inr (some (3 + 9 * j)), .inl (nI x)] (fun r w' => r = none ∧ w' = w0 (p_take h j f c x)) := by
  refine Cn.of (by decide +kernel) (Nat.le_of_ble_eq_true rfl) (fun E ad a qf => ?_)
  have qa := qf.2.2.2
  have hcs : 0 ≤ (eR E).cells ∧ 0 ≤ (eR E).slots := ⟨Nat.zero_le _, Nat.zero_le _⟩
  refine x_aload_n a 0 d_P_takeInput_0 rfl ?_
  refine x_getR a 1 f_P_32 d_P_takeInput_1 (kP (by omega)) (by omega) (by decide) (rP5 (by omega)) ?_
  refine x_getI a 4 f_P_67 d_P_takeInput_4 (kV9 (by omega)) (by omega) (by decide) hc ?_
  refine x_if_le a 7 14 d_P_takeInput_7 (by decide) (fun c7 => ?_) (fun c7 => ?_)
  · refine x_iconst a 14 0 d_P_takeInput_14 (by decide) ?_
    refine x_istore_n a 15 d_P_takeInput_15 (by decide) ?_
    refine x_aload_n a 16 d_P_takeInput_16 rfl ?_
    refine x_getR a 17 f_P_24 d_P_takeInput_17 (kP (by omega)) (by omega) (by decide) (rP4 (by omega)) ?_
    refine x_iload_n a 20 d_P_takeInput_20 rfl ?_
    refine x_aload_n a 21 d_P_takeInput_21 rfl ?_
    refine x_getR a 22 f_P_32 d_P_takeInput_22 (kP (by omega)) (by omega) (by decide) (rP5 (by omega)) ?_
    refine x_callV a qa 25 g_P_70 d_P_takeInput_25 (c_V_take _ (vq9 hj) hf hfl hc hcl) rfl rfl (kV9 (by omega)) (show _ < 86 by omega) (by decide) (Nat.le_of_ble_eq_true rfl) hcs (fun v w' hp => ?_)
    obtain ⟨rfl, rfl⟩ := hp
    refine x_st1 ?_
    refine x_iast a 28 d_P_takeInput_28 (kA8 (by omega)) (by omega) (j := x) rfl hx (by decide) ?_
    refine x_aload_n a 29 d_P_takeInput_29 rfl ?_
    refine x_getR a 30 f_P_24 d_P_takeInput_30 (kP (by omega)) (by omega) (by decide) (rP4 (by omega)) ?_
    refine x_iconst a 33 3 d_P_takeInput_33 (by decide) ?_
    refine x_iload_n a 34 d_P_takeInput_34 rfl ?_
    refine x_if_eq a 35 42 d_P_takeInput_35 (by decide) (fun _ => ?_) (fun z => absurd z (by decide))
    refine x_iconst a 42 0 d_P_takeInput_42 (by decide) ?_
    refine x_iast a 43 d_P_takeInput_43 (kA8 (by omega)) (by omega) (j := 3) (by decide) (by decide) (by decide) ?_
    exact x_vret a qf 44 d_P_takeInput_44 rfl ⟨rfl, by unfold p_take q_take; first | rw [bI_t (show 0 < c from (by (try simp (disch := omega) only [Int32.le_iff_toInt_le, Int32.lt_iff_toInt_lt, ← Int32.toInt_inj, Int32.reduceToInt, nI_1, nI_add, pk_sub, nI_toInt] at *); omega))] | rw [bI_f (show ¬ 0 < c from (by (try simp (disch := omega) only [Int32.le_iff_toInt_le, Int32.lt_iff_toInt_lt, ← Int32.toInt_inj, Int32.reduceToInt, nI_1, nI_add, pk_sub, nI_toInt] at *); omega))]⟩
  · refine x_iconst a 10 1 d_P_takeInput_10 (by decide) ?_
    refine x_goto a 11 15 d_P_takeInput_11 (by decide) ?_
    refine x_istore_n a 15 d_P_takeInput_15 (by decide) ?_
    refine x_aload_n a 16 d_P_takeInput_16 rfl ?_
    refine x_getR a 17 f_P_24 d_P_takeInput_17 (kP (by omega)) (by omega) (by decide) (rP4 (by omega)) ?_
    refine x_iload_n a 20 d_P_takeInput_20 rfl ?_
    refine x_aload_n a 21 d_P_takeInput_21 rfl ?_
    refine x_getR a 22 f_P_32 d_P_takeInput_22 (kP (by omega)) (by omega) (by decide) (rP5 (by omega)) ?_
    refine x_callV a qa 25 g_P_70 d_P_takeInput_25 (c_V_take _ (vq9 hj) hf hfl hc hcl) rfl rfl (kV9 (by omega)) (show _ < 86 by omega) (by decide) (Nat.le_of_ble_eq_true rfl) hcs (fun v w' hp => ?_)
    obtain ⟨rfl, rfl⟩ := hp
    refine x_st1 ?_
    refine x_iast a 28 d_P_takeInput_28 (kA8 (by omega)) (by omega) (j := x) rfl hx (by decide) ?_
    refine x_aload_n a 29 d_P_takeInput_29 rfl ?_
    refine x_getR a 30 f_P_24 d_P_takeInput_30 (kP (by omega)) (by omega) (by decide) (rP4 (by omega)) ?_
    refine x_iconst a 33 3 d_P_takeInput_33 (by decide) ?_
    refine x_iload_n a 34 d_P_takeInput_34 rfl ?_
    refine x_if_eq a 35 42 d_P_takeInput_35 (by decide) (fun z => absurd z (by decide)) (fun _ => ?_)
    refine x_iconst a 38 1 d_P_takeInput_38 (by decide) ?_
    refine x_goto a 39 43 d_P_takeInput_39 (by decide) ?_
    refine x_iast a 43 d_P_takeInput_43 (kA8 (by omega)) (by omega) (j := 3) (by decide) (by decide) (by decide) ?_
    exact x_vret a qf 44 d_P_takeInput_44 rfl ⟨rfl, by unfold p_take q_take; first | rw [bI_t (show 0 < c from (by (try simp (disch := omega) only [Int32.le_iff_toInt_le, Int32.lt_iff_toInt_lt, ← Int32.toInt_inj, Int32.reduceToInt, nI_1, nI_add, pk_sub, nI_toInt] at *); omega))] | rw [bI_f (show ¬ 0 < c from (by (try simp (disch := omega) only [Int32.le_iff_toInt_le, Int32.lt_iff_toInt_lt, ← Int32.toInt_inj, Int32.reduceToInt, nI_1, nI_add, pk_sub, nI_toInt] at *); omega))]⟩
set_option maxRecDepth 100000 in
set_option maxHeartbeats 4000000 in
theorem c_P_putOut (h : Hp) {j : Nat} (hj : j < 4) (x : Int32) {c : Nat} (hc : h (3 + 9 * j) 12 = nI c) (hc9 : c < 2 ^ 30) : Cn u_P_putOut 0 0 0 (w0 h) [.inr (some (3 + 9 * j)), .inl x] (fun r w' => r = none ∧ w' = w0 (p_out h j c x)) := by
  refine Cn.of (by decide +kernel) (Nat.le_of_ble_eq_true rfl) (fun E ad a qf => ?_)
  have qa := qf.2.2.2
  have hcs : 0 ≤ (eR E).cells ∧ 0 ≤ (eR E).slots := ⟨Nat.zero_le _, Nat.zero_le _⟩
  refine x_aload_n a 0 d_P_putOut_0 rfl ?_
  refine x_getI a 1 f_P_74 d_P_putOut_1 (kP (by omega)) (by omega) (by decide) hc ?_
  refine x_bipush a 4 16 d_P_putOut_4 (by decide) ?_
  refine x_icmp_ge a 6 19 d_P_putOut_6 (by decide) (fun c6 => ?_) (fun c6 => ?_)
  · refine x_aload_n a 19 d_P_putOut_19 rfl ?_
    refine x_dup a 20 d_P_putOut_20 ?_
    refine x_getI a 21 f_P_74 d_P_putOut_21 (kP (by omega)) (by omega) (by decide) (v := nI c) (by first | exact hc | (rw [up2_o _ _ _ (by omega)]; exact hc)) ?_
    refine x_iconst a 24 1 d_P_putOut_24 (by decide) ?_
    refine x_iadd a 25 d_P_putOut_25 ?_
    refine x_push (nI_1 c) ?_
    refine x_putI a 26 f_P_74 d_P_putOut_26 (kP (by omega)) (by omega) (by decide) rfl rfl rfl ?_
    exact x_vret a qf 29 d_P_putOut_29 rfl ⟨rfl, by unfold p_out; first | rw [if_pos (show c < 16 from (by (try simp (disch := omega) only [Int32.le_iff_toInt_le, Int32.lt_iff_toInt_lt, ← Int32.toInt_inj, Int32.reduceToInt, nI_1, nI_add, pk_sub, nI_toInt] at *); omega))] | rw [if_neg (show ¬ c < 16 from (by (try simp (disch := omega) only [Int32.le_iff_toInt_le, Int32.lt_iff_toInt_lt, ← Int32.toInt_inj, Int32.reduceToInt, nI_1, nI_add, pk_sub, nI_toInt] at *); omega))]⟩
  · refine x_aload_n a 9 d_P_putOut_9 rfl ?_
    refine x_getR a 10 f_P_36 d_P_putOut_10 (kP (by omega)) (by omega) (by decide) (rP6 (by omega)) ?_
    refine x_aload_n a 13 d_P_putOut_13 rfl ?_
    refine x_getI a 14 f_P_74 d_P_putOut_14 (kP (by omega)) (by omega) (by decide) hc ?_
    refine x_iload_n a 17 d_P_putOut_17 rfl ?_
    refine x_iast a 18 d_P_putOut_18 (kA11 (by omega)) (by omega) (j := c) rfl (by (try simp (disch := omega) only [Int32.le_iff_toInt_le, Int32.lt_iff_toInt_lt, ← Int32.toInt_inj, Int32.reduceToInt, nI_1, nI_add, pk_sub, nI_toInt] at *); omega) (by decide) ?_
    refine x_aload_n a 19 d_P_putOut_19 rfl ?_
    refine x_dup a 20 d_P_putOut_20 ?_
    refine x_getI a 21 f_P_74 d_P_putOut_21 (kP (by omega)) (by omega) (by decide) (v := nI c) (by first | exact hc | (rw [up2_o _ _ _ (by omega)]; exact hc)) ?_
    refine x_iconst a 24 1 d_P_putOut_24 (by decide) ?_
    refine x_iadd a 25 d_P_putOut_25 ?_
    refine x_push (nI_1 c) ?_
    refine x_putI a 26 f_P_74 d_P_putOut_26 (kP (by omega)) (by omega) (by decide) rfl rfl rfl ?_
    exact x_vret a qf 29 d_P_putOut_29 rfl ⟨rfl, by unfold p_out; first | rw [if_pos (show c < 16 from (by (try simp (disch := omega) only [Int32.le_iff_toInt_le, Int32.lt_iff_toInt_lt, ← Int32.toInt_inj, Int32.reduceToInt, nI_1, nI_add, pk_sub, nI_toInt] at *); omega))] | rw [if_neg (show ¬ c < 16 from (by (try simp (disch := omega) only [Int32.le_iff_toInt_le, Int32.lt_iff_toInt_lt, ← Int32.toInt_inj, Int32.reduceToInt, nI_1, nI_add, pk_sub, nI_toInt] at *); omega))]⟩
set_option maxRecDepth 100000 in
set_option maxHeartbeats 4000000 in
theorem c_P_outputAt (h : Hp) {j : Nat} (hj : j < 4) (i : Int32) : Cn u_P_outputAt 0 0 0 (w0 h) [.inr (some (3 + 9 * j)), .inl i] (fun v w' => v = some (if 0 ≤ i ∧ i < 16 ∧ i < h (3 + 9 * j) 12 then h (11 + 9 * j) (tn i) else 0) ∧ w' = w0 h) := by
  refine Cn.of (by decide +kernel) (Nat.le_of_ble_eq_true rfl) (fun E ad a qf => ?_)
  have qa := qf.2.2.2
  have hcs : 0 ≤ (eR E).cells ∧ 0 ≤ (eR E).slots := ⟨Nat.zero_le _, Nat.zero_le _⟩
  refine x_iload_n a 0 d_P_outputAt_0 rfl ?_
  refine x_if_lt a 1 27 d_P_outputAt_1 (by decide) (fun c1 => ?_) (fun c1 => ?_)
  · refine x_iconst a 27 0 d_P_outputAt_27 (by decide) ?_
    exact x_iret a qf 28 d_P_outputAt_28 rfl ⟨by first | (rw [if_pos (by (try simp (disch := omega) only [Int32.le_iff_toInt_le, Int32.lt_iff_toInt_lt, ← Int32.toInt_inj, Int32.reduceToInt, nI_1, nI_add, pk_sub, nI_toInt] at *); omega), tn, nI_clamp (by omega)]) | rw [if_neg (by (try simp (disch := omega) only [Int32.le_iff_toInt_le, Int32.lt_iff_toInt_lt, ← Int32.toInt_inj, Int32.reduceToInt, nI_1, nI_add, pk_sub, nI_toInt] at *); omega)], rfl⟩
  · refine x_iload_n a 4 d_P_outputAt_4 rfl ?_
    refine x_bipush a 5 16 d_P_outputAt_5 (by decide) ?_
    refine x_icmp_ge a 7 27 d_P_outputAt_7 (by decide) (fun c7 => ?_) (fun c7 => ?_)
    · refine x_iconst a 27 0 d_P_outputAt_27 (by decide) ?_
      exact x_iret a qf 28 d_P_outputAt_28 rfl ⟨by first | (rw [if_pos (by (try simp (disch := omega) only [Int32.le_iff_toInt_le, Int32.lt_iff_toInt_lt, ← Int32.toInt_inj, Int32.reduceToInt, nI_1, nI_add, pk_sub, nI_toInt] at *); omega), tn, nI_clamp (by omega)]) | rw [if_neg (by (try simp (disch := omega) only [Int32.le_iff_toInt_le, Int32.lt_iff_toInt_lt, ← Int32.toInt_inj, Int32.reduceToInt, nI_1, nI_add, pk_sub, nI_toInt] at *); omega)], rfl⟩
    · refine x_iload_n a 10 d_P_outputAt_10 rfl ?_
      refine x_aload_n a 11 d_P_outputAt_11 rfl ?_
      refine x_getI a 12 f_P_74 d_P_outputAt_12 (kP (by omega)) (by omega) (by decide) rfl ?_
      refine x_icmp_ge a 15 27 d_P_outputAt_15 (by decide) (fun c15 => ?_) (fun c15 => ?_)
      · refine x_iconst a 27 0 d_P_outputAt_27 (by decide) ?_
        exact x_iret a qf 28 d_P_outputAt_28 rfl ⟨by first | (rw [if_pos (by (try simp (disch := omega) only [Int32.le_iff_toInt_le, Int32.lt_iff_toInt_lt, ← Int32.toInt_inj, Int32.reduceToInt, nI_1, nI_add, pk_sub, nI_toInt] at *); omega), tn, nI_clamp (by omega)]) | rw [if_neg (by (try simp (disch := omega) only [Int32.le_iff_toInt_le, Int32.lt_iff_toInt_lt, ← Int32.toInt_inj, Int32.reduceToInt, nI_1, nI_add, pk_sub, nI_toInt] at *); omega)], rfl⟩
      · obtain ⟨n, hn, rfl⟩ := vp_in_of (x := i) (n := 16) (vp_in_iff.mpr (by (try simp (disch := omega) only [Int32.le_iff_toInt_le, Int32.lt_iff_toInt_lt, ← Int32.toInt_inj, Int32.reduceToInt, nI_1, nI_add, pk_sub, nI_toInt] at *); omega)) (by decide)
        refine x_aload_n a 18 d_P_outputAt_18 rfl ?_
        refine x_getR a 19 f_P_36 d_P_outputAt_19 (kP (by omega)) (by omega) (by decide) (rP6 (by omega)) ?_
        refine x_iload_n a 22 d_P_outputAt_22 rfl ?_
        refine x_iald a 23 d_P_outputAt_23 (kA11 (by omega)) (by omega) (j := n) rfl hn (by decide) rfl ?_
        refine x_goto a 24 28 d_P_outputAt_24 (by decide) ?_
        exact x_iret a qf 28 d_P_outputAt_28 rfl ⟨by first | (rw [if_pos (by (try simp (disch := omega) only [Int32.le_iff_toInt_le, Int32.lt_iff_toInt_lt, ← Int32.toInt_inj, Int32.reduceToInt, nI_1, nI_add, pk_sub, nI_toInt] at *); omega), tn, nI_clamp (by omega)]) | rw [if_neg (by (try simp (disch := omega) only [Int32.le_iff_toInt_le, Int32.lt_iff_toInt_lt, ← Int32.toInt_inj, Int32.reduceToInt, nI_1, nI_add, pk_sub, nI_toInt] at *); omega)], rfl⟩
set_option maxRecDepth 100000 in
set_option maxHeartbeats 4000000 in
theorem c_P_tell (h : Hp) {j : Nat} (hj : j < 4) (x : Int32) : Cn u_P_tell 0 0 0 (w0 h) [.inr (some (3 + 9 * j)), .inl x] (fun v w' => v = some (if x = 0 then h (8 + 9 * j) 0 else if x = 1 then h (8 + 9 * j) 1 else if x = 2 then h (8 + 9 * j) 2 else if x = 3 then h (8 + 9 * j) 3 else if x = 4 then h (3 + 9 * j) 9 else if x = 5 then (if h (3 + 9 * j) 10 = 0 then 0 else 1) else if x = 6 then h (3 + 9 * j) 11 else if x = 7 then h (3 + 9 * j) 12 else if x = 8 then h (9 + 9 * j) 2 else -1) ∧ w' = w0 h) := by
  refine Cn.of (by decide +kernel) (Nat.le_of_ble_eq_true rfl) (fun E ad a qf => ?_)
  have qa := qf.2.2.2
  have hcs : 0 ≤ (eR E).cells ∧ 0 ≤ (eR E).slots := ⟨Nat.zero_le _, Nat.zero_le _⟩
  refine x_iload_n a 0 d_P_tell_0 rfl ?_
  by_cases s1_0 : x = 0
  · subst s1_0
    refine x_tableIn a 1 52 51 d_P_tell_1 (by decide) (by decide) rfl (by decide) ?_
    refine x_aload_n a 52 d_P_tell_52 rfl ?_
    refine x_getR a 53 f_P_24 d_P_tell_53 (kP (by omega)) (by omega) (by decide) (rP4 (by omega)) ?_
    refine x_iload_n a 56 d_P_tell_56 rfl ?_
    refine x_iald a 57 d_P_tell_57 (kA8 (by omega)) (by omega) (j := 0) (by decide) (by decide) (by decide) rfl ?_
    exact x_iret a qf 58 d_P_tell_58 rfl ⟨rfl, rfl⟩
  by_cases s1_1 : x = 1
  · subst s1_1
    refine x_tableIn a 1 52 51 d_P_tell_1 (by decide) (by decide) rfl (by decide) ?_
    refine x_aload_n a 52 d_P_tell_52 rfl ?_
    refine x_getR a 53 f_P_24 d_P_tell_53 (kP (by omega)) (by omega) (by decide) (rP4 (by omega)) ?_
    refine x_iload_n a 56 d_P_tell_56 rfl ?_
    refine x_iald a 57 d_P_tell_57 (kA8 (by omega)) (by omega) (j := 1) (by decide) (by decide) (by decide) rfl ?_
    exact x_iret a qf 58 d_P_tell_58 rfl ⟨rfl, rfl⟩
  by_cases s1_2 : x = 2
  · subst s1_2
    refine x_tableIn a 1 52 51 d_P_tell_1 (by decide) (by decide) rfl (by decide) ?_
    refine x_aload_n a 52 d_P_tell_52 rfl ?_
    refine x_getR a 53 f_P_24 d_P_tell_53 (kP (by omega)) (by omega) (by decide) (rP4 (by omega)) ?_
    refine x_iload_n a 56 d_P_tell_56 rfl ?_
    refine x_iald a 57 d_P_tell_57 (kA8 (by omega)) (by omega) (j := 2) (by decide) (by decide) (by decide) rfl ?_
    exact x_iret a qf 58 d_P_tell_58 rfl ⟨rfl, rfl⟩
  by_cases s1_3 : x = 3
  · subst s1_3
    refine x_tableIn a 1 52 51 d_P_tell_1 (by decide) (by decide) rfl (by decide) ?_
    refine x_aload_n a 52 d_P_tell_52 rfl ?_
    refine x_getR a 53 f_P_24 d_P_tell_53 (kP (by omega)) (by omega) (by decide) (rP4 (by omega)) ?_
    refine x_iload_n a 56 d_P_tell_56 rfl ?_
    refine x_iald a 57 d_P_tell_57 (kA8 (by omega)) (by omega) (j := 3) (by decide) (by decide) (by decide) rfl ?_
    exact x_iret a qf 58 d_P_tell_58 rfl ⟨rfl, rfl⟩
  by_cases s1_4 : x = 4
  · subst s1_4
    refine x_tableIn a 1 59 58 d_P_tell_1 (by decide) (by decide) rfl (by decide) ?_
    refine x_aload_n a 59 d_P_tell_59 rfl ?_
    refine x_getI a 60 f_P_60 d_P_tell_60 (kP (by omega)) (by omega) (by decide) rfl ?_
    exact x_iret a qf 63 d_P_tell_63 rfl ⟨rfl, rfl⟩
  by_cases s1_5 : x = 5
  · subst s1_5
    refine x_tableIn a 1 64 63 d_P_tell_1 (by decide) (by decide) rfl (by decide) ?_
    refine x_aload_n a 64 d_P_tell_64 rfl ?_
    refine x_getI a 65 f_P_53 d_P_tell_65 (kP (by omega)) (by omega) (by decide) rfl ?_
    refine x_if_eq a 68 75 d_P_tell_68 (by decide) (fun c68 => ?_) (fun c68 => ?_)
    · refine x_iconst a 75 0 d_P_tell_75 (by decide) ?_
      exact x_iret a qf 76 d_P_tell_76 rfl ⟨by first | (show some (1 : Int32) = some (if _ = _ then 0 else 1); rw [if_neg c68]) | (show some (0 : Int32) = some (if _ = _ then 0 else 1); rw [if_pos c68]), rfl⟩
    · refine x_iconst a 71 1 d_P_tell_71 (by decide) ?_
      refine x_goto a 72 76 d_P_tell_72 (by decide) ?_
      exact x_iret a qf 76 d_P_tell_76 rfl ⟨by first | (show some (1 : Int32) = some (if _ = _ then 0 else 1); rw [if_neg c68]) | (show some (0 : Int32) = some (if _ = _ then 0 else 1); rw [if_pos c68]), rfl⟩
  by_cases s1_6 : x = 6
  · subst s1_6
    refine x_tableIn a 1 77 76 d_P_tell_1 (by decide) (by decide) rfl (by decide) ?_
    refine x_aload_n a 77 d_P_tell_77 rfl ?_
    refine x_getI a 78 f_P_57 d_P_tell_78 (kP (by omega)) (by omega) (by decide) rfl ?_
    exact x_iret a qf 81 d_P_tell_81 rfl ⟨rfl, rfl⟩
  by_cases s1_7 : x = 7
  · subst s1_7
    refine x_tableIn a 1 82 81 d_P_tell_1 (by decide) (by decide) rfl (by decide) ?_
    refine x_aload_n a 82 d_P_tell_82 rfl ?_
    refine x_getI a 83 f_P_74 d_P_tell_83 (kP (by omega)) (by omega) (by decide) rfl ?_
    exact x_iret a qf 86 d_P_tell_86 rfl ⟨rfl, rfl⟩
  by_cases s1_8 : x = 8
  · subst s1_8
    refine x_tableIn a 1 87 86 d_P_tell_1 (by decide) (by decide) rfl (by decide) ?_
    refine x_aload_n a 87 d_P_tell_87 rfl ?_
    refine x_getR a 88 f_P_32 d_P_tell_88 (kP (by omega)) (by omega) (by decide) (rP5 (by omega)) ?_
    refine x_getI a 91 f_P_67 d_P_tell_91 (kV9 (by omega)) (by omega) (by decide) rfl ?_
    exact x_iret a qf 94 d_P_tell_94 rfl ⟨rfl, rfl⟩
  refine x_tableOut a 1 95 d_P_tell_1 (by (try simp (disch := omega) only [Int32.le_iff_toInt_le, Int32.lt_iff_toInt_lt, ← Int32.toInt_inj, Int32.reduceToInt, nI_1, nI_add, pk_sub, nI_toInt] at *); omega) (by decide) ?_
  refine x_iconst a 95 (-1) d_P_tell_95 (by decide) ?_
  exact x_iret a qf 96 d_P_tell_96 rfl ⟨by rw [if_neg s1_0, if_neg s1_1, if_neg s1_2, if_neg s1_3, if_neg s1_4, if_neg s1_5, if_neg s1_6, if_neg s1_7, if_neg s1_8], rfl⟩
end
section
set_option maxRecDepth 100000 in
set_option maxHeartbeats 4000000 in
theorem c_Q_isSampling (h : Hp) {i : Nat} (hi : i < 6) : Cn u_Q_isSampling 0 0 0 (w0 h) [.inr (some (40 + 3 * i))] (fun v w' => v = some (bI (h (40 + 3 * i) 3 = 0)) ∧ w' = w0 h) := by
  refine Cn.of (by decide +kernel) (Nat.le_of_ble_eq_true rfl) (fun E ad a qf => ?_)
  have qa := qf.2.2.2
  have hcs : 0 ≤ (eR E).cells ∧ 0 ≤ (eR E).slots := ⟨Nat.zero_le _, Nat.zero_le _⟩
  refine x_aload_n a 0 d_Q_isSampling_0 rfl ?_
  refine x_getI a 1 f_Q_20 d_Q_isSampling_1 (kQ (by omega)) (by omega) (by decide) rfl ?_
  refine x_if_ne a 4 11 d_Q_isSampling_4 (by decide) (fun c4 => ?_) (fun c4 => ?_)
  · refine x_iconst a 11 0 d_Q_isSampling_11 (by decide) ?_
    exact x_zret a qf 12 d_Q_isSampling_12 rfl rfl ⟨by rw [bI_f c4], rfl⟩
  · refine x_iconst a 7 1 d_Q_isSampling_7 (by decide) ?_
    refine x_goto a 8 12 d_Q_isSampling_8 (by decide) ?_
    exact x_zret a qf 12 d_Q_isSampling_12 rfl rfl ⟨by rw [bI_t c4], rfl⟩
def q_put (h : Hp) (q v f c len lim : Nat) (x : Int32) : Hp := if c < lim ∧ c < len then up2 (up2 h v (qix f c len) x) q 2 (nI (c + 1)) else h
def s_send (h : Hp) (i j y : Nat) (now : Int32) (f c dp : Nat) : Hp :=
  if dp = 0 then up2 (up2 (up2 (up2 (up2 h (41 + 3 * i) 1 0) (41 + 3 * i) 2 0) (42 + 3 * i) 0 (h (8 + 9 * j) y)) (41 + 3 * i) 2 1) (40 + 3 * i) 4 now
  else up2 (q_put h (41 + 3 * i) (42 + 3 * i) f c 4 dp (h (8 + 9 * j) y)) (8 + 9 * j) 3 (bI (c < dp ∧ c < 4))
def s_recv (h : Hp) (i j y : Nat) (now : Int32) (f c dp : Nat) : Hp :=
  if c = 0 then up2 h (8 + 9 * j) 3 (if dp = 0 then -1 else 0)
  else if dp = 0 then up2 (up2 h (8 + 9 * j) y (h (42 + 3 * i) f)) (8 + 9 * j) 3 (if 99 < now - h (40 + 3 * i) 4 then 99 else now - h (40 + 3 * i) 4)
  else up2 (up2 (q_take h (41 + 3 * i) f c 4) (8 + 9 * j) y (h (42 + 3 * i) f)) (8 + 9 * j) 3 1
set_option maxRecDepth 100000 in
set_option maxHeartbeats 4000000 in
theorem c_Q_send (h : Hp) {i : Nat} (hi : i < 6) {j : Nat} (hj : j < 4) {y : Nat} (hy : y < 4) (now : Int32) {f c dp : Nat} (hf : h (41 + 3 * i) 1 = nI f) (hfl : f < 4) (hc : h (41 + 3 * i) 2 = nI c) (hcl : c ≤ 4) (hdp : h (40 + 3 * i) 3 = nI dp) (hd4 : dp ≤ 4) : Cn u_Q_send 1 0 0 (w0 h) [.inr (some (40 + 3 * i)), .inr (some (8 + 9 * j)), .inl (nI y), .inl now] (fun r w' => r = none ∧ w' = w0 (s_send h i j y now f c dp)) := by
  refine Cn.of (by decide +kernel) (Nat.le_of_ble_eq_true rfl) (fun E ad a qf => ?_)
  have qa := qf.2.2.2
  have hcs : 0 ≤ (eR E).cells ∧ 0 ≤ (eR E).slots := ⟨Nat.zero_le _, Nat.zero_le _⟩
  refine x_aload_n a 0 d_Q_send_0 rfl ?_
  refine x_callV a qa 1 g_Q_24 d_Q_send_1 (c_Q_isSampling _ (by omega)) rfl rfl (kQ (by omega)) (show _ < 86 by omega) (by decide) (Nat.le_of_ble_eq_true rfl) hcs (fun v w' hp => ?_)
  obtain ⟨rfl, rfl⟩ := hp
  refine x_st1 ?_
  refine x_ifB_eq a 4 32 d_Q_send_4 (by decide) (fun c4 => ?_) (fun c4 => ?_)
  · refine x_aload_n a 32 d_Q_send_32 rfl ?_
    refine x_iconst a 33 3 d_Q_send_33 (by decide) ?_
    refine x_aload_n a 34 d_Q_send_34 rfl ?_
    refine x_getR a 35 f_Q_14 d_Q_send_35 (kQ (by omega)) (by omega) (by decide) (rQ0 (by omega)) ?_
    refine x_aload_n a 38 d_Q_send_38 rfl ?_
    refine x_iload_n a 39 d_Q_send_39 rfl ?_
    refine x_iald a 40 d_Q_send_40 (kA8 (by omega)) (by omega) (j := y) rfl hy (by decide) rfl ?_
    refine x_aload_n a 41 d_Q_send_41 rfl ?_
    refine x_getI a 42 f_Q_20 d_Q_send_42 (kQ (by omega)) (by omega) (by decide) hdp ?_
    refine x_callV a qa 45 g_Q_31 d_Q_send_45 (c_V_put _ (vq41 hi) hf hfl hc hcl _ (by omega)) rfl rfl (kV41 (by omega)) (show _ < 86 by omega) (by decide) (Nat.le_of_ble_eq_true rfl) hcs (fun v w' hp => ?_)
    obtain ⟨rfl, rfl⟩ := hp
    refine x_st1 ?_
    refine x_ifB_eq a 48 55 d_Q_send_48 (by decide) (fun c48 => ?_) (fun c48 => ?_)
    · refine x_iconst a 55 0 d_Q_send_55 (by decide) ?_
      refine x_iast a 56 d_Q_send_56 (kA8 (by omega)) (by omega) (j := 3) (by decide) (by decide) (by decide) ?_
      exact x_vret a qf 57 d_Q_send_57 rfl ⟨rfl, by unfold s_send q_put; rw [if_neg (show ¬ dp = 0 from by rw [hdp] at c4; exact (by (try simp (disch := omega) only [Int32.le_iff_toInt_le, Int32.lt_iff_toInt_lt, ← Int32.toInt_inj, Int32.reduceToInt, nI_1, nI_add, pk_sub, nI_toInt] at *); omega))]; first | rw [bI_t c48] | rw [bI_f c48]⟩
    · refine x_iconst a 51 1 d_Q_send_51 (by decide) ?_
      refine x_goto a 52 56 d_Q_send_52 (by decide) ?_
      refine x_iast a 56 d_Q_send_56 (kA8 (by omega)) (by omega) (j := 3) (by decide) (by decide) (by decide) ?_
      exact x_vret a qf 57 d_Q_send_57 rfl ⟨rfl, by unfold s_send q_put; rw [if_neg (show ¬ dp = 0 from by rw [hdp] at c4; exact (by (try simp (disch := omega) only [Int32.le_iff_toInt_le, Int32.lt_iff_toInt_lt, ← Int32.toInt_inj, Int32.reduceToInt, nI_1, nI_add, pk_sub, nI_toInt] at *); omega))]; first | rw [bI_t c48] | rw [bI_f c48]⟩
  · refine x_aload_n a 7 d_Q_send_7 rfl ?_
    refine x_getR a 8 f_Q_14 d_Q_send_8 (kQ (by omega)) (by omega) (by decide) (rQ0 (by omega)) ?_
    refine x_callV a qa 11 g_Q_28 d_Q_send_11 (c_V_clear _ (vq41 hi)) rfl rfl (kV41 (by omega)) (show _ < 86 by omega) (by decide) (Nat.le_of_ble_eq_true rfl) hcs (fun v w' hp => ?_)
    obtain ⟨rfl, rfl⟩ := hp
    refine x_st0 ?_
    refine x_aload_n a 14 d_Q_send_14 rfl ?_
    refine x_getR a 15 f_Q_14 d_Q_send_15 (kQ (by omega)) (by omega) (by decide) (rQ0 (by omega)) ?_
    refine x_aload_n a 18 d_Q_send_18 rfl ?_
    refine x_iload_n a 19 d_Q_send_19 rfl ?_
    refine x_iald a 20 d_Q_send_20 (kA8 (by omega)) (by omega) (j := y) rfl hy (by decide) (v := h (8 + 9 * j) y) (by rw [up2_o _ _ _ (by omega), up2_o _ _ _ (by omega)]) ?_
    refine x_iconst a 21 1 d_Q_send_21 (by decide) ?_
    refine x_callV a qa 22 g_Q_31 d_Q_send_22 (c_V_put (f := 0) (c := 0) _ (vq41 hi) (by rw [up2_k _ _ _ (by decide), up2_s]; rfl) (by omega) (by rw [up2_s]; rfl) (by omega) _ (lim := 1) (by omega)) rfl rfl (kV41 (by omega)) (show _ < 86 by omega) (by decide) (Nat.le_of_ble_eq_true rfl) hcs (fun v w' hp => ?_)
    obtain ⟨rfl, rfl⟩ := hp
    rw [if_pos (by omega : 0 < 1 ∧ 0 < 4)]
    refine x_st1 ?_
    refine x_pop a 25 d_Q_send_25 ?_
    refine x_aload_n a 26 d_Q_send_26 rfl ?_
    refine x_iload_n a 27 d_Q_send_27 rfl ?_
    refine x_putI a 28 f_Q_35 d_Q_send_28 (kQ (by omega)) (by omega) (by decide) rfl rfl rfl ?_
    exact x_vret a qf 31 d_Q_send_31 rfl ⟨rfl, by unfold s_send; rw [if_pos (show dp = 0 from by rw [hdp] at c4; exact (by (try simp (disch := omega) only [Int32.le_iff_toInt_le, Int32.lt_iff_toInt_lt, ← Int32.toInt_inj, Int32.reduceToInt, nI_1, nI_add, pk_sub, nI_toInt] at *); omega))]; rfl⟩
set_option maxRecDepth 100000 in
set_option maxHeartbeats 4000000 in
theorem c_Q_receive (h : Hp) {i : Nat} (hi : i < 6) {j : Nat} (hj : j < 4) {y : Nat} (hy : y < 4) (now : Int32) {f c dp : Nat} (hf : h (41 + 3 * i) 1 = nI f) (hfl : f < 4) (hc : h (41 + 3 * i) 2 = nI c) (hcl : c ≤ 4) (hdp : h (40 + 3 * i) 3 = nI dp) (hd4 : dp ≤ 4) : Cn u_Q_receive 1 0 0 (w0 h) [.inr (some (40 + 3 * i)), .inr (some (8 + 9 * j)), .inl (nI y), .inl now] (fun r w' => r = none ∧ w' = w0 (s_recv h i j y now f c dp)) := by
  refine Cn.of (by decide +kernel) (Nat.le_of_ble_eq_true rfl) (fun E ad a qf => ?_)
  have qa := qf.2.2.2
  have hcs : 0 ≤ (eR E).cells ∧ 0 ≤ (eR E).slots := ⟨Nat.zero_le _, Nat.zero_le _⟩
  refine x_aload_n a 0 d_Q_receive_0 rfl ?_
  refine x_getR a 1 f_Q_14 d_Q_receive_1 (kQ (by omega)) (by omega) (by decide) (rQ0 (by omega)) ?_
  refine x_getI a 4 f_Q_38 d_Q_receive_4 (kV41 (by omega)) (by omega) (by decide) hc ?_
  refine x_if_ne a 7 28 d_Q_receive_7 (by decide) (fun c7 => ?_) (fun c7 => ?_)
  · refine x_aload_n a 28 d_Q_receive_28 rfl ?_
    refine x_callV a qa 29 g_Q_24 d_Q_receive_29 (c_Q_isSampling _ (by omega)) rfl rfl (kQ (by omega)) (show _ < 86 by omega) (by decide) (Nat.le_of_ble_eq_true rfl) hcs (fun v w' hp => ?_)
    obtain ⟨rfl, rfl⟩ := hp
    refine x_st1 ?_
    refine x_ifB_eq a 32 62 d_Q_receive_32 (by decide) (fun c32 => ?_) (fun c32 => ?_)
    · refine x_aload_n a 62 d_Q_receive_62 rfl ?_
      refine x_iload_n a 63 d_Q_receive_63 rfl ?_
      refine x_aload_n a 64 d_Q_receive_64 rfl ?_
      refine x_getR a 65 f_Q_14 d_Q_receive_65 (kQ (by omega)) (by omega) (by decide) (rQ0 (by omega)) ?_
      refine x_callV a qa 68 g_Q_51 d_Q_receive_68 (c_V_take _ (vq41 hi) hf hfl hc hcl) rfl rfl (kV41 (by omega)) (show _ < 86 by omega) (by decide) (Nat.le_of_ble_eq_true rfl) hcs (fun v w' hp => ?_)
      obtain ⟨rfl, rfl⟩ := hp
      rw [if_pos (show 0 < c from (by (try simp (disch := omega) only [Int32.le_iff_toInt_le, Int32.lt_iff_toInt_lt, ← Int32.toInt_inj, Int32.reduceToInt, nI_1, nI_add, pk_sub, nI_toInt] at *); omega)), if_pos (show 0 < c from (by (try simp (disch := omega) only [Int32.le_iff_toInt_le, Int32.lt_iff_toInt_lt, ← Int32.toInt_inj, Int32.reduceToInt, nI_1, nI_add, pk_sub, nI_toInt] at *); omega))]
      refine x_st1 ?_
      refine x_iast a 71 d_Q_receive_71 (kA8 (by omega)) (by omega) (j := y) rfl hy (by decide) ?_
      refine x_aload_n a 72 d_Q_receive_72 rfl ?_
      refine x_iconst a 73 3 d_Q_receive_73 (by decide) ?_
      refine x_iconst a 74 1 d_Q_receive_74 (by decide) ?_
      refine x_iast a 75 d_Q_receive_75 (kA8 (by omega)) (by omega) (j := 3) (by decide) (by decide) (by decide) ?_
      exact x_vret a qf 76 d_Q_receive_76 rfl ⟨rfl, by unfold s_recv; first | (rw [if_pos (show c = 0 from (by (try simp (disch := omega) only [Int32.le_iff_toInt_le, Int32.lt_iff_toInt_lt, ← Int32.toInt_inj, Int32.reduceToInt, nI_1, nI_add, pk_sub, nI_toInt] at *); omega)), if_pos (show dp = 0 from by rw [hdp] at c16; exact (by (try simp (disch := omega) only [Int32.le_iff_toInt_le, Int32.lt_iff_toInt_lt, ← Int32.toInt_inj, Int32.reduceToInt, nI_1, nI_add, pk_sub, nI_toInt] at *); omega))]) | (rw [if_pos (show c = 0 from (by (try simp (disch := omega) only [Int32.le_iff_toInt_le, Int32.lt_iff_toInt_lt, ← Int32.toInt_inj, Int32.reduceToInt, nI_1, nI_add, pk_sub, nI_toInt] at *); omega)), if_neg (show ¬ dp = 0 from by rw [hdp] at c16; exact (by (try simp (disch := omega) only [Int32.le_iff_toInt_le, Int32.lt_iff_toInt_lt, ← Int32.toInt_inj, Int32.reduceToInt, nI_1, nI_add, pk_sub, nI_toInt] at *); omega))]) | (rw [if_neg (show ¬ c = 0 from (by (try simp (disch := omega) only [Int32.le_iff_toInt_le, Int32.lt_iff_toInt_lt, ← Int32.toInt_inj, Int32.reduceToInt, nI_1, nI_add, pk_sub, nI_toInt] at *); omega)), if_pos (show dp = 0 from by rw [hdp] at c32; exact (by (try simp (disch := omega) only [Int32.le_iff_toInt_le, Int32.lt_iff_toInt_lt, ← Int32.toInt_inj, Int32.reduceToInt, nI_1, nI_add, pk_sub, nI_toInt] at *); omega))]) | (rw [if_neg (show ¬ c = 0 from (by (try simp (disch := omega) only [Int32.le_iff_toInt_le, Int32.lt_iff_toInt_lt, ← Int32.toInt_inj, Int32.reduceToInt, nI_1, nI_add, pk_sub, nI_toInt] at *); omega)), if_neg (show ¬ dp = 0 from by rw [hdp] at c32; exact (by (try simp (disch := omega) only [Int32.le_iff_toInt_le, Int32.lt_iff_toInt_lt, ← Int32.toInt_inj, Int32.reduceToInt, nI_1, nI_add, pk_sub, nI_toInt] at *); omega))]; unfold q_take; rw [if_pos (show 0 < c from (by (try simp (disch := omega) only [Int32.le_iff_toInt_le, Int32.lt_iff_toInt_lt, ← Int32.toInt_inj, Int32.reduceToInt, nI_1, nI_add, pk_sub, nI_toInt] at *); omega))])⟩
    · refine x_aload_n a 35 d_Q_receive_35 rfl ?_
      refine x_iload_n a 36 d_Q_receive_36 rfl ?_
      refine x_aload_n a 37 d_Q_receive_37 rfl ?_
      refine x_getR a 38 f_Q_14 d_Q_receive_38 (kQ (by omega)) (by omega) (by decide) (rQ0 (by omega)) ?_
      refine x_callV a qa 41 g_Q_41 d_Q_receive_41 (c_V_peek _ (vq41 hi) hf hfl hc hcl) rfl rfl (kV41 (by omega)) (show _ < 86 by omega) (by decide) (Nat.le_of_ble_eq_true rfl) hcs (fun v w' hp => ?_)
      obtain ⟨rfl, rfl⟩ := hp
      rw [if_pos (show 0 < c from (by (try simp (disch := omega) only [Int32.le_iff_toInt_le, Int32.lt_iff_toInt_lt, ← Int32.toInt_inj, Int32.reduceToInt, nI_1, nI_add, pk_sub, nI_toInt] at *); omega))]
      refine x_st1 ?_
      refine x_iast a 44 d_Q_receive_44 (kA8 (by omega)) (by omega) (j := y) rfl hy (by decide) ?_
      refine x_aload_n a 45 d_Q_receive_45 rfl ?_
      refine x_iconst a 46 3 d_Q_receive_46 (by decide) ?_
      refine x_iload_n a 47 d_Q_receive_47 rfl ?_
      refine x_aload_n a 48 d_Q_receive_48 rfl ?_
      refine x_getI a 49 f_Q_35 d_Q_receive_49 (kQ (by omega)) (by omega) (by decide) (v := h (40 + 3 * i) 4) (by rw [up2_o _ _ _ (by omega)]) ?_
      refine x_isub a 52 d_Q_receive_52 ?_
      refine x_bipush a 53 99 d_Q_receive_53 (by decide) ?_
      refine x_min a 55 d_Q_receive_55 g_Q_45.2.1 g_Q_45.2.2 k_J_min.2.1 k_J_min.1 (by decide) (Nat.le_of_ble_eq_true rfl) hcs ?_
      refine x_iast a 58 d_Q_receive_58 (kA8 (by omega)) (by omega) (j := 3) (by decide) (by decide) (by decide) ?_
      refine x_goto a 59 76 d_Q_receive_59 (by decide) ?_
      exact x_vret a qf 76 d_Q_receive_76 rfl ⟨rfl, by unfold s_recv; first | (rw [if_pos (show c = 0 from (by (try simp (disch := omega) only [Int32.le_iff_toInt_le, Int32.lt_iff_toInt_lt, ← Int32.toInt_inj, Int32.reduceToInt, nI_1, nI_add, pk_sub, nI_toInt] at *); omega)), if_pos (show dp = 0 from by rw [hdp] at c16; exact (by (try simp (disch := omega) only [Int32.le_iff_toInt_le, Int32.lt_iff_toInt_lt, ← Int32.toInt_inj, Int32.reduceToInt, nI_1, nI_add, pk_sub, nI_toInt] at *); omega))]) | (rw [if_pos (show c = 0 from (by (try simp (disch := omega) only [Int32.le_iff_toInt_le, Int32.lt_iff_toInt_lt, ← Int32.toInt_inj, Int32.reduceToInt, nI_1, nI_add, pk_sub, nI_toInt] at *); omega)), if_neg (show ¬ dp = 0 from by rw [hdp] at c16; exact (by (try simp (disch := omega) only [Int32.le_iff_toInt_le, Int32.lt_iff_toInt_lt, ← Int32.toInt_inj, Int32.reduceToInt, nI_1, nI_add, pk_sub, nI_toInt] at *); omega))]) | (rw [if_neg (show ¬ c = 0 from (by (try simp (disch := omega) only [Int32.le_iff_toInt_le, Int32.lt_iff_toInt_lt, ← Int32.toInt_inj, Int32.reduceToInt, nI_1, nI_add, pk_sub, nI_toInt] at *); omega)), if_pos (show dp = 0 from by rw [hdp] at c32; exact (by (try simp (disch := omega) only [Int32.le_iff_toInt_le, Int32.lt_iff_toInt_lt, ← Int32.toInt_inj, Int32.reduceToInt, nI_1, nI_add, pk_sub, nI_toInt] at *); omega))]) | (rw [if_neg (show ¬ c = 0 from (by (try simp (disch := omega) only [Int32.le_iff_toInt_le, Int32.lt_iff_toInt_lt, ← Int32.toInt_inj, Int32.reduceToInt, nI_1, nI_add, pk_sub, nI_toInt] at *); omega)), if_neg (show ¬ dp = 0 from by rw [hdp] at c32; exact (by (try simp (disch := omega) only [Int32.le_iff_toInt_le, Int32.lt_iff_toInt_lt, ← Int32.toInt_inj, Int32.reduceToInt, nI_1, nI_add, pk_sub, nI_toInt] at *); omega))]; unfold q_take; rw [if_pos (show 0 < c from (by (try simp (disch := omega) only [Int32.le_iff_toInt_le, Int32.lt_iff_toInt_lt, ← Int32.toInt_inj, Int32.reduceToInt, nI_1, nI_add, pk_sub, nI_toInt] at *); omega))])⟩
  · refine x_aload_n a 10 d_Q_receive_10 rfl ?_
    refine x_iconst a 11 3 d_Q_receive_11 (by decide) ?_
    refine x_aload_n a 12 d_Q_receive_12 rfl ?_
    refine x_callV a qa 13 g_Q_24 d_Q_receive_13 (c_Q_isSampling _ (by omega)) rfl rfl (kQ (by omega)) (show _ < 86 by omega) (by decide) (Nat.le_of_ble_eq_true rfl) hcs (fun v w' hp => ?_)
    obtain ⟨rfl, rfl⟩ := hp
    refine x_st1 ?_
    refine x_ifB_eq a 16 23 d_Q_receive_16 (by decide) (fun c16 => ?_) (fun c16 => ?_)
    · refine x_iconst a 23 0 d_Q_receive_23 (by decide) ?_
      refine x_iast a 24 d_Q_receive_24 (kA8 (by omega)) (by omega) (j := 3) (by decide) (by decide) (by decide) ?_
      refine x_goto a 25 76 d_Q_receive_25 (by decide) ?_
      exact x_vret a qf 76 d_Q_receive_76 rfl ⟨rfl, by unfold s_recv; first | (rw [if_pos (show c = 0 from (by (try simp (disch := omega) only [Int32.le_iff_toInt_le, Int32.lt_iff_toInt_lt, ← Int32.toInt_inj, Int32.reduceToInt, nI_1, nI_add, pk_sub, nI_toInt] at *); omega)), if_pos (show dp = 0 from by rw [hdp] at c16; exact (by (try simp (disch := omega) only [Int32.le_iff_toInt_le, Int32.lt_iff_toInt_lt, ← Int32.toInt_inj, Int32.reduceToInt, nI_1, nI_add, pk_sub, nI_toInt] at *); omega))]) | (rw [if_pos (show c = 0 from (by (try simp (disch := omega) only [Int32.le_iff_toInt_le, Int32.lt_iff_toInt_lt, ← Int32.toInt_inj, Int32.reduceToInt, nI_1, nI_add, pk_sub, nI_toInt] at *); omega)), if_neg (show ¬ dp = 0 from by rw [hdp] at c16; exact (by (try simp (disch := omega) only [Int32.le_iff_toInt_le, Int32.lt_iff_toInt_lt, ← Int32.toInt_inj, Int32.reduceToInt, nI_1, nI_add, pk_sub, nI_toInt] at *); omega))]) | (rw [if_neg (show ¬ c = 0 from (by (try simp (disch := omega) only [Int32.le_iff_toInt_le, Int32.lt_iff_toInt_lt, ← Int32.toInt_inj, Int32.reduceToInt, nI_1, nI_add, pk_sub, nI_toInt] at *); omega)), if_pos (show dp = 0 from by rw [hdp] at c32; exact (by (try simp (disch := omega) only [Int32.le_iff_toInt_le, Int32.lt_iff_toInt_lt, ← Int32.toInt_inj, Int32.reduceToInt, nI_1, nI_add, pk_sub, nI_toInt] at *); omega))]) | (rw [if_neg (show ¬ c = 0 from (by (try simp (disch := omega) only [Int32.le_iff_toInt_le, Int32.lt_iff_toInt_lt, ← Int32.toInt_inj, Int32.reduceToInt, nI_1, nI_add, pk_sub, nI_toInt] at *); omega)), if_neg (show ¬ dp = 0 from by rw [hdp] at c32; exact (by (try simp (disch := omega) only [Int32.le_iff_toInt_le, Int32.lt_iff_toInt_lt, ← Int32.toInt_inj, Int32.reduceToInt, nI_1, nI_add, pk_sub, nI_toInt] at *); omega))]; unfold q_take; rw [if_pos (show 0 < c from (by (try simp (disch := omega) only [Int32.le_iff_toInt_le, Int32.lt_iff_toInt_lt, ← Int32.toInt_inj, Int32.reduceToInt, nI_1, nI_add, pk_sub, nI_toInt] at *); omega))])⟩
    · refine x_iconst a 19 (-1) d_Q_receive_19 (by decide) ?_
      refine x_goto a 20 24 d_Q_receive_20 (by decide) ?_
      refine x_iast a 24 d_Q_receive_24 (kA8 (by omega)) (by omega) (j := 3) (by decide) (by decide) (by decide) ?_
      refine x_goto a 25 76 d_Q_receive_25 (by decide) ?_
      exact x_vret a qf 76 d_Q_receive_76 rfl ⟨rfl, by unfold s_recv; first | (rw [if_pos (show c = 0 from (by (try simp (disch := omega) only [Int32.le_iff_toInt_le, Int32.lt_iff_toInt_lt, ← Int32.toInt_inj, Int32.reduceToInt, nI_1, nI_add, pk_sub, nI_toInt] at *); omega)), if_pos (show dp = 0 from by rw [hdp] at c16; exact (by (try simp (disch := omega) only [Int32.le_iff_toInt_le, Int32.lt_iff_toInt_lt, ← Int32.toInt_inj, Int32.reduceToInt, nI_1, nI_add, pk_sub, nI_toInt] at *); omega))]) | (rw [if_pos (show c = 0 from (by (try simp (disch := omega) only [Int32.le_iff_toInt_le, Int32.lt_iff_toInt_lt, ← Int32.toInt_inj, Int32.reduceToInt, nI_1, nI_add, pk_sub, nI_toInt] at *); omega)), if_neg (show ¬ dp = 0 from by rw [hdp] at c16; exact (by (try simp (disch := omega) only [Int32.le_iff_toInt_le, Int32.lt_iff_toInt_lt, ← Int32.toInt_inj, Int32.reduceToInt, nI_1, nI_add, pk_sub, nI_toInt] at *); omega))]) | (rw [if_neg (show ¬ c = 0 from (by (try simp (disch := omega) only [Int32.le_iff_toInt_le, Int32.lt_iff_toInt_lt, ← Int32.toInt_inj, Int32.reduceToInt, nI_1, nI_add, pk_sub, nI_toInt] at *); omega)), if_pos (show dp = 0 from by rw [hdp] at c32; exact (by (try simp (disch := omega) only [Int32.le_iff_toInt_le, Int32.lt_iff_toInt_lt, ← Int32.toInt_inj, Int32.reduceToInt, nI_1, nI_add, pk_sub, nI_toInt] at *); omega))]) | (rw [if_neg (show ¬ c = 0 from (by (try simp (disch := omega) only [Int32.le_iff_toInt_le, Int32.lt_iff_toInt_lt, ← Int32.toInt_inj, Int32.reduceToInt, nI_1, nI_add, pk_sub, nI_toInt] at *); omega)), if_neg (show ¬ dp = 0 from by rw [hdp] at c32; exact (by (try simp (disch := omega) only [Int32.le_iff_toInt_le, Int32.lt_iff_toInt_lt, ← Int32.toInt_inj, Int32.reduceToInt, nI_1, nI_add, pk_sub, nI_toInt] at *); omega))]; unfold q_take; rw [if_pos (show 0 < c from (by (try simp (disch := omega) only [Int32.le_iff_toInt_le, Int32.lt_iff_toInt_lt, ← Int32.toInt_inj, Int32.reduceToInt, nI_1, nI_add, pk_sub, nI_toInt] at *); omega))])⟩
end
section
/-- a small number that is not negative -/
def Nlt (x : Int32) (n : Nat) : Prop := tn x < n ∧ x = nI (tn x)
theorem Nlt.of {x : Int32} {n k : Nat} (h : x = nI k) (hk : k < n) (hn : n ≤ 2 ^ 31) : Nlt x n := by
  subst h
  unfold Nlt tn
  rw [nI_clamp (by omega)]
  exact ⟨hk, rfl⟩
theorem tn_nI {k : Nat} (h : k < 2 ^ 31) : tn (nI k) = k := nI_clamp h
abbrev dT (h : Hp) (j : Nat) : Prop := 0 < h (3 + 9 * j) 8
abbrev dO (h : Hp) (j i : Nat) : Prop := 0 < h (3 + 9 * j) 8 ∧ 0 < h (3 + 9 * i) 8 ∧ h (3 + 9 * j) 7 < h (3 + 9 * i) 7 + h (3 + 9 * i) 8 ∧ h (3 + 9 * i) 7 < h (3 + 9 * j) 7 + h (3 + 9 * j) 8
set_option maxRecDepth 100000 in
set_option maxHeartbeats 4000000 in
theorem c_D_somebody (h : Hp) : Cn u_D_somebodyTakesPart 1 0 0 (w0 h) [.inr (some 0)] (fun v w' => v = some (bI (dT h 0 ∨ dT h 1 ∨ dT h 2 ∨ dT h 3)) ∧ w' = w0 h) := by
  refine Cn.of (by decide +kernel) (Nat.le_of_ble_eq_true rfl) (fun E ad a qf => ?_)
  have qa := qf.2.2.2
  have hcs : 0 ≤ (eR E).cells ∧ 0 ≤ (eR E).slots := ⟨Nat.zero_le _, Nat.zero_le _⟩
  refine x_iconst a 0 0 d_D_somebodyTakesPart_0 (by decide) ?_
  refine x_istore_n a 1 d_D_somebodyTakesPart_1 (by decide) ?_
  refine x_iload_n a 2 d_D_somebodyTakesPart_2 rfl ?_
  refine x_iconst a 3 4 d_D_somebodyTakesPart_3 (by decide) ?_
  refine x_icmp_ge a 4 27 d_D_somebodyTakesPart_4 (by decide) (fun z => absurd z (by decide)) (fun _ => ?_)
  refine x_aload_n a 7 d_D_somebodyTakesPart_7 rfl ?_
  refine x_getR a 8 f_D_15 d_D_somebodyTakesPart_8 rfl (by omega) (by decide) rfl ?_
  refine x_iload_n a 11 d_D_somebodyTakesPart_11 rfl ?_
  refine x_aald2 a 12 d_D_somebodyTakesPart_12 rfl (by omega) (j := 0) (by decide) (by decide) (by decide) (rPs (by omega)) ?_
  refine x_callV a qa 13 g_D_128 d_D_somebodyTakesPart_13 (c_P_takesPart _ (by omega)) rfl rfl (kP (by omega)) (show _ < 86 by omega) (by decide) (Nat.le_of_ble_eq_true rfl) hcs (fun v w' hp => ?_)
  obtain ⟨rfl, rfl⟩ := hp
  refine x_st1 ?_
  refine x_ifB_eq a 16 21 d_D_somebodyTakesPart_16 (by decide) (fun c16 => ?_) (fun c16 => ?_)
  · refine x_iinc a 21 1 d_D_somebodyTakesPart_21 rfl (by decide) (by decide) ?_
    refine x_goto a 24 2 d_D_somebodyTakesPart_24 (by decide) ?_
    refine x_iload_n a 2 d_D_somebodyTakesPart_2 rfl ?_
    refine x_iconst a 3 4 d_D_somebodyTakesPart_3 (by decide) ?_
    refine x_icmp_ge a 4 27 d_D_somebodyTakesPart_4 (by decide) (fun z => absurd z (by decide)) (fun _ => ?_)
    refine x_aload_n a 7 d_D_somebodyTakesPart_7 rfl ?_
    refine x_getR a 8 f_D_15 d_D_somebodyTakesPart_8 rfl (by omega) (by decide) rfl ?_
    refine x_iload_n a 11 d_D_somebodyTakesPart_11 rfl ?_
    refine x_aald2 a 12 d_D_somebodyTakesPart_12 rfl (by omega) (j := 1) (by decide) (by decide) (by decide) (rPs (by omega)) ?_
    refine x_callV a qa 13 g_D_128 d_D_somebodyTakesPart_13 (c_P_takesPart _ (by omega)) rfl rfl (kP (by omega)) (show _ < 86 by omega) (by decide) (Nat.le_of_ble_eq_true rfl) hcs (fun v w' hp => ?_)
    obtain ⟨rfl, rfl⟩ := hp
    refine x_st1 ?_
    refine x_ifB_eq a 16 21 d_D_somebodyTakesPart_16 (by decide) (fun c16 => ?_) (fun c16 => ?_)
    · refine x_iinc a 21 2 d_D_somebodyTakesPart_21 rfl (by decide) (by decide) ?_
      refine x_goto a 24 2 d_D_somebodyTakesPart_24 (by decide) ?_
      refine x_iload_n a 2 d_D_somebodyTakesPart_2 rfl ?_
      refine x_iconst a 3 4 d_D_somebodyTakesPart_3 (by decide) ?_
      refine x_icmp_ge a 4 27 d_D_somebodyTakesPart_4 (by decide) (fun z => absurd z (by decide)) (fun _ => ?_)
      refine x_aload_n a 7 d_D_somebodyTakesPart_7 rfl ?_
      refine x_getR a 8 f_D_15 d_D_somebodyTakesPart_8 rfl (by omega) (by decide) rfl ?_
      refine x_iload_n a 11 d_D_somebodyTakesPart_11 rfl ?_
      refine x_aald2 a 12 d_D_somebodyTakesPart_12 rfl (by omega) (j := 2) (by decide) (by decide) (by decide) (rPs (by omega)) ?_
      refine x_callV a qa 13 g_D_128 d_D_somebodyTakesPart_13 (c_P_takesPart _ (by omega)) rfl rfl (kP (by omega)) (show _ < 86 by omega) (by decide) (Nat.le_of_ble_eq_true rfl) hcs (fun v w' hp => ?_)
      obtain ⟨rfl, rfl⟩ := hp
      refine x_st1 ?_
      refine x_ifB_eq a 16 21 d_D_somebodyTakesPart_16 (by decide) (fun c16 => ?_) (fun c16 => ?_)
      · refine x_iinc a 21 3 d_D_somebodyTakesPart_21 rfl (by decide) (by decide) ?_
        refine x_goto a 24 2 d_D_somebodyTakesPart_24 (by decide) ?_
        refine x_iload_n a 2 d_D_somebodyTakesPart_2 rfl ?_
        refine x_iconst a 3 4 d_D_somebodyTakesPart_3 (by decide) ?_
        refine x_icmp_ge a 4 27 d_D_somebodyTakesPart_4 (by decide) (fun z => absurd z (by decide)) (fun _ => ?_)
        refine x_aload_n a 7 d_D_somebodyTakesPart_7 rfl ?_
        refine x_getR a 8 f_D_15 d_D_somebodyTakesPart_8 rfl (by omega) (by decide) rfl ?_
        refine x_iload_n a 11 d_D_somebodyTakesPart_11 rfl ?_
        refine x_aald2 a 12 d_D_somebodyTakesPart_12 rfl (by omega) (j := 3) (by decide) (by decide) (by decide) (rPs (by omega)) ?_
        refine x_callV a qa 13 g_D_128 d_D_somebodyTakesPart_13 (c_P_takesPart _ (by omega)) rfl rfl (kP (by omega)) (show _ < 86 by omega) (by decide) (Nat.le_of_ble_eq_true rfl) hcs (fun v w' hp => ?_)
        obtain ⟨rfl, rfl⟩ := hp
        refine x_st1 ?_
        refine x_ifB_eq a 16 21 d_D_somebodyTakesPart_16 (by decide) (fun c16 => ?_) (fun c16 => ?_)
        · refine x_iinc a 21 4 d_D_somebodyTakesPart_21 rfl (by decide) (by decide) ?_
          refine x_goto a 24 2 d_D_somebodyTakesPart_24 (by decide) ?_
          refine x_iload_n a 2 d_D_somebodyTakesPart_2 rfl ?_
          refine x_iconst a 3 4 d_D_somebodyTakesPart_3 (by decide) ?_
          refine x_icmp_ge a 4 27 d_D_somebodyTakesPart_4 (by decide) (fun _ => ?_) (fun z => absurd z (by decide))
          refine x_iconst a 27 0 d_D_somebodyTakesPart_27 (by decide) ?_
          exact x_zret a qf 28 d_D_somebodyTakesPart_28 rfl rfl ⟨by rw [bI_f (by rintro (z | z | z | z) <;> exact absurd z (by assumption))], rfl⟩
        · refine x_iconst a 19 1 d_D_somebodyTakesPart_19 (by decide) ?_
          exact x_zret a qf 20 d_D_somebodyTakesPart_20 rfl rfl ⟨by rw [bI_t (by first | exact Or.inl c16 | exact Or.inr (Or.inl c16) | exact Or.inr (Or.inr (Or.inl c16)) | exact Or.inr (Or.inr (Or.inr c16)))], rfl⟩
      · refine x_iconst a 19 1 d_D_somebodyTakesPart_19 (by decide) ?_
        exact x_zret a qf 20 d_D_somebodyTakesPart_20 rfl rfl ⟨by rw [bI_t (by first | exact Or.inl c16 | exact Or.inr (Or.inl c16) | exact Or.inr (Or.inr (Or.inl c16)) | exact Or.inr (Or.inr (Or.inr c16)))], rfl⟩
    · refine x_iconst a 19 1 d_D_somebodyTakesPart_19 (by decide) ?_
      exact x_zret a qf 20 d_D_somebodyTakesPart_20 rfl rfl ⟨by rw [bI_t (by first | exact Or.inl c16 | exact Or.inr (Or.inl c16) | exact Or.inr (Or.inr (Or.inl c16)) | exact Or.inr (Or.inr (Or.inr c16)))], rfl⟩
  · refine x_iconst a 19 1 d_D_somebodyTakesPart_19 (by decide) ?_
    exact x_zret a qf 20 d_D_somebodyTakesPart_20 rfl rfl ⟨by rw [bI_t (by first | exact Or.inl c16 | exact Or.inr (Or.inl c16) | exact Or.inr (Or.inr (Or.inl c16)) | exact Or.inr (Or.inr (Or.inr c16)))], rfl⟩
set_option maxRecDepth 100000 in
set_option maxHeartbeats 4000000 in
theorem c_D_overlap (h : Hp) : Cn u_D_someRegionsOverlap 2 0 0 (w0 h) [.inr (some 0)] (fun v w' => v = some (bI (dO h 0 1 ∨ dO h 0 2 ∨ dO h 0 3 ∨ dO h 1 2 ∨ dO h 1 3 ∨ dO h 2 3)) ∧ w' = w0 h) := by
  refine Cn.of (by decide +kernel) (Nat.le_of_ble_eq_true rfl) (fun E ad a qf => ?_)
  have qa := qf.2.2.2
  have hcs : 0 ≤ (eR E).cells ∧ 0 ≤ (eR E).slots := ⟨Nat.zero_le _, Nat.zero_le _⟩
  refine x_iconst a 0 0 d_D_someRegionsOverlap_0 (by decide) ?_
  refine x_istore_n a 1 d_D_someRegionsOverlap_1 (by decide) ?_
  refine x_iload_n a 2 d_D_someRegionsOverlap_2 rfl ?_
  refine x_iconst a 3 4 d_D_someRegionsOverlap_3 (by decide) ?_
  refine x_icmp_ge a 4 48 d_D_someRegionsOverlap_4 (by decide) (fun z => absurd z (by decide)) (fun _ => ?_)
  refine x_iload_n a 7 d_D_someRegionsOverlap_7 rfl ?_
  refine x_iconst a 8 1 d_D_someRegionsOverlap_8 (by decide) ?_
  refine x_iadd a 9 d_D_someRegionsOverlap_9 ?_
  refine x_istore_n a 10 d_D_someRegionsOverlap_10 (by decide) ?_
  refine x_iload_n a 11 d_D_someRegionsOverlap_11 rfl ?_
  refine x_iconst a 12 4 d_D_someRegionsOverlap_12 (by decide) ?_
  refine x_icmp_ge a 13 42 d_D_someRegionsOverlap_13 (by decide) (fun z => absurd z (by decide)) (fun _ => ?_)
  refine x_aload_n a 16 d_D_someRegionsOverlap_16 rfl ?_
  refine x_getR a 17 f_D_15 d_D_someRegionsOverlap_17 rfl (by omega) (by decide) rfl ?_
  refine x_iload_n a 20 d_D_someRegionsOverlap_20 rfl ?_
  refine x_aald2 a 21 d_D_someRegionsOverlap_21 rfl (by omega) (j := 0) (by decide) (by decide) (by decide) (rPs (by omega)) ?_
  refine x_aload_n a 22 d_D_someRegionsOverlap_22 rfl ?_
  refine x_getR a 23 f_D_15 d_D_someRegionsOverlap_23 rfl (by omega) (by decide) rfl ?_
  refine x_iload_n a 26 d_D_someRegionsOverlap_26 rfl ?_
  refine x_aald2 a 27 d_D_someRegionsOverlap_27 rfl (by omega) (j := 1) (by decide) (by decide) (by decide) (rPs (by omega)) ?_
  refine x_callV a qa 28 g_D_131 d_D_someRegionsOverlap_28 (c_P_overlaps _ (by omega) (by omega)) rfl rfl (kP (by omega)) (show _ < 86 by omega) (by decide) (Nat.le_of_ble_eq_true rfl) hcs (fun v w' hp => ?_)
  obtain ⟨rfl, rfl⟩ := hp
  refine x_st1 ?_
  refine x_ifB_eq a 31 36 d_D_someRegionsOverlap_31 (by decide) (fun c31 => ?_) (fun c31 => ?_)
  · refine x_iinc a 36 2 d_D_someRegionsOverlap_36 rfl (by decide) (by decide) ?_
    refine x_goto a 39 11 d_D_someRegionsOverlap_39 (by decide) ?_
    refine x_iload_n a 11 d_D_someRegionsOverlap_11 rfl ?_
    refine x_iconst a 12 4 d_D_someRegionsOverlap_12 (by decide) ?_
    refine x_icmp_ge a 13 42 d_D_someRegionsOverlap_13 (by decide) (fun z => absurd z (by decide)) (fun _ => ?_)
    refine x_aload_n a 16 d_D_someRegionsOverlap_16 rfl ?_
    refine x_getR a 17 f_D_15 d_D_someRegionsOverlap_17 rfl (by omega) (by decide) rfl ?_
    refine x_iload_n a 20 d_D_someRegionsOverlap_20 rfl ?_
    refine x_aald2 a 21 d_D_someRegionsOverlap_21 rfl (by omega) (j := 0) (by decide) (by decide) (by decide) (rPs (by omega)) ?_
    refine x_aload_n a 22 d_D_someRegionsOverlap_22 rfl ?_
    refine x_getR a 23 f_D_15 d_D_someRegionsOverlap_23 rfl (by omega) (by decide) rfl ?_
    refine x_iload_n a 26 d_D_someRegionsOverlap_26 rfl ?_
    refine x_aald2 a 27 d_D_someRegionsOverlap_27 rfl (by omega) (j := 2) (by decide) (by decide) (by decide) (rPs (by omega)) ?_
    refine x_callV a qa 28 g_D_131 d_D_someRegionsOverlap_28 (c_P_overlaps _ (by omega) (by omega)) rfl rfl (kP (by omega)) (show _ < 86 by omega) (by decide) (Nat.le_of_ble_eq_true rfl) hcs (fun v w' hp => ?_)
    obtain ⟨rfl, rfl⟩ := hp
    refine x_st1 ?_
    refine x_ifB_eq a 31 36 d_D_someRegionsOverlap_31 (by decide) (fun c31 => ?_) (fun c31 => ?_)
    · refine x_iinc a 36 3 d_D_someRegionsOverlap_36 rfl (by decide) (by decide) ?_
      refine x_goto a 39 11 d_D_someRegionsOverlap_39 (by decide) ?_
      refine x_iload_n a 11 d_D_someRegionsOverlap_11 rfl ?_
      refine x_iconst a 12 4 d_D_someRegionsOverlap_12 (by decide) ?_
      refine x_icmp_ge a 13 42 d_D_someRegionsOverlap_13 (by decide) (fun z => absurd z (by decide)) (fun _ => ?_)
      refine x_aload_n a 16 d_D_someRegionsOverlap_16 rfl ?_
      refine x_getR a 17 f_D_15 d_D_someRegionsOverlap_17 rfl (by omega) (by decide) rfl ?_
      refine x_iload_n a 20 d_D_someRegionsOverlap_20 rfl ?_
      refine x_aald2 a 21 d_D_someRegionsOverlap_21 rfl (by omega) (j := 0) (by decide) (by decide) (by decide) (rPs (by omega)) ?_
      refine x_aload_n a 22 d_D_someRegionsOverlap_22 rfl ?_
      refine x_getR a 23 f_D_15 d_D_someRegionsOverlap_23 rfl (by omega) (by decide) rfl ?_
      refine x_iload_n a 26 d_D_someRegionsOverlap_26 rfl ?_
      refine x_aald2 a 27 d_D_someRegionsOverlap_27 rfl (by omega) (j := 3) (by decide) (by decide) (by decide) (rPs (by omega)) ?_
      refine x_callV a qa 28 g_D_131 d_D_someRegionsOverlap_28 (c_P_overlaps _ (by omega) (by omega)) rfl rfl (kP (by omega)) (show _ < 86 by omega) (by decide) (Nat.le_of_ble_eq_true rfl) hcs (fun v w' hp => ?_)
      obtain ⟨rfl, rfl⟩ := hp
      refine x_st1 ?_
      refine x_ifB_eq a 31 36 d_D_someRegionsOverlap_31 (by decide) (fun c31 => ?_) (fun c31 => ?_)
      · refine x_iinc a 36 4 d_D_someRegionsOverlap_36 rfl (by decide) (by decide) ?_
        refine x_goto a 39 11 d_D_someRegionsOverlap_39 (by decide) ?_
        refine x_iload_n a 11 d_D_someRegionsOverlap_11 rfl ?_
        refine x_iconst a 12 4 d_D_someRegionsOverlap_12 (by decide) ?_
        refine x_icmp_ge a 13 42 d_D_someRegionsOverlap_13 (by decide) (fun _ => ?_) (fun z => absurd z (by decide))
        refine x_iinc a 42 1 d_D_someRegionsOverlap_42 rfl (by decide) (by decide) ?_
        refine x_goto a 45 2 d_D_someRegionsOverlap_45 (by decide) ?_
        refine x_iload_n a 2 d_D_someRegionsOverlap_2 rfl ?_
        refine x_iconst a 3 4 d_D_someRegionsOverlap_3 (by decide) ?_
        refine x_icmp_ge a 4 48 d_D_someRegionsOverlap_4 (by decide) (fun z => absurd z (by decide)) (fun _ => ?_)
        refine x_iload_n a 7 d_D_someRegionsOverlap_7 rfl ?_
        refine x_iconst a 8 1 d_D_someRegionsOverlap_8 (by decide) ?_
        refine x_iadd a 9 d_D_someRegionsOverlap_9 ?_
        refine x_istore_n a 10 d_D_someRegionsOverlap_10 (by decide) ?_
        refine x_iload_n a 11 d_D_someRegionsOverlap_11 rfl ?_
        refine x_iconst a 12 4 d_D_someRegionsOverlap_12 (by decide) ?_
        refine x_icmp_ge a 13 42 d_D_someRegionsOverlap_13 (by decide) (fun z => absurd z (by decide)) (fun _ => ?_)
        refine x_aload_n a 16 d_D_someRegionsOverlap_16 rfl ?_
        refine x_getR a 17 f_D_15 d_D_someRegionsOverlap_17 rfl (by omega) (by decide) rfl ?_
        refine x_iload_n a 20 d_D_someRegionsOverlap_20 rfl ?_
        refine x_aald2 a 21 d_D_someRegionsOverlap_21 rfl (by omega) (j := 1) (by decide) (by decide) (by decide) (rPs (by omega)) ?_
        refine x_aload_n a 22 d_D_someRegionsOverlap_22 rfl ?_
        refine x_getR a 23 f_D_15 d_D_someRegionsOverlap_23 rfl (by omega) (by decide) rfl ?_
        refine x_iload_n a 26 d_D_someRegionsOverlap_26 rfl ?_
        refine x_aald2 a 27 d_D_someRegionsOverlap_27 rfl (by omega) (j := 2) (by decide) (by decide) (by decide) (rPs (by omega)) ?_
        refine x_callV a qa 28 g_D_131 d_D_someRegionsOverlap_28 (c_P_overlaps _ (by omega) (by omega)) rfl rfl (kP (by omega)) (show _ < 86 by omega) (by decide) (Nat.le_of_ble_eq_true rfl) hcs (fun v w' hp => ?_)
        obtain ⟨rfl, rfl⟩ := hp
        refine x_st1 ?_
        refine x_ifB_eq a 31 36 d_D_someRegionsOverlap_31 (by decide) (fun c31 => ?_) (fun c31 => ?_)
        · refine x_iinc a 36 3 d_D_someRegionsOverlap_36 rfl (by decide) (by decide) ?_
          refine x_goto a 39 11 d_D_someRegionsOverlap_39 (by decide) ?_
          refine x_iload_n a 11 d_D_someRegionsOverlap_11 rfl ?_
          refine x_iconst a 12 4 d_D_someRegionsOverlap_12 (by decide) ?_
          refine x_icmp_ge a 13 42 d_D_someRegionsOverlap_13 (by decide) (fun z => absurd z (by decide)) (fun _ => ?_)
          refine x_aload_n a 16 d_D_someRegionsOverlap_16 rfl ?_
          refine x_getR a 17 f_D_15 d_D_someRegionsOverlap_17 rfl (by omega) (by decide) rfl ?_
          refine x_iload_n a 20 d_D_someRegionsOverlap_20 rfl ?_
          refine x_aald2 a 21 d_D_someRegionsOverlap_21 rfl (by omega) (j := 1) (by decide) (by decide) (by decide) (rPs (by omega)) ?_
          refine x_aload_n a 22 d_D_someRegionsOverlap_22 rfl ?_
          refine x_getR a 23 f_D_15 d_D_someRegionsOverlap_23 rfl (by omega) (by decide) rfl ?_
          refine x_iload_n a 26 d_D_someRegionsOverlap_26 rfl ?_
          refine x_aald2 a 27 d_D_someRegionsOverlap_27 rfl (by omega) (j := 3) (by decide) (by decide) (by decide) (rPs (by omega)) ?_
          refine x_callV a qa 28 g_D_131 d_D_someRegionsOverlap_28 (c_P_overlaps _ (by omega) (by omega)) rfl rfl (kP (by omega)) (show _ < 86 by omega) (by decide) (Nat.le_of_ble_eq_true rfl) hcs (fun v w' hp => ?_)
          obtain ⟨rfl, rfl⟩ := hp
          refine x_st1 ?_
          refine x_ifB_eq a 31 36 d_D_someRegionsOverlap_31 (by decide) (fun c31 => ?_) (fun c31 => ?_)
          · refine x_iinc a 36 4 d_D_someRegionsOverlap_36 rfl (by decide) (by decide) ?_
            refine x_goto a 39 11 d_D_someRegionsOverlap_39 (by decide) ?_
            refine x_iload_n a 11 d_D_someRegionsOverlap_11 rfl ?_
            refine x_iconst a 12 4 d_D_someRegionsOverlap_12 (by decide) ?_
            refine x_icmp_ge a 13 42 d_D_someRegionsOverlap_13 (by decide) (fun _ => ?_) (fun z => absurd z (by decide))
            refine x_iinc a 42 2 d_D_someRegionsOverlap_42 rfl (by decide) (by decide) ?_
            refine x_goto a 45 2 d_D_someRegionsOverlap_45 (by decide) ?_
            refine x_iload_n a 2 d_D_someRegionsOverlap_2 rfl ?_
            refine x_iconst a 3 4 d_D_someRegionsOverlap_3 (by decide) ?_
            refine x_icmp_ge a 4 48 d_D_someRegionsOverlap_4 (by decide) (fun z => absurd z (by decide)) (fun _ => ?_)
            refine x_iload_n a 7 d_D_someRegionsOverlap_7 rfl ?_
            refine x_iconst a 8 1 d_D_someRegionsOverlap_8 (by decide) ?_
            refine x_iadd a 9 d_D_someRegionsOverlap_9 ?_
            refine x_istore_n a 10 d_D_someRegionsOverlap_10 (by decide) ?_
            refine x_iload_n a 11 d_D_someRegionsOverlap_11 rfl ?_
            refine x_iconst a 12 4 d_D_someRegionsOverlap_12 (by decide) ?_
            refine x_icmp_ge a 13 42 d_D_someRegionsOverlap_13 (by decide) (fun z => absurd z (by decide)) (fun _ => ?_)
            refine x_aload_n a 16 d_D_someRegionsOverlap_16 rfl ?_
            refine x_getR a 17 f_D_15 d_D_someRegionsOverlap_17 rfl (by omega) (by decide) rfl ?_
            refine x_iload_n a 20 d_D_someRegionsOverlap_20 rfl ?_
            refine x_aald2 a 21 d_D_someRegionsOverlap_21 rfl (by omega) (j := 2) (by decide) (by decide) (by decide) (rPs (by omega)) ?_
            refine x_aload_n a 22 d_D_someRegionsOverlap_22 rfl ?_
            refine x_getR a 23 f_D_15 d_D_someRegionsOverlap_23 rfl (by omega) (by decide) rfl ?_
            refine x_iload_n a 26 d_D_someRegionsOverlap_26 rfl ?_
            refine x_aald2 a 27 d_D_someRegionsOverlap_27 rfl (by omega) (j := 3) (by decide) (by decide) (by decide) (rPs (by omega)) ?_
            refine x_callV a qa 28 g_D_131 d_D_someRegionsOverlap_28 (c_P_overlaps _ (by omega) (by omega)) rfl rfl (kP (by omega)) (show _ < 86 by omega) (by decide) (Nat.le_of_ble_eq_true rfl) hcs (fun v w' hp => ?_)
            obtain ⟨rfl, rfl⟩ := hp
            refine x_st1 ?_
            refine x_ifB_eq a 31 36 d_D_someRegionsOverlap_31 (by decide) (fun c31 => ?_) (fun c31 => ?_)
            · refine x_iinc a 36 4 d_D_someRegionsOverlap_36 rfl (by decide) (by decide) ?_
              refine x_goto a 39 11 d_D_someRegionsOverlap_39 (by decide) ?_
              refine x_iload_n a 11 d_D_someRegionsOverlap_11 rfl ?_
              refine x_iconst a 12 4 d_D_someRegionsOverlap_12 (by decide) ?_
              refine x_icmp_ge a 13 42 d_D_someRegionsOverlap_13 (by decide) (fun _ => ?_) (fun z => absurd z (by decide))
              refine x_iinc a 42 3 d_D_someRegionsOverlap_42 rfl (by decide) (by decide) ?_
              refine x_goto a 45 2 d_D_someRegionsOverlap_45 (by decide) ?_
              refine x_iload_n a 2 d_D_someRegionsOverlap_2 rfl ?_
              refine x_iconst a 3 4 d_D_someRegionsOverlap_3 (by decide) ?_
              refine x_icmp_ge a 4 48 d_D_someRegionsOverlap_4 (by decide) (fun z => absurd z (by decide)) (fun _ => ?_)
              refine x_iload_n a 7 d_D_someRegionsOverlap_7 rfl ?_
              refine x_iconst a 8 1 d_D_someRegionsOverlap_8 (by decide) ?_
              refine x_iadd a 9 d_D_someRegionsOverlap_9 ?_
              refine x_istore_n a 10 d_D_someRegionsOverlap_10 (by decide) ?_
              refine x_iload_n a 11 d_D_someRegionsOverlap_11 rfl ?_
              refine x_iconst a 12 4 d_D_someRegionsOverlap_12 (by decide) ?_
              refine x_icmp_ge a 13 42 d_D_someRegionsOverlap_13 (by decide) (fun _ => ?_) (fun z => absurd z (by decide))
              refine x_iinc a 42 4 d_D_someRegionsOverlap_42 rfl (by decide) (by decide) ?_
              refine x_goto a 45 2 d_D_someRegionsOverlap_45 (by decide) ?_
              refine x_iload_n a 2 d_D_someRegionsOverlap_2 rfl ?_
              refine x_iconst a 3 4 d_D_someRegionsOverlap_3 (by decide) ?_
              refine x_icmp_ge a 4 48 d_D_someRegionsOverlap_4 (by decide) (fun _ => ?_) (fun z => absurd z (by decide))
              refine x_iconst a 48 0 d_D_someRegionsOverlap_48 (by decide) ?_
              exact x_zret a qf 49 d_D_someRegionsOverlap_49 rfl rfl ⟨by rw [bI_f (by rintro (z | z | z | z | z | z) <;> exact absurd z (by assumption))], rfl⟩
            · refine x_iconst a 34 1 d_D_someRegionsOverlap_34 (by decide) ?_
              exact x_zret a qf 35 d_D_someRegionsOverlap_35 rfl rfl ⟨by rw [bI_t (by first | exact Or.inl c31 | exact Or.inr (Or.inl c31) | exact Or.inr (Or.inr (Or.inl c31)) | exact Or.inr (Or.inr (Or.inr (Or.inl c31))) | exact Or.inr (Or.inr (Or.inr (Or.inr (Or.inl c31)))) | exact Or.inr (Or.inr (Or.inr (Or.inr (Or.inr (c31))))))], rfl⟩
          · refine x_iconst a 34 1 d_D_someRegionsOverlap_34 (by decide) ?_
            exact x_zret a qf 35 d_D_someRegionsOverlap_35 rfl rfl ⟨by rw [bI_t (by first | exact Or.inl c31 | exact Or.inr (Or.inl c31) | exact Or.inr (Or.inr (Or.inl c31)) | exact Or.inr (Or.inr (Or.inr (Or.inl c31))) | exact Or.inr (Or.inr (Or.inr (Or.inr (Or.inl c31)))) | exact Or.inr (Or.inr (Or.inr (Or.inr (Or.inr (c31))))))], rfl⟩
        · refine x_iconst a 34 1 d_D_someRegionsOverlap_34 (by decide) ?_
          exact x_zret a qf 35 d_D_someRegionsOverlap_35 rfl rfl ⟨by rw [bI_t (by first | exact Or.inl c31 | exact Or.inr (Or.inl c31) | exact Or.inr (Or.inr (Or.inl c31)) | exact Or.inr (Or.inr (Or.inr (Or.inl c31))) | exact Or.inr (Or.inr (Or.inr (Or.inr (Or.inl c31)))) | exact Or.inr (Or.inr (Or.inr (Or.inr (Or.inr (c31))))))], rfl⟩
      · refine x_iconst a 34 1 d_D_someRegionsOverlap_34 (by decide) ?_
        exact x_zret a qf 35 d_D_someRegionsOverlap_35 rfl rfl ⟨by rw [bI_t (by first | exact Or.inl c31 | exact Or.inr (Or.inl c31) | exact Or.inr (Or.inr (Or.inl c31)) | exact Or.inr (Or.inr (Or.inr (Or.inl c31))) | exact Or.inr (Or.inr (Or.inr (Or.inr (Or.inl c31)))) | exact Or.inr (Or.inr (Or.inr (Or.inr (Or.inr (c31))))))], rfl⟩
    · refine x_iconst a 34 1 d_D_someRegionsOverlap_34 (by decide) ?_
      exact x_zret a qf 35 d_D_someRegionsOverlap_35 rfl rfl ⟨by rw [bI_t (by first | exact Or.inl c31 | exact Or.inr (Or.inl c31) | exact Or.inr (Or.inr (Or.inl c31)) | exact Or.inr (Or.inr (Or.inr (Or.inl c31))) | exact Or.inr (Or.inr (Or.inr (Or.inr (Or.inl c31)))) | exact Or.inr (Or.inr (Or.inr (Or.inr (Or.inr (c31))))))], rfl⟩
  · refine x_iconst a 34 1 d_D_someRegionsOverlap_34 (by decide) ?_
    exact x_zret a qf 35 d_D_someRegionsOverlap_35 rfl rfl ⟨by rw [bI_t (by first | exact Or.inl c31 | exact Or.inr (Or.inl c31) | exact Or.inr (Or.inr (Or.inl c31)) | exact Or.inr (Or.inr (Or.inr (Or.inl c31))) | exact Or.inr (Or.inr (Or.inr (Or.inr (Or.inl c31)))) | exact Or.inr (Or.inr (Or.inr (Or.inr (Or.inr (c31))))))], rfl⟩
def dFit (h : Hp) (n : Nat) : Prop := ∀ i, i < 4 → (dT h i ↔ f_has h (nI i) n)
theorem dFit_no {h : Hp} {n i : Nat} (hi : i < 4) (hx : ¬ (dT h i ↔ f_has h (nI i) n)) : ¬ dFit h n := fun z => hx (z i hi)
theorem fit_1 {c e : Prop} [Decidable c] {v : Int32} (hv : (some v = some 1 ∧ e) ∨ (some v = some 0 ∧ ¬ e)) (h : bI c = v) : c ↔ e := by
  rcases hv with ⟨h1, h2⟩ | ⟨h1, h2⟩
  · cases h1
    exact ⟨fun _ => h2, fun _ => bI_ne0.mp (by rw [h]; decide)⟩
  · cases h1
    exact ⟨fun z => absurd z (bI_eq0.mp h), fun z => absurd z h2⟩
theorem fit_0 {c e : Prop} [Decidable c] {v : Int32} (hv : (some v = some 1 ∧ e) ∨ (some v = some 0 ∧ ¬ e)) (h : ¬ bI c = v) : ¬ (c ↔ e) := by
  intro z
  rcases hv with ⟨h1, h2⟩ | ⟨h1, h2⟩
  · cases h1
    exact h (bI_t (z.mpr h2))
  · cases h1
    exact h (bI_f (fun y => h2 (z.mp y)))
set_option maxRecDepth 100000 in
set_option maxHeartbeats 4000000 in
theorem c_D_windowsFit (h : Hp) {n : Nat} (hn : h 58 2 = nI n) (hn8 : n ≤ 8) : Cn u_D_windowsFit 1 0 0 (w0 h) [.inr (some 0)] (fun v w' => w' = w0 h ∧ ((v = some 1 ∧ dFit h n) ∨ (v = some 0 ∧ ¬ dFit h n))) := by
  refine Cn.of (by decide +kernel) (Nat.le_of_ble_eq_true rfl) (fun E ad a qf => ?_)
  have qa := qf.2.2.2
  have hcs : 0 ≤ (eR E).cells ∧ 0 ≤ (eR E).slots := ⟨Nat.zero_le _, Nat.zero_le _⟩
  refine x_iconst a 0 0 d_D_windowsFit_0 (by decide) ?_
  refine x_istore_n a 1 d_D_windowsFit_1 (by decide) ?_
  refine x_iload_n a 2 d_D_windowsFit_2 rfl ?_
  refine x_iconst a 3 4 d_D_windowsFit_3 (by decide) ?_
  refine x_icmp_ge a 4 35 d_D_windowsFit_4 (by decide) (fun z => absurd z (by decide)) (fun _ => ?_)
  refine x_aload_n a 7 d_D_windowsFit_7 rfl ?_
  refine x_getR a 8 f_D_15 d_D_windowsFit_8 rfl (by omega) (by decide) rfl ?_
  refine x_iload_n a 11 d_D_windowsFit_11 rfl ?_
  refine x_aald2 a 12 d_D_windowsFit_12 rfl (by omega) (j := 0) (by decide) (by decide) (by decide) (rPs (by omega)) ?_
  refine x_callV a qa 13 g_D_128 d_D_windowsFit_13 (c_P_takesPart _ (by omega)) rfl rfl (kP (by omega)) (show _ < 86 by omega) (by decide) (Nat.le_of_ble_eq_true rfl) hcs (fun v w' hp => ?_)
  obtain ⟨rfl, rfl⟩ := hp
  refine x_st1 ?_
  refine x_aload_n a 16 d_D_windowsFit_16 rfl ?_
  refine x_getR a 17 f_D_30 d_D_windowsFit_17 rfl (by omega) (by decide) rfl ?_
  refine x_iload_n a 20 d_D_windowsFit_20 rfl ?_
  refine x_callV a qa 21 g_D_135 d_D_windowsFit_21 (c_F_hasWindowOf _ _ hn hn8) rfl rfl rfl (show _ < 86 by omega) (by decide) (Nat.le_of_ble_eq_true rfl) hcs (fun v w' hp => ?_)
  obtain ⟨rfl, hv⟩ := hp
  obtain ⟨x, rfl⟩ : ∃ x, v = some x := by rcases hv with ⟨z, -⟩ | ⟨z, -⟩ <;> exact ⟨_, z⟩
  refine x_st1 ?_
  refine x_icmp_eq a 24 29 d_D_windowsFit_24 (by decide) (fun c24 => ?_) (fun c24 => ?_)
  · have ck := fit_1 hv c24
    refine x_iinc a 29 1 d_D_windowsFit_29 rfl (by decide) (by decide) ?_
    refine x_goto a 32 2 d_D_windowsFit_32 (by decide) ?_
    refine x_iload_n a 2 d_D_windowsFit_2 rfl ?_
    refine x_iconst a 3 4 d_D_windowsFit_3 (by decide) ?_
    refine x_icmp_ge a 4 35 d_D_windowsFit_4 (by decide) (fun z => absurd z (by decide)) (fun _ => ?_)
    refine x_aload_n a 7 d_D_windowsFit_7 rfl ?_
    refine x_getR a 8 f_D_15 d_D_windowsFit_8 rfl (by omega) (by decide) rfl ?_
    refine x_iload_n a 11 d_D_windowsFit_11 rfl ?_
    refine x_aald2 a 12 d_D_windowsFit_12 rfl (by omega) (j := 1) (by decide) (by decide) (by decide) (rPs (by omega)) ?_
    refine x_callV a qa 13 g_D_128 d_D_windowsFit_13 (c_P_takesPart _ (by omega)) rfl rfl (kP (by omega)) (show _ < 86 by omega) (by decide) (Nat.le_of_ble_eq_true rfl) hcs (fun v w' hp => ?_)
    obtain ⟨rfl, rfl⟩ := hp
    refine x_st1 ?_
    refine x_aload_n a 16 d_D_windowsFit_16 rfl ?_
    refine x_getR a 17 f_D_30 d_D_windowsFit_17 rfl (by omega) (by decide) rfl ?_
    refine x_iload_n a 20 d_D_windowsFit_20 rfl ?_
    refine x_callV a qa 21 g_D_135 d_D_windowsFit_21 (c_F_hasWindowOf _ _ hn hn8) rfl rfl rfl (show _ < 86 by omega) (by decide) (Nat.le_of_ble_eq_true rfl) hcs (fun v w' hp => ?_)
    obtain ⟨rfl, hv⟩ := hp
    obtain ⟨x, rfl⟩ : ∃ x, v = some x := by rcases hv with ⟨z, -⟩ | ⟨z, -⟩ <;> exact ⟨_, z⟩
    refine x_st1 ?_
    refine x_icmp_eq a 24 29 d_D_windowsFit_24 (by decide) (fun c24 => ?_) (fun c24 => ?_)
    · have ck := fit_1 hv c24
      refine x_iinc a 29 2 d_D_windowsFit_29 rfl (by decide) (by decide) ?_
      refine x_goto a 32 2 d_D_windowsFit_32 (by decide) ?_
      refine x_iload_n a 2 d_D_windowsFit_2 rfl ?_
      refine x_iconst a 3 4 d_D_windowsFit_3 (by decide) ?_
      refine x_icmp_ge a 4 35 d_D_windowsFit_4 (by decide) (fun z => absurd z (by decide)) (fun _ => ?_)
      refine x_aload_n a 7 d_D_windowsFit_7 rfl ?_
      refine x_getR a 8 f_D_15 d_D_windowsFit_8 rfl (by omega) (by decide) rfl ?_
      refine x_iload_n a 11 d_D_windowsFit_11 rfl ?_
      refine x_aald2 a 12 d_D_windowsFit_12 rfl (by omega) (j := 2) (by decide) (by decide) (by decide) (rPs (by omega)) ?_
      refine x_callV a qa 13 g_D_128 d_D_windowsFit_13 (c_P_takesPart _ (by omega)) rfl rfl (kP (by omega)) (show _ < 86 by omega) (by decide) (Nat.le_of_ble_eq_true rfl) hcs (fun v w' hp => ?_)
      obtain ⟨rfl, rfl⟩ := hp
      refine x_st1 ?_
      refine x_aload_n a 16 d_D_windowsFit_16 rfl ?_
      refine x_getR a 17 f_D_30 d_D_windowsFit_17 rfl (by omega) (by decide) rfl ?_
      refine x_iload_n a 20 d_D_windowsFit_20 rfl ?_
      refine x_callV a qa 21 g_D_135 d_D_windowsFit_21 (c_F_hasWindowOf _ _ hn hn8) rfl rfl rfl (show _ < 86 by omega) (by decide) (Nat.le_of_ble_eq_true rfl) hcs (fun v w' hp => ?_)
      obtain ⟨rfl, hv⟩ := hp
      obtain ⟨x, rfl⟩ : ∃ x, v = some x := by rcases hv with ⟨z, -⟩ | ⟨z, -⟩ <;> exact ⟨_, z⟩
      refine x_st1 ?_
      refine x_icmp_eq a 24 29 d_D_windowsFit_24 (by decide) (fun c24 => ?_) (fun c24 => ?_)
      · have ck := fit_1 hv c24
        refine x_iinc a 29 3 d_D_windowsFit_29 rfl (by decide) (by decide) ?_
        refine x_goto a 32 2 d_D_windowsFit_32 (by decide) ?_
        refine x_iload_n a 2 d_D_windowsFit_2 rfl ?_
        refine x_iconst a 3 4 d_D_windowsFit_3 (by decide) ?_
        refine x_icmp_ge a 4 35 d_D_windowsFit_4 (by decide) (fun z => absurd z (by decide)) (fun _ => ?_)
        refine x_aload_n a 7 d_D_windowsFit_7 rfl ?_
        refine x_getR a 8 f_D_15 d_D_windowsFit_8 rfl (by omega) (by decide) rfl ?_
        refine x_iload_n a 11 d_D_windowsFit_11 rfl ?_
        refine x_aald2 a 12 d_D_windowsFit_12 rfl (by omega) (j := 3) (by decide) (by decide) (by decide) (rPs (by omega)) ?_
        refine x_callV a qa 13 g_D_128 d_D_windowsFit_13 (c_P_takesPart _ (by omega)) rfl rfl (kP (by omega)) (show _ < 86 by omega) (by decide) (Nat.le_of_ble_eq_true rfl) hcs (fun v w' hp => ?_)
        obtain ⟨rfl, rfl⟩ := hp
        refine x_st1 ?_
        refine x_aload_n a 16 d_D_windowsFit_16 rfl ?_
        refine x_getR a 17 f_D_30 d_D_windowsFit_17 rfl (by omega) (by decide) rfl ?_
        refine x_iload_n a 20 d_D_windowsFit_20 rfl ?_
        refine x_callV a qa 21 g_D_135 d_D_windowsFit_21 (c_F_hasWindowOf _ _ hn hn8) rfl rfl rfl (show _ < 86 by omega) (by decide) (Nat.le_of_ble_eq_true rfl) hcs (fun v w' hp => ?_)
        obtain ⟨rfl, hv⟩ := hp
        obtain ⟨x, rfl⟩ : ∃ x, v = some x := by rcases hv with ⟨z, -⟩ | ⟨z, -⟩ <;> exact ⟨_, z⟩
        refine x_st1 ?_
        refine x_icmp_eq a 24 29 d_D_windowsFit_24 (by decide) (fun c24 => ?_) (fun c24 => ?_)
        · have ck := fit_1 hv c24
          refine x_iinc a 29 4 d_D_windowsFit_29 rfl (by decide) (by decide) ?_
          refine x_goto a 32 2 d_D_windowsFit_32 (by decide) ?_
          refine x_iload_n a 2 d_D_windowsFit_2 rfl ?_
          refine x_iconst a 3 4 d_D_windowsFit_3 (by decide) ?_
          refine x_icmp_ge a 4 35 d_D_windowsFit_4 (by decide) (fun _ => ?_) (fun z => absurd z (by decide))
          refine x_iconst a 35 1 d_D_windowsFit_35 (by decide) ?_
          exact x_zret a qf 36 d_D_windowsFit_36 rfl rfl ⟨rfl, Or.inl ⟨rfl, by intro i hi; rcases (by omega : i = 0 ∨ i = 1 ∨ i = 2 ∨ i = 3) with rfl | rfl | rfl | rfl <;> assumption⟩⟩
        · refine x_iconst a 27 0 d_D_windowsFit_27 (by decide) ?_
          exact x_zret a qf 28 d_D_windowsFit_28 rfl rfl ⟨rfl, Or.inr ⟨rfl, by first | exact dFit_no (i := 0) (by decide) (fit_0 hv c24) | exact dFit_no (i := 1) (by decide) (fit_0 hv c24) | exact dFit_no (i := 2) (by decide) (fit_0 hv c24) | exact dFit_no (i := 3) (by decide) (fit_0 hv c24)⟩⟩
      · refine x_iconst a 27 0 d_D_windowsFit_27 (by decide) ?_
        exact x_zret a qf 28 d_D_windowsFit_28 rfl rfl ⟨rfl, Or.inr ⟨rfl, by first | exact dFit_no (i := 0) (by decide) (fit_0 hv c24) | exact dFit_no (i := 1) (by decide) (fit_0 hv c24) | exact dFit_no (i := 2) (by decide) (fit_0 hv c24) | exact dFit_no (i := 3) (by decide) (fit_0 hv c24)⟩⟩
    · refine x_iconst a 27 0 d_D_windowsFit_27 (by decide) ?_
      exact x_zret a qf 28 d_D_windowsFit_28 rfl rfl ⟨rfl, Or.inr ⟨rfl, by first | exact dFit_no (i := 0) (by decide) (fit_0 hv c24) | exact dFit_no (i := 1) (by decide) (fit_0 hv c24) | exact dFit_no (i := 2) (by decide) (fit_0 hv c24) | exact dFit_no (i := 3) (by decide) (fit_0 hv c24)⟩⟩
  · refine x_iconst a 27 0 d_D_windowsFit_27 (by decide) ?_
    exact x_zret a qf 28 d_D_windowsFit_28 rfl rfl ⟨rfl, Or.inr ⟨rfl, by first | exact dFit_no (i := 0) (by decide) (fit_0 hv c24) | exact dFit_no (i := 1) (by decide) (fit_0 hv c24) | exact dFit_no (i := 2) (by decide) (fit_0 hv c24) | exact dFit_no (i := 3) (by decide) (fit_0 hv c24)⟩⟩
abbrev dJ (h : Hp) (i : Nat) : Prop := dT h (tn (h (40 + 3 * i) 1)) ∧ dT h (tn (h (40 + 3 * i) 2))
def dJoin (h : Hp) (m : Nat) : Prop := ∀ i, i < m → dJ h i
set_option maxRecDepth 100000 in
set_option maxHeartbeats 4000000 in
theorem l_D_portsFit {E : En} {ad : Nat → Nat} {h : Hp} {n : Nat} {Post : Option Int32 → Wd → Prop} (a : Amb u_D_portsFit 1 E) (qf : Fin Post (w0 h).1 ad 0 0 E) (qa : va_AO R_2 (eS E) ∧ va_AO R_3 (eS E)) (hcs : 0 ≤ (eR E).cells ∧ 0 ≤ (eR E).slots) (hn : h 0 4 = nI n) (hn6 : n ≤ 6) (hp : ∀ i, i < n → Nlt (h (40 + 3 * i) 1) 4 ∧ Nlt (h (40 + 3 * i) 2) 4) (ht : dJoin h n → Post (some 1) (w0 h)) (hf : ¬ dJoin h n → Post (some 0) (w0 h)) : ∀ m k : Nat, k ≤ n → n < k + m → (∀ i, i < k → dJ h i) → X E 0 0 ad (w0 h) 2 [(0, .inr (some 0)), (1, .inl (nI k))] [] := by
  intro m
  induction m with
  | zero => intro k h1 h2; omega
  | succ m ih =>
    intro k h1 h2 h3
    refine x_iload_n a 2 d_D_portsFit_2 rfl ?_
    refine x_aload_n a 3 d_D_portsFit_3 rfl ?_
    refine x_getI a 4 f_D_34 d_D_portsFit_4 rfl (by omega) (by decide) hn ?_
    refine x_icmp_ge a 7 58 d_D_portsFit_7 (by decide) (fun c7 => ?_) (fun c7 => ?_)
    · refine x_iconst a 58 1 d_D_portsFit_58 (by decide) ?_
      exact x_zret a qf 59 d_D_portsFit_59 rfl rfl (ht (fun i hi => h3 i (by (try simp (disch := omega) only [Int32.le_iff_toInt_le, Int32.lt_iff_toInt_lt, ← Int32.toInt_inj, Int32.reduceToInt, nI_1, nI_add, pk_sub, nI_toInt] at *); omega)))
    · have hk : k < n := (by (try simp (disch := omega) only [Int32.le_iff_toInt_le, Int32.lt_iff_toInt_lt, ← Int32.toInt_inj, Int32.reduceToInt, nI_1, nI_add, pk_sub, nI_toInt] at *); omega)
      have hk1 := (hp k hk).1
      have hk2 := (hp k hk).2
      have hk11 := hk1.1
      have hk21 := hk2.1
      refine x_aload_n a 10 d_D_portsFit_10 rfl ?_
      refine x_getR a 11 f_D_15 d_D_portsFit_11 rfl (by omega) (by decide) rfl ?_
      refine x_aload_n a 14 d_D_portsFit_14 rfl ?_
      refine x_getR a 15 f_D_22 d_D_portsFit_15 rfl (by omega) (by decide) rfl ?_
      refine x_iload_n a 18 d_D_portsFit_18 rfl ?_
      refine x_aald3 a 19 d_D_portsFit_19 rfl (by omega) (j := k) rfl (by omega) (by decide) (rQs (by omega)) ?_
      refine x_getI a 20 f_D_60 d_D_portsFit_20 (kQ (by omega)) (by omega) (by decide) rfl ?_
      refine x_aald2 a 23 d_D_portsFit_23 rfl (by omega) (j := tn (h (40 + 3 * k) 1)) hk1.2 hk1.1 (by decide) (rPs (by omega)) ?_
      refine x_callV a qa 24 g_D_128 d_D_portsFit_24 (c_P_takesPart _ (by omega)) rfl rfl (kP (by omega)) (show _ < 86 by omega) (by decide) (Nat.le_of_ble_eq_true rfl) hcs (fun v w' hp => ?_)
      obtain ⟨rfl, rfl⟩ := hp
      refine x_st1 ?_
      refine x_ifB_eq a 27 50 d_D_portsFit_27 (by decide) (fun c27 => ?_) (fun c27 => ?_)
      · refine x_iconst a 50 0 d_D_portsFit_50 (by decide) ?_
        exact x_zret a qf 51 d_D_portsFit_51 rfl rfl (hf (fun z => by have := z k hk; first | exact c27 this.1 | exact c47 this.2))
      · refine x_aload_n a 30 d_D_portsFit_30 rfl ?_
        refine x_getR a 31 f_D_15 d_D_portsFit_31 rfl (by omega) (by decide) rfl ?_
        refine x_aload_n a 34 d_D_portsFit_34 rfl ?_
        refine x_getR a 35 f_D_22 d_D_portsFit_35 rfl (by omega) (by decide) rfl ?_
        refine x_iload_n a 38 d_D_portsFit_38 rfl ?_
        refine x_aald3 a 39 d_D_portsFit_39 rfl (by omega) (j := k) rfl (by omega) (by decide) (rQs (by omega)) ?_
        refine x_getI a 40 f_D_61 d_D_portsFit_40 (kQ (by omega)) (by omega) (by decide) rfl ?_
        refine x_aald2 a 43 d_D_portsFit_43 rfl (by omega) (j := tn (h (40 + 3 * k) 2)) hk2.2 hk2.1 (by decide) (rPs (by omega)) ?_
        refine x_callV a qa 44 g_D_128 d_D_portsFit_44 (c_P_takesPart _ (by omega)) rfl rfl (kP (by omega)) (show _ < 86 by omega) (by decide) (Nat.le_of_ble_eq_true rfl) hcs (fun v w' hp => ?_)
        obtain ⟨rfl, rfl⟩ := hp
        refine x_st1 ?_
        refine x_ifB_ne a 47 52 d_D_portsFit_47 (by decide) (fun c47 => ?_) (fun c47 => ?_)
        · refine x_iinc a 52 (nI (k + 1)) d_D_portsFit_52 rfl (nI_inc k) (by decide) ?_
          refine x_goto a 55 2 d_D_portsFit_55 (by decide) ?_
          refine x_lv [(0, .inr (some 0)), (1, .inl (nI (k + 1)))] (List.forall_mem_cons.mpr ⟨rfl, List.forall_mem_cons.mpr ⟨rfl, fun _ z => absurd z List.not_mem_nil⟩⟩) ?_
          exact ih (k + 1) hk (by omega) (fun i hi => by rcases Nat.lt_succ_iff_lt_or_eq.mp hi with z | rfl; exact h3 i z; exact ⟨c27, c47⟩)
        · refine x_iconst a 50 0 d_D_portsFit_50 (by decide) ?_
          exact x_zret a qf 51 d_D_portsFit_51 rfl rfl (hf (fun z => by have := z k hk; first | exact c27 this.1 | exact c47 this.2))
set_option maxRecDepth 100000 in
set_option maxHeartbeats 4000000 in
theorem c_D_portsFit (h : Hp) {n : Nat} (hn : h 0 4 = nI n) (hn6 : n ≤ 6) (hp : ∀ i, i < n → Nlt (h (40 + 3 * i) 1) 4 ∧ Nlt (h (40 + 3 * i) 2) 4) : Cn u_D_portsFit 1 0 0 (w0 h) [.inr (some 0)] (fun v w' => w' = w0 h ∧ ((v = some 1 ∧ dJoin h n) ∨ (v = some 0 ∧ ¬ dJoin h n))) := by
  refine Cn.of (by decide +kernel) (Nat.le_of_ble_eq_true rfl) (fun E ad a qf => ?_)
  have qa := qf.2.2.2
  have hcs : 0 ≤ (eR E).cells ∧ 0 ≤ (eR E).slots := ⟨Nat.zero_le _, Nat.zero_le _⟩
  refine x_iconst a 0 0 d_D_portsFit_0 (by decide) ?_
  refine x_istore_n a 1 d_D_portsFit_1 (by decide) ?_
  refine x_lv [(0, .inr (some 0)), (1, .inl (nI 0))] (List.forall_mem_cons.mpr ⟨rfl, List.forall_mem_cons.mpr ⟨rfl, fun _ z => absurd z List.not_mem_nil⟩⟩) ?_
  exact l_D_portsFit a qf qa hcs hn hn6 hp (fun z => ⟨rfl, Or.inl ⟨rfl, z⟩⟩) (fun z => ⟨rfl, Or.inr ⟨rfl, z⟩⟩) (n + 1) 0 (by omega) (by omega) (fun i hi => absurd hi (by omega))
def dSome (h : Hp) : Prop := dT h 0 ∨ dT h 1 ∨ dT h 2 ∨ dT h 3
def dLap (h : Hp) : Prop := dO h 0 1 ∨ dO h 0 2 ∨ dO h 0 3 ∨ dO h 1 2 ∨ dO h 1 3 ∨ dO h 2 3
/-- what the table's check answers -/
def dWrong (h : Hp) (n m : Nat) (v : Int32) : Prop := (¬ dSome h ∧ v = 1) ∨ (dSome h ∧ dLap h ∧ v = 2) ∨ (dSome h ∧ ¬ dLap h ∧ ¬ dFit h n ∧ v = 3) ∨ (dSome h ∧ ¬ dLap h ∧ dFit h n ∧ ¬ dJoin h m ∧ v = 4) ∨ (dSome h ∧ ¬ dLap h ∧ dFit h n ∧ dJoin h m ∧ v = 0)
theorem two_1 {e : Prop} {v : Option Int32} (hv : (v = some 1 ∧ e) ∨ (v = some 0 ∧ ¬ e)) : ∃ x, v = some x ∧ (x = 0 → ¬ e) ∧ (¬ x = 0 → e) := by
  rcases hv with ⟨rfl, h⟩ | ⟨rfl, h⟩
  · exact ⟨1, rfl, fun z => absurd z (by decide), fun _ => h⟩
  · exact ⟨0, rfl, fun _ => h, fun z => absurd rfl z⟩
set_option maxRecDepth 100000 in
set_option maxHeartbeats 4000000 in
theorem c_D_checkTable (h : Hp) {n m : Nat} (hn : h 58 2 = nI n) (hn8 : n ≤ 8) (hm : h 0 4 = nI m) (hm6 : m ≤ 6) (hq : ∀ i, i < m → Nlt (h (40 + 3 * i) 1) 4 ∧ Nlt (h (40 + 3 * i) 2) 4) : Cn u_D_checkTable 3 0 0 (w0 h) [.inr (some 0)] (fun v w' => w' = w0 h ∧ ∃ x, v = some x ∧ dWrong h n m x) := by
  refine Cn.of (by decide +kernel) (Nat.le_of_ble_eq_true rfl) (fun E ad a qf => ?_)
  have qa := qf.2.2.2
  have hcs : 0 ≤ (eR E).cells ∧ 0 ≤ (eR E).slots := ⟨Nat.zero_le _, Nat.zero_le _⟩
  refine x_aload_n a 0 d_D_checkTable_0 rfl ?_
  refine x_callV a qa 1 g_D_116 d_D_checkTable_1 (c_D_somebody _) rfl rfl rfl (show _ < 86 by omega) (by decide) (Nat.le_of_ble_eq_true rfl) hcs (fun v w' hp => ?_)
  obtain ⟨rfl, rfl⟩ := hp
  refine x_st1 ?_
  refine x_ifB_ne a 4 9 d_D_checkTable_4 (by decide) (fun c4 => ?_) (fun c4 => ?_)
  · refine x_aload_n a 9 d_D_checkTable_9 rfl ?_
    refine x_callV a qa 10 g_D_119 d_D_checkTable_10 (c_D_overlap _) rfl rfl rfl (show _ < 86 by omega) (by decide) (Nat.le_of_ble_eq_true rfl) hcs (fun v w' hp => ?_)
    obtain ⟨rfl, rfl⟩ := hp
    refine x_st1 ?_
    refine x_ifB_eq a 13 18 d_D_checkTable_13 (by decide) (fun c13 => ?_) (fun c13 => ?_)
    · refine x_aload_n a 18 d_D_checkTable_18 rfl ?_
      refine x_callV a qa 19 g_D_122 d_D_checkTable_19 (c_D_windowsFit _ hn hn8) rfl rfl rfl (show _ < 86 by omega) (by decide) (Nat.le_of_ble_eq_true rfl) hcs (fun v w' hp => ?_)
      obtain ⟨rfl, hv⟩ := hp
      obtain ⟨x, rfl, hx0, hx1⟩ := two_1 hv
      refine x_st1 ?_
      refine x_if_ne a 22 27 d_D_checkTable_22 (by decide) (fun c22 => ?_) (fun c22 => ?_)
      · refine x_aload_n a 27 d_D_checkTable_27 rfl ?_
        refine x_callV a qa 28 g_D_125 d_D_checkTable_28 (c_D_portsFit _ hm hm6 hq) rfl rfl rfl (show _ < 86 by omega) (by decide) (Nat.le_of_ble_eq_true rfl) hcs (fun v w' hp => ?_)
        obtain ⟨rfl, hv2⟩ := hp
        obtain ⟨y, rfl, hy0, hy1⟩ := two_1 hv2
        refine x_st1 ?_
        refine x_if_eq a 31 38 d_D_checkTable_31 (by decide) (fun c31 => ?_) (fun c31 => ?_)
        · refine x_iconst a 38 4 d_D_checkTable_38 (by decide) ?_
          exact x_iret a qf 39 d_D_checkTable_39 rfl ⟨rfl, _, rfl, Or.inr (Or.inr (Or.inr (Or.inl ⟨c4, c13, hx1 c22, hy0 c31, rfl⟩)))⟩
        · refine x_iconst a 34 0 d_D_checkTable_34 (by decide) ?_
          refine x_goto a 35 39 d_D_checkTable_35 (by decide) ?_
          exact x_iret a qf 39 d_D_checkTable_39 rfl ⟨rfl, _, rfl, Or.inr (Or.inr (Or.inr (Or.inr ⟨c4, c13, hx1 c22, hy1 c31, rfl⟩)))⟩
      · refine x_iconst a 25 3 d_D_checkTable_25 (by decide) ?_
        exact x_iret a qf 26 d_D_checkTable_26 rfl ⟨rfl, _, rfl, Or.inr (Or.inr (Or.inl ⟨c4, c13, hx0 c22, rfl⟩))⟩
    · refine x_iconst a 16 2 d_D_checkTable_16 (by decide) ?_
      exact x_iret a qf 17 d_D_checkTable_17 rfl ⟨rfl, _, rfl, Or.inr (Or.inl ⟨c4, c13, rfl⟩)⟩
  · refine x_iconst a 7 1 d_D_checkTable_7 (by decide) ?_
    exact x_iret a qf 8 d_D_checkTable_8 rfl ⟨rfl, _, rfl, Or.inl ⟨c4, rfl⟩⟩
end
section
/-! what is cleared, cell by cell -/
def d_mem (h : Hp) : Nat → Hp
  | 0 => h
  | k + 1 => up2 (d_mem h k) 1 k 0
theorem d_mem_o (h : Hp) {a : Nat} (ha : a ≠ 1) : ∀ k, d_mem h k a = h a
  | 0 => rfl
  | k + 1 => by rw [d_mem, up2_o _ _ _ ha, d_mem_o h ha k]
def d_prt (h : Hp) : Nat → Hp
  | 0 => h
  | k + 1 => up2 (up2 (d_prt h k) (41 + 3 * k) 1 0) (41 + 3 * k) 2 0
theorem d_prt_o (h : Hp) {a : Nat} : ∀ k, (∀ i, i < k → a ≠ 41 + 3 * i) → d_prt h k a = h a
  | 0, _ => rfl
  | k + 1, ha => by rw [d_prt, up2_o _ _ _ (ha k (by omega)), up2_o _ _ _ (ha k (by omega)), d_prt_o h k (fun i hi => ha i (by omega))]
def d_parts (h : Hp) : Hp := p_begin (p_begin (p_begin (p_begin h 0) 1) 2) 3
theorem p_begin_o (h : Hp) {a j : Nat} (h1 : a ≠ 3 + 9 * j) (h2 : a ≠ 8 + 9 * j) : p_begin h j a = h a := by
  unfold p_begin p_clear
  simp (disch := omega) only [up2_o]
theorem d_parts_o (h : Hp) {a : Nat} (ha : ∀ j, j < 4 → a ≠ 3 + 9 * j ∧ a ≠ 8 + 9 * j) : d_parts h a = h a := by
  unfold d_parts
  rw [p_begin_o _ (ha 3 (by omega)).1 (ha 3 (by omega)).2, p_begin_o _ (ha 2 (by omega)).1 (ha 2 (by omega)).2, p_begin_o _ (ha 1 (by omega)).1 (ha 1 (by omega)).2, p_begin_o _ (ha 0 (by omega)).1 (ha 0 (by omega)).2]
def d_frame (h : Hp) : Hp := up2 (up2 (up2 (up2 h 58 3 0) 58 4 0) 58 5 0) 58 6 0
def d_begin (h : Hp) (m : Nat) : Hp := up2 (d_frame (d_prt (d_parts (d_mem h 64)) m)) 0 5 1
set_option maxRecDepth 100000 in
set_option maxHeartbeats 4000000 in
theorem l_D_begin3 {E : En} {ad : Nat → Nat} {h : Hp} {n0 : Nat} {Post : Option Int32 → Wd → Prop} (a : Amb u_D_beginAnew 2 E) (qf : Fin Post n0 ad 0 0 E) (qa : va_AO R_2 (eS E) ∧ va_AO R_3 (eS E)) (hcs : 0 ≤ (eR E).cells ∧ 0 ≤ (eR E).slots) {n : Nat} (hn : h 0 4 = nI n) (hn6 : n ≤ 6) (hp : Post none (w0 (up2 (d_frame (d_prt h n)) 0 5 1))) : ∀ m k : Nat, k ≤ n → n < k + m → X E 0 0 ad (w0 (d_prt h k)) 45 [(0, .inr (some 0)), (1, .inl (nI k))] [] := by
  intro m
  induction m with
  | zero => intro k h1 h2; omega
  | succ m ih =>
    intro k h1 h2
    refine x_iload_n a 45 d_D_beginAnew_45 rfl ?_
    refine x_aload_n a 46 d_D_beginAnew_46 rfl ?_
    refine x_getI a 47 f_D_34 d_D_beginAnew_47 rfl (by omega) (by decide) (v := nI n) (by rw [d_prt_o h k (fun i hi => by omega)]; exact hn) ?_
    refine x_icmp_ge a 50 71 d_D_beginAnew_50 (by decide) (fun c50 => ?_) (fun c50 => ?_)
    · have hk : k = n := (by (try simp (disch := omega) only [Int32.le_iff_toInt_le, Int32.lt_iff_toInt_lt, ← Int32.toInt_inj, Int32.reduceToInt, nI_1, nI_add, pk_sub, nI_toInt] at *); omega)
      subst hk
      refine x_aload_n a 71 d_D_beginAnew_71 rfl ?_
      refine x_getR a 72 f_D_30 d_D_beginAnew_72 rfl (by omega) (by decide) rfl ?_
      refine x_callV a qa 75 g_D_142 d_D_beginAnew_75 (c_F_beginAnew _) rfl rfl rfl (show _ < 86 by omega) (by decide) (Nat.le_of_ble_eq_true rfl) hcs (fun v w' hp => ?_)
      obtain ⟨rfl, rfl⟩ := hp
      refine x_st0 ?_
      refine x_aload_n a 78 d_D_beginAnew_78 rfl ?_
      refine x_iconst a 79 1 d_D_beginAnew_79 (by decide) ?_
      refine x_putI a 80 f_D_38 d_D_beginAnew_80 rfl (by omega) (by decide) rfl rfl rfl ?_
      exact x_vret a qf 83 d_D_beginAnew_83 rfl hp
    · have hk : k < n := (by (try simp (disch := omega) only [Int32.le_iff_toInt_le, Int32.lt_iff_toInt_lt, ← Int32.toInt_inj, Int32.reduceToInt, nI_1, nI_add, pk_sub, nI_toInt] at *); omega)
      refine x_aload_n a 53 d_D_beginAnew_53 rfl ?_
      refine x_getR a 54 f_D_22 d_D_beginAnew_54 rfl (by omega) (by decide) rfl ?_
      refine x_iload_n a 57 d_D_beginAnew_57 rfl ?_
      refine x_aald3 a 58 d_D_beginAnew_58 rfl (by omega) (j := k) rfl (by omega) (by decide) (rQs (by omega)) ?_
      refine x_getR a 59 f_D_112 d_D_beginAnew_59 (kQ (by omega)) (by omega) (by decide) (rQ0 (by omega)) ?_
      refine x_callV a qa 62 g_D_139 d_D_beginAnew_62 (c_V_clear _ (vq41 (by omega))) rfl rfl (kV41 (by omega)) (show _ < 86 by omega) (by decide) (Nat.le_of_ble_eq_true rfl) hcs (fun v w' hp => ?_)
      obtain ⟨rfl, rfl⟩ := hp
      refine x_st0 ?_
      refine x_iinc a 65 (nI (k + 1)) d_D_beginAnew_65 rfl (nI_inc k) (by decide) ?_
      refine x_goto a 68 45 d_D_beginAnew_68 (by decide) ?_
      refine x_lv [(0, .inr (some 0)), (1, .inl (nI (k + 1)))] (List.forall_mem_cons.mpr ⟨rfl, List.forall_mem_cons.mpr ⟨rfl, fun _ z => absurd z List.not_mem_nil⟩⟩) ?_
      exact ih (k + 1) hk (by omega)
set_option maxRecDepth 100000 in
set_option maxHeartbeats 4000000 in
theorem l_D_begin1 {E : En} {ad : Nat → Nat} {h : Hp} {n0 : Nat} {Post : Option Int32 → Wd → Prop} (a : Amb u_D_beginAnew 2 E) (qf : Fin Post n0 ad 0 0 E) (qa : va_AO R_2 (eS E) ∧ va_AO R_3 (eS E)) (hcs : 0 ≤ (eR E).cells ∧ 0 ≤ (eR E).slots) {n : Nat} (hn : h 0 4 = nI n) (hn6 : n ≤ 6) (hp : Post none (w0 (d_begin h n))) : ∀ m k : Nat, k ≤ 64 → 64 < k + m → X E 0 0 ad (w0 (d_mem h k)) 2 [(0, .inr (some 0)), (1, .inl (nI k))] [] := by
  intro m
  induction m with
  | zero => intro k h1 h2; omega
  | succ m ih =>
    intro k h1 h2
    refine x_iload_n a 2 d_D_beginAnew_2 rfl ?_
    refine x_bipush a 3 64 d_D_beginAnew_3 (by decide) ?_
    refine x_icmp_ge a 5 21 d_D_beginAnew_5 (by decide) (fun c5 => ?_) (fun c5 => ?_)
    · have hk : k = 64 := (by (try simp (disch := omega) only [Int32.le_iff_toInt_le, Int32.lt_iff_toInt_lt, ← Int32.toInt_inj, Int32.reduceToInt, nI_1, nI_add, pk_sub, nI_toInt] at *); omega)
      subst hk
      refine x_iconst a 21 0 d_D_beginAnew_21 (by decide) ?_
      refine x_istore_n a 22 d_D_beginAnew_22 (by decide) ?_
      refine x_iload_n a 23 d_D_beginAnew_23 rfl ?_
      refine x_iconst a 24 4 d_D_beginAnew_24 (by decide) ?_
      refine x_icmp_ge a 25 43 d_D_beginAnew_25 (by decide) (fun z => absurd z (by decide)) (fun _ => ?_)
      refine x_aload_n a 28 d_D_beginAnew_28 rfl ?_
      refine x_getR a 29 f_D_15 d_D_beginAnew_29 rfl (by omega) (by decide) rfl ?_
      refine x_iload_n a 32 d_D_beginAnew_32 rfl ?_
      refine x_aald2 a 33 d_D_beginAnew_33 rfl (by omega) (j := 0) (by decide) (by decide) (by decide) (rPs (by omega)) ?_
      refine x_callV a qa 34 g_D_138 d_D_beginAnew_34 (c_P_beginAnew _ (by omega)) rfl rfl (kP (by omega)) (show _ < 86 by omega) (by decide) (Nat.le_of_ble_eq_true rfl) hcs (fun v w' hp => ?_)
      obtain ⟨rfl, rfl⟩ := hp
      refine x_st0 ?_
      refine x_iinc a 37 1 d_D_beginAnew_37 rfl (by decide) (by decide) ?_
      refine x_goto a 40 23 d_D_beginAnew_40 (by decide) ?_
      refine x_iload_n a 23 d_D_beginAnew_23 rfl ?_
      refine x_iconst a 24 4 d_D_beginAnew_24 (by decide) ?_
      refine x_icmp_ge a 25 43 d_D_beginAnew_25 (by decide) (fun z => absurd z (by decide)) (fun _ => ?_)
      refine x_aload_n a 28 d_D_beginAnew_28 rfl ?_
      refine x_getR a 29 f_D_15 d_D_beginAnew_29 rfl (by omega) (by decide) rfl ?_
      refine x_iload_n a 32 d_D_beginAnew_32 rfl ?_
      refine x_aald2 a 33 d_D_beginAnew_33 rfl (by omega) (j := 1) (by decide) (by decide) (by decide) (rPs (by omega)) ?_
      refine x_callV a qa 34 g_D_138 d_D_beginAnew_34 (c_P_beginAnew _ (by omega)) rfl rfl (kP (by omega)) (show _ < 86 by omega) (by decide) (Nat.le_of_ble_eq_true rfl) hcs (fun v w' hp => ?_)
      obtain ⟨rfl, rfl⟩ := hp
      refine x_st0 ?_
      refine x_iinc a 37 2 d_D_beginAnew_37 rfl (by decide) (by decide) ?_
      refine x_goto a 40 23 d_D_beginAnew_40 (by decide) ?_
      refine x_iload_n a 23 d_D_beginAnew_23 rfl ?_
      refine x_iconst a 24 4 d_D_beginAnew_24 (by decide) ?_
      refine x_icmp_ge a 25 43 d_D_beginAnew_25 (by decide) (fun z => absurd z (by decide)) (fun _ => ?_)
      refine x_aload_n a 28 d_D_beginAnew_28 rfl ?_
      refine x_getR a 29 f_D_15 d_D_beginAnew_29 rfl (by omega) (by decide) rfl ?_
      refine x_iload_n a 32 d_D_beginAnew_32 rfl ?_
      refine x_aald2 a 33 d_D_beginAnew_33 rfl (by omega) (j := 2) (by decide) (by decide) (by decide) (rPs (by omega)) ?_
      refine x_callV a qa 34 g_D_138 d_D_beginAnew_34 (c_P_beginAnew _ (by omega)) rfl rfl (kP (by omega)) (show _ < 86 by omega) (by decide) (Nat.le_of_ble_eq_true rfl) hcs (fun v w' hp => ?_)
      obtain ⟨rfl, rfl⟩ := hp
      refine x_st0 ?_
      refine x_iinc a 37 3 d_D_beginAnew_37 rfl (by decide) (by decide) ?_
      refine x_goto a 40 23 d_D_beginAnew_40 (by decide) ?_
      refine x_iload_n a 23 d_D_beginAnew_23 rfl ?_
      refine x_iconst a 24 4 d_D_beginAnew_24 (by decide) ?_
      refine x_icmp_ge a 25 43 d_D_beginAnew_25 (by decide) (fun z => absurd z (by decide)) (fun _ => ?_)
      refine x_aload_n a 28 d_D_beginAnew_28 rfl ?_
      refine x_getR a 29 f_D_15 d_D_beginAnew_29 rfl (by omega) (by decide) rfl ?_
      refine x_iload_n a 32 d_D_beginAnew_32 rfl ?_
      refine x_aald2 a 33 d_D_beginAnew_33 rfl (by omega) (j := 3) (by decide) (by decide) (by decide) (rPs (by omega)) ?_
      refine x_callV a qa 34 g_D_138 d_D_beginAnew_34 (c_P_beginAnew _ (by omega)) rfl rfl (kP (by omega)) (show _ < 86 by omega) (by decide) (Nat.le_of_ble_eq_true rfl) hcs (fun v w' hp => ?_)
      obtain ⟨rfl, rfl⟩ := hp
      refine x_st0 ?_
      refine x_iinc a 37 4 d_D_beginAnew_37 rfl (by decide) (by decide) ?_
      refine x_goto a 40 23 d_D_beginAnew_40 (by decide) ?_
      refine x_iload_n a 23 d_D_beginAnew_23 rfl ?_
      refine x_iconst a 24 4 d_D_beginAnew_24 (by decide) ?_
      refine x_icmp_ge a 25 43 d_D_beginAnew_25 (by decide) (fun _ => ?_) (fun z => absurd z (by decide))
      refine x_iconst a 43 0 d_D_beginAnew_43 (by decide) ?_
      refine x_istore_n a 44 d_D_beginAnew_44 (by decide) ?_
      refine x_lv [(0, .inr (some 0)), (1, .inl (nI 0))] (List.forall_mem_cons.mpr ⟨rfl, List.forall_mem_cons.mpr ⟨rfl, fun _ z => absurd z List.not_mem_nil⟩⟩) ?_
      exact l_D_begin3 (h := d_parts (d_mem h 64)) a qf qa hcs (by rw [d_parts_o _ (fun j hj => by omega), d_mem_o _ (by decide)]; exact hn) hn6 hp (n + 1) 0 (by omega) (by omega)
    · have hk : k < 64 := (by (try simp (disch := omega) only [Int32.le_iff_toInt_le, Int32.lt_iff_toInt_lt, ← Int32.toInt_inj, Int32.reduceToInt, nI_1, nI_add, pk_sub, nI_toInt] at *); omega)
      refine x_aload_n a 8 d_D_beginAnew_8 rfl ?_
      refine x_getR a 9 f_D_9 d_D_beginAnew_9 rfl (by omega) (by decide) rfl ?_
      refine x_iload_n a 12 d_D_beginAnew_12 rfl ?_
      refine x_iconst a 13 0 d_D_beginAnew_13 (by decide) ?_
      refine x_iast a 14 d_D_beginAnew_14 rfl (by omega) (j := k) rfl (by omega) (by decide) ?_
      refine x_iinc a 15 (nI (k + 1)) d_D_beginAnew_15 rfl (nI_inc k) (by decide) ?_
      refine x_goto a 18 2 d_D_beginAnew_18 (by decide) ?_
      refine x_lv [(0, .inr (some 0)), (1, .inl (nI (k + 1)))] (List.forall_mem_cons.mpr ⟨rfl, List.forall_mem_cons.mpr ⟨rfl, fun _ z => absurd z List.not_mem_nil⟩⟩) ?_
      exact ih (k + 1) hk (by omega)
set_option maxRecDepth 100000 in
set_option maxHeartbeats 4000000 in
theorem c_D_beginAnew (h : Hp) {n : Nat} (hn : h 0 4 = nI n) (hn6 : n ≤ 6) : Cn u_D_beginAnew 2 0 0 (w0 h) [.inr (some 0)] (fun r w' => r = none ∧ w' = w0 (d_begin h n)) := by
  refine Cn.of (by decide +kernel) (Nat.le_of_ble_eq_true rfl) (fun E ad a qf => ?_)
  have qa := qf.2.2.2
  have hcs : 0 ≤ (eR E).cells ∧ 0 ≤ (eR E).slots := ⟨Nat.zero_le _, Nat.zero_le _⟩
  refine x_iconst a 0 0 d_D_beginAnew_0 (by decide) ?_
  refine x_istore_n a 1 d_D_beginAnew_1 (by decide) ?_
  refine x_lv [(0, .inr (some 0)), (1, .inl (nI 0))] (List.forall_mem_cons.mpr ⟨rfl, List.forall_mem_cons.mpr ⟨rfl, fun _ z => absurd z List.not_mem_nil⟩⟩) ?_
  exact l_D_begin1 a qf qa hcs hn hn6 ⟨rfl, rfl⟩ 65 0 (by omega) (by omega)
def r_mem (h : Hp) (f : Nat) : Nat → Hp
  | 0 => h
  | k + 1 => up2 (r_mem h f k) 1 (f + k) 0
theorem r_mem_o (h : Hp) (f : Nat) {a : Nat} (ha : a ≠ 1) : ∀ k, r_mem h f k a = h a
  | 0 => rfl
  | k + 1 => by rw [r_mem, up2_o _ _ _ ha, r_mem_o h f ha k]
def r_prt (h : Hp) (j : Nat) : Nat → Hp
  | 0 => h
  | k + 1 => if r_prt h j k (40 + 3 * k) 2 = nI j then up2 (up2 (r_prt h j k) (41 + 3 * k) 1 0) (41 + 3 * k) 2 0 else r_prt h j k
theorem r_prt_o (h : Hp) (j : Nat) {a : Nat} : ∀ k, (∀ i, i < k → a ≠ 41 + 3 * i) → r_prt h j k a = h a
  | 0, _ => rfl
  | k + 1, ha => by
    rw [r_prt]
    split
    · rw [up2_o _ _ _ (ha k (by omega)), up2_o _ _ _ (ha k (by omega)), r_prt_o h j k (fun i hi => ha i (by omega))]
    · exact r_prt_o h j k (fun i hi => ha i (by omega))
def d_restart (h : Hp) (j : Nat) : Hp := r_prt (r_mem (p_clear h j) (tn (h (3 + 9 * j) 7)) (tn (h (3 + 9 * j) 8))) j (tn (h 0 4))
theorem p_clear_o (h : Hp) {a j : Nat} (h1 : a ≠ 3 + 9 * j) (h2 : a ≠ 8 + 9 * j) : p_clear h j a = h a := by
  unfold p_clear
  simp (disch := omega) only [up2_o]
theorem p_clear_k (h : Hp) {k j : Nat} (h1 : k ≠ 9) : p_clear h j (3 + 9 * j) k = h (3 + 9 * j) k := by
  unfold p_clear
  simp (disch := omega) only [up2_o, up2_k]
set_option maxRecDepth 100000 in
set_option maxHeartbeats 4000000 in
theorem l_D_restart2 {E : En} {ad : Nat → Nat} {h : Hp} {n0 : Nat} {Post : Option Int32 → Wd → Prop} (a : Amb u_D_restart 1 E) (qf : Fin Post n0 ad 0 0 E) (qa : va_AO R_2 (eS E) ∧ va_AO R_3 (eS E)) (hcs : 0 ≤ (eR E).cells ∧ 0 ≤ (eR E).slots) {j n : Nat} (hj : j < 4) (hn : h 0 4 = nI n) (hn6 : n ≤ 6) (hp : Post none (w0 (r_prt h j n))) : ∀ m k : Nat, k ≤ n → n < k + m → X E 0 0 ad (w0 (r_prt h j k)) 41 [(0, .inr (some 0)), (1, .inl (nI j)), (2, .inr (some (3 + 9 * j))), (3, .inl (nI k))] [] := by
  intro m
  induction m with
  | zero => intro k h1 h2; omega
  | succ m ih =>
    intro k h1 h2
    refine x_iload_n a 41 d_D_restart_41 rfl ?_
    refine x_aload_n a 42 d_D_restart_42 rfl ?_
    refine x_getI a 43 f_D_34 d_D_restart_43 rfl (by omega) (by decide) (v := nI n) (by rw [r_prt_o h j k (fun i hi => by omega)]; exact hn) ?_
    refine x_icmp_ge a 46 80 d_D_restart_46 (by decide) (fun c46 => ?_) (fun c46 => ?_)
    · have hk : k = n := (by (try simp (disch := omega) only [Int32.le_iff_toInt_le, Int32.lt_iff_toInt_lt, ← Int32.toInt_inj, Int32.reduceToInt, nI_1, nI_add, pk_sub, nI_toInt] at *); omega)
      subst hk
      exact x_vret a qf 80 d_D_restart_80 rfl hp
    · have hk : k < n := (by (try simp (disch := omega) only [Int32.le_iff_toInt_le, Int32.lt_iff_toInt_lt, ← Int32.toInt_inj, Int32.reduceToInt, nI_1, nI_add, pk_sub, nI_toInt] at *); omega)
      refine x_aload_n a 49 d_D_restart_49 rfl ?_
      refine x_getR a 50 f_D_22 d_D_restart_50 rfl (by omega) (by decide) rfl ?_
      refine x_iload_n a 53 d_D_restart_53 rfl ?_
      refine x_aald3 a 54 d_D_restart_54 rfl (by omega) (j := k) rfl (by omega) (by decide) (rQs (by omega)) ?_
      refine x_getI a 55 f_D_61 d_D_restart_55 (kQ (by omega)) (by omega) (by decide) rfl ?_
      refine x_iload_n a 58 d_D_restart_58 rfl ?_
      refine x_icmp_ne a 59 74 d_D_restart_59 (by decide) (fun c59 => ?_) (fun c59 => ?_)
      · refine x_iinc a 74 (nI (k + 1)) d_D_restart_74 rfl (nI_inc k) (by decide) ?_
        refine x_goto a 77 41 d_D_restart_77 (by decide) ?_
        refine x_lv [(0, .inr (some 0)), (1, .inl (nI j)), (2, .inr (some (3 + 9 * j))), (3, .inl (nI (k + 1)))] (List.forall_mem_cons.mpr ⟨rfl, List.forall_mem_cons.mpr ⟨rfl, List.forall_mem_cons.mpr ⟨rfl, List.forall_mem_cons.mpr ⟨rfl, fun _ z => absurd z List.not_mem_nil⟩⟩⟩⟩) ?_
        refine x_w (w' := w0 (r_prt h j (k + 1))) (by rw [r_prt]; first | rw [if_pos c59] | rw [if_neg c59]) ?_
        exact ih (k + 1) hk (by omega)
      · refine x_aload_n a 62 d_D_restart_62 rfl ?_
        refine x_getR a 63 f_D_22 d_D_restart_63 rfl (by omega) (by decide) rfl ?_
        refine x_iload_n a 66 d_D_restart_66 rfl ?_
        refine x_aald3 a 67 d_D_restart_67 rfl (by omega) (j := k) rfl (by omega) (by decide) (rQs (by omega)) ?_
        refine x_getR a 68 f_D_112 d_D_restart_68 (kQ (by omega)) (by omega) (by decide) (rQ0 (by omega)) ?_
        refine x_callV a qa 71 g_D_139 d_D_restart_71 (c_V_clear _ (vq41 (by omega))) rfl rfl (kV41 (by omega)) (show _ < 86 by omega) (by decide) (Nat.le_of_ble_eq_true rfl) hcs (fun v w' hp => ?_)
        obtain ⟨rfl, rfl⟩ := hp
        refine x_st0 ?_
        refine x_iinc a 74 (nI (k + 1)) d_D_restart_74 rfl (nI_inc k) (by decide) ?_
        refine x_goto a 77 41 d_D_restart_77 (by decide) ?_
        refine x_lv [(0, .inr (some 0)), (1, .inl (nI j)), (2, .inr (some (3 + 9 * j))), (3, .inl (nI (k + 1)))] (List.forall_mem_cons.mpr ⟨rfl, List.forall_mem_cons.mpr ⟨rfl, List.forall_mem_cons.mpr ⟨rfl, List.forall_mem_cons.mpr ⟨rfl, fun _ z => absurd z List.not_mem_nil⟩⟩⟩⟩) ?_
        refine x_w (w' := w0 (r_prt h j (k + 1))) (by rw [r_prt]; first | rw [if_pos c59] | rw [if_neg c59]) ?_
        exact ih (k + 1) hk (by omega)
set_option maxRecDepth 100000 in
set_option maxHeartbeats 4000000 in
theorem l_D_restart1 {E : En} {ad : Nat → Nat} {h : Hp} {n0 : Nat} {Post : Option Int32 → Wd → Prop} (a : Amb u_D_restart 1 E) (qf : Fin Post n0 ad 0 0 E) (qa : va_AO R_2 (eS E) ∧ va_AO R_3 (eS E)) (hcs : 0 ≤ (eR E).cells ∧ 0 ≤ (eR E).slots) {j n f s : Nat} (hj : j < 4) (hn : h 0 4 = nI n) (hn6 : n ≤ 6) (hf : h (3 + 9 * j) 7 = nI f) (hs : h (3 + 9 * j) 8 = nI s) (hfs : f + s ≤ 64) (hp : Post none (w0 (r_prt (r_mem h f s) j n))) : ∀ m k : Nat, k ≤ s → s < k + m → X E 0 0 ad (w0 (r_mem h f k)) 13 [(0, .inr (some 0)), (1, .inl (nI j)), (2, .inr (some (3 + 9 * j))), (3, .inl (nI k))] [] := by
  intro m
  induction m with
  | zero => intro k h1 h2; omega
  | succ m ih =>
    intro k h1 h2
    refine x_iload_n a 13 d_D_restart_13 rfl ?_
    refine x_aload_n a 14 d_D_restart_14 rfl ?_
    refine x_getI a 15 f_D_49 d_D_restart_15 (kP (by omega)) (by omega) (by decide) (v := nI s) (by rw [r_mem_o _ _ (by omega)]; exact hs) ?_
    refine x_icmp_ge a 18 39 d_D_restart_18 (by decide) (fun c18 => ?_) (fun c18 => ?_)
    · have hk : k = s := (by (try simp (disch := omega) only [Int32.le_iff_toInt_le, Int32.lt_iff_toInt_lt, ← Int32.toInt_inj, Int32.reduceToInt, nI_1, nI_add, pk_sub, nI_toInt] at *); omega)
      subst hk
      refine x_iconst a 39 0 d_D_restart_39 (by decide) ?_
      refine x_istore_n a 40 d_D_restart_40 (by decide) ?_
      refine x_lv [(0, .inr (some 0)), (1, .inl (nI j)), (2, .inr (some (3 + 9 * j))), (3, .inl (nI 0))] (List.forall_mem_cons.mpr ⟨rfl, List.forall_mem_cons.mpr ⟨rfl, List.forall_mem_cons.mpr ⟨rfl, List.forall_mem_cons.mpr ⟨rfl, fun _ z => absurd z List.not_mem_nil⟩⟩⟩⟩) ?_
      exact l_D_restart2 (h := r_mem h f k) a qf qa hcs hj (by rw [r_mem_o _ _ (by decide)]; exact hn) hn6 hp (n + 1) 0 (by omega) (by omega)
    · have hk : k < s := (by (try simp (disch := omega) only [Int32.le_iff_toInt_le, Int32.lt_iff_toInt_lt, ← Int32.toInt_inj, Int32.reduceToInt, nI_1, nI_add, pk_sub, nI_toInt] at *); omega)
      refine x_aload_n a 21 d_D_restart_21 rfl ?_
      refine x_getR a 22 f_D_9 d_D_restart_22 rfl (by omega) (by decide) rfl ?_
      refine x_aload_n a 25 d_D_restart_25 rfl ?_
      refine x_getI a 26 f_D_46 d_D_restart_26 (kP (by omega)) (by omega) (by decide) (v := nI f) (by rw [r_mem_o _ _ (by omega)]; exact hf) ?_
      refine x_iload_n a 29 d_D_restart_29 rfl ?_
      refine x_iadd a 30 d_D_restart_30 ?_
      refine x_iconst a 31 0 d_D_restart_31 (by decide) ?_
      refine x_iast a 32 d_D_restart_32 rfl (by omega) (j := f + k) (nI_add f k) (by omega) (by decide) ?_
      refine x_iinc a 33 (nI (k + 1)) d_D_restart_33 rfl (nI_inc k) (by decide) ?_
      refine x_goto a 36 13 d_D_restart_36 (by decide) ?_
      refine x_lv [(0, .inr (some 0)), (1, .inl (nI j)), (2, .inr (some (3 + 9 * j))), (3, .inl (nI (k + 1)))] (List.forall_mem_cons.mpr ⟨rfl, List.forall_mem_cons.mpr ⟨rfl, List.forall_mem_cons.mpr ⟨rfl, List.forall_mem_cons.mpr ⟨rfl, fun _ z => absurd z List.not_mem_nil⟩⟩⟩⟩) ?_
      exact ih (k + 1) hk (by omega)
set_option maxRecDepth 100000 in
set_option maxHeartbeats 4000000 in
theorem c_D_restart (h : Hp) {j : Nat} (hj : j < 4) (hn : Nlt (h 0 4) 7) (hf : Nlt (h (3 + 9 * j) 7) 65) (hs : Nlt (h (3 + 9 * j) 8) 33) (hfs : tn (h (3 + 9 * j) 7) + tn (h (3 + 9 * j) 8) ≤ 64) : Cn u_D_restart 1 0 0 (w0 h) [.inr (some 0), .inl (nI j)] (fun r w' => r = none ∧ w' = w0 (d_restart h j)) := by
  refine Cn.of (by decide +kernel) (Nat.le_of_ble_eq_true rfl) (fun E ad a qf => ?_)
  have qa := qf.2.2.2
  have hcs : 0 ≤ (eR E).cells ∧ 0 ≤ (eR E).slots := ⟨Nat.zero_le _, Nat.zero_le _⟩
  have hn1 := hn.1
  refine x_aload_n a 0 d_D_restart_0 rfl ?_
  refine x_getR a 1 f_D_15 d_D_restart_1 rfl (by omega) (by decide) rfl ?_
  refine x_iload_n a 4 d_D_restart_4 rfl ?_
  refine x_aald2 a 5 d_D_restart_5 rfl (by omega) (j := j) rfl (by omega) (by decide) (rPs (by omega)) ?_
  refine x_astore_n a 6 d_D_restart_6 (by decide) ?_
  refine x_aload_n a 7 d_D_restart_7 rfl ?_
  refine x_callV a qa 8 g_D_219 d_D_restart_8 (c_P_clear _ (by omega)) rfl rfl (kP (by omega)) (show _ < 86 by omega) (by decide) (Nat.le_of_ble_eq_true rfl) hcs (fun v w' hp => ?_)
  obtain ⟨rfl, rfl⟩ := hp
  refine x_st0 ?_
  refine x_iconst a 11 0 d_D_restart_11 (by decide) ?_
  refine x_istore_n a 12 d_D_restart_12 (by decide) ?_
  refine x_lv [(0, .inr (some 0)), (1, .inl (nI j)), (2, .inr (some (3 + 9 * j))), (3, .inl (nI 0))] (List.forall_mem_cons.mpr ⟨rfl, List.forall_mem_cons.mpr ⟨rfl, List.forall_mem_cons.mpr ⟨rfl, List.forall_mem_cons.mpr ⟨rfl, fun _ z => absurd z List.not_mem_nil⟩⟩⟩⟩) ?_
  exact l_D_restart1 (h := p_clear h j) a qf qa hcs hj (by rw [p_clear_o _ (by omega) (by omega)]; exact hn.2) (by omega) (by rw [p_clear_k _ (by decide)]; exact hf.2) (by rw [p_clear_k _ (by decide)]; exact hs.2) hfs ⟨rfl, rfl⟩ (tn (h (3 + 9 * j) 8) + 1) 0 (by omega) (by omega)
def d_answer (h : Hp) (j f : Nat) : Hp :=
  if h (7 + 9 * j) (f - 1) = 1 then d_restart (up2 h (3 + 9 * j) 11 (h (3 + 9 * j) 11 + 1)) j
  else if h (7 + 9 * j) (f - 1) = 2 then up2 (up2 h (3 + 9 * j) 11 (h (3 + 9 * j) 11 + 1)) (3 + 9 * j) 9 (if f = 4 then 0 else h (3 + 9 * j) 9 + 1)
  else up2 (up2 h (3 + 9 * j) 11 (h (3 + 9 * j) 11 + 1)) (3 + 9 * j) 10 0
set_option maxRecDepth 100000 in
set_option maxHeartbeats 4000000 in
theorem c_D_answerFault (h : Hp) {j : Nat} (hj : j < 4) (hn : Nlt (h 0 4) 7) (hf : Nlt (h (3 + 9 * j) 7) 65) (hs : Nlt (h (3 + 9 * j) 8) 33) (hfs : tn (h (3 + 9 * j) 7) + tn (h (3 + 9 * j) 8) ≤ 64) {f : Nat} (hf1 : 1 ≤ f) (hf4 : f ≤ 4) : Cn u_D_answerFault 2 0 0 (w0 h) [.inr (some 0), .inl (nI j), .inl (nI f)] (fun r w' => r = none ∧ w' = w0 (d_answer h j f)) := by
  refine Cn.of (by decide +kernel) (Nat.le_of_ble_eq_true rfl) (fun E ad a qf => ?_)
  have qa := qf.2.2.2
  have hcs : 0 ≤ (eR E).cells ∧ 0 ≤ (eR E).slots := ⟨Nat.zero_le _, Nat.zero_le _⟩
  obtain ⟨act, hact⟩ : ∃ z, z = h (7 + 9 * j) (f - 1) := ⟨_, rfl⟩
  refine x_aload_n a 0 d_D_answerFault_0 rfl ?_
  refine x_getR a 1 f_D_15 d_D_answerFault_1 rfl (by omega) (by decide) rfl ?_
  refine x_iload_n a 4 d_D_answerFault_4 rfl ?_
  refine x_aald2 a 5 d_D_answerFault_5 rfl (by omega) (j := j) rfl (by omega) (by decide) (rPs (by omega)) ?_
  refine x_astore_n a 6 d_D_answerFault_6 (by decide) ?_
  refine x_aload_n a 7 d_D_answerFault_7 rfl ?_
  refine x_dup a 8 d_D_answerFault_8 ?_
  refine x_getI a 9 f_D_213 d_D_answerFault_9 (kP (by omega)) (by omega) (by decide) rfl ?_
  refine x_iconst a 12 1 d_D_answerFault_12 (by decide) ?_
  refine x_iadd a 13 d_D_answerFault_13 ?_
  refine x_putI a 14 f_D_213 d_D_answerFault_14 (kP (by omega)) (by omega) (by decide) rfl rfl rfl ?_
  refine x_aload_n a 17 d_D_answerFault_17 rfl ?_
  refine x_getR a 18 f_D_67 d_D_answerFault_18 (kP (by omega)) (by omega) (by decide) (rP3 (by omega)) ?_
  refine x_iload_n a 21 d_D_answerFault_21 rfl ?_
  refine x_iconst a 22 1 d_D_answerFault_22 (by decide) ?_
  refine x_isub a 23 d_D_answerFault_23 ?_
  refine x_iald a 24 d_D_answerFault_24 (kA7 (by omega)) (by omega) (j := f - 1) (pk_sub (b := 1) hf1) (by omega) (by decide) (v := act) (by rw [up2_o _ _ _ (by omega)]; exact hact.symm) ?_
  by_cases s25_1 : act = 1
  · subst s25_1
    refine x_lookup a 25 52 27 d_D_answerFault_25 (by decide) (by decide) (by decide) ?_
    refine x_aload_n a 52 d_D_answerFault_52 rfl ?_
    refine x_iload_n a 53 d_D_answerFault_53 rfl ?_
    refine x_callV a qa 54 g_D_216 d_D_answerFault_54 (c_D_restart _ hj (by rw [up2_o _ _ _ (by omega)]; exact hn) (by rw [up2_k _ _ _ (by decide)]; exact hf) (by rw [up2_k _ _ _ (by decide)]; exact hs) (by rw [up2_k _ _ _ (by decide), up2_k _ _ _ (by decide)]; exact hfs)) rfl rfl rfl (show _ < 86 by omega) (by decide) (Nat.le_of_ble_eq_true rfl) hcs (fun v w' hp => ?_)
    obtain ⟨rfl, rfl⟩ := hp
    refine x_st0 ?_
    refine x_goto a 57 87 d_D_answerFault_57 (by decide) ?_
    exact x_vret a qf 87 d_D_answerFault_87 rfl ⟨rfl, by unfold d_answer; rw [← hact]; first | rw [if_neg s25_1, if_neg s25_2] | rw [if_neg (show ¬ (2 : Int32) = 1 by decide), if_pos (show (2 : Int32) = 2 from rfl)] | rw [if_pos (show (1 : Int32) = 1 from rfl)]⟩
  by_cases s25_2 : act = 2
  · subst s25_2
    refine x_lookup a 25 60 35 d_D_answerFault_25 (by decide) (by decide) (by decide) ?_
    refine x_aload_n a 60 d_D_answerFault_60 rfl ?_
    refine x_iload_n a 61 d_D_answerFault_61 rfl ?_
    refine x_iconst a 62 4 d_D_answerFault_62 (by decide) ?_
    refine x_icmp_ne a 63 70 d_D_answerFault_63 (by decide) (fun c63 => ?_) (fun c63 => ?_)
    · refine x_aload_n a 70 d_D_answerFault_70 rfl ?_
      refine x_getI a 71 f_D_159 d_D_answerFault_71 (kP (by omega)) (by omega) (by decide) (v := h (3 + 9 * j) 9) (up2_k _ _ _ (by decide)) ?_
      refine x_iconst a 74 1 d_D_answerFault_74 (by decide) ?_
      refine x_iadd a 75 d_D_answerFault_75 ?_
      refine x_push (y := if f = 4 then 0 else h (3 + 9 * j) 9 + 1) (by first | rw [if_pos (by (try simp (disch := omega) only [Int32.le_iff_toInt_le, Int32.lt_iff_toInt_lt, ← Int32.toInt_inj, Int32.reduceToInt, nI_1, nI_add, pk_sub, nI_toInt] at *); omega)] | rw [if_neg (by (try simp (disch := omega) only [Int32.le_iff_toInt_le, Int32.lt_iff_toInt_lt, ← Int32.toInt_inj, Int32.reduceToInt, nI_1, nI_add, pk_sub, nI_toInt] at *); omega)]) ?_
      refine x_putI a 76 f_D_159 d_D_answerFault_76 (kP (by omega)) (by omega) (by decide) rfl rfl rfl ?_
      refine x_goto a 79 87 d_D_answerFault_79 (by decide) ?_
      exact x_vret a qf 87 d_D_answerFault_87 rfl ⟨rfl, by unfold d_answer; rw [← hact]; first | rw [if_neg s25_1, if_neg s25_2] | rw [if_neg (show ¬ (2 : Int32) = 1 by decide), if_pos (show (2 : Int32) = 2 from rfl)] | rw [if_pos (show (1 : Int32) = 1 from rfl)]⟩
    · refine x_iconst a 66 0 d_D_answerFault_66 (by decide) ?_
      refine x_goto a 67 76 d_D_answerFault_67 (by decide) ?_
      refine x_push (y := if f = 4 then 0 else h (3 + 9 * j) 9 + 1) (by first | rw [if_pos (by (try simp (disch := omega) only [Int32.le_iff_toInt_le, Int32.lt_iff_toInt_lt, ← Int32.toInt_inj, Int32.reduceToInt, nI_1, nI_add, pk_sub, nI_toInt] at *); omega)] | rw [if_neg (by (try simp (disch := omega) only [Int32.le_iff_toInt_le, Int32.lt_iff_toInt_lt, ← Int32.toInt_inj, Int32.reduceToInt, nI_1, nI_add, pk_sub, nI_toInt] at *); omega)]) ?_
      refine x_putI a 76 f_D_159 d_D_answerFault_76 (kP (by omega)) (by omega) (by decide) rfl rfl rfl ?_
      refine x_goto a 79 87 d_D_answerFault_79 (by decide) ?_
      exact x_vret a qf 87 d_D_answerFault_87 rfl ⟨rfl, by unfold d_answer; rw [← hact]; first | rw [if_neg s25_1, if_neg s25_2] | rw [if_neg (show ¬ (2 : Int32) = 1 by decide), if_pos (show (2 : Int32) = 2 from rfl)] | rw [if_pos (show (1 : Int32) = 1 from rfl)]⟩
  refine x_lookup a 25 82 57 d_D_answerFault_25 (by decide) (by show Op.lookupswitch.offset [(1, 27), (2, 35)] 57 act.toInt = 57; rw [lv_osw (a := 1) s25_1 rfl, lv_osw (a := 2) s25_2 rfl]; rfl) (by decide) ?_
  refine x_aload_n a 82 d_D_answerFault_82 rfl ?_
  refine x_iconst a 83 0 d_D_answerFault_83 (by decide) ?_
  refine x_putI a 84 f_D_146 d_D_answerFault_84 (kP (by omega)) (by omega) (by decide) rfl rfl rfl ?_
  exact x_vret a qf 87 d_D_answerFault_87 rfl ⟨rfl, by unfold d_answer; rw [← hact]; first | rw [if_neg s25_1, if_neg s25_2] | rw [if_neg (show ¬ (2 : Int32) = 1 by decide), if_pos (show (2 : Int32) = 2 from rfl)] | rw [if_pos (show (1 : Int32) = 1 from rfl)]⟩
end
section
theorem nn_tn {x : Int32} (h : 0 ≤ x) : x = nI (tn x) := by
  obtain ⟨k, hk, rfl⟩ := nI_of (Int32.not_lt.mpr h)
  rw [tn_nI hk]
theorem tn_int {x : Int32} (h : 0 ≤ x) : (tn x : Int) = x.toInt := by
  obtain ⟨k, hk, rfl⟩ := nI_of (Int32.not_lt.mpr h)
  rw [tn_nI hk, nI_toInt hk]
theorem tn_lt {x y : Int32} (h : 0 ≤ x) (hxy : x < y) : tn x < tn y := by
  have hy : 0 ≤ y := by
    rw [Int32.le_iff_toInt_le] at h ⊢
    rw [Int32.lt_iff_toInt_lt] at hxy
    omega
  have a := tn_int h
  have b := tn_int hy
  rw [Int32.lt_iff_toInt_lt] at hxy
  omega
theorem Nlt.int {x : Int32} {n : Nat} (h : Nlt x n) (hn : n ≤ 2 ^ 31) : x.toInt = (tn x : Int) := by
  have h1 := h.1
  rw [h.2, nI_toInt (by omega), tn_nI (by omega)]
def d_fault (h : Hp) (j : Nat) (o x b : Int32) : Nat :=
  if o = 5 ∨ o = 6 then (if 0 ≤ h (8 + 9 * j) (rg b) ∧ h (8 + 9 * j) (rg b) < h (3 + 9 * j) 8 then 0 else 1)
  else if o = 9 then (if (0 ≤ x ∧ x < h 0 4) ∧ h (40 + 3 * tn x) 1 = nI j then 0 else 2)
  else if o = 10 then (if (0 ≤ x ∧ x < h 0 4) ∧ h (40 + 3 * tn x) 2 = nI j then 0 else 2)
  else if o < 0 ∨ 14 < o then 3 else 0
theorem d_fault_le (h : Hp) (j : Nat) (o x b : Int32) : d_fault h j o x b ≤ 3 := by
  unfold d_fault
  repeat' split
  all_goals omega
set_option maxRecDepth 100000 in
set_option maxHeartbeats 4000000 in
theorem c_D_faultAhead (h : Hp) {j : Nat} (hj : j < 4) (hn : Nlt (h 0 4) 7) (o x b : Int32) : Cn u_D_faultAhead 3 0 0 (w0 h) [.inr (some 0), .inl (nI j), .inl o, .inl x, .inl b] (fun v w' => v = some (nI (d_fault h j o x b)) ∧ w' = w0 h) := by
  refine Cn.of (by decide +kernel) (Nat.le_of_ble_eq_true rfl) (fun E ad a qf => ?_)
  have qa := qf.2.2.2
  have hcs : 0 ≤ (eR E).cells ∧ 0 ≤ (eR E).slots := ⟨Nat.zero_le _, Nat.zero_le _⟩
  refine x_iload_n a 0 d_D_faultAhead_0 rfl ?_
  by_cases s1_5 : o = 5
  · subst s1_5
    refine x_tableIn a 1 40 39 d_D_faultAhead_1 (by decide) (by decide) rfl (by decide) ?_
    refine x_aload_n a 40 d_D_faultAhead_40 rfl ?_
    refine x_getR a 41 f_D_15 d_D_faultAhead_41 rfl (by omega) (by decide) rfl ?_
    refine x_iload_n a 44 d_D_faultAhead_44 rfl ?_
    refine x_aald2 a 45 d_D_faultAhead_45 rfl (by omega) (j := j) rfl (by omega) (by decide) (rPs (by omega)) ?_
    refine x_iload a 46 d_D_faultAhead_46 rfl ?_
    refine x_callV a qa 48 g_D_173 d_D_faultAhead_48 (c_P_hasWord _ (by omega) _) rfl rfl (kP (by omega)) (show _ < 86 by omega) (by decide) (Nat.le_of_ble_eq_true rfl) hcs (fun v w' hp => ?_)
    obtain ⟨rfl, rfl⟩ := hp
    refine x_st1 ?_
    refine x_ifB_eq a 51 58 d_D_faultAhead_51 (by decide) (fun c51 => ?_) (fun c51 => ?_)
    · refine x_iconst a 58 1 d_D_faultAhead_58 (by decide) ?_
      exact x_iret a qf 59 d_D_faultAhead_59 rfl ⟨by unfold d_fault; rw [if_pos (by decide)]; first | (rw [if_pos c51]; rfl) | (rw [if_neg c51]; rfl), rfl⟩
    · refine x_iconst a 54 0 d_D_faultAhead_54 (by decide) ?_
      refine x_goto a 55 59 d_D_faultAhead_55 (by decide) ?_
      exact x_iret a qf 59 d_D_faultAhead_59 rfl ⟨by unfold d_fault; rw [if_pos (by decide)]; first | (rw [if_pos c51]; rfl) | (rw [if_neg c51]; rfl), rfl⟩
  by_cases s1_6 : o = 6
  · subst s1_6
    refine x_tableIn a 1 40 39 d_D_faultAhead_1 (by decide) (by decide) rfl (by decide) ?_
    refine x_aload_n a 40 d_D_faultAhead_40 rfl ?_
    refine x_getR a 41 f_D_15 d_D_faultAhead_41 rfl (by omega) (by decide) rfl ?_
    refine x_iload_n a 44 d_D_faultAhead_44 rfl ?_
    refine x_aald2 a 45 d_D_faultAhead_45 rfl (by omega) (j := j) rfl (by omega) (by decide) (rPs (by omega)) ?_
    refine x_iload a 46 d_D_faultAhead_46 rfl ?_
    refine x_callV a qa 48 g_D_173 d_D_faultAhead_48 (c_P_hasWord _ (by omega) _) rfl rfl (kP (by omega)) (show _ < 86 by omega) (by decide) (Nat.le_of_ble_eq_true rfl) hcs (fun v w' hp => ?_)
    obtain ⟨rfl, rfl⟩ := hp
    refine x_st1 ?_
    refine x_ifB_eq a 51 58 d_D_faultAhead_51 (by decide) (fun c51 => ?_) (fun c51 => ?_)
    · refine x_iconst a 58 1 d_D_faultAhead_58 (by decide) ?_
      exact x_iret a qf 59 d_D_faultAhead_59 rfl ⟨by unfold d_fault; rw [if_pos (by decide)]; first | (rw [if_pos c51]; rfl) | (rw [if_neg c51]; rfl), rfl⟩
    · refine x_iconst a 54 0 d_D_faultAhead_54 (by decide) ?_
      refine x_goto a 55 59 d_D_faultAhead_55 (by decide) ?_
      exact x_iret a qf 59 d_D_faultAhead_59 rfl ⟨by unfold d_fault; rw [if_pos (by decide)]; first | (rw [if_pos c51]; rfl) | (rw [if_neg c51]; rfl), rfl⟩
  by_cases s1_7 : o = 7
  · subst s1_7
    refine x_tableIn a 1 114 113 d_D_faultAhead_1 (by decide) (by decide) rfl (by decide) ?_
    refine x_iload_n a 114 d_D_faultAhead_114 rfl ?_
    refine x_if_lt a 115 124 d_D_faultAhead_115 (by decide) (fun z => absurd z (by decide)) (fun _ => ?_)
    refine x_iload_n a 118 d_D_faultAhead_118 rfl ?_
    refine x_bipush a 119 14 d_D_faultAhead_119 (by decide) ?_
    refine x_icmp_le a 121 128 d_D_faultAhead_121 (by decide) (fun _ => ?_) (fun z => absurd z (by decide))
    refine x_iconst a 128 0 d_D_faultAhead_128 (by decide) ?_
    exact x_iret a qf 129 d_D_faultAhead_129 rfl ⟨by unfold d_fault; first | (rw [if_neg (by decide), if_neg (by decide), if_neg (by decide), if_neg (by decide)]; rfl) | (rw [if_neg (by rintro (z | z); exact s1_5 z; exact s1_6 z), if_neg s1_9, if_neg s1_10, if_neg (by (try simp (disch := omega) only [Int32.le_iff_toInt_le, Int32.lt_iff_toInt_lt, ← Int32.toInt_inj, Int32.reduceToInt, nI_1, nI_add, pk_sub, nI_toInt] at *); omega)]; rfl) | (rw [if_neg (by rintro (z | z); exact s1_5 z; exact s1_6 z), if_neg s1_9, if_neg s1_10, if_pos (by (try simp (disch := omega) only [Int32.le_iff_toInt_le, Int32.lt_iff_toInt_lt, ← Int32.toInt_inj, Int32.reduceToInt, nI_1, nI_add, pk_sub, nI_toInt] at *); omega)]; rfl), rfl⟩
  by_cases s1_8 : o = 8
  · subst s1_8
    refine x_tableIn a 1 114 113 d_D_faultAhead_1 (by decide) (by decide) rfl (by decide) ?_
    refine x_iload_n a 114 d_D_faultAhead_114 rfl ?_
    refine x_if_lt a 115 124 d_D_faultAhead_115 (by decide) (fun z => absurd z (by decide)) (fun _ => ?_)
    refine x_iload_n a 118 d_D_faultAhead_118 rfl ?_
    refine x_bipush a 119 14 d_D_faultAhead_119 (by decide) ?_
    refine x_icmp_le a 121 128 d_D_faultAhead_121 (by decide) (fun _ => ?_) (fun z => absurd z (by decide))
    refine x_iconst a 128 0 d_D_faultAhead_128 (by decide) ?_
    exact x_iret a qf 129 d_D_faultAhead_129 rfl ⟨by unfold d_fault; first | (rw [if_neg (by decide), if_neg (by decide), if_neg (by decide), if_neg (by decide)]; rfl) | (rw [if_neg (by rintro (z | z); exact s1_5 z; exact s1_6 z), if_neg s1_9, if_neg s1_10, if_neg (by (try simp (disch := omega) only [Int32.le_iff_toInt_le, Int32.lt_iff_toInt_lt, ← Int32.toInt_inj, Int32.reduceToInt, nI_1, nI_add, pk_sub, nI_toInt] at *); omega)]; rfl) | (rw [if_neg (by rintro (z | z); exact s1_5 z; exact s1_6 z), if_neg s1_9, if_neg s1_10, if_pos (by (try simp (disch := omega) only [Int32.le_iff_toInt_le, Int32.lt_iff_toInt_lt, ← Int32.toInt_inj, Int32.reduceToInt, nI_1, nI_add, pk_sub, nI_toInt] at *); omega)]; rfl), rfl⟩
  by_cases s1_9 : o = 9
  · subst s1_9
    refine x_tableIn a 1 60 59 d_D_faultAhead_1 (by decide) (by decide) rfl (by decide) ?_
    refine x_aload_n a 60 d_D_faultAhead_60 rfl ?_
    refine x_iload_n a 61 d_D_faultAhead_61 rfl ?_
    refine x_callV a qa 62 g_D_109 d_D_faultAhead_62 (c_D_isPort _ _) rfl rfl rfl (show _ < 86 by omega) (by decide) (Nat.le_of_ble_eq_true rfl) hcs (fun v w' hp => ?_)
    obtain ⟨rfl, rfl⟩ := hp
    refine x_st1 ?_
    refine x_ifB_eq a 65 85 d_D_faultAhead_65 (by decide) (fun c65 => ?_) (fun c65 => ?_)
    · refine x_iconst a 85 2 d_D_faultAhead_85 (by decide) ?_
      exact x_iret a qf 86 d_D_faultAhead_86 rfl ⟨by unfold d_fault; rw [if_neg (by decide), if_pos rfl]; first | (rw [if_pos ⟨c65, c78⟩]; rfl) | (rw [if_neg (by intro z; first | exact c65 z.1 | exact c78 z.2)]; rfl), rfl⟩
    · have hx0 := nn_tn c65.1
      have hx6 : tn x < 6 := by have := tn_lt c65.1 c65.2; have := hn.1; omega
      refine x_aload_n a 68 d_D_faultAhead_68 rfl ?_
      refine x_getR a 69 f_D_22 d_D_faultAhead_69 rfl (by omega) (by decide) rfl ?_
      refine x_iload_n a 72 d_D_faultAhead_72 rfl ?_
      refine x_aald3 a 73 d_D_faultAhead_73 rfl (by omega) (j := tn x) hx0 hx6 (by decide) (rQs (by omega)) ?_
      refine x_getI a 74 f_D_60 d_D_faultAhead_74 (kQ (by omega)) (by omega) (by decide) rfl ?_
      refine x_iload_n a 77 d_D_faultAhead_77 rfl ?_
      refine x_icmp_ne a 78 85 d_D_faultAhead_78 (by decide) (fun c78 => ?_) (fun c78 => ?_)
      · refine x_iconst a 85 2 d_D_faultAhead_85 (by decide) ?_
        exact x_iret a qf 86 d_D_faultAhead_86 rfl ⟨by unfold d_fault; rw [if_neg (by decide), if_pos rfl]; first | (rw [if_pos ⟨c65, c78⟩]; rfl) | (rw [if_neg (by intro z; first | exact c65 z.1 | exact c78 z.2)]; rfl), rfl⟩
      · refine x_iconst a 81 0 d_D_faultAhead_81 (by decide) ?_
        refine x_goto a 82 86 d_D_faultAhead_82 (by decide) ?_
        exact x_iret a qf 86 d_D_faultAhead_86 rfl ⟨by unfold d_fault; rw [if_neg (by decide), if_pos rfl]; first | (rw [if_pos ⟨c65, c78⟩]; rfl) | (rw [if_neg (by intro z; first | exact c65 z.1 | exact c78 z.2)]; rfl), rfl⟩
  by_cases s1_10 : o = 10
  · subst s1_10
    refine x_tableIn a 1 87 86 d_D_faultAhead_1 (by decide) (by decide) rfl (by decide) ?_
    refine x_aload_n a 87 d_D_faultAhead_87 rfl ?_
    refine x_iload_n a 88 d_D_faultAhead_88 rfl ?_
    refine x_callV a qa 89 g_D_109 d_D_faultAhead_89 (c_D_isPort _ _) rfl rfl rfl (show _ < 86 by omega) (by decide) (Nat.le_of_ble_eq_true rfl) hcs (fun v w' hp => ?_)
    obtain ⟨rfl, rfl⟩ := hp
    refine x_st1 ?_
    refine x_ifB_eq a 92 112 d_D_faultAhead_92 (by decide) (fun c92 => ?_) (fun c92 => ?_)
    · refine x_iconst a 112 2 d_D_faultAhead_112 (by decide) ?_
      exact x_iret a qf 113 d_D_faultAhead_113 rfl ⟨by unfold d_fault; rw [if_neg (by decide), if_neg (by decide), if_pos rfl]; first | (rw [if_pos ⟨c92, c105⟩]; rfl) | (rw [if_neg (by intro z; first | exact c92 z.1 | exact c105 z.2)]; rfl), rfl⟩
    · have hx0 := nn_tn c92.1
      have hx6 : tn x < 6 := by have := tn_lt c92.1 c92.2; have := hn.1; omega
      refine x_aload_n a 95 d_D_faultAhead_95 rfl ?_
      refine x_getR a 96 f_D_22 d_D_faultAhead_96 rfl (by omega) (by decide) rfl ?_
      refine x_iload_n a 99 d_D_faultAhead_99 rfl ?_
      refine x_aald3 a 100 d_D_faultAhead_100 rfl (by omega) (j := tn x) hx0 hx6 (by decide) (rQs (by omega)) ?_
      refine x_getI a 101 f_D_61 d_D_faultAhead_101 (kQ (by omega)) (by omega) (by decide) rfl ?_
      refine x_iload_n a 104 d_D_faultAhead_104 rfl ?_
      refine x_icmp_ne a 105 112 d_D_faultAhead_105 (by decide) (fun c105 => ?_) (fun c105 => ?_)
      · refine x_iconst a 112 2 d_D_faultAhead_112 (by decide) ?_
        exact x_iret a qf 113 d_D_faultAhead_113 rfl ⟨by unfold d_fault; rw [if_neg (by decide), if_neg (by decide), if_pos rfl]; first | (rw [if_pos ⟨c92, c105⟩]; rfl) | (rw [if_neg (by intro z; first | exact c92 z.1 | exact c105 z.2)]; rfl), rfl⟩
      · refine x_iconst a 108 0 d_D_faultAhead_108 (by decide) ?_
        refine x_goto a 109 113 d_D_faultAhead_109 (by decide) ?_
        exact x_iret a qf 113 d_D_faultAhead_113 rfl ⟨by unfold d_fault; rw [if_neg (by decide), if_neg (by decide), if_pos rfl]; first | (rw [if_pos ⟨c92, c105⟩]; rfl) | (rw [if_neg (by intro z; first | exact c92 z.1 | exact c105 z.2)]; rfl), rfl⟩
  refine x_tableOut a 1 114 d_D_faultAhead_1 (by (try simp (disch := omega) only [Int32.le_iff_toInt_le, Int32.lt_iff_toInt_lt, ← Int32.toInt_inj, Int32.reduceToInt, nI_1, nI_add, pk_sub, nI_toInt] at *); omega) (by decide) ?_
  refine x_iload_n a 114 d_D_faultAhead_114 rfl ?_
  refine x_if_lt a 115 124 d_D_faultAhead_115 (by decide) (fun c115 => ?_) (fun c115 => ?_)
  · refine x_iconst a 124 3 d_D_faultAhead_124 (by decide) ?_
    refine x_goto a 125 129 d_D_faultAhead_125 (by decide) ?_
    exact x_iret a qf 129 d_D_faultAhead_129 rfl ⟨by unfold d_fault; first | (rw [if_neg (by decide), if_neg (by decide), if_neg (by decide), if_neg (by decide)]; rfl) | (rw [if_neg (by rintro (z | z); exact s1_5 z; exact s1_6 z), if_neg s1_9, if_neg s1_10, if_neg (by (try simp (disch := omega) only [Int32.le_iff_toInt_le, Int32.lt_iff_toInt_lt, ← Int32.toInt_inj, Int32.reduceToInt, nI_1, nI_add, pk_sub, nI_toInt] at *); omega)]; rfl) | (rw [if_neg (by rintro (z | z); exact s1_5 z; exact s1_6 z), if_neg s1_9, if_neg s1_10, if_pos (by (try simp (disch := omega) only [Int32.le_iff_toInt_le, Int32.lt_iff_toInt_lt, ← Int32.toInt_inj, Int32.reduceToInt, nI_1, nI_add, pk_sub, nI_toInt] at *); omega)]; rfl), rfl⟩
  · refine x_iload_n a 118 d_D_faultAhead_118 rfl ?_
    refine x_bipush a 119 14 d_D_faultAhead_119 (by decide) ?_
    refine x_icmp_le a 121 128 d_D_faultAhead_121 (by decide) (fun c121 => ?_) (fun c121 => ?_)
    · refine x_iconst a 128 0 d_D_faultAhead_128 (by decide) ?_
      exact x_iret a qf 129 d_D_faultAhead_129 rfl ⟨by unfold d_fault; first | (rw [if_neg (by decide), if_neg (by decide), if_neg (by decide), if_neg (by decide)]; rfl) | (rw [if_neg (by rintro (z | z); exact s1_5 z; exact s1_6 z), if_neg s1_9, if_neg s1_10, if_neg (by (try simp (disch := omega) only [Int32.le_iff_toInt_le, Int32.lt_iff_toInt_lt, ← Int32.toInt_inj, Int32.reduceToInt, nI_1, nI_add, pk_sub, nI_toInt] at *); omega)]; rfl) | (rw [if_neg (by rintro (z | z); exact s1_5 z; exact s1_6 z), if_neg s1_9, if_neg s1_10, if_pos (by (try simp (disch := omega) only [Int32.le_iff_toInt_le, Int32.lt_iff_toInt_lt, ← Int32.toInt_inj, Int32.reduceToInt, nI_1, nI_add, pk_sub, nI_toInt] at *); omega)]; rfl), rfl⟩
    · refine x_iconst a 124 3 d_D_faultAhead_124 (by decide) ?_
      refine x_goto a 125 129 d_D_faultAhead_125 (by decide) ?_
      exact x_iret a qf 129 d_D_faultAhead_129 rfl ⟨by unfold d_fault; first | (rw [if_neg (by decide), if_neg (by decide), if_neg (by decide), if_neg (by decide)]; rfl) | (rw [if_neg (by rintro (z | z); exact s1_5 z; exact s1_6 z), if_neg s1_9, if_neg s1_10, if_neg (by (try simp (disch := omega) only [Int32.le_iff_toInt_le, Int32.lt_iff_toInt_lt, ← Int32.toInt_inj, Int32.reduceToInt, nI_1, nI_add, pk_sub, nI_toInt] at *); omega)]; rfl) | (rw [if_neg (by rintro (z | z); exact s1_5 z; exact s1_6 z), if_neg s1_9, if_neg s1_10, if_pos (by (try simp (disch := omega) only [Int32.le_iff_toInt_le, Int32.lt_iff_toInt_lt, ← Int32.toInt_inj, Int32.reduceToInt, nI_1, nI_add, pk_sub, nI_toInt] at *); omega)]; rfl), rfl⟩
def d_compute (h : Hp) (j : Nat) (o x b : Int32) : Hp :=
  if o = 1 then up2 h (8 + 9 * j) (rg x) b
  else if o = 2 then up2 h (8 + 9 * j) (rg x) (h (8 + 9 * j) (rg x) + h (8 + 9 * j) (rg b))
  else if o = 3 then up2 h (8 + 9 * j) (rg x) (h (8 + 9 * j) (rg x) - h (8 + 9 * j) (rg b))
  else if o = 4 then up2 h (8 + 9 * j) (rg x) (h (8 + 9 * j) (rg x) ^^^ h (8 + 9 * j) (rg b))
  else if o = 5 then up2 h (8 + 9 * j) (rg x) (h 1 (tn (h (3 + 9 * j) 7 + h (8 + 9 * j) (rg b))))
  else if o = 6 then up2 h 1 (tn (h (3 + 9 * j) 7 + h (8 + 9 * j) (rg b))) (h (8 + 9 * j) (rg x))
  else h
def d_jump (h : Hp) (j : Nat) (o x b : Int32) : Hp := if o = 7 ∨ ¬ h (8 + 9 * j) (rg x) = 0 then up2 h (3 + 9 * j) 9 b else h
def d_comm (h : Hp) (j : Nat) (o x b : Int32) : Hp :=
  if o = 9 then s_send h (tn x) j (rg b) (h 58 5) (tn (h (41 + 3 * tn x) 1)) (tn (h (41 + 3 * tn x) 2)) (tn (h (40 + 3 * tn x) 3))
  else if o = 10 then s_recv h (tn x) j (rg b) (h 58 5) (tn (h (41 + 3 * tn x) 1)) (tn (h (41 + 3 * tn x) 2)) (tn (h (40 + 3 * tn x) 3))
  else if o = 11 then p_take h j (tn (h (9 + 9 * j) 1)) (tn (h (9 + 9 * j) 2)) (rg x)
  else if o = 12 then p_out h j (tn (h (3 + 9 * j) 12)) (h (8 + 9 * j) (rg x))
  else if o = 13 then up2 h 58 6 1
  else if o = 14 then up2 h (3 + 9 * j) 10 0
  else h
def d_carry (h : Hp) (j : Nat) (o x b : Int32) : Hp :=
  if o ≤ 6 then d_compute (up2 h (3 + 9 * j) 9 (h (3 + 9 * j) 9 + 1)) j o x b
  else if o ≤ 8 then d_jump (up2 h (3 + 9 * j) 9 (h (3 + 9 * j) 9 + 1)) j o x b
  else d_comm (up2 h (3 + 9 * j) 9 (h (3 + 9 * j) 9 + 1)) j o x b
set_option maxRecDepth 100000 in
set_option maxHeartbeats 4000000 in
theorem c_D_compute (h : Hp) {j : Nat} (hj : j < 4) (o x b : Int32) (hw : o = 5 ∨ o = 6 → Nlt (h (3 + 9 * j) 7 + h (8 + 9 * j) (rg b)) 64) : Cn u_D_compute 2 0 0 (w0 h) [.inr (some 0), .inr (some (3 + 9 * j)), .inl o, .inl x, .inl b] (fun r w' => r = none ∧ w' = w0 (d_compute h j o x b)) := by
  refine Cn.of (by decide +kernel) (Nat.le_of_ble_eq_true rfl) (fun E ad a qf => ?_)
  have qa := qf.2.2.2
  have hcs : 0 ≤ (eR E).cells ∧ 0 ≤ (eR E).slots := ⟨Nat.zero_le _, Nat.zero_le _⟩
  have hrx := rg_lt x
  have hrb := rg_lt b
  refine x_iload_n a 0 d_D_compute_0 rfl ?_
  refine x_callS a qa 1 g_D_185 d_D_compute_1 (c_D_registerNamed _ _) rfl rfl (by decide) (Nat.le_of_ble_eq_true rfl) hcs (fun v w' hp => ?_)
  obtain ⟨rfl, rfl⟩ := hp
  refine x_st1 ?_
  refine x_istore a 4 d_D_compute_4 (by decide) ?_
  refine x_iload a 6 d_D_compute_6 rfl ?_
  refine x_callS a qa 8 g_D_185 d_D_compute_8 (c_D_registerNamed _ _) rfl rfl (by decide) (Nat.le_of_ble_eq_true rfl) hcs (fun v w' hp => ?_)
  obtain ⟨rfl, rfl⟩ := hp
  refine x_st1 ?_
  refine x_istore a 11 d_D_compute_11 (by decide) ?_
  refine x_aload_n a 13 d_D_compute_13 rfl ?_
  refine x_getR a 14 f_D_188 d_D_compute_14 (kP (by omega)) (by omega) (by decide) (rP4 (by omega)) ?_
  refine x_astore a 17 d_D_compute_17 (by decide) ?_
  refine x_iload_n a 19 d_D_compute_19 rfl ?_
  by_cases s20_1 : o = 1
  · subst s20_1
    refine x_tableIn a 20 60 40 d_D_compute_20 (by decide) (by decide) rfl (by decide) ?_
    refine x_aload a 60 d_D_compute_60 rfl ?_
    refine x_iload a 62 d_D_compute_62 rfl ?_
    refine x_iload a 64 d_D_compute_64 rfl ?_
    refine x_iast a 66 d_D_compute_66 (kA8 (by omega)) (by omega) (j := (rg x)) rfl (by omega) (by decide) ?_
    refine x_goto a 67 173 d_D_compute_67 (by decide) ?_
    exact x_vret a qf 173 d_D_compute_173 rfl ⟨rfl, by unfold d_compute; first | (rw [if_neg s20_1, if_neg s20_2, if_neg s20_3, if_neg s20_4, if_neg s20_5, if_neg s20_6]; done) | (rw [if_pos rfl]; done) | (rw [if_neg (by decide), if_pos rfl]; done) | (rw [if_neg (by decide), if_neg (by decide), if_pos rfl]; done) | (rw [if_neg (by decide), if_neg (by decide), if_neg (by decide), if_pos rfl]; done) | (rw [if_neg (by decide), if_neg (by decide), if_neg (by decide), if_neg (by decide), if_pos rfl]; done) | (rw [if_neg (by decide), if_neg (by decide), if_neg (by decide), if_neg (by decide), if_neg (by decide), if_pos rfl]; done)⟩
  by_cases s20_2 : o = 2
  · subst s20_2
    refine x_tableIn a 20 70 50 d_D_compute_20 (by decide) (by decide) rfl (by decide) ?_
    refine x_aload a 70 d_D_compute_70 rfl ?_
    refine x_iload a 72 d_D_compute_72 rfl ?_
    refine x_aload a 74 d_D_compute_74 rfl ?_
    refine x_iload a 76 d_D_compute_76 rfl ?_
    refine x_iald a 78 d_D_compute_78 (kA8 (by omega)) (by omega) (j := (rg x)) rfl (by omega) (by decide) rfl ?_
    refine x_aload a 79 d_D_compute_79 rfl ?_
    refine x_iload a 81 d_D_compute_81 rfl ?_
    refine x_iald a 83 d_D_compute_83 (kA8 (by omega)) (by omega) (j := (rg b)) rfl (by omega) (by decide) rfl ?_
    refine x_iadd a 84 d_D_compute_84 ?_
    refine x_iast a 85 d_D_compute_85 (kA8 (by omega)) (by omega) (j := (rg x)) rfl (by omega) (by decide) ?_
    refine x_goto a 86 173 d_D_compute_86 (by decide) ?_
    exact x_vret a qf 173 d_D_compute_173 rfl ⟨rfl, by unfold d_compute; first | (rw [if_neg s20_1, if_neg s20_2, if_neg s20_3, if_neg s20_4, if_neg s20_5, if_neg s20_6]; done) | (rw [if_pos rfl]; done) | (rw [if_neg (by decide), if_pos rfl]; done) | (rw [if_neg (by decide), if_neg (by decide), if_pos rfl]; done) | (rw [if_neg (by decide), if_neg (by decide), if_neg (by decide), if_pos rfl]; done) | (rw [if_neg (by decide), if_neg (by decide), if_neg (by decide), if_neg (by decide), if_pos rfl]; done) | (rw [if_neg (by decide), if_neg (by decide), if_neg (by decide), if_neg (by decide), if_neg (by decide), if_pos rfl]; done)⟩
  by_cases s20_3 : o = 3
  · subst s20_3
    refine x_tableIn a 20 89 69 d_D_compute_20 (by decide) (by decide) rfl (by decide) ?_
    refine x_aload a 89 d_D_compute_89 rfl ?_
    refine x_iload a 91 d_D_compute_91 rfl ?_
    refine x_aload a 93 d_D_compute_93 rfl ?_
    refine x_iload a 95 d_D_compute_95 rfl ?_
    refine x_iald a 97 d_D_compute_97 (kA8 (by omega)) (by omega) (j := (rg x)) rfl (by omega) (by decide) rfl ?_
    refine x_aload a 98 d_D_compute_98 rfl ?_
    refine x_iload a 100 d_D_compute_100 rfl ?_
    refine x_iald a 102 d_D_compute_102 (kA8 (by omega)) (by omega) (j := (rg b)) rfl (by omega) (by decide) rfl ?_
    refine x_isub a 103 d_D_compute_103 ?_
    refine x_iast a 104 d_D_compute_104 (kA8 (by omega)) (by omega) (j := (rg x)) rfl (by omega) (by decide) ?_
    refine x_goto a 105 173 d_D_compute_105 (by decide) ?_
    exact x_vret a qf 173 d_D_compute_173 rfl ⟨rfl, by unfold d_compute; first | (rw [if_neg s20_1, if_neg s20_2, if_neg s20_3, if_neg s20_4, if_neg s20_5, if_neg s20_6]; done) | (rw [if_pos rfl]; done) | (rw [if_neg (by decide), if_pos rfl]; done) | (rw [if_neg (by decide), if_neg (by decide), if_pos rfl]; done) | (rw [if_neg (by decide), if_neg (by decide), if_neg (by decide), if_pos rfl]; done) | (rw [if_neg (by decide), if_neg (by decide), if_neg (by decide), if_neg (by decide), if_pos rfl]; done) | (rw [if_neg (by decide), if_neg (by decide), if_neg (by decide), if_neg (by decide), if_neg (by decide), if_pos rfl]; done)⟩
  by_cases s20_4 : o = 4
  · subst s20_4
    refine x_tableIn a 20 108 88 d_D_compute_20 (by decide) (by decide) rfl (by decide) ?_
    refine x_aload a 108 d_D_compute_108 rfl ?_
    refine x_iload a 110 d_D_compute_110 rfl ?_
    refine x_aload a 112 d_D_compute_112 rfl ?_
    refine x_iload a 114 d_D_compute_114 rfl ?_
    refine x_iald a 116 d_D_compute_116 (kA8 (by omega)) (by omega) (j := (rg x)) rfl (by omega) (by decide) rfl ?_
    refine x_aload a 117 d_D_compute_117 rfl ?_
    refine x_iload a 119 d_D_compute_119 rfl ?_
    refine x_iald a 121 d_D_compute_121 (kA8 (by omega)) (by omega) (j := (rg b)) rfl (by omega) (by decide) rfl ?_
    refine x_ixor a 122 d_D_compute_122 ?_
    refine x_iast a 123 d_D_compute_123 (kA8 (by omega)) (by omega) (j := (rg x)) rfl (by omega) (by decide) ?_
    refine x_goto a 124 173 d_D_compute_124 (by decide) ?_
    exact x_vret a qf 173 d_D_compute_173 rfl ⟨rfl, by unfold d_compute; first | (rw [if_neg s20_1, if_neg s20_2, if_neg s20_3, if_neg s20_4, if_neg s20_5, if_neg s20_6]; done) | (rw [if_pos rfl]; done) | (rw [if_neg (by decide), if_pos rfl]; done) | (rw [if_neg (by decide), if_neg (by decide), if_pos rfl]; done) | (rw [if_neg (by decide), if_neg (by decide), if_neg (by decide), if_pos rfl]; done) | (rw [if_neg (by decide), if_neg (by decide), if_neg (by decide), if_neg (by decide), if_pos rfl]; done) | (rw [if_neg (by decide), if_neg (by decide), if_neg (by decide), if_neg (by decide), if_neg (by decide), if_pos rfl]; done)⟩
  by_cases s20_5 : o = 5
  · subst s20_5
    refine x_tableIn a 20 127 107 d_D_compute_20 (by decide) (by decide) rfl (by decide) ?_
    refine x_aload a 127 d_D_compute_127 rfl ?_
    refine x_iload a 129 d_D_compute_129 rfl ?_
    refine x_aload_n a 131 d_D_compute_131 rfl ?_
    refine x_getR a 132 f_D_9 d_D_compute_132 rfl (by omega) (by decide) rfl ?_
    refine x_aload_n a 135 d_D_compute_135 rfl ?_
    refine x_getI a 136 f_D_46 d_D_compute_136 (kP (by omega)) (by omega) (by decide) rfl ?_
    refine x_aload a 139 d_D_compute_139 rfl ?_
    refine x_iload a 141 d_D_compute_141 rfl ?_
    refine x_iald a 143 d_D_compute_143 (kA8 (by omega)) (by omega) (j := (rg b)) rfl (by omega) (by decide) rfl ?_
    refine x_iadd a 144 d_D_compute_144 ?_
    refine x_iald a 145 d_D_compute_145 rfl (by omega) (j := tn (h (3 + 9 * j) 7 + h (8 + 9 * j) (rg b))) (hw (Or.inl rfl)).2 (hw (Or.inl rfl)).1 (by decide) rfl ?_
    refine x_iast a 146 d_D_compute_146 (kA8 (by omega)) (by omega) (j := (rg x)) rfl (by omega) (by decide) ?_
    refine x_goto a 147 173 d_D_compute_147 (by decide) ?_
    exact x_vret a qf 173 d_D_compute_173 rfl ⟨rfl, by unfold d_compute; first | (rw [if_neg s20_1, if_neg s20_2, if_neg s20_3, if_neg s20_4, if_neg s20_5, if_neg s20_6]; done) | (rw [if_pos rfl]; done) | (rw [if_neg (by decide), if_pos rfl]; done) | (rw [if_neg (by decide), if_neg (by decide), if_pos rfl]; done) | (rw [if_neg (by decide), if_neg (by decide), if_neg (by decide), if_pos rfl]; done) | (rw [if_neg (by decide), if_neg (by decide), if_neg (by decide), if_neg (by decide), if_pos rfl]; done) | (rw [if_neg (by decide), if_neg (by decide), if_neg (by decide), if_neg (by decide), if_neg (by decide), if_pos rfl]; done)⟩
  by_cases s20_6 : o = 6
  · subst s20_6
    refine x_tableIn a 20 150 130 d_D_compute_20 (by decide) (by decide) rfl (by decide) ?_
    refine x_aload_n a 150 d_D_compute_150 rfl ?_
    refine x_getR a 151 f_D_9 d_D_compute_151 rfl (by omega) (by decide) rfl ?_
    refine x_aload_n a 154 d_D_compute_154 rfl ?_
    refine x_getI a 155 f_D_46 d_D_compute_155 (kP (by omega)) (by omega) (by decide) rfl ?_
    refine x_aload a 158 d_D_compute_158 rfl ?_
    refine x_iload a 160 d_D_compute_160 rfl ?_
    refine x_iald a 162 d_D_compute_162 (kA8 (by omega)) (by omega) (j := (rg b)) rfl (by omega) (by decide) rfl ?_
    refine x_iadd a 163 d_D_compute_163 ?_
    refine x_aload a 164 d_D_compute_164 rfl ?_
    refine x_iload a 166 d_D_compute_166 rfl ?_
    refine x_iald a 168 d_D_compute_168 (kA8 (by omega)) (by omega) (j := (rg x)) rfl (by omega) (by decide) rfl ?_
    refine x_iast a 169 d_D_compute_169 rfl (by omega) (j := tn (h (3 + 9 * j) 7 + h (8 + 9 * j) (rg b))) (hw (Or.inr rfl)).2 (hw (Or.inr rfl)).1 (by decide) ?_
    refine x_goto a 170 173 d_D_compute_170 (by decide) ?_
    exact x_vret a qf 173 d_D_compute_173 rfl ⟨rfl, by unfold d_compute; first | (rw [if_neg s20_1, if_neg s20_2, if_neg s20_3, if_neg s20_4, if_neg s20_5, if_neg s20_6]; done) | (rw [if_pos rfl]; done) | (rw [if_neg (by decide), if_pos rfl]; done) | (rw [if_neg (by decide), if_neg (by decide), if_pos rfl]; done) | (rw [if_neg (by decide), if_neg (by decide), if_neg (by decide), if_pos rfl]; done) | (rw [if_neg (by decide), if_neg (by decide), if_neg (by decide), if_neg (by decide), if_pos rfl]; done) | (rw [if_neg (by decide), if_neg (by decide), if_neg (by decide), if_neg (by decide), if_neg (by decide), if_pos rfl]; done)⟩
  refine x_tableOut a 20 173 d_D_compute_20 (by (try simp (disch := omega) only [Int32.le_iff_toInt_le, Int32.lt_iff_toInt_lt, ← Int32.toInt_inj, Int32.reduceToInt, nI_1, nI_add, pk_sub, nI_toInt] at *); omega) (by decide) ?_
  exact x_vret a qf 173 d_D_compute_173 rfl ⟨rfl, by unfold d_compute; first | (rw [if_neg s20_1, if_neg s20_2, if_neg s20_3, if_neg s20_4, if_neg s20_5, if_neg s20_6]; done) | (rw [if_pos rfl]; done) | (rw [if_neg (by decide), if_pos rfl]; done) | (rw [if_neg (by decide), if_neg (by decide), if_pos rfl]; done) | (rw [if_neg (by decide), if_neg (by decide), if_neg (by decide), if_pos rfl]; done) | (rw [if_neg (by decide), if_neg (by decide), if_neg (by decide), if_neg (by decide), if_pos rfl]; done) | (rw [if_neg (by decide), if_neg (by decide), if_neg (by decide), if_neg (by decide), if_neg (by decide), if_pos rfl]; done)⟩
set_option maxRecDepth 100000 in
set_option maxHeartbeats 4000000 in
theorem c_D_jump (h : Hp) {j : Nat} (hj : j < 4) (o x b : Int32) : Cn u_D_jump 2 0 0 (w0 h) [.inr (some (3 + 9 * j)), .inl o, .inl x, .inl b] (fun r w' => r = none ∧ w' = w0 (d_jump h j o x b)) := by
  refine Cn.of (by decide +kernel) (Nat.le_of_ble_eq_true rfl) (fun E ad a qf => ?_)
  have qa := qf.2.2.2
  have hcs : 0 ≤ (eR E).cells ∧ 0 ≤ (eR E).slots := ⟨Nat.zero_le _, Nat.zero_le _⟩
  have hrx := rg_lt x
  refine x_iload_n a 0 d_D_jump_0 rfl ?_
  refine x_bipush a 1 7 d_D_jump_1 (by decide) ?_
  refine x_icmp_eq a 3 18 d_D_jump_3 (by decide) (fun c3 => ?_) (fun c3 => ?_)
  · refine x_aload_n a 18 d_D_jump_18 rfl ?_
    refine x_iload_n a 19 d_D_jump_19 rfl ?_
    refine x_putI a 20 f_D_159 d_D_jump_20 (kP (by omega)) (by omega) (by decide) rfl rfl rfl ?_
    exact x_vret a qf 23 d_D_jump_23 rfl ⟨rfl, by unfold d_jump; first | (rw [if_pos (Or.inl c3)]; done) | (rw [if_pos (Or.inr c15)]; done) | (rw [if_neg (by rintro (z | z); exact c3 z; exact z c15)]; done)⟩
  · refine x_aload_n a 6 d_D_jump_6 rfl ?_
    refine x_getR a 7 f_D_188 d_D_jump_7 (kP (by omega)) (by omega) (by decide) (rP4 (by omega)) ?_
    refine x_iload_n a 10 d_D_jump_10 rfl ?_
    refine x_callS a qa 11 g_D_185 d_D_jump_11 (c_D_registerNamed _ _) rfl rfl (by decide) (Nat.le_of_ble_eq_true rfl) hcs (fun v w' hp => ?_)
    obtain ⟨rfl, rfl⟩ := hp
    refine x_st1 ?_
    refine x_iald a 14 d_D_jump_14 (kA8 (by omega)) (by omega) (j := (rg x)) rfl (by omega) (by decide) rfl ?_
    refine x_if_eq a 15 23 d_D_jump_15 (by decide) (fun c15 => ?_) (fun c15 => ?_)
    · exact x_vret a qf 23 d_D_jump_23 rfl ⟨rfl, by unfold d_jump; first | (rw [if_pos (Or.inl c3)]; done) | (rw [if_pos (Or.inr c15)]; done) | (rw [if_neg (by rintro (z | z); exact c3 z; exact z c15)]; done)⟩
    · refine x_aload_n a 18 d_D_jump_18 rfl ?_
      refine x_iload_n a 19 d_D_jump_19 rfl ?_
      refine x_putI a 20 f_D_159 d_D_jump_20 (kP (by omega)) (by omega) (by decide) rfl rfl rfl ?_
      exact x_vret a qf 23 d_D_jump_23 rfl ⟨rfl, by unfold d_jump; first | (rw [if_pos (Or.inl c3)]; done) | (rw [if_pos (Or.inr c15)]; done) | (rw [if_neg (by rintro (z | z); exact c3 z; exact z c15)]; done)⟩
set_option maxRecDepth 100000 in
set_option maxHeartbeats 4000000 in
theorem c_D_communicate (h : Hp) {j : Nat} (hj : j < 4) (o x b : Int32) (hx : o = 9 ∨ o = 10 → Nlt x 6) (hq : ∀ i, i < 6 → Nlt (h (40 + 3 * i) 3) 5 ∧ Nlt (h (41 + 3 * i) 1) 4 ∧ Nlt (h (41 + 3 * i) 2) 5) (hin : Nlt (h (9 + 9 * j) 1) 8 ∧ Nlt (h (9 + 9 * j) 2) 9) (hou : Nlt (h (3 + 9 * j) 12) (2 ^ 30)) : Cn u_D_communicate 2 0 0 (w0 h) [.inr (some 0), .inr (some (3 + 9 * j)), .inl o, .inl x, .inl b] (fun r w' => r = none ∧ w' = w0 (d_comm h j o x b)) := by
  refine Cn.of (by decide +kernel) (Nat.le_of_ble_eq_true rfl) (fun E ad a qf => ?_)
  have qa := qf.2.2.2
  have hcs : 0 ≤ (eR E).cells ∧ 0 ≤ (eR E).slots := ⟨Nat.zero_le _, Nat.zero_le _⟩
  have hrx := rg_lt x
  have hrb := rg_lt b
  refine x_iload_n a 0 d_D_communicate_0 rfl ?_
  refine x_callS a qa 1 g_D_185 d_D_communicate_1 (c_D_registerNamed _ _) rfl rfl (by decide) (Nat.le_of_ble_eq_true rfl) hcs (fun v w' hp => ?_)
  obtain ⟨rfl, rfl⟩ := hp
  refine x_st1 ?_
  refine x_istore a 4 d_D_communicate_4 (by decide) ?_
  refine x_iload a 6 d_D_communicate_6 rfl ?_
  refine x_callS a qa 8 g_D_185 d_D_communicate_8 (c_D_registerNamed _ _) rfl rfl (by decide) (Nat.le_of_ble_eq_true rfl) hcs (fun v w' hp => ?_)
  obtain ⟨rfl, rfl⟩ := hp
  refine x_st1 ?_
  refine x_istore a 11 d_D_communicate_11 (by decide) ?_
  refine x_iload_n a 13 d_D_communicate_13 rfl ?_
  by_cases s14_9 : o = 9
  · subst s14_9
    refine x_tableIn a 14 52 38 d_D_communicate_14 (by decide) (by decide) rfl (by decide) ?_
    refine x_aload_n a 52 d_D_communicate_52 rfl ?_
    refine x_getR a 53 f_D_22 d_D_communicate_53 rfl (by omega) (by decide) rfl ?_
    refine x_iload_n a 56 d_D_communicate_56 rfl ?_
    have hx6 := (hx (Or.inl rfl)).1
    refine x_aald3 a 57 d_D_communicate_57 rfl (by omega) (j := tn x) (hx (Or.inl rfl)).2 (hx (Or.inl rfl)).1 (by decide) (rQs (by omega)) ?_
    refine x_aload_n a 58 d_D_communicate_58 rfl ?_
    refine x_getR a 59 f_D_188 d_D_communicate_59 (kP (by omega)) (by omega) (by decide) (rP4 (by omega)) ?_
    refine x_iload a 62 d_D_communicate_62 rfl ?_
    refine x_aload_n a 64 d_D_communicate_64 rfl ?_
    refine x_getR a 65 f_D_30 d_D_communicate_65 rfl (by omega) (by decide) rfl ?_
    refine x_getI a 68 f_D_191 d_D_communicate_68 rfl (by omega) (by decide) rfl ?_
    refine x_callV a qa 71 g_D_194 d_D_communicate_71 (c_Q_send _ (hx (Or.inl rfl)).1 hj hrb _ (hq (tn x) (hx (Or.inl rfl)).1).2.1.2 (hq (tn x) (hx (Or.inl rfl)).1).2.1.1 (hq (tn x) (hx (Or.inl rfl)).1).2.2.2 (Nat.le_of_lt_succ (hq (tn x) (hx (Or.inl rfl)).1).2.2.1) (hq (tn x) (hx (Or.inl rfl)).1).1.2 (Nat.le_of_lt_succ (hq (tn x) (hx (Or.inl rfl)).1).1.1)) rfl rfl (kQ (by omega)) (show _ < 86 by omega) (by decide) (Nat.le_of_ble_eq_true rfl) hcs (fun v w' hp => ?_)
    obtain ⟨rfl, rfl⟩ := hp
    refine x_st0 ?_
    refine x_goto a 74 144 d_D_communicate_74 (by decide) ?_
    exact x_vret a qf 144 d_D_communicate_144 rfl ⟨rfl, by unfold d_comm; first | (rw [if_neg s14_9, if_neg s14_10, if_neg s14_11, if_neg s14_12, if_neg s14_13, if_neg s14_14]; done) | (rw [if_pos rfl]; done) | (rw [if_neg (by decide), if_pos rfl]; done) | (rw [if_neg (by decide), if_neg (by decide), if_pos rfl]; done) | (rw [if_neg (by decide), if_neg (by decide), if_neg (by decide), if_pos rfl]; done) | (rw [if_neg (by decide), if_neg (by decide), if_neg (by decide), if_neg (by decide), if_pos rfl]; done) | (rw [if_neg (by decide), if_neg (by decide), if_neg (by decide), if_neg (by decide), if_neg (by decide), if_pos rfl]; done)⟩
  by_cases s14_10 : o = 10
  · subst s14_10
    refine x_tableIn a 14 77 63 d_D_communicate_14 (by decide) (by decide) rfl (by decide) ?_
    refine x_aload_n a 77 d_D_communicate_77 rfl ?_
    refine x_getR a 78 f_D_22 d_D_communicate_78 rfl (by omega) (by decide) rfl ?_
    refine x_iload_n a 81 d_D_communicate_81 rfl ?_
    have hx6 := (hx (Or.inr rfl)).1
    refine x_aald3 a 82 d_D_communicate_82 rfl (by omega) (j := tn x) (hx (Or.inr rfl)).2 (hx (Or.inr rfl)).1 (by decide) (rQs (by omega)) ?_
    refine x_aload_n a 83 d_D_communicate_83 rfl ?_
    refine x_getR a 84 f_D_188 d_D_communicate_84 (kP (by omega)) (by omega) (by decide) (rP4 (by omega)) ?_
    refine x_iload a 87 d_D_communicate_87 rfl ?_
    refine x_aload_n a 89 d_D_communicate_89 rfl ?_
    refine x_getR a 90 f_D_30 d_D_communicate_90 rfl (by omega) (by decide) rfl ?_
    refine x_getI a 93 f_D_191 d_D_communicate_93 rfl (by omega) (by decide) rfl ?_
    refine x_callV a qa 96 g_D_198 d_D_communicate_96 (c_Q_receive _ (hx (Or.inr rfl)).1 hj hrb _ (hq (tn x) (hx (Or.inr rfl)).1).2.1.2 (hq (tn x) (hx (Or.inr rfl)).1).2.1.1 (hq (tn x) (hx (Or.inr rfl)).1).2.2.2 (Nat.le_of_lt_succ (hq (tn x) (hx (Or.inr rfl)).1).2.2.1) (hq (tn x) (hx (Or.inr rfl)).1).1.2 (Nat.le_of_lt_succ (hq (tn x) (hx (Or.inr rfl)).1).1.1)) rfl rfl (kQ (by omega)) (show _ < 86 by omega) (by decide) (Nat.le_of_ble_eq_true rfl) hcs (fun v w' hp => ?_)
    obtain ⟨rfl, rfl⟩ := hp
    refine x_st0 ?_
    refine x_goto a 99 144 d_D_communicate_99 (by decide) ?_
    exact x_vret a qf 144 d_D_communicate_144 rfl ⟨rfl, by unfold d_comm; first | (rw [if_neg s14_9, if_neg s14_10, if_neg s14_11, if_neg s14_12, if_neg s14_13, if_neg s14_14]; done) | (rw [if_pos rfl]; done) | (rw [if_neg (by decide), if_pos rfl]; done) | (rw [if_neg (by decide), if_neg (by decide), if_pos rfl]; done) | (rw [if_neg (by decide), if_neg (by decide), if_neg (by decide), if_pos rfl]; done) | (rw [if_neg (by decide), if_neg (by decide), if_neg (by decide), if_neg (by decide), if_pos rfl]; done) | (rw [if_neg (by decide), if_neg (by decide), if_neg (by decide), if_neg (by decide), if_neg (by decide), if_pos rfl]; done)⟩
  by_cases s14_11 : o = 11
  · subst s14_11
    refine x_tableIn a 14 102 88 d_D_communicate_14 (by decide) (by decide) rfl (by decide) ?_
    refine x_aload_n a 102 d_D_communicate_102 rfl ?_
    refine x_iload a 103 d_D_communicate_103 rfl ?_
    refine x_callV a qa 105 g_D_201 d_D_communicate_105 (c_P_takeInput _ hj hrx hin.1.2 hin.1.1 hin.2.2 (Nat.le_of_lt_succ hin.2.1)) rfl rfl (kP (by omega)) (show _ < 86 by omega) (by decide) (Nat.le_of_ble_eq_true rfl) hcs (fun v w' hp => ?_)
    obtain ⟨rfl, rfl⟩ := hp
    refine x_st0 ?_
    refine x_goto a 108 144 d_D_communicate_108 (by decide) ?_
    exact x_vret a qf 144 d_D_communicate_144 rfl ⟨rfl, by unfold d_comm; first | (rw [if_neg s14_9, if_neg s14_10, if_neg s14_11, if_neg s14_12, if_neg s14_13, if_neg s14_14]; done) | (rw [if_pos rfl]; done) | (rw [if_neg (by decide), if_pos rfl]; done) | (rw [if_neg (by decide), if_neg (by decide), if_pos rfl]; done) | (rw [if_neg (by decide), if_neg (by decide), if_neg (by decide), if_pos rfl]; done) | (rw [if_neg (by decide), if_neg (by decide), if_neg (by decide), if_neg (by decide), if_pos rfl]; done) | (rw [if_neg (by decide), if_neg (by decide), if_neg (by decide), if_neg (by decide), if_neg (by decide), if_pos rfl]; done)⟩
  by_cases s14_12 : o = 12
  · subst s14_12
    refine x_tableIn a 14 111 97 d_D_communicate_14 (by decide) (by decide) rfl (by decide) ?_
    refine x_aload_n a 111 d_D_communicate_111 rfl ?_
    refine x_aload_n a 112 d_D_communicate_112 rfl ?_
    refine x_getR a 113 f_D_188 d_D_communicate_113 (kP (by omega)) (by omega) (by decide) (rP4 (by omega)) ?_
    refine x_iload a 116 d_D_communicate_116 rfl ?_
    refine x_iald a 118 d_D_communicate_118 (kA8 (by omega)) (by omega) (j := (rg x)) rfl (by omega) (by decide) rfl ?_
    refine x_callV a qa 119 g_D_204 d_D_communicate_119 (c_P_putOut _ hj _ hou.2 hou.1) rfl rfl (kP (by omega)) (show _ < 86 by omega) (by decide) (Nat.le_of_ble_eq_true rfl) hcs (fun v w' hp => ?_)
    obtain ⟨rfl, rfl⟩ := hp
    refine x_st0 ?_
    refine x_goto a 122 144 d_D_communicate_122 (by decide) ?_
    exact x_vret a qf 144 d_D_communicate_144 rfl ⟨rfl, by unfold d_comm; first | (rw [if_neg s14_9, if_neg s14_10, if_neg s14_11, if_neg s14_12, if_neg s14_13, if_neg s14_14]; done) | (rw [if_pos rfl]; done) | (rw [if_neg (by decide), if_pos rfl]; done) | (rw [if_neg (by decide), if_neg (by decide), if_pos rfl]; done) | (rw [if_neg (by decide), if_neg (by decide), if_neg (by decide), if_pos rfl]; done) | (rw [if_neg (by decide), if_neg (by decide), if_neg (by decide), if_neg (by decide), if_pos rfl]; done) | (rw [if_neg (by decide), if_neg (by decide), if_neg (by decide), if_neg (by decide), if_neg (by decide), if_pos rfl]; done)⟩
  by_cases s14_13 : o = 13
  · subst s14_13
    refine x_tableIn a 14 125 111 d_D_communicate_14 (by decide) (by decide) rfl (by decide) ?_
    refine x_aload_n a 125 d_D_communicate_125 rfl ?_
    refine x_getR a 126 f_D_30 d_D_communicate_126 rfl (by omega) (by decide) rfl ?_
    refine x_iconst a 129 1 d_D_communicate_129 (by decide) ?_
    refine x_putI a 130 f_D_149 d_D_communicate_130 rfl (by omega) (by decide) rfl rfl rfl ?_
    refine x_goto a 133 144 d_D_communicate_133 (by decide) ?_
    exact x_vret a qf 144 d_D_communicate_144 rfl ⟨rfl, by unfold d_comm; first | (rw [if_neg s14_9, if_neg s14_10, if_neg s14_11, if_neg s14_12, if_neg s14_13, if_neg s14_14]; done) | (rw [if_pos rfl]; done) | (rw [if_neg (by decide), if_pos rfl]; done) | (rw [if_neg (by decide), if_neg (by decide), if_pos rfl]; done) | (rw [if_neg (by decide), if_neg (by decide), if_neg (by decide), if_pos rfl]; done) | (rw [if_neg (by decide), if_neg (by decide), if_neg (by decide), if_neg (by decide), if_pos rfl]; done) | (rw [if_neg (by decide), if_neg (by decide), if_neg (by decide), if_neg (by decide), if_neg (by decide), if_pos rfl]; done)⟩
  by_cases s14_14 : o = 14
  · subst s14_14
    refine x_tableIn a 14 136 122 d_D_communicate_14 (by decide) (by decide) rfl (by decide) ?_
    refine x_aload_n a 136 d_D_communicate_136 rfl ?_
    refine x_iconst a 137 0 d_D_communicate_137 (by decide) ?_
    refine x_putI a 138 f_D_146 d_D_communicate_138 (kP (by omega)) (by omega) (by decide) rfl rfl rfl ?_
    refine x_goto a 141 144 d_D_communicate_141 (by decide) ?_
    exact x_vret a qf 144 d_D_communicate_144 rfl ⟨rfl, by unfold d_comm; first | (rw [if_neg s14_9, if_neg s14_10, if_neg s14_11, if_neg s14_12, if_neg s14_13, if_neg s14_14]; done) | (rw [if_pos rfl]; done) | (rw [if_neg (by decide), if_pos rfl]; done) | (rw [if_neg (by decide), if_neg (by decide), if_pos rfl]; done) | (rw [if_neg (by decide), if_neg (by decide), if_neg (by decide), if_pos rfl]; done) | (rw [if_neg (by decide), if_neg (by decide), if_neg (by decide), if_neg (by decide), if_pos rfl]; done) | (rw [if_neg (by decide), if_neg (by decide), if_neg (by decide), if_neg (by decide), if_neg (by decide), if_pos rfl]; done)⟩
  refine x_tableOut a 14 144 d_D_communicate_14 (by (try simp (disch := omega) only [Int32.le_iff_toInt_le, Int32.lt_iff_toInt_lt, ← Int32.toInt_inj, Int32.reduceToInt, nI_1, nI_add, pk_sub, nI_toInt] at *); omega) (by decide) ?_
  exact x_vret a qf 144 d_D_communicate_144 rfl ⟨rfl, by unfold d_comm; first | (rw [if_neg s14_9, if_neg s14_10, if_neg s14_11, if_neg s14_12, if_neg s14_13, if_neg s14_14]; done) | (rw [if_pos rfl]; done) | (rw [if_neg (by decide), if_pos rfl]; done) | (rw [if_neg (by decide), if_neg (by decide), if_pos rfl]; done) | (rw [if_neg (by decide), if_neg (by decide), if_neg (by decide), if_pos rfl]; done) | (rw [if_neg (by decide), if_neg (by decide), if_neg (by decide), if_neg (by decide), if_pos rfl]; done) | (rw [if_neg (by decide), if_neg (by decide), if_neg (by decide), if_neg (by decide), if_neg (by decide), if_pos rfl]; done)⟩
set_option maxRecDepth 100000 in
set_option maxHeartbeats 4000000 in
theorem c_D_carryOut (h : Hp) {j : Nat} (hj : j < 4) (o x b : Int32) (hw : o = 5 ∨ o = 6 → Nlt (h (3 + 9 * j) 7 + h (8 + 9 * j) (rg b)) 64) (hx : o = 9 ∨ o = 10 → Nlt x 6) (hq : ∀ i, i < 6 → Nlt (h (40 + 3 * i) 3) 5 ∧ Nlt (h (41 + 3 * i) 1) 4 ∧ Nlt (h (41 + 3 * i) 2) 5) (hin : Nlt (h (9 + 9 * j) 1) 8 ∧ Nlt (h (9 + 9 * j) 2) 9) (hou : Nlt (h (3 + 9 * j) 12) (2 ^ 30)) : Cn u_D_carryOut 3 0 0 (w0 h) [.inr (some 0), .inr (some (3 + 9 * j)), .inl o, .inl x, .inl b] (fun r w' => r = none ∧ w' = w0 (d_carry h j o x b)) := by
  refine Cn.of (by decide +kernel) (Nat.le_of_ble_eq_true rfl) (fun E ad a qf => ?_)
  have qa := qf.2.2.2
  have hcs : 0 ≤ (eR E).cells ∧ 0 ≤ (eR E).slots := ⟨Nat.zero_le _, Nat.zero_le _⟩
  refine x_aload_n a 0 d_D_carryOut_0 rfl ?_
  refine x_dup a 1 d_D_carryOut_1 ?_
  refine x_getI a 2 f_D_159 d_D_carryOut_2 (kP (by omega)) (by omega) (by decide) rfl ?_
  refine x_iconst a 5 1 d_D_carryOut_5 (by decide) ?_
  refine x_iadd a 6 d_D_carryOut_6 ?_
  refine x_putI a 7 f_D_159 d_D_carryOut_7 (kP (by omega)) (by omega) (by decide) rfl rfl rfl ?_
  refine x_iload_n a 10 d_D_carryOut_10 rfl ?_
  refine x_bipush a 11 6 d_D_carryOut_11 (by decide) ?_
  refine x_icmp_gt a 13 28 d_D_carryOut_13 (by decide) (fun c13 => ?_) (fun c13 => ?_)
  · refine x_iload_n a 28 d_D_carryOut_28 rfl ?_
    refine x_bipush a 29 8 d_D_carryOut_29 (by decide) ?_
    refine x_icmp_gt a 31 45 d_D_carryOut_31 (by decide) (fun c31 => ?_) (fun c31 => ?_)
    · refine x_aload_n a 45 d_D_carryOut_45 rfl ?_
      refine x_aload_n a 46 d_D_carryOut_46 rfl ?_
      refine x_iload_n a 47 d_D_carryOut_47 rfl ?_
      refine x_iload_n a 48 d_D_carryOut_48 rfl ?_
      refine x_iload a 49 d_D_carryOut_49 rfl ?_
      refine x_callV a qa 51 g_D_182 d_D_carryOut_51 (c_D_communicate _ hj _ _ _ hx (fun i hi => by rw [up2_o _ _ _ (by omega), up2_o _ _ _ (by omega)]; exact hq i hi) (by rw [up2_o _ _ _ (by omega)]; exact hin) (by rw [up2_k _ _ _ (by decide)]; exact hou)) rfl rfl rfl (show _ < 86 by omega) (by decide) (Nat.le_of_ble_eq_true rfl) hcs (fun v w' hp => ?_)
      obtain ⟨rfl, rfl⟩ := hp
      refine x_st0 ?_
      exact x_vret a qf 54 d_D_carryOut_54 rfl ⟨rfl, by unfold d_carry; first | (rw [if_pos (Int32.not_lt.mp c13)]; done) | (rw [if_neg (Int32.not_le.mpr c13), if_pos (Int32.not_lt.mp c31)]; done) | (rw [if_neg (Int32.not_le.mpr c13), if_neg (Int32.not_le.mpr c31)]; done)⟩
    · refine x_aload_n a 34 d_D_carryOut_34 rfl ?_
      refine x_iload_n a 35 d_D_carryOut_35 rfl ?_
      refine x_iload_n a 36 d_D_carryOut_36 rfl ?_
      refine x_iload a 37 d_D_carryOut_37 rfl ?_
      refine x_callS a qa 39 g_D_179 d_D_carryOut_39 (c_D_jump _ hj _ _ _) rfl rfl (by decide) (Nat.le_of_ble_eq_true rfl) hcs (fun v w' hp => ?_)
      obtain ⟨rfl, rfl⟩ := hp
      refine x_st0 ?_
      refine x_goto a 42 54 d_D_carryOut_42 (by decide) ?_
      exact x_vret a qf 54 d_D_carryOut_54 rfl ⟨rfl, by unfold d_carry; first | (rw [if_pos (Int32.not_lt.mp c13)]; done) | (rw [if_neg (Int32.not_le.mpr c13), if_pos (Int32.not_lt.mp c31)]; done) | (rw [if_neg (Int32.not_le.mpr c13), if_neg (Int32.not_le.mpr c31)]; done)⟩
  · refine x_aload_n a 16 d_D_carryOut_16 rfl ?_
    refine x_aload_n a 17 d_D_carryOut_17 rfl ?_
    refine x_iload_n a 18 d_D_carryOut_18 rfl ?_
    refine x_iload_n a 19 d_D_carryOut_19 rfl ?_
    refine x_iload a 20 d_D_carryOut_20 rfl ?_
    refine x_callV a qa 22 g_D_176 d_D_carryOut_22 (c_D_compute _ hj _ _ _ (by rw [up2_k _ _ _ (by decide), up2_o _ _ _ (by omega)]; exact hw)) rfl rfl rfl (show _ < 86 by omega) (by decide) (Nat.le_of_ble_eq_true rfl) hcs (fun v w' hp => ?_)
    obtain ⟨rfl, rfl⟩ := hp
    refine x_st0 ?_
    refine x_goto a 25 54 d_D_carryOut_25 (by decide) ?_
    exact x_vret a qf 54 d_D_carryOut_54 rfl ⟨rfl, by unfold d_carry; first | (rw [if_pos (Int32.not_lt.mp c13)]; done) | (rw [if_neg (Int32.not_le.mpr c13), if_pos (Int32.not_lt.mp c31)]; done) | (rw [if_neg (Int32.not_le.mpr c13), if_neg (Int32.not_le.mpr c31)]; done)⟩
end
section
/-- what the desk's cells keep to -/
def IC (h : Hp) : Prop :=
  (∀ j, j < 4 → Nlt (h (9 + 9 * j) 1) 8 ∧ Nlt (h (9 + 9 * j) 2) 9 ∧ Nlt (h (3 + 9 * j) 7) 65 ∧ Nlt (h (3 + 9 * j) 8) 33 ∧ tn (h (3 + 9 * j) 7) + tn (h (3 + 9 * j) 8) ≤ 64 ∧ Nlt (h (3 + 9 * j) 12) (2 ^ 30)) ∧
  Nlt (h 0 4) 7 ∧ (∀ i, i < tn (h 0 4) → Nlt (h (40 + 3 * i) 1) 4 ∧ Nlt (h (40 + 3 * i) 2) 4) ∧
  (∀ i, i < 6 → Nlt (h (40 + 3 * i) 3) 5 ∧ Nlt (h (41 + 3 * i) 1) 4 ∧ Nlt (h (41 + 3 * i) 2) 5) ∧
  Nlt (h 58 2) 9 ∧ (∀ k, k < tn (h 58 2) → Nlt (h 59 k) 4 ∧ Nlt (h 60 k) 10)
theorem IC.p {h : Hp} (I : IC h) {j : Nat} (hj : j < 4) : Nlt (h (9 + 9 * j) 1) 8 ∧ Nlt (h (9 + 9 * j) 2) 9 ∧ Nlt (h (3 + 9 * j) 7) 65 ∧ Nlt (h (3 + 9 * j) 8) 33 ∧ tn (h (3 + 9 * j) 7) + tn (h (3 + 9 * j) 8) ≤ 64 ∧ Nlt (h (3 + 9 * j) 12) (2 ^ 30) := I.1 j hj
theorem IC.n {h : Hp} (I : IC h) : Nlt (h 0 4) 7 := I.2.1
theorem IC.s {h : Hp} (I : IC h) : ∀ i, i < tn (h 0 4) → Nlt (h (40 + 3 * i) 1) 4 ∧ Nlt (h (40 + 3 * i) 2) 4 := I.2.2.1
theorem IC.q {h : Hp} (I : IC h) : ∀ i, i < 6 → Nlt (h (40 + 3 * i) 3) 5 ∧ Nlt (h (41 + 3 * i) 1) 4 ∧ Nlt (h (41 + 3 * i) 2) 5 := I.2.2.2.1
theorem IC.w {h : Hp} (I : IC h) : Nlt (h 58 2) 9 := I.2.2.2.2.1
theorem IC.f {h : Hp} (I : IC h) : ∀ k, k < tn (h 58 2) → Nlt (h 59 k) 4 ∧ Nlt (h 60 k) 10 := I.2.2.2.2.2
theorem fault0_w {h : Hp} (I : IC h) {j : Nat} (hj : j < 4) {o x b : Int32} (h0 : d_fault h j o x b = 0) : o = 5 ∨ o = 6 → Nlt (h (3 + 9 * j) 7 + h (8 + 9 * j) (rg b)) 64 := by
  intro ho
  unfold d_fault at h0
  rw [if_pos ho] at h0
  by_cases hc : 0 ≤ h (8 + 9 * j) (rg b) ∧ h (8 + 9 * j) (rg b) < h (3 + 9 * j) 8
  · obtain ⟨-, -, hf, hs, hfs, -⟩ := I.p hj
    have h1 := tn_lt hc.1 hc.2
    have h2 := nn_tn hc.1
    refine Nlt.of (k := tn (h (3 + 9 * j) 7) + tn (h (8 + 9 * j) (rg b))) ?_ (by omega) (by decide)
    rw [hf.2, h2, nI_add, ← h2, ← hf.2]
  · rw [if_neg hc] at h0
    cases h0
theorem fault0_x {h : Hp} (I : IC h) {j : Nat} {o x b : Int32} (h0 : d_fault h j o x b = 0) : o = 9 ∨ o = 10 → Nlt x 6 := by
  intro ho
  have h4 := I.n.1
  have key : (0 ≤ x ∧ x < h 0 4) → Nlt x 6 := fun z => ⟨by have := tn_lt z.1 z.2; omega, nn_tn z.1⟩
  unfold d_fault at h0
  rcases ho with rfl | rfl
  · rw [if_neg (by decide), if_pos rfl] at h0
    by_cases hc : (0 ≤ x ∧ x < h 0 4) ∧ h (40 + 3 * tn x) 1 = nI j
    · exact key hc.1
    · rw [if_neg hc] at h0
      cases h0
  · rw [if_neg (by decide), if_neg (by decide), if_pos rfl] at h0
    by_cases hc : (0 ≤ x ∧ x < h 0 4) ∧ h (40 + 3 * tn x) 2 = nI j
    · exact key hc.1
    · rw [if_neg hc] at h0
      cases h0
def d_step (h : Hp) (j : Nat) : Hp :=
  if 0 ≤ h (3 + 9 * j) 9 ∧ h (3 + 9 * j) 9 < 16 then
    (if d_fault h j (h (4 + 9 * j) (tn (h (3 + 9 * j) 9))) (h (5 + 9 * j) (tn (h (3 + 9 * j) 9))) (h (6 + 9 * j) (tn (h (3 + 9 * j) 9))) = 0 then d_carry h j (h (4 + 9 * j) (tn (h (3 + 9 * j) 9))) (h (5 + 9 * j) (tn (h (3 + 9 * j) 9))) (h (6 + 9 * j) (tn (h (3 + 9 * j) 9)))
     else d_answer h j (d_fault h j (h (4 + 9 * j) (tn (h (3 + 9 * j) 9))) (h (5 + 9 * j) (tn (h (3 + 9 * j) 9))) (h (6 + 9 * j) (tn (h (3 + 9 * j) 9)))))
  else d_answer h j 4
set_option maxRecDepth 100000 in
set_option maxHeartbeats 4000000 in
theorem c_D_doInstruction (h : Hp) (I : IC h) {j : Nat} (hj : j < 4) : Cn u_D_doInstruction 4 0 0 (w0 h) [.inr (some 0), .inl (nI j)] (fun r w' => r = none ∧ w' = w0 (d_step h j)) := by
  refine Cn.of (by decide +kernel) (Nat.le_of_ble_eq_true rfl) (fun E ad a qf => ?_)
  have qa := qf.2.2.2
  have hcs : 0 ≤ (eR E).cells ∧ 0 ≤ (eR E).slots := ⟨Nat.zero_le _, Nat.zero_le _⟩
  obtain ⟨pl, hpl⟩ : ∃ z, z = h (3 + 9 * j) 9 := ⟨_, rfl⟩
  refine x_aload_n a 0 d_D_doInstruction_0 rfl ?_
  refine x_getR a 1 f_D_15 d_D_doInstruction_1 rfl (by omega) (by decide) rfl ?_
  refine x_iload_n a 4 d_D_doInstruction_4 rfl ?_
  refine x_aald2 a 5 d_D_doInstruction_5 rfl (by omega) (j := j) rfl (by omega) (by decide) (rPs (by omega)) ?_
  refine x_astore_n a 6 d_D_doInstruction_6 (by decide) ?_
  refine x_aload_n a 7 d_D_doInstruction_7 rfl ?_
  refine x_getI a 8 f_D_159 d_D_doInstruction_8 (kP (by omega)) (by omega) (by decide) (v := pl) hpl.symm ?_
  refine x_istore_n a 11 d_D_doInstruction_11 (by decide) ?_
  refine x_iload_n a 12 d_D_doInstruction_12 rfl ?_
  refine x_if_lt a 13 22 d_D_doInstruction_13 (by decide) (fun c13 => ?_) (fun c13 => ?_)
  · refine x_aload_n a 22 d_D_doInstruction_22 rfl ?_
    refine x_iload_n a 23 d_D_doInstruction_23 rfl ?_
    refine x_iconst a 24 4 d_D_doInstruction_24 (by decide) ?_
    refine x_callV a qa 25 g_D_162 d_D_doInstruction_25 (c_D_answerFault _ hj I.n (I.p hj).2.2.1 (I.p hj).2.2.2.1 (I.p hj).2.2.2.2.1 (f := 4) (by decide) (by decide)) rfl rfl rfl (show _ < 86 by omega) (by decide) (Nat.le_of_ble_eq_true rfl) hcs (fun v w' hp => ?_)
    obtain ⟨rfl, rfl⟩ := hp
    refine x_st0 ?_
    exact x_vret a qf 28 d_D_doInstruction_28 rfl ⟨rfl, by unfold d_step; rw [← hpl, if_neg (by (try simp (disch := omega) only [Int32.le_iff_toInt_le, Int32.lt_iff_toInt_lt, ← Int32.toInt_inj, Int32.reduceToInt, nI_1, nI_add, pk_sub, nI_toInt] at *); omega)]⟩
  · refine x_iload_n a 16 d_D_doInstruction_16 rfl ?_
    refine x_bipush a 17 16 d_D_doInstruction_17 (by decide) ?_
    refine x_icmp_lt a 19 29 d_D_doInstruction_19 (by decide) (fun c19 => ?_) (fun c19 => ?_)
    · obtain ⟨n, hn16, rfl⟩ := vp_in_of (x := pl) (n := 16) (vp_in_iff.mpr (by (try simp (disch := omega) only [Int32.le_iff_toInt_le, Int32.lt_iff_toInt_lt, ← Int32.toInt_inj, Int32.reduceToInt, nI_1, nI_add, pk_sub, nI_toInt] at *); omega)) (by decide)
      refine x_aload_n a 29 d_D_doInstruction_29 rfl ?_
      refine x_iload_n a 30 d_D_doInstruction_30 rfl ?_
      refine x_aload_n a 31 d_D_doInstruction_31 rfl ?_
      refine x_getR a 32 f_D_70 d_D_doInstruction_32 (kP (by omega)) (by omega) (by decide) (rP0 (by omega)) ?_
      refine x_iload_n a 35 d_D_doInstruction_35 rfl ?_
      refine x_iald a 36 d_D_doInstruction_36 (kA4 (by omega)) (by omega) (j := n) rfl hn16 (by decide) rfl ?_
      refine x_aload_n a 37 d_D_doInstruction_37 rfl ?_
      refine x_getR a 38 f_D_73 d_D_doInstruction_38 (kP (by omega)) (by omega) (by decide) (rP1 (by omega)) ?_
      refine x_iload_n a 41 d_D_doInstruction_41 rfl ?_
      refine x_iald a 42 d_D_doInstruction_42 (kA5 (by omega)) (by omega) (j := n) rfl hn16 (by decide) rfl ?_
      refine x_aload_n a 43 d_D_doInstruction_43 rfl ?_
      refine x_getR a 44 f_D_76 d_D_doInstruction_44 (kP (by omega)) (by omega) (by decide) (rP2 (by omega)) ?_
      refine x_iload_n a 47 d_D_doInstruction_47 rfl ?_
      refine x_iald a 48 d_D_doInstruction_48 (kA6 (by omega)) (by omega) (j := n) rfl hn16 (by decide) rfl ?_
      refine x_callV a qa 49 g_D_165 d_D_doInstruction_49 (c_D_faultAhead _ hj I.n _ _ _) rfl rfl rfl (show _ < 86 by omega) (by decide) (Nat.le_of_ble_eq_true rfl) hcs (fun v w' hp => ?_)
      obtain ⟨rfl, rfl⟩ := hp
      refine x_st1 ?_
      refine x_istore a 52 d_D_doInstruction_52 (by decide) ?_
      refine x_iload a 54 d_D_doInstruction_54 rfl ?_
      refine x_if_eq a 56 67 d_D_doInstruction_56 (by decide) (fun c56 => ?_) (fun c56 => ?_)
      · have hfl : (d_fault h j (h (4 + 9 * j) n) (h (5 + 9 * j) n) (h (6 + 9 * j) n)) = 0 := by have := d_fault_le h j (h (4 + 9 * j) n) (h (5 + 9 * j) n) (h (6 + 9 * j) n); exact (by (try simp (disch := omega) only [Int32.le_iff_toInt_le, Int32.lt_iff_toInt_lt, ← Int32.toInt_inj, Int32.reduceToInt, nI_1, nI_add, pk_sub, nI_toInt] at *); omega)
        refine x_aload_n a 67 d_D_doInstruction_67 rfl ?_
        refine x_aload_n a 68 d_D_doInstruction_68 rfl ?_
        refine x_aload_n a 69 d_D_doInstruction_69 rfl ?_
        refine x_getR a 70 f_D_70 d_D_doInstruction_70 (kP (by omega)) (by omega) (by decide) (rP0 (by omega)) ?_
        refine x_iload_n a 73 d_D_doInstruction_73 rfl ?_
        refine x_iald a 74 d_D_doInstruction_74 (kA4 (by omega)) (by omega) (j := n) rfl hn16 (by decide) rfl ?_
        refine x_aload_n a 75 d_D_doInstruction_75 rfl ?_
        refine x_getR a 76 f_D_73 d_D_doInstruction_76 (kP (by omega)) (by omega) (by decide) (rP1 (by omega)) ?_
        refine x_iload_n a 79 d_D_doInstruction_79 rfl ?_
        refine x_iald a 80 d_D_doInstruction_80 (kA5 (by omega)) (by omega) (j := n) rfl hn16 (by decide) rfl ?_
        refine x_aload_n a 81 d_D_doInstruction_81 rfl ?_
        refine x_getR a 82 f_D_76 d_D_doInstruction_82 (kP (by omega)) (by omega) (by decide) (rP2 (by omega)) ?_
        refine x_iload_n a 85 d_D_doInstruction_85 rfl ?_
        refine x_iald a 86 d_D_doInstruction_86 (kA6 (by omega)) (by omega) (j := n) rfl hn16 (by decide) rfl ?_
        refine x_callV a qa 87 g_D_169 d_D_doInstruction_87 (c_D_carryOut _ hj _ _ _ (fault0_w I hj hfl) (fault0_x I hfl) I.q ⟨(I.p hj).1, (I.p hj).2.1⟩ (I.p hj).2.2.2.2.2) rfl rfl rfl (show _ < 86 by omega) (by decide) (Nat.le_of_ble_eq_true rfl) hcs (fun v w' hp => ?_)
        obtain ⟨rfl, rfl⟩ := hp
        refine x_st0 ?_
        exact x_vret a qf 90 d_D_doInstruction_90 rfl ⟨rfl, by unfold d_step; rw [← hpl, tn_nI (by omega), if_pos (by (try simp (disch := omega) only [Int32.le_iff_toInt_le, Int32.lt_iff_toInt_lt, ← Int32.toInt_inj, Int32.reduceToInt, nI_1, nI_add, pk_sub, nI_toInt] at *); omega), if_pos hfl]⟩
      · have hfl : ¬ (d_fault h j (h (4 + 9 * j) n) (h (5 + 9 * j) n) (h (6 + 9 * j) n)) = 0 := fun z => c56 (by rw [z]; rfl)
        have hfm := d_fault_le h j (h (4 + 9 * j) n) (h (5 + 9 * j) n) (h (6 + 9 * j) n)
        refine x_aload_n a 59 d_D_doInstruction_59 rfl ?_
        refine x_iload_n a 60 d_D_doInstruction_60 rfl ?_
        refine x_iload a 61 d_D_doInstruction_61 rfl ?_
        refine x_callV a qa 63 g_D_162 d_D_doInstruction_63 (c_D_answerFault _ hj I.n (I.p hj).2.2.1 (I.p hj).2.2.2.1 (I.p hj).2.2.2.2.1 (by omega) (by omega)) rfl rfl rfl (show _ < 86 by omega) (by decide) (Nat.le_of_ble_eq_true rfl) hcs (fun v w' hp => ?_)
        obtain ⟨rfl, rfl⟩ := hp
        refine x_st0 ?_
        exact x_vret a qf 66 d_D_doInstruction_66 rfl ⟨rfl, by unfold d_step; rw [← hpl, tn_nI (by omega), if_pos (by (try simp (disch := omega) only [Int32.le_iff_toInt_le, Int32.lt_iff_toInt_lt, ← Int32.toInt_inj, Int32.reduceToInt, nI_1, nI_add, pk_sub, nI_toInt] at *); omega), if_neg hfl]⟩
    · refine x_aload_n a 22 d_D_doInstruction_22 rfl ?_
      refine x_iload_n a 23 d_D_doInstruction_23 rfl ?_
      refine x_iconst a 24 4 d_D_doInstruction_24 (by decide) ?_
      refine x_callV a qa 25 g_D_162 d_D_doInstruction_25 (c_D_answerFault _ hj I.n (I.p hj).2.2.1 (I.p hj).2.2.2.1 (I.p hj).2.2.2.2.1 (f := 4) (by decide) (by decide)) rfl rfl rfl (show _ < 86 by omega) (by decide) (Nat.le_of_ble_eq_true rfl) hcs (fun v w' hp => ?_)
      obtain ⟨rfl, rfl⟩ := hp
      refine x_st0 ?_
      exact x_vret a qf 28 d_D_doInstruction_28 rfl ⟨rfl, by unfold d_step; rw [← hpl, if_neg (by (try simp (disch := omega) only [Int32.le_iff_toInt_le, Int32.lt_iff_toInt_lt, ← Int32.toInt_inj, Int32.reduceToInt, nI_1, nI_add, pk_sub, nI_toInt] at *); omega)]⟩
/-- the table and the frame's own numbers stay -/
def Kp (h g : Hp) : Prop := g 0 = h 0 ∧ g 59 = h 59 ∧ g 60 = h 60 ∧ ∀ k, k ≠ 6 → g 58 k = h 58 k
theorem Kp.rf {h : Hp} : Kp h h := ⟨rfl, rfl, rfl, fun _ _ => rfl⟩
theorem Kp.tr {h g f : Hp} (a : Kp h g) (b : Kp g f) : Kp h f := ⟨b.1.trans a.1, b.2.1.trans a.2.1, b.2.2.1.trans a.2.2.1, fun k hk => (b.2.2.2 k hk).trans (a.2.2.2 k hk)⟩
theorem Kp.up {h g : Hp} (a : Kp h g) {o k : Nat} {x : Int32} (ho : o ≠ 0 ∧ o ≠ 58 ∧ o ≠ 59 ∧ o ≠ 60) : Kp h (up2 g o k x) := a.tr ⟨up2_o _ _ _ (Ne.symm ho.1), up2_o _ _ _ (Ne.symm ho.2.2.1), up2_o _ _ _ (Ne.symm ho.2.2.2), fun z _ => by rw [up2_o _ _ _ (Ne.symm ho.2.1)]⟩
theorem Kp.w {h g : Hp} (a : Kp h g) {x : Int32} : Kp h (up2 g 58 6 x) := a.tr ⟨up2_o _ _ _ (by decide), up2_o _ _ _ (by decide), up2_o _ _ _ (by decide), fun z hz => up2_k _ _ _ hz⟩
theorem Kp.of {h g : Hp} (a : ∀ o, (o = 0 ∨ o = 58 ∨ o = 59 ∨ o = 60) → g o = h o) : Kp h g := ⟨a 0 (by omega), a 59 (by omega), a 60 (by omega), fun k _ => by rw [a 58 (by omega)]⟩
theorem kp_clear (h : Hp) {j : Nat} (hj : j < 4) : Kp h (p_clear h j) := Kp.of (fun o ho => p_clear_o h (by omega) (by omega))
theorem kp_restart (h : Hp) {j : Nat} (hj : j < 4) (hn : Nlt (h 0 4) 7) : Kp h (d_restart h j) := Kp.of (fun o ho => by
  have hn1 := hn.1
  unfold d_restart
  rw [r_prt_o _ _ _ (fun i hi => by omega), r_mem_o _ _ (by omega), p_clear_o _ (by omega) (by omega)])
theorem kp_answer (h : Hp) {j f : Nat} (hj : j < 4) (hn : Nlt (h 0 4) 7) : Kp h (d_answer h j f) := by
  unfold d_answer
  split
  · exact (Kp.rf.up (by omega)).tr (kp_restart _ hj (by rw [up2_o _ _ _ (by omega)]; exact hn))
  split
  · exact (Kp.rf.up (by omega)).up (by omega)
  · exact (Kp.rf.up (by omega)).up (by omega)
theorem kp_compute (h : Hp) {j : Nat} (hj : j < 4) (o x b : Int32) : Kp h (d_compute h j o x b) := by
  unfold d_compute
  repeat' split
  all_goals first | exact Kp.rf | exact Kp.rf.up (by omega)
theorem kp_send (h : Hp) {i j y f c dp : Nat} {now : Int32} (hi : i < 6) (hj : j < 4) : Kp h (s_send h i j y now f c dp) := by
  unfold s_send q_put
  repeat' split
  · exact ((((Kp.rf.up (by omega)).up (by omega)).up (by omega)).up (by omega)).up (by omega)
  · exact ((Kp.rf.up (by omega)).up (by omega)).up (by omega)
  · exact Kp.rf.up (by omega)
theorem kp_take (h : Hp) {q f c len : Nat} (hq : q ≠ 0 ∧ q ≠ 58 ∧ q ≠ 59 ∧ q ≠ 60) : Kp h (q_take h q f c len) := by
  unfold q_take
  split
  · exact (Kp.rf.up hq).up hq
  · exact Kp.rf
theorem kp_recv (h : Hp) {i j y f c dp : Nat} {now : Int32} (hi : i < 6) (hj : j < 4) : Kp h (s_recv h i j y now f c dp) := by
  unfold s_recv
  split
  · exact Kp.rf.up (by omega)
  split
  · exact (Kp.rf.up (by omega)).up (by omega)
  · exact ((kp_take h (by omega)).up (by omega)).up (by omega)
theorem kp_comm (h : Hp) {j : Nat} (hj : j < 4) {o x b : Int32} (hx : o = 9 ∨ o = 10 → Nlt x 6) : Kp h (d_comm h j o x b) := by
  unfold d_comm
  split
  · exact kp_send h (hx (Or.inl (by assumption))).1 hj
  split
  · exact kp_recv h (hx (Or.inr (by assumption))).1 hj
  split
  · exact ((kp_take h (by omega)).up (by omega)).up (by omega)
  split
  · unfold p_out
    split
    · exact (Kp.rf.up (by omega)).up (by omega)
    · exact Kp.rf.up (by omega)
  split
  · exact Kp.rf.w
  split
  · exact Kp.rf.up (by omega)
  · exact Kp.rf
theorem kp_jump (h : Hp) {j : Nat} (hj : j < 4) (o x b : Int32) : Kp h (d_jump h j o x b) := by
  unfold d_jump
  split
  · exact Kp.rf.up (by omega)
  · exact Kp.rf
theorem kp_carry (h : Hp) {j : Nat} (hj : j < 4) {o x b : Int32} (hx : o = 9 ∨ o = 10 → Nlt x 6) : Kp h (d_carry h j o x b) := by
  unfold d_carry
  split
  · exact (Kp.rf.up (by omega)).tr (kp_compute _ hj _ _ _)
  split
  · exact (Kp.rf.up (by omega)).tr (kp_jump _ hj _ _ _)
  · exact (Kp.rf.up (by omega)).tr (kp_comm _ hj hx)
theorem kp_step {h : Hp} (I : IC h) {j : Nat} (hj : j < 4) : Kp h (d_step h j) := by
  unfold d_step
  split
  · split
    · exact kp_carry h hj (fault0_x I (by assumption))
    · exact kp_answer h hj I.n
  · exact kp_answer h hj I.n
def d_tick (h : Hp) (a0 n j v l : Nat) : Hp := f_end (if ¬ h (3 + 9 * j) 10 = 0 ∧ h 58 6 = 0 then d_step h j else h) a0 n v l
set_option maxRecDepth 100000 in
set_option maxHeartbeats 4000000 in
theorem c_D_passTick (h : Hp) (I : IC h) {a0 n j v l : Nat} (ha : h 58 3 = nI a0) (hn : h 58 2 = nI n) (han : a0 < n) (hn8 : n ≤ 8) (hown : h 59 a0 = nI j) (hj : j < 4) (hv : h 58 4 = nI v) (hv9 : v < 1000) (hl : h 60 a0 = nI l) (hl9 : l < 1000) : Cn u_D_passTick 5 0 0 (w0 h) [.inr (some 0)] (fun r w' => r = some (bI (¬ h (3 + 9 * j) 10 = 0 ∧ h 58 6 = 0)) ∧ w' = w0 (d_tick h a0 n j v l)) := by
  refine Cn.of (by decide +kernel) (Nat.le_of_ble_eq_true rfl) (fun E ad a qf => ?_)
  have qa := qf.2.2.2
  have hcs : 0 ≤ (eR E).cells ∧ 0 ≤ (eR E).slots := ⟨Nat.zero_le _, Nat.zero_le _⟩
  refine x_aload_n a 0 d_D_passTick_0 rfl ?_
  refine x_getR a 1 f_D_30 d_D_passTick_1 rfl (by omega) (by decide) rfl ?_
  refine x_callV a qa 4 g_D_143 d_D_passTick_4 (c_F_partitionAtHand _ ha (by omega)) rfl rfl rfl (show _ < 86 by omega) (by decide) (Nat.le_of_ble_eq_true rfl) hcs (fun v w' hp => ?_)
  obtain ⟨rfl, rfl⟩ := hp
  refine x_st1 ?_
  refine x_push hown ?_
  refine x_istore_n a 7 d_D_passTick_7 (by decide) ?_
  refine x_aload_n a 8 d_D_passTick_8 rfl ?_
  refine x_getR a 9 f_D_15 d_D_passTick_9 rfl (by omega) (by decide) rfl ?_
  refine x_iload_n a 12 d_D_passTick_12 rfl ?_
  refine x_aald2 a 13 d_D_passTick_13 rfl (by omega) (j := j) rfl (by omega) (by decide) (rPs (by omega)) ?_
  refine x_getI a 14 f_D_146 d_D_passTick_14 (kP (by omega)) (by omega) (by decide) rfl ?_
  refine x_if_eq a 17 34 d_D_passTick_17 (by decide) (fun c17 => ?_) (fun c17 => ?_)
  · refine x_iconst a 34 0 d_D_passTick_34 (by decide) ?_
    refine x_istore_n a 35 d_D_passTick_35 (by decide) ?_
    refine x_iload_n a 36 d_D_passTick_36 rfl ?_
    refine x_if_eq a 37 45 d_D_passTick_37 (by decide) (fun _ => ?_) (fun z => absurd z (by decide))
    refine x_aload_n a 45 d_D_passTick_45 rfl ?_
    refine x_getR a 46 f_D_30 d_D_passTick_46 rfl (by omega) (by decide) rfl ?_
    refine x_callV a qa 49 g_D_156 d_D_passTick_49 (c_F_endTick _ (a0 := a0) (n := n) (v := v) (l := l) (by first | exact ha | (rw [(kp_step I hj).2.2.2 3 (by decide)]; exact ha)) (by first | exact hn | (rw [(kp_step I hj).2.2.2 2 (by decide)]; exact hn)) han hn8 (by first | exact hv | (rw [(kp_step I hj).2.2.2 4 (by decide)]; exact hv)) hv9 (by first | exact hl | (rw [(kp_step I hj).2.2.1]; exact hl)) hl9) rfl rfl rfl (show _ < 86 by omega) (by decide) (Nat.le_of_ble_eq_true rfl) hcs (fun v w' hp => ?_)
    obtain ⟨rfl, rfl⟩ := hp
    refine x_st0 ?_
    refine x_iload_n a 52 d_D_passTick_52 rfl ?_
    exact x_zret a qf 53 d_D_passTick_53 rfl rfl ⟨by rw [bI_f (by rintro ⟨z, y⟩; first | exact z c17 | exact c27 y)], by unfold d_tick; rw [if_neg (by rintro ⟨z, y⟩; first | exact z c17 | exact c27 y)]⟩
  · refine x_aload_n a 20 d_D_passTick_20 rfl ?_
    refine x_getR a 21 f_D_30 d_D_passTick_21 rfl (by omega) (by decide) rfl ?_
    refine x_getI a 24 f_D_149 d_D_passTick_24 rfl (by omega) (by decide) rfl ?_
    refine x_if_ne a 27 34 d_D_passTick_27 (by decide) (fun c27 => ?_) (fun c27 => ?_)
    · refine x_iconst a 34 0 d_D_passTick_34 (by decide) ?_
      refine x_istore_n a 35 d_D_passTick_35 (by decide) ?_
      refine x_iload_n a 36 d_D_passTick_36 rfl ?_
      refine x_if_eq a 37 45 d_D_passTick_37 (by decide) (fun _ => ?_) (fun z => absurd z (by decide))
      refine x_aload_n a 45 d_D_passTick_45 rfl ?_
      refine x_getR a 46 f_D_30 d_D_passTick_46 rfl (by omega) (by decide) rfl ?_
      refine x_callV a qa 49 g_D_156 d_D_passTick_49 (c_F_endTick _ (a0 := a0) (n := n) (v := v) (l := l) (by first | exact ha | (rw [(kp_step I hj).2.2.2 3 (by decide)]; exact ha)) (by first | exact hn | (rw [(kp_step I hj).2.2.2 2 (by decide)]; exact hn)) han hn8 (by first | exact hv | (rw [(kp_step I hj).2.2.2 4 (by decide)]; exact hv)) hv9 (by first | exact hl | (rw [(kp_step I hj).2.2.1]; exact hl)) hl9) rfl rfl rfl (show _ < 86 by omega) (by decide) (Nat.le_of_ble_eq_true rfl) hcs (fun v w' hp => ?_)
      obtain ⟨rfl, rfl⟩ := hp
      refine x_st0 ?_
      refine x_iload_n a 52 d_D_passTick_52 rfl ?_
      exact x_zret a qf 53 d_D_passTick_53 rfl rfl ⟨by rw [bI_f (by rintro ⟨z, y⟩; first | exact z c17 | exact c27 y)], by unfold d_tick; rw [if_neg (by rintro ⟨z, y⟩; first | exact z c17 | exact c27 y)]⟩
    · refine x_iconst a 30 1 d_D_passTick_30 (by decide) ?_
      refine x_goto a 31 35 d_D_passTick_31 (by decide) ?_
      refine x_istore_n a 35 d_D_passTick_35 (by decide) ?_
      refine x_iload_n a 36 d_D_passTick_36 rfl ?_
      refine x_if_eq a 37 45 d_D_passTick_37 (by decide) (fun z => absurd z (by decide)) (fun _ => ?_)
      refine x_aload_n a 40 d_D_passTick_40 rfl ?_
      refine x_iload_n a 41 d_D_passTick_41 rfl ?_
      refine x_callV a qa 42 g_D_152 d_D_passTick_42 (c_D_doInstruction _ I hj) rfl rfl rfl (show _ < 86 by omega) (by decide) (Nat.le_of_ble_eq_true rfl) hcs (fun v w' hp => ?_)
      obtain ⟨rfl, rfl⟩ := hp
      refine x_st0 ?_
      refine x_aload_n a 45 d_D_passTick_45 rfl ?_
      refine x_getR a 46 f_D_30 d_D_passTick_46 rfl (by omega) (by decide) rfl ?_
      refine x_callV a qa 49 g_D_156 d_D_passTick_49 (c_F_endTick _ (a0 := a0) (n := n) (v := v) (l := l) (by first | exact ha | (rw [(kp_step I hj).2.2.2 3 (by decide)]; exact ha)) (by first | exact hn | (rw [(kp_step I hj).2.2.2 2 (by decide)]; exact hn)) han hn8 (by first | exact hv | (rw [(kp_step I hj).2.2.2 4 (by decide)]; exact hv)) hv9 (by first | exact hl | (rw [(kp_step I hj).2.2.1]; exact hl)) hl9) rfl rfl rfl (show _ < 86 by omega) (by decide) (Nat.le_of_ble_eq_true rfl) hcs (fun v w' hp => ?_)
      obtain ⟨rfl, rfl⟩ := hp
      refine x_st0 ?_
      refine x_iload_n a 52 d_D_passTick_52 rfl ?_
      exact x_zret a qf 53 d_D_passTick_53 rfl rfl ⟨by rw [bI_t ⟨c17, c27⟩], by unfold d_tick; rw [if_pos ⟨c17, c27⟩]⟩
end
section
def d_region (h : Hp) (p f s : Int32) : Hp × Int32 := if (0 ≤ p ∧ p < 4) ∧ 1 ≤ s ∧ s ≤ 32 ∧ 0 ≤ f ∧ f ≤ 64 - s then (up2 (up2 (up2 h (3 + 9 * tn p) 7 f) (3 + 9 * tn p) 8 s) 0 5 0, 1) else (h, 0)
def d_window (h : Hp) (p t : Int32) : Hp × Int32 := if (0 ≤ p ∧ p < 4) ∧ 1 ≤ t ∧ t ≤ 9 ∧ ¬ 8 ≤ h 58 2 then (up2 (up2 (up2 (up2 h 59 (tn (h 58 2)) p) 60 (tn (h 58 2)) t) 58 2 (nI (tn (h 58 2) + 1))) 0 5 0, 1) else (h, 0)
def d_port (h : Hp) (f t d : Int32) : Hp × Int32 := if (0 ≤ f ∧ f < 4) ∧ (0 ≤ t ∧ t < 4) ∧ ¬ f = t ∧ 0 ≤ d ∧ d ≤ 4 ∧ h 0 4 < 6 then (up2 (up2 (up2 (up2 (up2 h (40 + 3 * tn (h 0 4)) 1 f) (40 + 3 * tn (h 0 4)) 2 t) (40 + 3 * tn (h 0 4)) 3 d) 0 4 (h 0 4 + 1)) 0 5 0, h 0 4) else (h, -1)
def d_action (h : Hp) (p f x : Int32) : Hp × Int32 := if (0 ≤ p ∧ p < 4) ∧ 1 ≤ f ∧ f ≤ 4 ∧ 0 ≤ x ∧ x ≤ 2 then (up2 (up2 h (7 + 9 * tn p) (tn f - 1) x) 0 5 0, 1) else (h, 0)
def d_code (h : Hp) (p i o x b : Int32) : Hp × Int32 := if (0 ≤ p ∧ p < 4) ∧ 0 ≤ i ∧ i < 16 then (up2 (up2 (up2 (up2 h (4 + 9 * tn p) (tn i) o) (5 + 9 * tn p) (tn i) x) (6 + 9 * tn p) (tn i) b) 0 5 0, 1) else (h, 0)
def d_input (h : Hp) (p v : Int32) : Hp × Int32 := if (0 ≤ p ∧ p < 4) ∧ tn (h (9 + 9 * tn p) 2) < 8 then (up2 (up2 h (10 + 9 * tn p) (qix (tn (h (9 + 9 * tn p) 1)) (tn (h (9 + 9 * tn p) 2)) 8) v) (9 + 9 * tn p) 2 (nI (tn (h (9 + 9 * tn p) 2) + 1)), nI (tn (h (9 + 9 * tn p) 2) + 1)) else (h, -1)
def d_tell (h : Hp) (j : Nat) (x : Int32) : Int32 := if x = 0 then h (8 + 9 * j) 0 else if x = 1 then h (8 + 9 * j) 1 else if x = 2 then h (8 + 9 * j) 2 else if x = 3 then h (8 + 9 * j) 3 else if x = 4 then h (3 + 9 * j) 9 else if x = 5 then (if h (3 + 9 * j) 10 = 0 then 0 else 1) else if x = 6 then h (3 + 9 * j) 11 else if x = 7 then h (3 + 9 * j) 12 else if x = 8 then h (9 + 9 * j) 2 else -1
def d_output (h : Hp) (p i : Int32) : Int32 := if 0 ≤ p ∧ p < 4 then (if 0 ≤ i ∧ i < 16 ∧ i < h (3 + 9 * tn p) 12 then h (11 + 9 * tn p) (tn i) else 0) else 0
def d_about (h : Hp) (p x : Int32) : Int32 := if 0 ≤ p ∧ p < 4 then d_tell h (tn p) x else -1
def d_word (h : Hp) (i : Int32) : Int32 := if 0 ≤ i ∧ i < 64 then h 1 (tn i) else 0
def d_waiting (h : Hp) (k : Int32) : Int32 := if 0 ≤ k ∧ k < h 0 4 then h (41 + 3 * tn k) 2 else -1
def d_clock (h : Hp) (x : Int32) : Int32 := if h 0 5 = 0 then -1 else if x = 0 then h 58 3 else if x = 1 then h 58 4 else if x = 2 then h 58 5 else -1
set_option maxRecDepth 100000 in
set_option maxHeartbeats 4000000 in
theorem c_D_region (h : Hp) (p f s : Int32) : Cn u_D_region 1 0 0 (w0 h) [.inr (some 0), .inl p, .inl f, .inl s] (fun v w' => v = some (d_region h p f s).2 ∧ w' = w0 (d_region h p f s).1) := by
  refine Cn.of (by decide +kernel) (Nat.le_of_ble_eq_true rfl) (fun E ad a qf => ?_)
  have qa := qf.2.2.2
  have hcs : 0 ≤ (eR E).cells ∧ 0 ≤ (eR E).slots := ⟨Nat.zero_le _, Nat.zero_le _⟩
  refine x_iload_n a 0 d_D_region_0 rfl ?_
  refine x_callS a qa 1 g_D_42 d_D_region_1 (c_D_isPartition _ _) rfl rfl (by decide) (Nat.le_of_ble_eq_true rfl) hcs (fun v w' hp => ?_)
  obtain ⟨rfl, rfl⟩ := hp
  refine x_st1 ?_
  refine x_ifB_eq a 4 18 d_D_region_4 (by decide) (fun c4 => ?_) (fun c4 => ?_)
  · refine x_iconst a 18 0 d_D_region_18 (by decide) ?_
    exact x_zret a qf 19 d_D_region_19 rfl rfl ⟨by unfold d_region; rw [if_neg (by rintro ⟨z1, z2⟩; first | exact c4 z1 | exact (by (try simp (disch := omega) only [Int32.le_iff_toInt_le, Int32.lt_iff_toInt_lt, ← Int32.toInt_inj, Int32.reduceToInt, nI_1, nI_add, pk_sub, nI_toInt] at *); omega))], by unfold d_region; rw [if_neg (by rintro ⟨z1, z2⟩; first | exact c4 z1 | exact (by (try simp (disch := omega) only [Int32.le_iff_toInt_le, Int32.lt_iff_toInt_lt, ← Int32.toInt_inj, Int32.reduceToInt, nI_1, nI_add, pk_sub, nI_toInt] at *); omega))]⟩
  · refine x_iload_n a 7 d_D_region_7 rfl ?_
    refine x_iconst a 8 1 d_D_region_8 (by decide) ?_
    refine x_icmp_lt a 9 18 d_D_region_9 (by decide) (fun c9 => ?_) (fun c9 => ?_)
    · refine x_iconst a 18 0 d_D_region_18 (by decide) ?_
      exact x_zret a qf 19 d_D_region_19 rfl rfl ⟨by unfold d_region; rw [if_neg (by rintro ⟨z1, z2⟩; first | exact c4 z1 | exact (by (try simp (disch := omega) only [Int32.le_iff_toInt_le, Int32.lt_iff_toInt_lt, ← Int32.toInt_inj, Int32.reduceToInt, nI_1, nI_add, pk_sub, nI_toInt] at *); omega))], by unfold d_region; rw [if_neg (by rintro ⟨z1, z2⟩; first | exact c4 z1 | exact (by (try simp (disch := omega) only [Int32.le_iff_toInt_le, Int32.lt_iff_toInt_lt, ← Int32.toInt_inj, Int32.reduceToInt, nI_1, nI_add, pk_sub, nI_toInt] at *); omega))]⟩
    · refine x_iload_n a 12 d_D_region_12 rfl ?_
      refine x_bipush a 13 32 d_D_region_13 (by decide) ?_
      refine x_icmp_le a 15 20 d_D_region_15 (by decide) (fun c15 => ?_) (fun c15 => ?_)
      · refine x_iload_n a 20 d_D_region_20 rfl ?_
        refine x_if_lt a 21 32 d_D_region_21 (by decide) (fun c21 => ?_) (fun c21 => ?_)
        · refine x_iconst a 32 0 d_D_region_32 (by decide) ?_
          exact x_zret a qf 33 d_D_region_33 rfl rfl ⟨by unfold d_region; rw [if_neg (by rintro ⟨z1, z2⟩; first | exact c4 z1 | exact (by (try simp (disch := omega) only [Int32.le_iff_toInt_le, Int32.lt_iff_toInt_lt, ← Int32.toInt_inj, Int32.reduceToInt, nI_1, nI_add, pk_sub, nI_toInt] at *); omega))], by unfold d_region; rw [if_neg (by rintro ⟨z1, z2⟩; first | exact c4 z1 | exact (by (try simp (disch := omega) only [Int32.le_iff_toInt_le, Int32.lt_iff_toInt_lt, ← Int32.toInt_inj, Int32.reduceToInt, nI_1, nI_add, pk_sub, nI_toInt] at *); omega))]⟩
        · refine x_iload_n a 24 d_D_region_24 rfl ?_
          refine x_bipush a 25 64 d_D_region_25 (by decide) ?_
          refine x_iload_n a 27 d_D_region_27 rfl ?_
          refine x_isub a 28 d_D_region_28 ?_
          refine x_icmp_le a 29 34 d_D_region_29 (by decide) (fun c29 => ?_) (fun c29 => ?_)
          · obtain ⟨j, hj, rfl⟩ := vp_in_of (x := p) (n := 4) (vp_in_iff.mpr (by (try simp (disch := omega) only [Int32.le_iff_toInt_le, Int32.lt_iff_toInt_lt, ← Int32.toInt_inj, Int32.reduceToInt, nI_1, nI_add, pk_sub, nI_toInt] at *); omega)) (by decide)
            refine x_aload_n a 34 d_D_region_34 rfl ?_
            refine x_getR a 35 f_D_15 d_D_region_35 rfl (by omega) (by decide) rfl ?_
            refine x_iload_n a 38 d_D_region_38 rfl ?_
            refine x_aald2 a 39 d_D_region_39 rfl (by omega) (j := j) rfl hj (by decide) (rPs (by omega)) ?_
            refine x_iload_n a 40 d_D_region_40 rfl ?_
            refine x_putI a 41 f_D_46 d_D_region_41 (kP (by omega)) (by omega) (by decide) rfl rfl rfl ?_
            refine x_aload_n a 44 d_D_region_44 rfl ?_
            refine x_getR a 45 f_D_15 d_D_region_45 rfl (by omega) (by decide) rfl ?_
            refine x_iload_n a 48 d_D_region_48 rfl ?_
            refine x_aald2 a 49 d_D_region_49 rfl (by omega) (j := j) rfl hj (by decide) (rPs (by omega)) ?_
            refine x_iload_n a 50 d_D_region_50 rfl ?_
            refine x_putI a 51 f_D_49 d_D_region_51 (kP (by omega)) (by omega) (by decide) rfl rfl rfl ?_
            refine x_aload_n a 54 d_D_region_54 rfl ?_
            refine x_iconst a 55 0 d_D_region_55 (by decide) ?_
            refine x_putI a 56 f_D_38 d_D_region_56 rfl (by omega) (by decide) rfl rfl rfl ?_
            refine x_iconst a 59 1 d_D_region_59 (by decide) ?_
            exact x_zret a qf 60 d_D_region_60 rfl rfl ⟨by unfold d_region; rw [if_pos ⟨c4, (by (try simp (disch := omega) only [Int32.le_iff_toInt_le, Int32.lt_iff_toInt_lt, ← Int32.toInt_inj, Int32.reduceToInt, nI_1, nI_add, pk_sub, nI_toInt] at *); omega)⟩], by unfold d_region; rw [if_pos ⟨c4, (by (try simp (disch := omega) only [Int32.le_iff_toInt_le, Int32.lt_iff_toInt_lt, ← Int32.toInt_inj, Int32.reduceToInt, nI_1, nI_add, pk_sub, nI_toInt] at *); omega)⟩, tn_nI (k := j) (by omega)]⟩
          · refine x_iconst a 32 0 d_D_region_32 (by decide) ?_
            exact x_zret a qf 33 d_D_region_33 rfl rfl ⟨by unfold d_region; rw [if_neg (by rintro ⟨z1, z2⟩; first | exact c4 z1 | exact (by (try simp (disch := omega) only [Int32.le_iff_toInt_le, Int32.lt_iff_toInt_lt, ← Int32.toInt_inj, Int32.reduceToInt, nI_1, nI_add, pk_sub, nI_toInt] at *); omega))], by unfold d_region; rw [if_neg (by rintro ⟨z1, z2⟩; first | exact c4 z1 | exact (by (try simp (disch := omega) only [Int32.le_iff_toInt_le, Int32.lt_iff_toInt_lt, ← Int32.toInt_inj, Int32.reduceToInt, nI_1, nI_add, pk_sub, nI_toInt] at *); omega))]⟩
      · refine x_iconst a 18 0 d_D_region_18 (by decide) ?_
        exact x_zret a qf 19 d_D_region_19 rfl rfl ⟨by unfold d_region; rw [if_neg (by rintro ⟨z1, z2⟩; first | exact c4 z1 | exact (by (try simp (disch := omega) only [Int32.le_iff_toInt_le, Int32.lt_iff_toInt_lt, ← Int32.toInt_inj, Int32.reduceToInt, nI_1, nI_add, pk_sub, nI_toInt] at *); omega))], by unfold d_region; rw [if_neg (by rintro ⟨z1, z2⟩; first | exact c4 z1 | exact (by (try simp (disch := omega) only [Int32.le_iff_toInt_le, Int32.lt_iff_toInt_lt, ← Int32.toInt_inj, Int32.reduceToInt, nI_1, nI_add, pk_sub, nI_toInt] at *); omega))]⟩
set_option maxRecDepth 100000 in
set_option maxHeartbeats 4000000 in
theorem c_D_window (h : Hp) (p t : Int32) (hn : Nlt (h 58 2) 9) : Cn u_D_window 1 0 0 (w0 h) [.inr (some 0), .inl p, .inl t] (fun v w' => v = some (d_window h p t).2 ∧ w' = w0 (d_window h p t).1) := by
  refine Cn.of (by decide +kernel) (Nat.le_of_ble_eq_true rfl) (fun E ad a qf => ?_)
  have qa := qf.2.2.2
  have hcs : 0 ≤ (eR E).cells ∧ 0 ≤ (eR E).slots := ⟨Nat.zero_le _, Nat.zero_le _⟩
  refine x_iload_n a 0 d_D_window_0 rfl ?_
  refine x_callS a qa 1 g_D_42 d_D_window_1 (c_D_isPartition _ _) rfl rfl (by decide) (Nat.le_of_ble_eq_true rfl) hcs (fun v w' hp => ?_)
  obtain ⟨rfl, rfl⟩ := hp
  refine x_st1 ?_
  refine x_ifB_eq a 4 28 d_D_window_4 (by decide) (fun c4 => ?_) (fun c4 => ?_)
  · refine x_iconst a 28 0 d_D_window_28 (by decide) ?_
    exact x_zret a qf 29 d_D_window_29 rfl rfl ⟨by unfold d_window; rw [if_neg (by rintro ⟨z1, z2, z3, z4⟩; first | exact c4 z1 | exact z4 c25 | exact (by (try simp (disch := omega) only [Int32.le_iff_toInt_le, Int32.lt_iff_toInt_lt, ← Int32.toInt_inj, Int32.reduceToInt, nI_1, nI_add, pk_sub, nI_toInt] at *); omega))], by unfold d_window; rw [if_neg (by rintro ⟨z1, z2, z3, z4⟩; first | exact c4 z1 | exact z4 c25 | exact (by (try simp (disch := omega) only [Int32.le_iff_toInt_le, Int32.lt_iff_toInt_lt, ← Int32.toInt_inj, Int32.reduceToInt, nI_1, nI_add, pk_sub, nI_toInt] at *); omega))]⟩
  · refine x_iload_n a 7 d_D_window_7 rfl ?_
    refine x_iconst a 8 1 d_D_window_8 (by decide) ?_
    refine x_icmp_lt a 9 28 d_D_window_9 (by decide) (fun c9 => ?_) (fun c9 => ?_)
    · refine x_iconst a 28 0 d_D_window_28 (by decide) ?_
      exact x_zret a qf 29 d_D_window_29 rfl rfl ⟨by unfold d_window; rw [if_neg (by rintro ⟨z1, z2, z3, z4⟩; first | exact c4 z1 | exact z4 c25 | exact (by (try simp (disch := omega) only [Int32.le_iff_toInt_le, Int32.lt_iff_toInt_lt, ← Int32.toInt_inj, Int32.reduceToInt, nI_1, nI_add, pk_sub, nI_toInt] at *); omega))], by unfold d_window; rw [if_neg (by rintro ⟨z1, z2, z3, z4⟩; first | exact c4 z1 | exact z4 c25 | exact (by (try simp (disch := omega) only [Int32.le_iff_toInt_le, Int32.lt_iff_toInt_lt, ← Int32.toInt_inj, Int32.reduceToInt, nI_1, nI_add, pk_sub, nI_toInt] at *); omega))]⟩
    · refine x_iload_n a 12 d_D_window_12 rfl ?_
      refine x_bipush a 13 9 d_D_window_13 (by decide) ?_
      refine x_icmp_gt a 15 28 d_D_window_15 (by decide) (fun c15 => ?_) (fun c15 => ?_)
      · refine x_iconst a 28 0 d_D_window_28 (by decide) ?_
        exact x_zret a qf 29 d_D_window_29 rfl rfl ⟨by unfold d_window; rw [if_neg (by rintro ⟨z1, z2, z3, z4⟩; first | exact c4 z1 | exact z4 c25 | exact (by (try simp (disch := omega) only [Int32.le_iff_toInt_le, Int32.lt_iff_toInt_lt, ← Int32.toInt_inj, Int32.reduceToInt, nI_1, nI_add, pk_sub, nI_toInt] at *); omega))], by unfold d_window; rw [if_neg (by rintro ⟨z1, z2, z3, z4⟩; first | exact c4 z1 | exact z4 c25 | exact (by (try simp (disch := omega) only [Int32.le_iff_toInt_le, Int32.lt_iff_toInt_lt, ← Int32.toInt_inj, Int32.reduceToInt, nI_1, nI_add, pk_sub, nI_toInt] at *); omega))]⟩
      · refine x_aload_n a 18 d_D_window_18 rfl ?_
        refine x_getR a 19 f_D_30 d_D_window_19 rfl (by omega) (by decide) rfl ?_
        refine x_callV a qa 22 g_D_52 d_D_window_22 (c_F_isFull _) rfl rfl rfl (show _ < 86 by omega) (by decide) (Nat.le_of_ble_eq_true rfl) hcs (fun v w' hp => ?_)
        obtain ⟨rfl, rfl⟩ := hp
        refine x_st1 ?_
        refine x_ifB_eq a 25 30 d_D_window_25 (by decide) (fun c25 => ?_) (fun c25 => ?_)
        · have hn8 : tn (h 58 2) < 8 := by have h1 := hn.1; have h2 := hn.2; rw [h2] at c25; exact (by (try simp (disch := omega) only [Int32.le_iff_toInt_le, Int32.lt_iff_toInt_lt, ← Int32.toInt_inj, Int32.reduceToInt, nI_1, nI_add, pk_sub, nI_toInt] at *); omega)
          refine x_aload_n a 30 d_D_window_30 rfl ?_
          refine x_getR a 31 f_D_30 d_D_window_31 rfl (by omega) (by decide) rfl ?_
          refine x_iload_n a 34 d_D_window_34 rfl ?_
          refine x_iload_n a 35 d_D_window_35 rfl ?_
          refine x_callV a qa 36 g_D_56 d_D_window_36 (c_F_append _ _ _ hn.2 hn8) rfl rfl rfl (show _ < 86 by omega) (by decide) (Nat.le_of_ble_eq_true rfl) hcs (fun v w' hp => ?_)
          obtain ⟨rfl, rfl⟩ := hp
          refine x_st0 ?_
          refine x_aload_n a 39 d_D_window_39 rfl ?_
          refine x_iconst a 40 0 d_D_window_40 (by decide) ?_
          refine x_putI a 41 f_D_38 d_D_window_41 rfl (by omega) (by decide) rfl rfl rfl ?_
          refine x_iconst a 44 1 d_D_window_44 (by decide) ?_
          exact x_zret a qf 45 d_D_window_45 rfl rfl ⟨by unfold d_window; rw [if_pos ⟨c4, (by (try simp (disch := omega) only [Int32.le_iff_toInt_le, Int32.lt_iff_toInt_lt, ← Int32.toInt_inj, Int32.reduceToInt, nI_1, nI_add, pk_sub, nI_toInt] at *); omega), (by (try simp (disch := omega) only [Int32.le_iff_toInt_le, Int32.lt_iff_toInt_lt, ← Int32.toInt_inj, Int32.reduceToInt, nI_1, nI_add, pk_sub, nI_toInt] at *); omega), c25⟩], by unfold d_window; rw [if_pos ⟨c4, (by (try simp (disch := omega) only [Int32.le_iff_toInt_le, Int32.lt_iff_toInt_lt, ← Int32.toInt_inj, Int32.reduceToInt, nI_1, nI_add, pk_sub, nI_toInt] at *); omega), (by (try simp (disch := omega) only [Int32.le_iff_toInt_le, Int32.lt_iff_toInt_lt, ← Int32.toInt_inj, Int32.reduceToInt, nI_1, nI_add, pk_sub, nI_toInt] at *); omega), c25⟩]⟩
        · refine x_iconst a 28 0 d_D_window_28 (by decide) ?_
          exact x_zret a qf 29 d_D_window_29 rfl rfl ⟨by unfold d_window; rw [if_neg (by rintro ⟨z1, z2, z3, z4⟩; first | exact c4 z1 | exact z4 c25 | exact (by (try simp (disch := omega) only [Int32.le_iff_toInt_le, Int32.lt_iff_toInt_lt, ← Int32.toInt_inj, Int32.reduceToInt, nI_1, nI_add, pk_sub, nI_toInt] at *); omega))], by unfold d_window; rw [if_neg (by rintro ⟨z1, z2, z3, z4⟩; first | exact c4 z1 | exact z4 c25 | exact (by (try simp (disch := omega) only [Int32.le_iff_toInt_le, Int32.lt_iff_toInt_lt, ← Int32.toInt_inj, Int32.reduceToInt, nI_1, nI_add, pk_sub, nI_toInt] at *); omega))]⟩
set_option maxRecDepth 100000 in
set_option maxHeartbeats 4000000 in
theorem c_D_port (h : Hp) (f t d : Int32) (hn : Nlt (h 0 4) 7) : Cn u_D_port 1 0 0 (w0 h) [.inr (some 0), .inl f, .inl t, .inl d] (fun v w' => v = some (d_port h f t d).2 ∧ w' = w0 (d_port h f t d).1) := by
  refine Cn.of (by decide +kernel) (Nat.le_of_ble_eq_true rfl) (fun E ad a qf => ?_)
  have qa := qf.2.2.2
  have hcs : 0 ≤ (eR E).cells ∧ 0 ≤ (eR E).slots := ⟨Nat.zero_le _, Nat.zero_le _⟩
  refine x_iload_n a 0 d_D_port_0 rfl ?_
  refine x_callS a qa 1 g_D_42 d_D_port_1 (c_D_isPartition _ _) rfl rfl (by decide) (Nat.le_of_ble_eq_true rfl) hcs (fun v w' hp => ?_)
  obtain ⟨rfl, rfl⟩ := hp
  refine x_st1 ?_
  refine x_ifB_eq a 4 19 d_D_port_4 (by decide) (fun c4 => ?_) (fun c4 => ?_)
  · refine x_iconst a 19 (-1) d_D_port_19 (by decide) ?_
    exact x_iret a qf 20 d_D_port_20 rfl ⟨by unfold d_port; rw [if_neg (by rintro ⟨z1, z2, z3, z4, z5, z6⟩; first | exact c4 z1 | exact c11 z2 | exact z3 c16 | exact (by (try simp (disch := omega) only [Int32.le_iff_toInt_le, Int32.lt_iff_toInt_lt, ← Int32.toInt_inj, Int32.reduceToInt, nI_1, nI_add, pk_sub, nI_toInt] at *); omega))], by unfold d_port; rw [if_neg (by rintro ⟨z1, z2, z3, z4, z5, z6⟩; first | exact c4 z1 | exact c11 z2 | exact z3 c16 | exact (by (try simp (disch := omega) only [Int32.le_iff_toInt_le, Int32.lt_iff_toInt_lt, ← Int32.toInt_inj, Int32.reduceToInt, nI_1, nI_add, pk_sub, nI_toInt] at *); omega))]⟩
  · refine x_iload_n a 7 d_D_port_7 rfl ?_
    refine x_callS a qa 8 g_D_42 d_D_port_8 (c_D_isPartition _ _) rfl rfl (by decide) (Nat.le_of_ble_eq_true rfl) hcs (fun v w' hp => ?_)
    obtain ⟨rfl, rfl⟩ := hp
    refine x_st1 ?_
    refine x_ifB_eq a 11 19 d_D_port_11 (by decide) (fun c11 => ?_) (fun c11 => ?_)
    · refine x_iconst a 19 (-1) d_D_port_19 (by decide) ?_
      exact x_iret a qf 20 d_D_port_20 rfl ⟨by unfold d_port; rw [if_neg (by rintro ⟨z1, z2, z3, z4, z5, z6⟩; first | exact c4 z1 | exact c11 z2 | exact z3 c16 | exact (by (try simp (disch := omega) only [Int32.le_iff_toInt_le, Int32.lt_iff_toInt_lt, ← Int32.toInt_inj, Int32.reduceToInt, nI_1, nI_add, pk_sub, nI_toInt] at *); omega))], by unfold d_port; rw [if_neg (by rintro ⟨z1, z2, z3, z4, z5, z6⟩; first | exact c4 z1 | exact c11 z2 | exact z3 c16 | exact (by (try simp (disch := omega) only [Int32.le_iff_toInt_le, Int32.lt_iff_toInt_lt, ← Int32.toInt_inj, Int32.reduceToInt, nI_1, nI_add, pk_sub, nI_toInt] at *); omega))]⟩
    · refine x_iload_n a 14 d_D_port_14 rfl ?_
      refine x_iload_n a 15 d_D_port_15 rfl ?_
      refine x_icmp_ne a 16 21 d_D_port_16 (by decide) (fun c16 => ?_) (fun c16 => ?_)
      · refine x_iload_n a 21 d_D_port_21 rfl ?_
        refine x_if_lt a 22 39 d_D_port_22 (by decide) (fun c22 => ?_) (fun c22 => ?_)
        · refine x_iconst a 39 (-1) d_D_port_39 (by decide) ?_
          exact x_iret a qf 40 d_D_port_40 rfl ⟨by unfold d_port; rw [if_neg (by rintro ⟨z1, z2, z3, z4, z5, z6⟩; first | exact c4 z1 | exact c11 z2 | exact z3 c16 | exact (by (try simp (disch := omega) only [Int32.le_iff_toInt_le, Int32.lt_iff_toInt_lt, ← Int32.toInt_inj, Int32.reduceToInt, nI_1, nI_add, pk_sub, nI_toInt] at *); omega))], by unfold d_port; rw [if_neg (by rintro ⟨z1, z2, z3, z4, z5, z6⟩; first | exact c4 z1 | exact c11 z2 | exact z3 c16 | exact (by (try simp (disch := omega) only [Int32.le_iff_toInt_le, Int32.lt_iff_toInt_lt, ← Int32.toInt_inj, Int32.reduceToInt, nI_1, nI_add, pk_sub, nI_toInt] at *); omega))]⟩
        · refine x_iload_n a 25 d_D_port_25 rfl ?_
          refine x_iconst a 26 4 d_D_port_26 (by decide) ?_
          refine x_icmp_gt a 27 39 d_D_port_27 (by decide) (fun c27 => ?_) (fun c27 => ?_)
          · refine x_iconst a 39 (-1) d_D_port_39 (by decide) ?_
            exact x_iret a qf 40 d_D_port_40 rfl ⟨by unfold d_port; rw [if_neg (by rintro ⟨z1, z2, z3, z4, z5, z6⟩; first | exact c4 z1 | exact c11 z2 | exact z3 c16 | exact (by (try simp (disch := omega) only [Int32.le_iff_toInt_le, Int32.lt_iff_toInt_lt, ← Int32.toInt_inj, Int32.reduceToInt, nI_1, nI_add, pk_sub, nI_toInt] at *); omega))], by unfold d_port; rw [if_neg (by rintro ⟨z1, z2, z3, z4, z5, z6⟩; first | exact c4 z1 | exact c11 z2 | exact z3 c16 | exact (by (try simp (disch := omega) only [Int32.le_iff_toInt_le, Int32.lt_iff_toInt_lt, ← Int32.toInt_inj, Int32.reduceToInt, nI_1, nI_add, pk_sub, nI_toInt] at *); omega))]⟩
          · refine x_aload_n a 30 d_D_port_30 rfl ?_
            refine x_getI a 31 f_D_34 d_D_port_31 rfl (by omega) (by decide) rfl ?_
            refine x_bipush a 34 6 d_D_port_34 (by decide) ?_
            refine x_icmp_lt a 36 41 d_D_port_36 (by decide) (fun c36 => ?_) (fun c36 => ?_)
            · have hn6 : tn (h 0 4) < 6 := by have h1 := hn.1; have h2 := hn.2; rw [h2] at c36; exact (by (try simp (disch := omega) only [Int32.le_iff_toInt_le, Int32.lt_iff_toInt_lt, ← Int32.toInt_inj, Int32.reduceToInt, nI_1, nI_add, pk_sub, nI_toInt] at *); omega)
              refine x_aload_n a 41 d_D_port_41 rfl ?_
              refine x_getI a 42 f_D_34 d_D_port_42 rfl (by omega) (by decide) rfl ?_
              refine x_istore a 45 d_D_port_45 (by decide) ?_
              refine x_aload_n a 47 d_D_port_47 rfl ?_
              refine x_getR a 48 f_D_22 d_D_port_48 rfl (by omega) (by decide) rfl ?_
              refine x_iload a 51 d_D_port_51 rfl ?_
              refine x_aald3 a 53 d_D_port_53 rfl (by omega) (j := tn (h 0 4)) hn.2 hn6 (by decide) (rQs (by omega)) ?_
              refine x_iload_n a 54 d_D_port_54 rfl ?_
              refine x_putI a 55 f_D_60 d_D_port_55 (kQ (by omega)) (by omega) (by decide) rfl rfl rfl ?_
              refine x_aload_n a 58 d_D_port_58 rfl ?_
              refine x_getR a 59 f_D_22 d_D_port_59 rfl (by omega) (by decide) rfl ?_
              refine x_iload a 62 d_D_port_62 rfl ?_
              refine x_aald3 a 64 d_D_port_64 rfl (by omega) (j := tn (h 0 4)) hn.2 hn6 (by decide) (rQs (by omega)) ?_
              refine x_iload_n a 65 d_D_port_65 rfl ?_
              refine x_putI a 66 f_D_61 d_D_port_66 (kQ (by omega)) (by omega) (by decide) rfl rfl rfl ?_
              refine x_aload_n a 69 d_D_port_69 rfl ?_
              refine x_getR a 70 f_D_22 d_D_port_70 rfl (by omega) (by decide) rfl ?_
              refine x_iload a 73 d_D_port_73 rfl ?_
              refine x_aald3 a 75 d_D_port_75 rfl (by omega) (j := tn (h 0 4)) hn.2 hn6 (by decide) (rQs (by omega)) ?_
              refine x_iload_n a 76 d_D_port_76 rfl ?_
              refine x_putI a 77 f_D_64 d_D_port_77 (kQ (by omega)) (by omega) (by decide) rfl rfl rfl ?_
              refine x_aload_n a 80 d_D_port_80 rfl ?_
              refine x_dup a 81 d_D_port_81 ?_
              refine x_getI a 82 f_D_34 d_D_port_82 rfl (by omega) (by decide) (v := h 0 4) (by rw [up2_o _ _ _ (by omega), up2_o _ _ _ (by omega), up2_o _ _ _ (by omega)]) ?_
              refine x_iconst a 85 1 d_D_port_85 (by decide) ?_
              refine x_iadd a 86 d_D_port_86 ?_
              refine x_putI a 87 f_D_34 d_D_port_87 rfl (by omega) (by decide) rfl rfl rfl ?_
              refine x_aload_n a 90 d_D_port_90 rfl ?_
              refine x_iconst a 91 0 d_D_port_91 (by decide) ?_
              refine x_putI a 92 f_D_38 d_D_port_92 rfl (by omega) (by decide) rfl rfl rfl ?_
              refine x_iload a 95 d_D_port_95 rfl ?_
              exact x_iret a qf 97 d_D_port_97 rfl ⟨by unfold d_port; rw [if_pos ⟨c4, c11, c16, (by (try simp (disch := omega) only [Int32.le_iff_toInt_le, Int32.lt_iff_toInt_lt, ← Int32.toInt_inj, Int32.reduceToInt, nI_1, nI_add, pk_sub, nI_toInt] at *); omega), (by (try simp (disch := omega) only [Int32.le_iff_toInt_le, Int32.lt_iff_toInt_lt, ← Int32.toInt_inj, Int32.reduceToInt, nI_1, nI_add, pk_sub, nI_toInt] at *); omega), c36⟩], by unfold d_port; rw [if_pos ⟨c4, c11, c16, (by (try simp (disch := omega) only [Int32.le_iff_toInt_le, Int32.lt_iff_toInt_lt, ← Int32.toInt_inj, Int32.reduceToInt, nI_1, nI_add, pk_sub, nI_toInt] at *); omega), (by (try simp (disch := omega) only [Int32.le_iff_toInt_le, Int32.lt_iff_toInt_lt, ← Int32.toInt_inj, Int32.reduceToInt, nI_1, nI_add, pk_sub, nI_toInt] at *); omega), c36⟩]⟩
            · refine x_iconst a 39 (-1) d_D_port_39 (by decide) ?_
              exact x_iret a qf 40 d_D_port_40 rfl ⟨by unfold d_port; rw [if_neg (by rintro ⟨z1, z2, z3, z4, z5, z6⟩; first | exact c4 z1 | exact c11 z2 | exact z3 c16 | exact (by (try simp (disch := omega) only [Int32.le_iff_toInt_le, Int32.lt_iff_toInt_lt, ← Int32.toInt_inj, Int32.reduceToInt, nI_1, nI_add, pk_sub, nI_toInt] at *); omega))], by unfold d_port; rw [if_neg (by rintro ⟨z1, z2, z3, z4, z5, z6⟩; first | exact c4 z1 | exact c11 z2 | exact z3 c16 | exact (by (try simp (disch := omega) only [Int32.le_iff_toInt_le, Int32.lt_iff_toInt_lt, ← Int32.toInt_inj, Int32.reduceToInt, nI_1, nI_add, pk_sub, nI_toInt] at *); omega))]⟩
      · refine x_iconst a 19 (-1) d_D_port_19 (by decide) ?_
        exact x_iret a qf 20 d_D_port_20 rfl ⟨by unfold d_port; rw [if_neg (by rintro ⟨z1, z2, z3, z4, z5, z6⟩; first | exact c4 z1 | exact c11 z2 | exact z3 c16 | exact (by (try simp (disch := omega) only [Int32.le_iff_toInt_le, Int32.lt_iff_toInt_lt, ← Int32.toInt_inj, Int32.reduceToInt, nI_1, nI_add, pk_sub, nI_toInt] at *); omega))], by unfold d_port; rw [if_neg (by rintro ⟨z1, z2, z3, z4, z5, z6⟩; first | exact c4 z1 | exact c11 z2 | exact z3 c16 | exact (by (try simp (disch := omega) only [Int32.le_iff_toInt_le, Int32.lt_iff_toInt_lt, ← Int32.toInt_inj, Int32.reduceToInt, nI_1, nI_add, pk_sub, nI_toInt] at *); omega))]⟩
set_option maxRecDepth 100000 in
set_option maxHeartbeats 4000000 in
theorem c_D_action (h : Hp) (p f x : Int32) : Cn u_D_action 1 0 0 (w0 h) [.inr (some 0), .inl p, .inl f, .inl x] (fun v w' => v = some (d_action h p f x).2 ∧ w' = w0 (d_action h p f x).1) := by
  refine Cn.of (by decide +kernel) (Nat.le_of_ble_eq_true rfl) (fun E ad a qf => ?_)
  have qa := qf.2.2.2
  have hcs : 0 ≤ (eR E).cells ∧ 0 ≤ (eR E).slots := ⟨Nat.zero_le _, Nat.zero_le _⟩
  refine x_iload_n a 0 d_D_action_0 rfl ?_
  refine x_callS a qa 1 g_D_42 d_D_action_1 (c_D_isPartition _ _) rfl rfl (by decide) (Nat.le_of_ble_eq_true rfl) hcs (fun v w' hp => ?_)
  obtain ⟨rfl, rfl⟩ := hp
  refine x_st1 ?_
  refine x_ifB_eq a 4 26 d_D_action_4 (by decide) (fun c4 => ?_) (fun c4 => ?_)
  · refine x_iconst a 26 0 d_D_action_26 (by decide) ?_
    exact x_zret a qf 27 d_D_action_27 rfl rfl ⟨by unfold d_action; rw [if_neg (by rintro ⟨z1, z2⟩; first | exact c4 z1 | exact (by (try simp (disch := omega) only [Int32.le_iff_toInt_le, Int32.lt_iff_toInt_lt, ← Int32.toInt_inj, Int32.reduceToInt, nI_1, nI_add, pk_sub, nI_toInt] at *); omega))], by unfold d_action; rw [if_neg (by rintro ⟨z1, z2⟩; first | exact c4 z1 | exact (by (try simp (disch := omega) only [Int32.le_iff_toInt_le, Int32.lt_iff_toInt_lt, ← Int32.toInt_inj, Int32.reduceToInt, nI_1, nI_add, pk_sub, nI_toInt] at *); omega))]⟩
  · refine x_iload_n a 7 d_D_action_7 rfl ?_
    refine x_iconst a 8 1 d_D_action_8 (by decide) ?_
    refine x_icmp_lt a 9 26 d_D_action_9 (by decide) (fun c9 => ?_) (fun c9 => ?_)
    · refine x_iconst a 26 0 d_D_action_26 (by decide) ?_
      exact x_zret a qf 27 d_D_action_27 rfl rfl ⟨by unfold d_action; rw [if_neg (by rintro ⟨z1, z2⟩; first | exact c4 z1 | exact (by (try simp (disch := omega) only [Int32.le_iff_toInt_le, Int32.lt_iff_toInt_lt, ← Int32.toInt_inj, Int32.reduceToInt, nI_1, nI_add, pk_sub, nI_toInt] at *); omega))], by unfold d_action; rw [if_neg (by rintro ⟨z1, z2⟩; first | exact c4 z1 | exact (by (try simp (disch := omega) only [Int32.le_iff_toInt_le, Int32.lt_iff_toInt_lt, ← Int32.toInt_inj, Int32.reduceToInt, nI_1, nI_add, pk_sub, nI_toInt] at *); omega))]⟩
    · refine x_iload_n a 12 d_D_action_12 rfl ?_
      refine x_iconst a 13 4 d_D_action_13 (by decide) ?_
      refine x_icmp_gt a 14 26 d_D_action_14 (by decide) (fun c14 => ?_) (fun c14 => ?_)
      · refine x_iconst a 26 0 d_D_action_26 (by decide) ?_
        exact x_zret a qf 27 d_D_action_27 rfl rfl ⟨by unfold d_action; rw [if_neg (by rintro ⟨z1, z2⟩; first | exact c4 z1 | exact (by (try simp (disch := omega) only [Int32.le_iff_toInt_le, Int32.lt_iff_toInt_lt, ← Int32.toInt_inj, Int32.reduceToInt, nI_1, nI_add, pk_sub, nI_toInt] at *); omega))], by unfold d_action; rw [if_neg (by rintro ⟨z1, z2⟩; first | exact c4 z1 | exact (by (try simp (disch := omega) only [Int32.le_iff_toInt_le, Int32.lt_iff_toInt_lt, ← Int32.toInt_inj, Int32.reduceToInt, nI_1, nI_add, pk_sub, nI_toInt] at *); omega))]⟩
      · refine x_iload_n a 17 d_D_action_17 rfl ?_
        refine x_if_lt a 18 26 d_D_action_18 (by decide) (fun c18 => ?_) (fun c18 => ?_)
        · refine x_iconst a 26 0 d_D_action_26 (by decide) ?_
          exact x_zret a qf 27 d_D_action_27 rfl rfl ⟨by unfold d_action; rw [if_neg (by rintro ⟨z1, z2⟩; first | exact c4 z1 | exact (by (try simp (disch := omega) only [Int32.le_iff_toInt_le, Int32.lt_iff_toInt_lt, ← Int32.toInt_inj, Int32.reduceToInt, nI_1, nI_add, pk_sub, nI_toInt] at *); omega))], by unfold d_action; rw [if_neg (by rintro ⟨z1, z2⟩; first | exact c4 z1 | exact (by (try simp (disch := omega) only [Int32.le_iff_toInt_le, Int32.lt_iff_toInt_lt, ← Int32.toInt_inj, Int32.reduceToInt, nI_1, nI_add, pk_sub, nI_toInt] at *); omega))]⟩
        · refine x_iload_n a 21 d_D_action_21 rfl ?_
          refine x_iconst a 22 2 d_D_action_22 (by decide) ?_
          refine x_icmp_le a 23 28 d_D_action_23 (by decide) (fun c23 => ?_) (fun c23 => ?_)
          · obtain ⟨j, hj, rfl⟩ := vp_in_of (x := p) (n := 4) (vp_in_iff.mpr (by (try simp (disch := omega) only [Int32.le_iff_toInt_le, Int32.lt_iff_toInt_lt, ← Int32.toInt_inj, Int32.reduceToInt, nI_1, nI_add, pk_sub, nI_toInt] at *); omega)) (by decide)
            obtain ⟨i, hi, rfl⟩ := vp_in_of (x := f) (n := 5) (vp_in_iff.mpr (by (try simp (disch := omega) only [Int32.le_iff_toInt_le, Int32.lt_iff_toInt_lt, ← Int32.toInt_inj, Int32.reduceToInt, nI_1, nI_add, pk_sub, nI_toInt] at *); omega)) (by decide)
            have hi1 : 1 ≤ i := (by (try simp (disch := omega) only [Int32.le_iff_toInt_le, Int32.lt_iff_toInt_lt, ← Int32.toInt_inj, Int32.reduceToInt, nI_1, nI_add, pk_sub, nI_toInt] at *); omega)
            refine x_aload_n a 28 d_D_action_28 rfl ?_
            refine x_getR a 29 f_D_15 d_D_action_29 rfl (by omega) (by decide) rfl ?_
            refine x_iload_n a 32 d_D_action_32 rfl ?_
            refine x_aald2 a 33 d_D_action_33 rfl (by omega) (j := j) rfl hj (by decide) (rPs (by omega)) ?_
            refine x_getR a 34 f_D_67 d_D_action_34 (kP (by omega)) (by omega) (by decide) (rP3 (by omega)) ?_
            refine x_iload_n a 37 d_D_action_37 rfl ?_
            refine x_iconst a 38 1 d_D_action_38 (by decide) ?_
            refine x_isub a 39 d_D_action_39 ?_
            refine x_iload_n a 40 d_D_action_40 rfl ?_
            refine x_iast a 41 d_D_action_41 (kA7 (by omega)) (by omega) (j := i - 1) (pk_sub (b := 1) hi1) (by omega) (by decide) ?_
            refine x_aload_n a 42 d_D_action_42 rfl ?_
            refine x_iconst a 43 0 d_D_action_43 (by decide) ?_
            refine x_putI a 44 f_D_38 d_D_action_44 rfl (by omega) (by decide) rfl rfl rfl ?_
            refine x_iconst a 47 1 d_D_action_47 (by decide) ?_
            exact x_zret a qf 48 d_D_action_48 rfl rfl ⟨by unfold d_action; rw [if_pos ⟨c4, (by (try simp (disch := omega) only [Int32.le_iff_toInt_le, Int32.lt_iff_toInt_lt, ← Int32.toInt_inj, Int32.reduceToInt, nI_1, nI_add, pk_sub, nI_toInt] at *); omega)⟩], by unfold d_action; rw [if_pos ⟨c4, (by (try simp (disch := omega) only [Int32.le_iff_toInt_le, Int32.lt_iff_toInt_lt, ← Int32.toInt_inj, Int32.reduceToInt, nI_1, nI_add, pk_sub, nI_toInt] at *); omega)⟩, tn_nI (k := j) (by omega), tn_nI (k := i) (by omega)]⟩
          · refine x_iconst a 26 0 d_D_action_26 (by decide) ?_
            exact x_zret a qf 27 d_D_action_27 rfl rfl ⟨by unfold d_action; rw [if_neg (by rintro ⟨z1, z2⟩; first | exact c4 z1 | exact (by (try simp (disch := omega) only [Int32.le_iff_toInt_le, Int32.lt_iff_toInt_lt, ← Int32.toInt_inj, Int32.reduceToInt, nI_1, nI_add, pk_sub, nI_toInt] at *); omega))], by unfold d_action; rw [if_neg (by rintro ⟨z1, z2⟩; first | exact c4 z1 | exact (by (try simp (disch := omega) only [Int32.le_iff_toInt_le, Int32.lt_iff_toInt_lt, ← Int32.toInt_inj, Int32.reduceToInt, nI_1, nI_add, pk_sub, nI_toInt] at *); omega))]⟩
set_option maxRecDepth 100000 in
set_option maxHeartbeats 4000000 in
theorem c_D_code (h : Hp) (p i o x b : Int32) : Cn u_D_code 1 0 0 (w0 h) [.inr (some 0), .inl p, .inl i, .inl o, .inl x, .inl b] (fun v w' => v = some (d_code h p i o x b).2 ∧ w' = w0 (d_code h p i o x b).1) := by
  refine Cn.of (by decide +kernel) (Nat.le_of_ble_eq_true rfl) (fun E ad a qf => ?_)
  have qa := qf.2.2.2
  have hcs : 0 ≤ (eR E).cells ∧ 0 ≤ (eR E).slots := ⟨Nat.zero_le _, Nat.zero_le _⟩
  refine x_iload_n a 0 d_D_code_0 rfl ?_
  refine x_callS a qa 1 g_D_42 d_D_code_1 (c_D_isPartition _ _) rfl rfl (by decide) (Nat.le_of_ble_eq_true rfl) hcs (fun v w' hp => ?_)
  obtain ⟨rfl, rfl⟩ := hp
  refine x_st1 ?_
  refine x_ifB_eq a 4 17 d_D_code_4 (by decide) (fun c4 => ?_) (fun c4 => ?_)
  · refine x_iconst a 17 0 d_D_code_17 (by decide) ?_
    exact x_zret a qf 18 d_D_code_18 rfl rfl ⟨by unfold d_code; rw [if_neg (by rintro ⟨z1, z2⟩; first | exact c4 z1 | exact (by (try simp (disch := omega) only [Int32.le_iff_toInt_le, Int32.lt_iff_toInt_lt, ← Int32.toInt_inj, Int32.reduceToInt, nI_1, nI_add, pk_sub, nI_toInt] at *); omega))], by unfold d_code; rw [if_neg (by rintro ⟨z1, z2⟩; first | exact c4 z1 | exact (by (try simp (disch := omega) only [Int32.le_iff_toInt_le, Int32.lt_iff_toInt_lt, ← Int32.toInt_inj, Int32.reduceToInt, nI_1, nI_add, pk_sub, nI_toInt] at *); omega))]⟩
  · refine x_iload_n a 7 d_D_code_7 rfl ?_
    refine x_if_lt a 8 17 d_D_code_8 (by decide) (fun c8 => ?_) (fun c8 => ?_)
    · refine x_iconst a 17 0 d_D_code_17 (by decide) ?_
      exact x_zret a qf 18 d_D_code_18 rfl rfl ⟨by unfold d_code; rw [if_neg (by rintro ⟨z1, z2⟩; first | exact c4 z1 | exact (by (try simp (disch := omega) only [Int32.le_iff_toInt_le, Int32.lt_iff_toInt_lt, ← Int32.toInt_inj, Int32.reduceToInt, nI_1, nI_add, pk_sub, nI_toInt] at *); omega))], by unfold d_code; rw [if_neg (by rintro ⟨z1, z2⟩; first | exact c4 z1 | exact (by (try simp (disch := omega) only [Int32.le_iff_toInt_le, Int32.lt_iff_toInt_lt, ← Int32.toInt_inj, Int32.reduceToInt, nI_1, nI_add, pk_sub, nI_toInt] at *); omega))]⟩
    · refine x_iload_n a 11 d_D_code_11 rfl ?_
      refine x_bipush a 12 16 d_D_code_12 (by decide) ?_
      refine x_icmp_lt a 14 19 d_D_code_14 (by decide) (fun c14 => ?_) (fun c14 => ?_)
      · obtain ⟨j, hj, rfl⟩ := vp_in_of (x := p) (n := 4) (vp_in_iff.mpr (by (try simp (disch := omega) only [Int32.le_iff_toInt_le, Int32.lt_iff_toInt_lt, ← Int32.toInt_inj, Int32.reduceToInt, nI_1, nI_add, pk_sub, nI_toInt] at *); omega)) (by decide)
        obtain ⟨k, hk, rfl⟩ := vp_in_of (x := i) (n := 16) (vp_in_iff.mpr (by (try simp (disch := omega) only [Int32.le_iff_toInt_le, Int32.lt_iff_toInt_lt, ← Int32.toInt_inj, Int32.reduceToInt, nI_1, nI_add, pk_sub, nI_toInt] at *); omega)) (by decide)
        refine x_aload_n a 19 d_D_code_19 rfl ?_
        refine x_getR a 20 f_D_15 d_D_code_20 rfl (by omega) (by decide) rfl ?_
        refine x_iload_n a 23 d_D_code_23 rfl ?_
        refine x_aald2 a 24 d_D_code_24 rfl (by omega) (j := j) rfl hj (by decide) (rPs (by omega)) ?_
        refine x_getR a 25 f_D_70 d_D_code_25 (kP (by omega)) (by omega) (by decide) (rP0 (by omega)) ?_
        refine x_iload_n a 28 d_D_code_28 rfl ?_
        refine x_iload_n a 29 d_D_code_29 rfl ?_
        refine x_iast a 30 d_D_code_30 (kA4 (by omega)) (by omega) (j := k) rfl hk (by decide) ?_
        refine x_aload_n a 31 d_D_code_31 rfl ?_
        refine x_getR a 32 f_D_15 d_D_code_32 rfl (by omega) (by decide) rfl ?_
        refine x_iload_n a 35 d_D_code_35 rfl ?_
        refine x_aald2 a 36 d_D_code_36 rfl (by omega) (j := j) rfl hj (by decide) (rPs (by omega)) ?_
        refine x_getR a 37 f_D_73 d_D_code_37 (kP (by omega)) (by omega) (by decide) (rP1 (by omega)) ?_
        refine x_iload_n a 40 d_D_code_40 rfl ?_
        refine x_iload a 41 d_D_code_41 rfl ?_
        refine x_iast a 43 d_D_code_43 (kA5 (by omega)) (by omega) (j := k) rfl hk (by decide) ?_
        refine x_aload_n a 44 d_D_code_44 rfl ?_
        refine x_getR a 45 f_D_15 d_D_code_45 rfl (by omega) (by decide) rfl ?_
        refine x_iload_n a 48 d_D_code_48 rfl ?_
        refine x_aald2 a 49 d_D_code_49 rfl (by omega) (j := j) rfl hj (by decide) (rPs (by omega)) ?_
        refine x_getR a 50 f_D_76 d_D_code_50 (kP (by omega)) (by omega) (by decide) (rP2 (by omega)) ?_
        refine x_iload_n a 53 d_D_code_53 rfl ?_
        refine x_iload a 54 d_D_code_54 rfl ?_
        refine x_iast a 56 d_D_code_56 (kA6 (by omega)) (by omega) (j := k) rfl hk (by decide) ?_
        refine x_aload_n a 57 d_D_code_57 rfl ?_
        refine x_iconst a 58 0 d_D_code_58 (by decide) ?_
        refine x_putI a 59 f_D_38 d_D_code_59 rfl (by omega) (by decide) rfl rfl rfl ?_
        refine x_iconst a 62 1 d_D_code_62 (by decide) ?_
        exact x_zret a qf 63 d_D_code_63 rfl rfl ⟨by unfold d_code; rw [if_pos ⟨c4, (by (try simp (disch := omega) only [Int32.le_iff_toInt_le, Int32.lt_iff_toInt_lt, ← Int32.toInt_inj, Int32.reduceToInt, nI_1, nI_add, pk_sub, nI_toInt] at *); omega)⟩], by unfold d_code; rw [if_pos ⟨c4, (by (try simp (disch := omega) only [Int32.le_iff_toInt_le, Int32.lt_iff_toInt_lt, ← Int32.toInt_inj, Int32.reduceToInt, nI_1, nI_add, pk_sub, nI_toInt] at *); omega)⟩, tn_nI (k := j) (by omega), tn_nI (k := k) (by omega)]⟩
      · refine x_iconst a 17 0 d_D_code_17 (by decide) ?_
        exact x_zret a qf 18 d_D_code_18 rfl rfl ⟨by unfold d_code; rw [if_neg (by rintro ⟨z1, z2⟩; first | exact c4 z1 | exact (by (try simp (disch := omega) only [Int32.le_iff_toInt_le, Int32.lt_iff_toInt_lt, ← Int32.toInt_inj, Int32.reduceToInt, nI_1, nI_add, pk_sub, nI_toInt] at *); omega))], by unfold d_code; rw [if_neg (by rintro ⟨z1, z2⟩; first | exact c4 z1 | exact (by (try simp (disch := omega) only [Int32.le_iff_toInt_le, Int32.lt_iff_toInt_lt, ← Int32.toInt_inj, Int32.reduceToInt, nI_1, nI_add, pk_sub, nI_toInt] at *); omega))]⟩
set_option maxRecDepth 100000 in
set_option maxHeartbeats 4000000 in
theorem c_D_start (h : Hp) (I : IC h) : Cn u_D_start 4 0 0 (w0 h) [.inr (some 0)] (fun v w' => ∃ x, v = some x ∧ dWrong h (tn (h 58 2)) (tn (h 0 4)) x ∧ w' = w0 (if x = 0 then d_begin h (tn (h 0 4)) else h)) := by
  refine Cn.of (by decide +kernel) (Nat.le_of_ble_eq_true rfl) (fun E ad a qf => ?_)
  have qa := qf.2.2.2
  have hcs : 0 ≤ (eR E).cells ∧ 0 ≤ (eR E).slots := ⟨Nat.zero_le _, Nat.zero_le _⟩
  refine x_aload_n a 0 d_D_start_0 rfl ?_
  refine x_callV a qa 1 g_D_79 d_D_start_1 (c_D_checkTable _ I.w.2 (Nat.le_of_lt_succ I.w.1) I.n.2 (Nat.le_of_lt_succ I.n.1) I.s) rfl rfl rfl (show _ < 86 by omega) (by decide) (Nat.le_of_ble_eq_true rfl) hcs (fun v w' hp => ?_)
  obtain ⟨rfl, x, rfl, hx⟩ := hp
  refine x_st1 ?_
  refine x_istore_n a 4 d_D_start_4 (by decide) ?_
  refine x_iload_n a 5 d_D_start_5 rfl ?_
  refine x_if_ne a 6 13 d_D_start_6 (by decide) (fun c6 => ?_) (fun c6 => ?_)
  · refine x_iload_n a 13 d_D_start_13 rfl ?_
    exact x_iret a qf 14 d_D_start_14 rfl ⟨x, rfl, hx, by first | (rw [if_pos c6]; done) | (rw [if_neg c6]; done)⟩
  · refine x_aload_n a 9 d_D_start_9 rfl ?_
    refine x_callV a qa 10 g_D_83 d_D_start_10 (c_D_beginAnew _ I.n.2 (Nat.le_of_lt_succ I.n.1)) rfl rfl rfl (show _ < 86 by omega) (by decide) (Nat.le_of_ble_eq_true rfl) hcs (fun v w' hp => ?_)
    obtain ⟨rfl, rfl⟩ := hp
    refine x_st0 ?_
    refine x_iload_n a 13 d_D_start_13 rfl ?_
    exact x_iret a qf 14 d_D_start_14 rfl ⟨x, rfl, hx, by first | (rw [if_pos c6]; done) | (rw [if_neg c6]; done)⟩
set_option maxRecDepth 100000 in
set_option maxHeartbeats 4000000 in
theorem c_D_input (h : Hp) (I : IC h) (p x : Int32) : Cn u_D_input 1 0 0 (w0 h) [.inr (some 0), .inl p, .inl x] (fun v w' => v = some (d_input h p x).2 ∧ w' = w0 (d_input h p x).1) := by
  refine Cn.of (by decide +kernel) (Nat.le_of_ble_eq_true rfl) (fun E ad a qf => ?_)
  have qa := qf.2.2.2
  have hcs : 0 ≤ (eR E).cells ∧ 0 ≤ (eR E).slots := ⟨Nat.zero_le _, Nat.zero_le _⟩
  refine x_iload_n a 0 d_D_input_0 rfl ?_
  refine x_callS a qa 1 g_D_42 d_D_input_1 (c_D_isPartition _ _) rfl rfl (by decide) (Nat.le_of_ble_eq_true rfl) hcs (fun v w' hp => ?_)
  obtain ⟨rfl, rfl⟩ := hp
  refine x_st1 ?_
  refine x_ifB_ne a 4 9 d_D_input_4 (by decide) (fun c4 => ?_) (fun c4 => ?_)
  · obtain ⟨j, hj, rfl⟩ := vp_in_of (x := p) (n := 4) (vp_in_iff.mpr (by (try simp (disch := omega) only [Int32.le_iff_toInt_le, Int32.lt_iff_toInt_lt, ← Int32.toInt_inj, Int32.reduceToInt, nI_1, nI_add, pk_sub, nI_toInt] at *); omega)) (by decide)
    refine x_aload_n a 9 d_D_input_9 rfl ?_
    refine x_getR a 10 f_D_15 d_D_input_10 rfl (by omega) (by decide) rfl ?_
    refine x_iload_n a 13 d_D_input_13 rfl ?_
    refine x_aald2 a 14 d_D_input_14 rfl (by omega) (j := j) rfl hj (by decide) (rPs (by omega)) ?_
    refine x_getR a 15 f_D_86 d_D_input_15 (kP (by omega)) (by omega) (by decide) (rP5 (by omega)) ?_
    refine x_astore_n a 18 d_D_input_18 (by decide) ?_
    refine x_aload_n a 19 d_D_input_19 rfl ?_
    refine x_iload_n a 20 d_D_input_20 rfl ?_
    refine x_bipush a 21 8 d_D_input_21 (by decide) ?_
    refine x_callV a qa 23 g_D_90 d_D_input_23 (c_V_put _ (vq9 hj) (I.p hj).1.2 (I.p hj).1.1 (I.p hj).2.1.2 (Nat.le_of_lt_succ (I.p hj).2.1.1) _ (lim := 8) (by decide)) rfl rfl (kV9 (by omega)) (show _ < 86 by omega) (by decide) (Nat.le_of_ble_eq_true rfl) hcs (fun v w' hp => ?_)
    obtain ⟨rfl, rfl⟩ := hp
    refine x_st1 ?_
    refine x_ifB_eq a 26 36 d_D_input_26 (by decide) (fun c26 => ?_) (fun c26 => ?_)
    · refine x_iconst a 36 (-1) d_D_input_36 (by decide) ?_
      exact x_iret a qf 37 d_D_input_37 rfl ⟨by unfold d_input; rw [tn_nI (k := j) (by omega), if_neg (fun z => c26 ⟨z.2, z.2⟩)], by unfold d_input; rw [if_neg c26, tn_nI (k := j) (by omega), if_neg (fun z => c26 ⟨z.2, z.2⟩)]⟩
    · refine x_aload_n a 29 d_D_input_29 rfl ?_
      refine x_getI a 30 f_D_96 d_D_input_30 (kV9 (by omega)) (by omega) (by decide) (v := nI (tn (h (9 + 9 * j) 2) + 1)) (by rw [if_pos c26, up2_s]) ?_
      refine x_goto a 33 37 d_D_input_33 (by decide) ?_
      exact x_iret a qf 37 d_D_input_37 rfl ⟨by unfold d_input; rw [tn_nI (k := j) (by omega), if_pos ⟨c4, c26.1⟩], by unfold d_input; rw [if_pos c26, tn_nI (k := j) (by omega), if_pos ⟨c4, c26.1⟩]⟩
  · refine x_iconst a 7 (-1) d_D_input_7 (by decide) ?_
    exact x_iret a qf 8 d_D_input_8 rfl ⟨by unfold d_input; rw [if_neg (by rintro ⟨z1, z2⟩; exact c4 z1)], by unfold d_input; rw [if_neg (by rintro ⟨z1, z2⟩; exact c4 z1)]⟩
set_option maxRecDepth 100000 in
set_option maxHeartbeats 4000000 in
theorem c_D_output (h : Hp) (p x : Int32) : Cn u_D_output 1 0 0 (w0 h) [.inr (some 0), .inl p, .inl x] (fun v w' => v = some (d_output h p x) ∧ w' = w0 h) := by
  refine Cn.of (by decide +kernel) (Nat.le_of_ble_eq_true rfl) (fun E ad a qf => ?_)
  have qa := qf.2.2.2
  have hcs : 0 ≤ (eR E).cells ∧ 0 ≤ (eR E).slots := ⟨Nat.zero_le _, Nat.zero_le _⟩
  refine x_iload_n a 0 d_D_output_0 rfl ?_
  refine x_callS a qa 1 g_D_42 d_D_output_1 (c_D_isPartition _ _) rfl rfl (by decide) (Nat.le_of_ble_eq_true rfl) hcs (fun v w' hp => ?_)
  obtain ⟨rfl, rfl⟩ := hp
  refine x_st1 ?_
  refine x_ifB_eq a 4 20 d_D_output_4 (by decide) (fun c4 => ?_) (fun c4 => ?_)
  · refine x_iconst a 20 0 d_D_output_20 (by decide) ?_
    exact x_iret a qf 21 d_D_output_21 rfl ⟨by unfold d_output; rw [if_neg c4], rfl⟩
  · obtain ⟨j, hj, rfl⟩ := vp_in_of (x := p) (n := 4) (vp_in_iff.mpr (by (try simp (disch := omega) only [Int32.le_iff_toInt_le, Int32.lt_iff_toInt_lt, ← Int32.toInt_inj, Int32.reduceToInt, nI_1, nI_add, pk_sub, nI_toInt] at *); omega)) (by decide)
    refine x_aload_n a 7 d_D_output_7 rfl ?_
    refine x_getR a 8 f_D_15 d_D_output_8 rfl (by omega) (by decide) rfl ?_
    refine x_iload_n a 11 d_D_output_11 rfl ?_
    refine x_aald2 a 12 d_D_output_12 rfl (by omega) (j := j) rfl hj (by decide) (rPs (by omega)) ?_
    refine x_iload_n a 13 d_D_output_13 rfl ?_
    refine x_callV a qa 14 g_D_102 d_D_output_14 (c_P_outputAt _ hj _) rfl rfl (kP (by omega)) (show _ < 86 by omega) (by decide) (Nat.le_of_ble_eq_true rfl) hcs (fun v w' hp => ?_)
    obtain ⟨rfl, rfl⟩ := hp
    refine x_st1 ?_
    refine x_goto a 17 21 d_D_output_17 (by decide) ?_
    exact x_iret a qf 21 d_D_output_21 rfl ⟨by unfold d_output; rw [if_pos c4, tn_nI (k := j) (by omega)], rfl⟩
set_option maxRecDepth 100000 in
set_option maxHeartbeats 4000000 in
theorem c_D_about (h : Hp) (p x : Int32) : Cn u_D_about 1 0 0 (w0 h) [.inr (some 0), .inl p, .inl x] (fun v w' => v = some (d_about h p x) ∧ w' = w0 h) := by
  refine Cn.of (by decide +kernel) (Nat.le_of_ble_eq_true rfl) (fun E ad a qf => ?_)
  have qa := qf.2.2.2
  have hcs : 0 ≤ (eR E).cells ∧ 0 ≤ (eR E).slots := ⟨Nat.zero_le _, Nat.zero_le _⟩
  refine x_iload_n a 0 d_D_about_0 rfl ?_
  refine x_callS a qa 1 g_D_42 d_D_about_1 (c_D_isPartition _ _) rfl rfl (by decide) (Nat.le_of_ble_eq_true rfl) hcs (fun v w' hp => ?_)
  obtain ⟨rfl, rfl⟩ := hp
  refine x_st1 ?_
  refine x_ifB_eq a 4 20 d_D_about_4 (by decide) (fun c4 => ?_) (fun c4 => ?_)
  · refine x_iconst a 20 (-1) d_D_about_20 (by decide) ?_
    exact x_iret a qf 21 d_D_about_21 rfl ⟨by unfold d_about; rw [if_neg c4], rfl⟩
  · obtain ⟨j, hj, rfl⟩ := vp_in_of (x := p) (n := 4) (vp_in_iff.mpr (by (try simp (disch := omega) only [Int32.le_iff_toInt_le, Int32.lt_iff_toInt_lt, ← Int32.toInt_inj, Int32.reduceToInt, nI_1, nI_add, pk_sub, nI_toInt] at *); omega)) (by decide)
    refine x_aload_n a 7 d_D_about_7 rfl ?_
    refine x_getR a 8 f_D_15 d_D_about_8 rfl (by omega) (by decide) rfl ?_
    refine x_iload_n a 11 d_D_about_11 rfl ?_
    refine x_aald2 a 12 d_D_about_12 rfl (by omega) (j := j) rfl hj (by decide) (rPs (by omega)) ?_
    refine x_iload_n a 13 d_D_about_13 rfl ?_
    refine x_callV a qa 14 g_D_106 d_D_about_14 (c_P_tell _ hj _) rfl rfl (kP (by omega)) (show _ < 86 by omega) (by decide) (Nat.le_of_ble_eq_true rfl) hcs (fun v w' hp => ?_)
    obtain ⟨rfl, rfl⟩ := hp
    refine x_st1 ?_
    refine x_goto a 17 21 d_D_about_17 (by decide) ?_
    exact x_iret a qf 21 d_D_about_21 rfl ⟨by unfold d_about; rw [if_pos c4, tn_nI (k := j) (by omega)]; rfl, rfl⟩
set_option maxRecDepth 100000 in
set_option maxHeartbeats 4000000 in
theorem c_D_word (h : Hp) (i : Int32) : Cn u_D_word 0 0 0 (w0 h) [.inr (some 0), .inl i] (fun v w' => v = some (d_word h i) ∧ w' = w0 h) := by
  refine Cn.of (by decide +kernel) (Nat.le_of_ble_eq_true rfl) (fun E ad a qf => ?_)
  have qa := qf.2.2.2
  have hcs : 0 ≤ (eR E).cells ∧ 0 ≤ (eR E).slots := ⟨Nat.zero_le _, Nat.zero_le _⟩
  refine x_iload_n a 0 d_D_word_0 rfl ?_
  refine x_if_lt a 1 19 d_D_word_1 (by decide) (fun c1 => ?_) (fun c1 => ?_)
  · refine x_iconst a 19 0 d_D_word_19 (by decide) ?_
    exact x_iret a qf 20 d_D_word_20 rfl ⟨by unfold d_word; rw [if_neg (by (try simp (disch := omega) only [Int32.le_iff_toInt_le, Int32.lt_iff_toInt_lt, ← Int32.toInt_inj, Int32.reduceToInt, nI_1, nI_add, pk_sub, nI_toInt] at *); omega)], rfl⟩
  · refine x_iload_n a 4 d_D_word_4 rfl ?_
    refine x_bipush a 5 64 d_D_word_5 (by decide) ?_
    refine x_icmp_ge a 7 19 d_D_word_7 (by decide) (fun c7 => ?_) (fun c7 => ?_)
    · refine x_iconst a 19 0 d_D_word_19 (by decide) ?_
      exact x_iret a qf 20 d_D_word_20 rfl ⟨by unfold d_word; rw [if_neg (by (try simp (disch := omega) only [Int32.le_iff_toInt_le, Int32.lt_iff_toInt_lt, ← Int32.toInt_inj, Int32.reduceToInt, nI_1, nI_add, pk_sub, nI_toInt] at *); omega)], rfl⟩
    · obtain ⟨j, hj, rfl⟩ := vp_in_of (x := i) (n := 64) (vp_in_iff.mpr (by (try simp (disch := omega) only [Int32.le_iff_toInt_le, Int32.lt_iff_toInt_lt, ← Int32.toInt_inj, Int32.reduceToInt, nI_1, nI_add, pk_sub, nI_toInt] at *); omega)) (by decide)
      refine x_aload_n a 10 d_D_word_10 rfl ?_
      refine x_getR a 11 f_D_9 d_D_word_11 rfl (by omega) (by decide) rfl ?_
      refine x_iload_n a 14 d_D_word_14 rfl ?_
      refine x_iald a 15 d_D_word_15 rfl (by omega) (j := j) rfl hj (by decide) rfl ?_
      refine x_goto a 16 20 d_D_word_16 (by decide) ?_
      exact x_iret a qf 20 d_D_word_20 rfl ⟨by unfold d_word; rw [if_pos (by (try simp (disch := omega) only [Int32.le_iff_toInt_le, Int32.lt_iff_toInt_lt, ← Int32.toInt_inj, Int32.reduceToInt, nI_1, nI_add, pk_sub, nI_toInt] at *); omega), tn_nI (k := j) (by omega)], rfl⟩
set_option maxRecDepth 100000 in
set_option maxHeartbeats 4000000 in
theorem c_D_waiting (h : Hp) (I : IC h) (x : Int32) : Cn u_D_waiting 1 0 0 (w0 h) [.inr (some 0), .inl x] (fun v w' => v = some (d_waiting h x) ∧ w' = w0 h) := by
  refine Cn.of (by decide +kernel) (Nat.le_of_ble_eq_true rfl) (fun E ad a qf => ?_)
  have qa := qf.2.2.2
  have hcs : 0 ≤ (eR E).cells ∧ 0 ≤ (eR E).slots := ⟨Nat.zero_le _, Nat.zero_le _⟩
  refine x_aload_n a 0 d_D_waiting_0 rfl ?_
  refine x_iload_n a 1 d_D_waiting_1 rfl ?_
  refine x_callV a qa 2 g_D_109 d_D_waiting_2 (c_D_isPort _ _) rfl rfl rfl (show _ < 86 by omega) (by decide) (Nat.le_of_ble_eq_true rfl) hcs (fun v w' hp => ?_)
  obtain ⟨rfl, rfl⟩ := hp
  refine x_st1 ?_
  refine x_ifB_eq a 5 23 d_D_waiting_5 (by decide) (fun c5 => ?_) (fun c5 => ?_)
  · refine x_iconst a 23 (-1) d_D_waiting_23 (by decide) ?_
    exact x_iret a qf 24 d_D_waiting_24 rfl ⟨by unfold d_waiting; rw [if_neg c5], rfl⟩
  · have hx0 := nn_tn c5.1
    have hx6 : tn x < 6 := by have := tn_lt c5.1 c5.2; have := I.n.1; omega
    refine x_aload_n a 8 d_D_waiting_8 rfl ?_
    refine x_getR a 9 f_D_22 d_D_waiting_9 rfl (by omega) (by decide) rfl ?_
    refine x_iload_n a 12 d_D_waiting_12 rfl ?_
    refine x_aald3 a 13 d_D_waiting_13 rfl (by omega) (j := tn x) hx0 hx6 (by decide) (rQs (by omega)) ?_
    refine x_getR a 14 f_D_112 d_D_waiting_14 (kQ (by omega)) (by omega) (by decide) (rQ0 (by omega)) ?_
    refine x_getI a 17 f_D_96 d_D_waiting_17 (kV41 (by omega)) (by omega) (by decide) rfl ?_
    refine x_goto a 20 24 d_D_waiting_20 (by decide) ?_
    exact x_iret a qf 24 d_D_waiting_24 rfl ⟨by unfold d_waiting; rw [if_pos c5], rfl⟩
set_option maxRecDepth 100000 in
set_option maxHeartbeats 4000000 in
theorem c_D_clock (h : Hp) (x : Int32) : Cn u_D_clock 1 0 0 (w0 h) [.inr (some 0), .inl x] (fun v w' => v = some (d_clock h x) ∧ w' = w0 h) := by
  refine Cn.of (by decide +kernel) (Nat.le_of_ble_eq_true rfl) (fun E ad a qf => ?_)
  have qa := qf.2.2.2
  have hcs : 0 ≤ (eR E).cells ∧ 0 ≤ (eR E).slots := ⟨Nat.zero_le _, Nat.zero_le _⟩
  refine x_aload_n a 0 d_D_clock_0 rfl ?_
  refine x_getI a 1 f_D_38 d_D_clock_1 rfl (by omega) (by decide) rfl ?_
  refine x_if_eq a 4 18 d_D_clock_4 (by decide) (fun c4 => ?_) (fun c4 => ?_)
  · refine x_iconst a 18 (-1) d_D_clock_18 (by decide) ?_
    exact x_iret a qf 19 d_D_clock_19 rfl ⟨by unfold d_clock; rw [if_pos c4], rfl⟩
  · refine x_aload_n a 7 d_D_clock_7 rfl ?_
    refine x_getR a 8 f_D_30 d_D_clock_8 rfl (by omega) (by decide) rfl ?_
    refine x_iload_n a 11 d_D_clock_11 rfl ?_
    refine x_callV a qa 12 g_D_115 d_D_clock_12 (c_F_tell _ _) rfl rfl rfl (show _ < 86 by omega) (by decide) (Nat.le_of_ble_eq_true rfl) hcs (fun v w' hp => ?_)
    obtain ⟨rfl, rfl⟩ := hp
    refine x_st1 ?_
    refine x_goto a 15 19 d_D_clock_15 (by decide) ?_
    exact x_iret a qf 19 d_D_clock_19 rfl ⟨by unfold d_clock; rw [if_neg c4], rfl⟩
def d_tk (h : Hp) : Hp := d_tick h (tn (h 58 3)) (tn (h 58 2)) (tn (h 59 (tn (h 58 3)))) (tn (h 58 4)) (tn (h 60 (tn (h 58 3))))
abbrev d_acts (h : Hp) : Prop := ¬ h (3 + 9 * tn (h 59 (tn (h 58 3)))) 10 = 0 ∧ h 58 6 = 0
def d_ticks (h : Hp) : Nat → Hp
  | 0 => h
  | k + 1 => d_tk (d_ticks h k)
def d_done (h : Hp) : Nat → Nat
  | 0 => 0
  | k + 1 => d_done h k + (if d_acts (d_ticks h k) then 1 else 0)
def d_run (h : Hp) (n : Int32) : Hp × Int32 := if ¬ h 0 5 = 0 ∧ 0 ≤ n ∧ n ≤ 200 then (d_ticks h (tn n), nI (d_done h (tn n))) else (h, -1)
/-- a tick can be gone through -/
def TS (g : Hp) : Prop := IC g ∧ Nlt (g 58 3) (tn (g 58 2)) ∧ Nlt (g 58 4) 1000
set_option maxRecDepth 100000 in
set_option maxHeartbeats 4000000 in
theorem l_D_run {E : En} {ad : Nat → Nat} {h : Hp} {n0 : Nat} {Post : Option Int32 → Wd → Prop} (a : Amb u_D_run 6 E) (qf : Fin Post n0 ad 0 0 E) (qa : va_AO R_2 (eS E) ∧ va_AO R_3 (eS E)) (hcs : 0 ≤ (eR E).cells ∧ 0 ≤ (eR E).slots) {n : Nat} (hn : n ≤ 200) (hs : ∀ k, k < n → TS (d_ticks h k)) (hpo : Post (some (nI (d_done h n))) (w0 (d_ticks h n))) : ∀ m k : Nat, k ≤ n → n < k + m → X E 0 0 ad (w0 (d_ticks h k)) 24 [(0, .inr (some 0)), (1, .inl (nI n)), (2, .inl (nI (d_done h k))), (3, .inl (nI k))] [] := by
  intro m
  induction m with
  | zero => intro k h1 h2; omega
  | succ m ih =>
    intro k h1 h2
    refine x_iload_n a 24 d_D_run_24 rfl ?_
    refine x_iload_n a 25 d_D_run_25 rfl ?_
    refine x_icmp_ge a 26 45 d_D_run_26 (by decide) (fun c26 => ?_) (fun c26 => ?_)
    · have hk : k = n := (by (try simp (disch := omega) only [Int32.le_iff_toInt_le, Int32.lt_iff_toInt_lt, ← Int32.toInt_inj, Int32.reduceToInt, nI_1, nI_add, pk_sub, nI_toInt] at *); omega)
      subst hk
      refine x_iload_n a 45 d_D_run_45 rfl ?_
      exact x_iret a qf 46 d_D_run_46 rfl hpo
    · have hk : k < n := (by (try simp (disch := omega) only [Int32.le_iff_toInt_le, Int32.lt_iff_toInt_lt, ← Int32.toInt_inj, Int32.reduceToInt, nI_1, nI_add, pk_sub, nI_toInt] at *); omega)
      obtain ⟨I, hT1, hT2⟩ := hs k hk
      have hw := I.w.1
      have hfr := I.f _ hT1.1
      refine x_aload_n a 29 d_D_run_29 rfl ?_
      refine x_callV a qa 30 g_D_99 d_D_run_30 (c_D_passTick _ I hT1.2 I.w.2 hT1.1 (by omega) hfr.1.2 hfr.1.1 hT2.2 hT2.1 hfr.2.2 (Nat.lt_trans hfr.2.1 (by decide))) rfl rfl rfl (show _ < 86 by omega) (by decide) (Nat.le_of_ble_eq_true rfl) hcs (fun v w' hp => ?_)
      obtain ⟨rfl, rfl⟩ := hp
      refine x_st1 ?_
      refine x_ifB_eq a 33 39 d_D_run_33 (by decide) (fun c33 => ?_) (fun c33 => ?_)
      · refine x_iinc a 39 (nI (k + 1)) d_D_run_39 rfl (nI_inc k) (by decide) ?_
        refine x_goto a 42 24 d_D_run_42 (by decide) ?_
        refine x_lv [(0, .inr (some 0)), (1, .inl (nI n)), (2, .inl (nI (d_done h (k + 1)))), (3, .inl (nI (k + 1)))] (by rw [show d_done h (k + 1) = d_done h k + (if d_acts (d_ticks h k) then 1 else 0) from rfl]; (first | rw [if_pos c33] | rw [if_neg c33]); exact (List.forall_mem_cons.mpr ⟨rfl, List.forall_mem_cons.mpr ⟨rfl, List.forall_mem_cons.mpr ⟨rfl, List.forall_mem_cons.mpr ⟨rfl, fun _ z => absurd z List.not_mem_nil⟩⟩⟩⟩)) ?_
        exact ih (k + 1) hk (by omega)
      · refine x_iinc a 36 (nI (d_done h k + 1)) d_D_run_36 rfl (nI_inc _) (by decide) ?_
        refine x_iinc a 39 (nI (k + 1)) d_D_run_39 rfl (nI_inc k) (by decide) ?_
        refine x_goto a 42 24 d_D_run_42 (by decide) ?_
        refine x_lv [(0, .inr (some 0)), (1, .inl (nI n)), (2, .inl (nI (d_done h (k + 1)))), (3, .inl (nI (k + 1)))] (by rw [show d_done h (k + 1) = d_done h k + (if d_acts (d_ticks h k) then 1 else 0) from rfl]; (first | rw [if_pos c33] | rw [if_neg c33]); exact (List.forall_mem_cons.mpr ⟨rfl, List.forall_mem_cons.mpr ⟨rfl, List.forall_mem_cons.mpr ⟨rfl, List.forall_mem_cons.mpr ⟨rfl, fun _ z => absurd z List.not_mem_nil⟩⟩⟩⟩)) ?_
        exact ih (k + 1) hk (by omega)
set_option maxRecDepth 100000 in
set_option maxHeartbeats 4000000 in
theorem c_D_run (h : Hp) (n : Int32) (hs : ¬ h 0 5 = 0 → ∀ k, k < 200 → TS (d_ticks h k)) : Cn u_D_run 6 0 0 (w0 h) [.inr (some 0), .inl n] (fun v w' => v = some (d_run h n).2 ∧ w' = w0 (d_run h n).1) := by
  refine Cn.of (by decide +kernel) (Nat.le_of_ble_eq_true rfl) (fun E ad a qf => ?_)
  have qa := qf.2.2.2
  have hcs : 0 ≤ (eR E).cells ∧ 0 ≤ (eR E).slots := ⟨Nat.zero_le _, Nat.zero_le _⟩
  refine x_aload_n a 0 d_D_run_0 rfl ?_
  refine x_getI a 1 f_D_38 d_D_run_1 rfl (by omega) (by decide) rfl ?_
  refine x_if_eq a 4 18 d_D_run_4 (by decide) (fun c4 => ?_) (fun c4 => ?_)
  · refine x_iconst a 18 (-1) d_D_run_18 (by decide) ?_
    exact x_iret a qf 19 d_D_run_19 rfl ⟨by unfold d_run; rw [if_neg (by rintro ⟨z1, z2⟩; first | exact z1 c4 | exact (by (try simp (disch := omega) only [Int32.le_iff_toInt_le, Int32.lt_iff_toInt_lt, ← Int32.toInt_inj, Int32.reduceToInt, nI_1, nI_add, pk_sub, nI_toInt] at *); omega))], by unfold d_run; rw [if_neg (by rintro ⟨z1, z2⟩; first | exact z1 c4 | exact (by (try simp (disch := omega) only [Int32.le_iff_toInt_le, Int32.lt_iff_toInt_lt, ← Int32.toInt_inj, Int32.reduceToInt, nI_1, nI_add, pk_sub, nI_toInt] at *); omega))]⟩
  · refine x_iload_n a 7 d_D_run_7 rfl ?_
    refine x_if_lt a 8 18 d_D_run_8 (by decide) (fun c8 => ?_) (fun c8 => ?_)
    · refine x_iconst a 18 (-1) d_D_run_18 (by decide) ?_
      exact x_iret a qf 19 d_D_run_19 rfl ⟨by unfold d_run; rw [if_neg (by rintro ⟨z1, z2⟩; first | exact z1 c4 | exact (by (try simp (disch := omega) only [Int32.le_iff_toInt_le, Int32.lt_iff_toInt_lt, ← Int32.toInt_inj, Int32.reduceToInt, nI_1, nI_add, pk_sub, nI_toInt] at *); omega))], by unfold d_run; rw [if_neg (by rintro ⟨z1, z2⟩; first | exact z1 c4 | exact (by (try simp (disch := omega) only [Int32.le_iff_toInt_le, Int32.lt_iff_toInt_lt, ← Int32.toInt_inj, Int32.reduceToInt, nI_1, nI_add, pk_sub, nI_toInt] at *); omega))]⟩
    · refine x_iload_n a 11 d_D_run_11 rfl ?_
      refine x_sipush a 12 200 d_D_run_12 (by decide) ?_
      refine x_icmp_le a 15 20 d_D_run_15 (by decide) (fun c15 => ?_) (fun c15 => ?_)
      · obtain ⟨k, hk, rfl⟩ := vp_in_of (x := n) (n := 201) (vp_in_iff.mpr (by (try simp (disch := omega) only [Int32.le_iff_toInt_le, Int32.lt_iff_toInt_lt, ← Int32.toInt_inj, Int32.reduceToInt, nI_1, nI_add, pk_sub, nI_toInt] at *); omega)) (by decide)
        refine x_iconst a 20 0 d_D_run_20 (by decide) ?_
        refine x_istore_n a 21 d_D_run_21 (by decide) ?_
        refine x_iconst a 22 0 d_D_run_22 (by decide) ?_
        refine x_istore_n a 23 d_D_run_23 (by decide) ?_
        refine x_lv [(0, .inr (some 0)), (1, .inl (nI k)), (2, .inl (nI 0)), (3, .inl (nI 0))] (List.forall_mem_cons.mpr ⟨rfl, List.forall_mem_cons.mpr ⟨rfl, List.forall_mem_cons.mpr ⟨rfl, List.forall_mem_cons.mpr ⟨rfl, fun _ z => absurd z List.not_mem_nil⟩⟩⟩⟩) ?_
        exact l_D_run (h := h) (n := k) a qf qa hcs (by omega) (fun i hi => hs c4 i (by omega)) (by have hc : ¬ h 0 5 = 0 ∧ 0 ≤ nI k ∧ nI k ≤ 200 := ⟨c4, (by (try simp (disch := omega) only [Int32.le_iff_toInt_le, Int32.lt_iff_toInt_lt, ← Int32.toInt_inj, Int32.reduceToInt, nI_1, nI_add, pk_sub, nI_toInt] at *); omega)⟩; constructor <;> (unfold d_run; rw [if_pos hc, tn_nI (by omega)])) (k + 1) 0 (by omega) (by omega)
      · refine x_iconst a 18 (-1) d_D_run_18 (by decide) ?_
        exact x_iret a qf 19 d_D_run_19 rfl ⟨by unfold d_run; rw [if_neg (by rintro ⟨z1, z2⟩; first | exact z1 c4 | exact (by (try simp (disch := omega) only [Int32.le_iff_toInt_le, Int32.lt_iff_toInt_lt, ← Int32.toInt_inj, Int32.reduceToInt, nI_1, nI_add, pk_sub, nI_toInt] at *); omega))], by unfold d_run; rw [if_neg (by rintro ⟨z1, z2⟩; first | exact z1 c4 | exact (by (try simp (disch := omega) only [Int32.le_iff_toInt_le, Int32.lt_iff_toInt_lt, ← Int32.toInt_inj, Int32.reduceToInt, nI_1, nI_add, pk_sub, nI_toInt] at *); omega))]⟩
end
section
/-! the reference's own steps as functions, over its cells (61 and on) -/
abbrev mIn (v a b : Int32) : Prop := a ≤ v ∧ v ≤ b
theorem ix_r (p : Nat) (x : Int32) : (4 : Int32) * nI p + (x &&& 3) = nI (4 * p + rg x) := by
  rw [← rg_nI, show (4 : Int32) = nI 4 from rfl, pk_mul, nI_add]
theorem ix_n {k : Int32} {K : Nat} (hk : k = nI K) (p i : Nat) : k * nI p + nI i = nI (K * p + i) := by
  rw [hk, pk_mul, nI_add]
def m_region (h : Hp) (p f s : Int32) : Hp × Int32 := if mIn p 0 3 ∧ mIn s 1 32 ∧ mIn f 0 (64 - s) then (up2 (up2 (up2 h 62 (tn p) f) 63 (tn p) s) 61 26 0, 1) else (h, 0)
def m_window (h : Hp) (p t : Int32) : Hp × Int32 := if mIn p 0 3 ∧ mIn t 1 9 ∧ ¬ h 61 24 = 8 then (up2 (up2 (up2 (up2 h 64 (tn (h 61 24)) p) 65 (tn (h 61 24)) t) 61 24 (h 61 24 + 1)) 61 26 0, 1) else (h, 0)
def m_port (h : Hp) (f t d : Int32) : Hp × Int32 := if mIn f 0 3 ∧ mIn t 0 3 ∧ ¬ f = t ∧ mIn d 0 4 ∧ ¬ h 61 25 = 6 then (up2 (up2 (up2 (up2 (up2 (up2 h 66 (tn (h 61 25)) f) 67 (tn (h 61 25)) t) 68 (tn (h 61 25)) d) 69 (tn (h 61 25)) 0) 61 25 (h 61 25 + 1)) 61 26 0, h 61 25 + 1 - 1) else (h, -1)
def m_action (h : Hp) (p f x : Int32) : Hp × Int32 := if mIn p 0 3 ∧ mIn f 1 4 ∧ mIn x 0 2 then (up2 (up2 h 72 (4 * tn p + tn f - 1) x) 61 26 0, 1) else (h, 0)
def m_code (h : Hp) (p i o a b : Int32) : Hp × Int32 := if mIn p 0 3 ∧ mIn i 0 15 then (up2 (up2 (up2 (up2 h 73 (16 * tn p + tn i) o) 74 (16 * tn p + tn i) a) 75 (16 * tn p + tn i) b) 61 26 0, 1) else (h, 0)
abbrev m_part (h : Hp) (p : Nat) : Prop := 0 ≤ h 62 p
def m_input (h : Hp) (p v : Int32) : Hp × Int32 := if mIn p 0 3 ∧ ¬ h 82 (tn p) = 8 then (up2 (up2 h 83 (8 * tn p + tn (h 82 (tn p))) v) 82 (tn p) (h 82 (tn p) + 1), h 82 (tn p) + 1) else (h, -1)
def m_output (h : Hp) (p i : Int32) : Int32 := if mIn p 0 3 ∧ mIn i 0 15 ∧ i < h 84 (tn p) then h 85 (16 * tn p + tn i) else 0
def m_about (h : Hp) (p w : Int32) : Int32 := if mIn p 0 3 ∧ mIn w 0 8 then (if w < 4 then h 77 (4 * tn p + tn w) else if w = 4 then h 78 (tn p) else if w = 5 then (if h 80 (tn p) = 0 then 0 else 1) else if w = 6 then h 79 (tn p) else if w = 7 then h 84 (tn p) else h 82 (tn p)) else -1
def m_word (h : Hp) (i : Int32) : Int32 := if mIn i 0 63 then h 76 (tn i) else 0
def m_waiting (h : Hp) (k : Int32) : Int32 := if mIn k 0 (h 61 25 - 1) then h 69 (tn k) else -1
def m_clock (h : Hp) (x : Int32) : Int32 := if h 61 26 = 0 then -1 else if x = 0 then h 61 27 else if x = 1 then h 61 28 else if x = 2 then h 61 29 else -1
def m_go (h : Hp) (p : Nat) : Hp := up2 h 78 p (h 78 p + 1)
set_option maxRecDepth 100000 in
set_option maxHeartbeats 4000000 in
theorem c_M_in (h : Hp) (v lo hi : Int32) : Cn u_M_in 0 0 0 (w0 h) [.inl v, .inl lo, .inl hi] (fun r w' => r = some (bI (mIn v lo hi)) ∧ w' = w0 h) := by
  refine Cn.of (by decide +kernel) (Nat.le_of_ble_eq_true rfl) (fun E ad a qf => ?_)
  have qa := qf.2.2.2
  have hcs : 0 ≤ (eR E).cells ∧ 0 ≤ (eR E).slots := ⟨Nat.zero_le _, Nat.zero_le _⟩
  refine x_iload_n a 0 d_M_in_0 rfl ?_
  refine x_iload_n a 1 d_M_in_1 rfl ?_
  refine x_icmp_lt a 2 14 d_M_in_2 (by decide) (fun c2 => ?_) (fun c2 => ?_)
  · refine x_iconst a 14 0 d_M_in_14 (by decide) ?_
    exact x_zret a qf 15 d_M_in_15 rfl rfl ⟨by rw [bI_f (by rintro ⟨z1, z2⟩; first | exact absurd c2 (Int32.not_lt.mpr z1) | exact absurd c7 (Int32.not_lt.mpr z2))], rfl⟩
  · refine x_iload_n a 5 d_M_in_5 rfl ?_
    refine x_iload_n a 6 d_M_in_6 rfl ?_
    refine x_icmp_gt a 7 14 d_M_in_7 (by decide) (fun c7 => ?_) (fun c7 => ?_)
    · refine x_iconst a 14 0 d_M_in_14 (by decide) ?_
      exact x_zret a qf 15 d_M_in_15 rfl rfl ⟨by rw [bI_f (by rintro ⟨z1, z2⟩; first | exact absurd c2 (Int32.not_lt.mpr z1) | exact absurd c7 (Int32.not_lt.mpr z2))], rfl⟩
    · refine x_iconst a 10 1 d_M_in_10 (by decide) ?_
      refine x_goto a 11 15 d_M_in_11 (by decide) ?_
      exact x_zret a qf 15 d_M_in_15 rfl rfl ⟨by rw [bI_t ⟨Int32.not_lt.mp c2, Int32.not_lt.mp c7⟩], rfl⟩
set_option maxRecDepth 100000 in
set_option maxHeartbeats 4000000 in
theorem c_M_isOne (h : Hp) (v : Int32) : Cn u_M_isOne 1 0 0 (w0 h) [.inl v] (fun r w' => r = some (bI (mIn v 0 3)) ∧ w' = w0 h) := by
  refine Cn.of (by decide +kernel) (Nat.le_of_ble_eq_true rfl) (fun E ad a qf => ?_)
  have qa := qf.2.2.2
  have hcs : 0 ≤ (eR E).cells ∧ 0 ≤ (eR E).slots := ⟨Nat.zero_le _, Nat.zero_le _⟩
  refine x_iload_n a 0 d_M_isOne_0 rfl ?_
  refine x_iconst a 1 0 d_M_isOne_1 (by decide) ?_
  refine x_iconst a 2 3 d_M_isOne_2 (by decide) ?_
  refine x_callS a qa 3 g_M_83 d_M_isOne_3 (c_M_in _ _ _ _) rfl rfl (by decide) (Nat.le_of_ble_eq_true rfl) hcs (fun v w' hp => ?_)
  obtain ⟨rfl, rfl⟩ := hp
  refine x_st1 ?_
  exact x_zret a qf 6 d_M_isOne_6 rfl bI_nar ⟨rfl, rfl⟩
set_option maxRecDepth 100000 in
set_option maxHeartbeats 4000000 in
theorem c_M_region (h : Hp) (p f s : Int32) : Cn u_M_region 2 0 0 (w0 h) [.inr (some 61), .inl p, .inl f, .inl s] (fun v w' => v = some (m_region h p f s).2 ∧ w' = w0 (m_region h p f s).1) := by
  refine Cn.of (by decide +kernel) (Nat.le_of_ble_eq_true rfl) (fun E ad a qf => ?_)
  have qa := qf.2.2.2
  have hcs : 0 ≤ (eR E).cells ∧ 0 ≤ (eR E).slots := ⟨Nat.zero_le _, Nat.zero_le _⟩
  refine x_iload_n a 0 d_M_region_0 rfl ?_
  refine x_callS a qa 1 g_M_87 d_M_region_1 (c_M_isOne _ _) rfl rfl (by decide) (Nat.le_of_ble_eq_true rfl) hcs (fun v w' hp => ?_)
  obtain ⟨rfl, rfl⟩ := hp
  refine x_st1 ?_
  refine x_ifB_eq a 4 29 d_M_region_4 (by decide) (fun c4 => ?_) (fun c4 => ?_)
  · refine x_iconst a 29 0 d_M_region_29 (by decide) ?_
    exact x_zret a qf 30 d_M_region_30 rfl rfl ⟨by unfold m_region; rw [if_neg (by rintro ⟨z1, z2, z3⟩; first | exact c4 z1 | exact c14 z2 | exact c26 z3)], by unfold m_region; rw [if_neg (by rintro ⟨z1, z2, z3⟩; first | exact c4 z1 | exact c14 z2 | exact c26 z3)]⟩
  · refine x_iload_n a 7 d_M_region_7 rfl ?_
    refine x_iconst a 8 1 d_M_region_8 (by decide) ?_
    refine x_bipush a 9 32 d_M_region_9 (by decide) ?_
    refine x_callS a qa 11 g_M_83 d_M_region_11 (c_M_in _ _ _ _) rfl rfl (by decide) (Nat.le_of_ble_eq_true rfl) hcs (fun v w' hp => ?_)
    obtain ⟨rfl, rfl⟩ := hp
    refine x_st1 ?_
    refine x_ifB_eq a 14 29 d_M_region_14 (by decide) (fun c14 => ?_) (fun c14 => ?_)
    · refine x_iconst a 29 0 d_M_region_29 (by decide) ?_
      exact x_zret a qf 30 d_M_region_30 rfl rfl ⟨by unfold m_region; rw [if_neg (by rintro ⟨z1, z2, z3⟩; first | exact c4 z1 | exact c14 z2 | exact c26 z3)], by unfold m_region; rw [if_neg (by rintro ⟨z1, z2, z3⟩; first | exact c4 z1 | exact c14 z2 | exact c26 z3)]⟩
    · refine x_iload_n a 17 d_M_region_17 rfl ?_
      refine x_iconst a 18 0 d_M_region_18 (by decide) ?_
      refine x_bipush a 19 64 d_M_region_19 (by decide) ?_
      refine x_iload_n a 21 d_M_region_21 rfl ?_
      refine x_isub a 22 d_M_region_22 ?_
      refine x_callS a qa 23 g_M_83 d_M_region_23 (c_M_in _ _ _ _) rfl rfl (by decide) (Nat.le_of_ble_eq_true rfl) hcs (fun v w' hp => ?_)
      obtain ⟨rfl, rfl⟩ := hp
      refine x_st1 ?_
      refine x_ifB_ne a 26 31 d_M_region_26 (by decide) (fun c26 => ?_) (fun c26 => ?_)
      · obtain ⟨j, hj, rfl⟩ := vp_in_of (x := p) (n := 4) (vp_in_iff.mpr (by have c1 := c4.1; have c2 := c4.2; (try simp (disch := omega) only [Int32.le_iff_toInt_le, Int32.lt_iff_toInt_lt, ← Int32.toInt_inj, Int32.reduceToInt, nI_1, nI_add, pk_sub, nI_toInt] at *); omega)) (by decide)
        refine x_aload_n a 31 d_M_region_31 rfl ?_
        refine x_getR a 32 f_M_7 d_M_region_32 rfl (by omega) (by decide) (o' := 62) rfl ?_
        refine x_iload_n a 35 d_M_region_35 rfl ?_
        refine x_iload_n a 36 d_M_region_36 rfl ?_
        refine x_iast a 37 d_M_region_37 rfl (by omega) (j := j) rfl hj (by decide) ?_
        refine x_aload_n a 38 d_M_region_38 rfl ?_
        refine x_getR a 39 f_M_13 d_M_region_39 rfl (by omega) (by decide) (o' := 63) rfl ?_
        refine x_iload_n a 42 d_M_region_42 rfl ?_
        refine x_iload_n a 43 d_M_region_43 rfl ?_
        refine x_iast a 44 d_M_region_44 rfl (by omega) (j := j) rfl hj (by decide) ?_
        refine x_aload_n a 45 d_M_region_45 rfl ?_
        refine x_iconst a 46 0 d_M_region_46 (by decide) ?_
        refine x_putI a 47 f_M_91 d_M_region_47 rfl (by omega) (by decide) rfl rfl rfl ?_
        refine x_iconst a 50 1 d_M_region_50 (by decide) ?_
        exact x_zret a qf 51 d_M_region_51 rfl rfl ⟨by unfold m_region; rw [if_pos ⟨c4, c14, c26⟩], by unfold m_region; rw [if_pos ⟨c4, c14, c26⟩, tn_nI (k := j) (by omega)]⟩
      · refine x_iconst a 29 0 d_M_region_29 (by decide) ?_
        exact x_zret a qf 30 d_M_region_30 rfl rfl ⟨by unfold m_region; rw [if_neg (by rintro ⟨z1, z2, z3⟩; first | exact c4 z1 | exact c14 z2 | exact c26 z3)], by unfold m_region; rw [if_neg (by rintro ⟨z1, z2, z3⟩; first | exact c4 z1 | exact c14 z2 | exact c26 z3)]⟩
set_option maxRecDepth 100000 in
set_option maxHeartbeats 4000000 in
theorem c_M_window (h : Hp) (p t : Int32) (hn : Nlt (h 61 24) 9) : Cn u_M_window 2 0 0 (w0 h) [.inr (some 61), .inl p, .inl t] (fun v w' => v = some (m_window h p t).2 ∧ w' = w0 (m_window h p t).1) := by
  refine Cn.of (by decide +kernel) (Nat.le_of_ble_eq_true rfl) (fun E ad a qf => ?_)
  have qa := qf.2.2.2
  have hcs : 0 ≤ (eR E).cells ∧ 0 ≤ (eR E).slots := ⟨Nat.zero_le _, Nat.zero_le _⟩
  refine x_iload_n a 0 d_M_window_0 rfl ?_
  refine x_callS a qa 1 g_M_87 d_M_window_1 (c_M_isOne _ _) rfl rfl (by decide) (Nat.le_of_ble_eq_true rfl) hcs (fun v w' hp => ?_)
  obtain ⟨rfl, rfl⟩ := hp
  refine x_st1 ?_
  refine x_ifB_eq a 4 26 d_M_window_4 (by decide) (fun c4 => ?_) (fun c4 => ?_)
  · refine x_iconst a 26 0 d_M_window_26 (by decide) ?_
    exact x_zret a qf 27 d_M_window_27 rfl rfl ⟨by unfold m_window; rw [if_neg (by rintro ⟨z1, z2, z3⟩; first | exact c4 z1 | exact c14 z2 | exact z3 c23)], by unfold m_window; rw [if_neg (by rintro ⟨z1, z2, z3⟩; first | exact c4 z1 | exact c14 z2 | exact z3 c23)]⟩
  · refine x_iload_n a 7 d_M_window_7 rfl ?_
    refine x_iconst a 8 1 d_M_window_8 (by decide) ?_
    refine x_bipush a 9 9 d_M_window_9 (by decide) ?_
    refine x_callS a qa 11 g_M_83 d_M_window_11 (c_M_in _ _ _ _) rfl rfl (by decide) (Nat.le_of_ble_eq_true rfl) hcs (fun v w' hp => ?_)
    obtain ⟨rfl, rfl⟩ := hp
    refine x_st1 ?_
    refine x_ifB_eq a 14 26 d_M_window_14 (by decide) (fun c14 => ?_) (fun c14 => ?_)
    · refine x_iconst a 26 0 d_M_window_26 (by decide) ?_
      exact x_zret a qf 27 d_M_window_27 rfl rfl ⟨by unfold m_window; rw [if_neg (by rintro ⟨z1, z2, z3⟩; first | exact c4 z1 | exact c14 z2 | exact z3 c23)], by unfold m_window; rw [if_neg (by rintro ⟨z1, z2, z3⟩; first | exact c4 z1 | exact c14 z2 | exact z3 c23)]⟩
    · refine x_aload_n a 17 d_M_window_17 rfl ?_
      refine x_getI a 18 f_M_95 d_M_window_18 rfl (by omega) (by decide) rfl ?_
      refine x_bipush a 21 8 d_M_window_21 (by decide) ?_
      refine x_icmp_ne a 23 28 d_M_window_23 (by decide) (fun c23 => ?_) (fun c23 => ?_)
      · have hn8 : tn (h 61 24) < 8 := by have h1 := hn.1; have h2 := hn.2; rw [h2] at c23; exact (by (try simp (disch := omega) only [Int32.le_iff_toInt_le, Int32.lt_iff_toInt_lt, ← Int32.toInt_inj, Int32.reduceToInt, nI_1, nI_add, pk_sub, nI_toInt] at *); omega)
        refine x_aload_n a 28 d_M_window_28 rfl ?_
        refine x_getR a 29 f_M_16 d_M_window_29 rfl (by omega) (by decide) (o' := 64) rfl ?_
        refine x_aload_n a 32 d_M_window_32 rfl ?_
        refine x_getI a 33 f_M_95 d_M_window_33 rfl (by omega) (by decide) rfl ?_
        refine x_iload_n a 36 d_M_window_36 rfl ?_
        refine x_iast a 37 d_M_window_37 rfl (by omega) (j := tn (h 61 24)) hn.2 hn8 (by decide) ?_
        refine x_aload_n a 38 d_M_window_38 rfl ?_
        refine x_getR a 39 f_M_19 d_M_window_39 rfl (by omega) (by decide) (o' := 65) rfl ?_
        refine x_aload_n a 42 d_M_window_42 rfl ?_
        refine x_getI a 43 f_M_95 d_M_window_43 rfl (by omega) (by decide) (v := h 61 24) (by rw [up2_o _ _ _ (by omega)]) ?_
        refine x_iload_n a 46 d_M_window_46 rfl ?_
        refine x_iast a 47 d_M_window_47 rfl (by omega) (j := tn (h 61 24)) hn.2 hn8 (by decide) ?_
        refine x_aload_n a 48 d_M_window_48 rfl ?_
        refine x_dup a 49 d_M_window_49 ?_
        refine x_getI a 50 f_M_95 d_M_window_50 rfl (by omega) (by decide) (v := h 61 24) (by rw [up2_o _ _ _ (by omega), up2_o _ _ _ (by omega)]) ?_
        refine x_iconst a 53 1 d_M_window_53 (by decide) ?_
        refine x_iadd a 54 d_M_window_54 ?_
        refine x_putI a 55 f_M_95 d_M_window_55 rfl (by omega) (by decide) rfl rfl rfl ?_
        refine x_aload_n a 58 d_M_window_58 rfl ?_
        refine x_iconst a 59 0 d_M_window_59 (by decide) ?_
        refine x_putI a 60 f_M_91 d_M_window_60 rfl (by omega) (by decide) rfl rfl rfl ?_
        refine x_iconst a 63 1 d_M_window_63 (by decide) ?_
        exact x_zret a qf 64 d_M_window_64 rfl rfl ⟨by unfold m_window; rw [if_pos ⟨c4, c14, c23⟩], by unfold m_window; rw [if_pos ⟨c4, c14, c23⟩]⟩
      · refine x_iconst a 26 0 d_M_window_26 (by decide) ?_
        exact x_zret a qf 27 d_M_window_27 rfl rfl ⟨by unfold m_window; rw [if_neg (by rintro ⟨z1, z2, z3⟩; first | exact c4 z1 | exact c14 z2 | exact z3 c23)], by unfold m_window; rw [if_neg (by rintro ⟨z1, z2, z3⟩; first | exact c4 z1 | exact c14 z2 | exact z3 c23)]⟩
set_option maxRecDepth 100000 in
set_option maxHeartbeats 4000000 in
theorem c_M_port (h : Hp) (f t d : Int32) (hn : Nlt (h 61 25) 7) : Cn u_M_port 2 0 0 (w0 h) [.inr (some 61), .inl f, .inl t, .inl d] (fun v w' => v = some (m_port h f t d).2 ∧ w' = w0 (m_port h f t d).1) := by
  refine Cn.of (by decide +kernel) (Nat.le_of_ble_eq_true rfl) (fun E ad a qf => ?_)
  have qa := qf.2.2.2
  have hcs : 0 ≤ (eR E).cells ∧ 0 ≤ (eR E).slots := ⟨Nat.zero_le _, Nat.zero_le _⟩
  refine x_iload_n a 0 d_M_port_0 rfl ?_
  refine x_callS a qa 1 g_M_87 d_M_port_1 (c_M_isOne _ _) rfl rfl (by decide) (Nat.le_of_ble_eq_true rfl) hcs (fun v w' hp => ?_)
  obtain ⟨rfl, rfl⟩ := hp
  refine x_st1 ?_
  refine x_ifB_eq a 4 37 d_M_port_4 (by decide) (fun c4 => ?_) (fun c4 => ?_)
  · refine x_iconst a 37 (-1) d_M_port_37 (by decide) ?_
    exact x_iret a qf 38 d_M_port_38 rfl ⟨by unfold m_port; rw [if_neg (by rintro ⟨z1, z2, z3, z4, z5⟩; first | exact c4 z1 | exact c11 z2 | exact z3 c16 | exact c25 z4 | exact z5 c34)], by unfold m_port; rw [if_neg (by rintro ⟨z1, z2, z3, z4, z5⟩; first | exact c4 z1 | exact c11 z2 | exact z3 c16 | exact c25 z4 | exact z5 c34)]⟩
  · refine x_iload_n a 7 d_M_port_7 rfl ?_
    refine x_callS a qa 8 g_M_87 d_M_port_8 (c_M_isOne _ _) rfl rfl (by decide) (Nat.le_of_ble_eq_true rfl) hcs (fun v w' hp => ?_)
    obtain ⟨rfl, rfl⟩ := hp
    refine x_st1 ?_
    refine x_ifB_eq a 11 37 d_M_port_11 (by decide) (fun c11 => ?_) (fun c11 => ?_)
    · refine x_iconst a 37 (-1) d_M_port_37 (by decide) ?_
      exact x_iret a qf 38 d_M_port_38 rfl ⟨by unfold m_port; rw [if_neg (by rintro ⟨z1, z2, z3, z4, z5⟩; first | exact c4 z1 | exact c11 z2 | exact z3 c16 | exact c25 z4 | exact z5 c34)], by unfold m_port; rw [if_neg (by rintro ⟨z1, z2, z3, z4, z5⟩; first | exact c4 z1 | exact c11 z2 | exact z3 c16 | exact c25 z4 | exact z5 c34)]⟩
    · refine x_iload_n a 14 d_M_port_14 rfl ?_
      refine x_iload_n a 15 d_M_port_15 rfl ?_
      refine x_icmp_eq a 16 37 d_M_port_16 (by decide) (fun c16 => ?_) (fun c16 => ?_)
      · refine x_iconst a 37 (-1) d_M_port_37 (by decide) ?_
        exact x_iret a qf 38 d_M_port_38 rfl ⟨by unfold m_port; rw [if_neg (by rintro ⟨z1, z2, z3, z4, z5⟩; first | exact c4 z1 | exact c11 z2 | exact z3 c16 | exact c25 z4 | exact z5 c34)], by unfold m_port; rw [if_neg (by rintro ⟨z1, z2, z3, z4, z5⟩; first | exact c4 z1 | exact c11 z2 | exact z3 c16 | exact c25 z4 | exact z5 c34)]⟩
      · refine x_iload_n a 19 d_M_port_19 rfl ?_
        refine x_iconst a 20 0 d_M_port_20 (by decide) ?_
        refine x_iconst a 21 4 d_M_port_21 (by decide) ?_
        refine x_callS a qa 22 g_M_83 d_M_port_22 (c_M_in _ _ _ _) rfl rfl (by decide) (Nat.le_of_ble_eq_true rfl) hcs (fun v w' hp => ?_)
        obtain ⟨rfl, rfl⟩ := hp
        refine x_st1 ?_
        refine x_ifB_eq a 25 37 d_M_port_25 (by decide) (fun c25 => ?_) (fun c25 => ?_)
        · refine x_iconst a 37 (-1) d_M_port_37 (by decide) ?_
          exact x_iret a qf 38 d_M_port_38 rfl ⟨by unfold m_port; rw [if_neg (by rintro ⟨z1, z2, z3, z4, z5⟩; first | exact c4 z1 | exact c11 z2 | exact z3 c16 | exact c25 z4 | exact z5 c34)], by unfold m_port; rw [if_neg (by rintro ⟨z1, z2, z3, z4, z5⟩; first | exact c4 z1 | exact c11 z2 | exact z3 c16 | exact c25 z4 | exact z5 c34)]⟩
        · refine x_aload_n a 28 d_M_port_28 rfl ?_
          refine x_getI a 29 f_M_99 d_M_port_29 rfl (by omega) (by decide) rfl ?_
          refine x_bipush a 32 6 d_M_port_32 (by decide) ?_
          refine x_icmp_ne a 34 39 d_M_port_34 (by decide) (fun c34 => ?_) (fun c34 => ?_)
          · have hn6 : tn (h 61 25) < 6 := by have h1 := hn.1; have h2 := hn.2; rw [h2] at c34; exact (by (try simp (disch := omega) only [Int32.le_iff_toInt_le, Int32.lt_iff_toInt_lt, ← Int32.toInt_inj, Int32.reduceToInt, nI_1, nI_add, pk_sub, nI_toInt] at *); omega)
            refine x_aload_n a 39 d_M_port_39 rfl ?_
            refine x_getR a 40 f_M_22 d_M_port_40 rfl (by omega) (by decide) (o' := 66) rfl ?_
            refine x_aload_n a 43 d_M_port_43 rfl ?_
            refine x_getI a 44 f_M_99 d_M_port_44 rfl (by omega) (by decide) rfl ?_
            refine x_iload_n a 47 d_M_port_47 rfl ?_
            refine x_iast a 48 d_M_port_48 rfl (by omega) (j := tn (h 61 25)) hn.2 hn6 (by decide) ?_
            refine x_aload_n a 49 d_M_port_49 rfl ?_
            refine x_getR a 50 f_M_25 d_M_port_50 rfl (by omega) (by decide) (o' := 67) rfl ?_
            refine x_aload_n a 53 d_M_port_53 rfl ?_
            refine x_getI a 54 f_M_99 d_M_port_54 rfl (by omega) (by decide) (v := h 61 25) (by rw [up2_o _ _ _ (by omega)]) ?_
            refine x_iload_n a 57 d_M_port_57 rfl ?_
            refine x_iast a 58 d_M_port_58 rfl (by omega) (j := tn (h 61 25)) hn.2 hn6 (by decide) ?_
            refine x_aload_n a 59 d_M_port_59 rfl ?_
            refine x_getR a 60 f_M_28 d_M_port_60 rfl (by omega) (by decide) (o' := 68) rfl ?_
            refine x_aload_n a 63 d_M_port_63 rfl ?_
            refine x_getI a 64 f_M_99 d_M_port_64 rfl (by omega) (by decide) (v := h 61 25) (by rw [up2_o _ _ _ (by omega), up2_o _ _ _ (by omega)]) ?_
            refine x_iload_n a 67 d_M_port_67 rfl ?_
            refine x_iast a 68 d_M_port_68 rfl (by omega) (j := tn (h 61 25)) hn.2 hn6 (by decide) ?_
            refine x_aload_n a 69 d_M_port_69 rfl ?_
            refine x_getR a 70 f_M_31 d_M_port_70 rfl (by omega) (by decide) (o' := 69) rfl ?_
            refine x_aload_n a 73 d_M_port_73 rfl ?_
            refine x_getI a 74 f_M_99 d_M_port_74 rfl (by omega) (by decide) (v := h 61 25) (by rw [up2_o _ _ _ (by omega), up2_o _ _ _ (by omega), up2_o _ _ _ (by omega)]) ?_
            refine x_iconst a 77 0 d_M_port_77 (by decide) ?_
            refine x_iast a 78 d_M_port_78 rfl (by omega) (j := tn (h 61 25)) hn.2 hn6 (by decide) ?_
            refine x_aload_n a 79 d_M_port_79 rfl ?_
            refine x_dup a 80 d_M_port_80 ?_
            refine x_getI a 81 f_M_99 d_M_port_81 rfl (by omega) (by decide) (v := h 61 25) (by rw [up2_o _ _ _ (by omega), up2_o _ _ _ (by omega), up2_o _ _ _ (by omega), up2_o _ _ _ (by omega)]) ?_
            refine x_iconst a 84 1 d_M_port_84 (by decide) ?_
            refine x_iadd a 85 d_M_port_85 ?_
            refine x_putI a 86 f_M_99 d_M_port_86 rfl (by omega) (by decide) rfl rfl rfl ?_
            refine x_aload_n a 89 d_M_port_89 rfl ?_
            refine x_iconst a 90 0 d_M_port_90 (by decide) ?_
            refine x_putI a 91 f_M_91 d_M_port_91 rfl (by omega) (by decide) rfl rfl rfl ?_
            refine x_aload_n a 94 d_M_port_94 rfl ?_
            refine x_getI a 95 f_M_99 d_M_port_95 rfl (by omega) (by decide) (v := h 61 25 + 1) (by rw [up2_k _ _ _ (by decide), up2_s]) ?_
            refine x_iconst a 98 1 d_M_port_98 (by decide) ?_
            refine x_isub a 99 d_M_port_99 ?_
            exact x_iret a qf 100 d_M_port_100 rfl ⟨by unfold m_port; rw [if_pos ⟨c4, c11, c16, c25, c34⟩], by unfold m_port; rw [if_pos ⟨c4, c11, c16, c25, c34⟩]⟩
          · refine x_iconst a 37 (-1) d_M_port_37 (by decide) ?_
            exact x_iret a qf 38 d_M_port_38 rfl ⟨by unfold m_port; rw [if_neg (by rintro ⟨z1, z2, z3, z4, z5⟩; first | exact c4 z1 | exact c11 z2 | exact z3 c16 | exact c25 z4 | exact z5 c34)], by unfold m_port; rw [if_neg (by rintro ⟨z1, z2, z3, z4, z5⟩; first | exact c4 z1 | exact c11 z2 | exact z3 c16 | exact c25 z4 | exact z5 c34)]⟩
set_option maxRecDepth 100000 in
set_option maxHeartbeats 4000000 in
theorem c_M_action (h : Hp) (p f x : Int32) : Cn u_M_action 2 0 0 (w0 h) [.inr (some 61), .inl p, .inl f, .inl x] (fun v w' => v = some (m_action h p f x).2 ∧ w' = w0 (m_action h p f x).1) := by
  refine Cn.of (by decide +kernel) (Nat.le_of_ble_eq_true rfl) (fun E ad a qf => ?_)
  have qa := qf.2.2.2
  have hcs : 0 ≤ (eR E).cells ∧ 0 ≤ (eR E).slots := ⟨Nat.zero_le _, Nat.zero_le _⟩
  refine x_iload_n a 0 d_M_action_0 rfl ?_
  refine x_callS a qa 1 g_M_87 d_M_action_1 (c_M_isOne _ _) rfl rfl (by decide) (Nat.le_of_ble_eq_true rfl) hcs (fun v w' hp => ?_)
  obtain ⟨rfl, rfl⟩ := hp
  refine x_st1 ?_
  refine x_ifB_eq a 4 25 d_M_action_4 (by decide) (fun c4 => ?_) (fun c4 => ?_)
  · refine x_iconst a 25 0 d_M_action_25 (by decide) ?_
    exact x_zret a qf 26 d_M_action_26 rfl rfl ⟨by unfold m_action; rw [if_neg (by rintro ⟨z1, z2, z3⟩; first | exact c4 z1 | exact c13 z2 | exact c22 z3)], by unfold m_action; rw [if_neg (by rintro ⟨z1, z2, z3⟩; first | exact c4 z1 | exact c13 z2 | exact c22 z3)]⟩
  · refine x_iload_n a 7 d_M_action_7 rfl ?_
    refine x_iconst a 8 1 d_M_action_8 (by decide) ?_
    refine x_iconst a 9 4 d_M_action_9 (by decide) ?_
    refine x_callS a qa 10 g_M_83 d_M_action_10 (c_M_in _ _ _ _) rfl rfl (by decide) (Nat.le_of_ble_eq_true rfl) hcs (fun v w' hp => ?_)
    obtain ⟨rfl, rfl⟩ := hp
    refine x_st1 ?_
    refine x_ifB_eq a 13 25 d_M_action_13 (by decide) (fun c13 => ?_) (fun c13 => ?_)
    · refine x_iconst a 25 0 d_M_action_25 (by decide) ?_
      exact x_zret a qf 26 d_M_action_26 rfl rfl ⟨by unfold m_action; rw [if_neg (by rintro ⟨z1, z2, z3⟩; first | exact c4 z1 | exact c13 z2 | exact c22 z3)], by unfold m_action; rw [if_neg (by rintro ⟨z1, z2, z3⟩; first | exact c4 z1 | exact c13 z2 | exact c22 z3)]⟩
    · refine x_iload_n a 16 d_M_action_16 rfl ?_
      refine x_iconst a 17 0 d_M_action_17 (by decide) ?_
      refine x_iconst a 18 2 d_M_action_18 (by decide) ?_
      refine x_callS a qa 19 g_M_83 d_M_action_19 (c_M_in _ _ _ _) rfl rfl (by decide) (Nat.le_of_ble_eq_true rfl) hcs (fun v w' hp => ?_)
      obtain ⟨rfl, rfl⟩ := hp
      refine x_st1 ?_
      refine x_ifB_ne a 22 27 d_M_action_22 (by decide) (fun c22 => ?_) (fun c22 => ?_)
      · obtain ⟨j, hj, rfl⟩ := vp_in_of (x := p) (n := 4) (vp_in_iff.mpr (by have c1 := c4.1; have c2 := c4.2; (try simp (disch := omega) only [Int32.le_iff_toInt_le, Int32.lt_iff_toInt_lt, ← Int32.toInt_inj, Int32.reduceToInt, nI_1, nI_add, pk_sub, nI_toInt] at *); omega)) (by decide)
        obtain ⟨i, hi, rfl⟩ := vp_in_of (x := f) (n := 5) (vp_in_iff.mpr (by have z1 := c13.1; have z2 := c13.2; (try simp (disch := omega) only [Int32.le_iff_toInt_le, Int32.lt_iff_toInt_lt, ← Int32.toInt_inj, Int32.reduceToInt, nI_1, nI_add, pk_sub, nI_toInt] at *); omega)) (by decide)
        have hi1 : 1 ≤ i := by have z1 := c13.1; (try simp (disch := omega) only [Int32.le_iff_toInt_le, Int32.lt_iff_toInt_lt, ← Int32.toInt_inj, Int32.reduceToInt, nI_1, nI_add, pk_sub, nI_toInt] at *); omega
        refine x_aload_n a 27 d_M_action_27 rfl ?_
        refine x_getR a 28 f_M_40 d_M_action_28 rfl (by omega) (by decide) (o' := 72) rfl ?_
        refine x_iconst a 31 4 d_M_action_31 (by decide) ?_
        refine x_iload_n a 32 d_M_action_32 rfl ?_
        refine x_imul a 33 d_M_action_33 ?_
        refine x_iload_n a 34 d_M_action_34 rfl ?_
        refine x_iadd a 35 d_M_action_35 ?_
        refine x_iconst a 36 1 d_M_action_36 (by decide) ?_
        refine x_isub a 37 d_M_action_37 ?_
        refine x_iload_n a 38 d_M_action_38 rfl ?_
        refine x_iast a 39 d_M_action_39 rfl (by omega) (j := 4 * j + i - 1) (by rw [ix_n (k := 4) (K := 4) rfl]; exact pk_sub (b := 1) (by omega)) (by omega) (by decide) ?_
        refine x_aload_n a 40 d_M_action_40 rfl ?_
        refine x_iconst a 41 0 d_M_action_41 (by decide) ?_
        refine x_putI a 42 f_M_91 d_M_action_42 rfl (by omega) (by decide) rfl rfl rfl ?_
        refine x_iconst a 45 1 d_M_action_45 (by decide) ?_
        exact x_zret a qf 46 d_M_action_46 rfl rfl ⟨by unfold m_action; rw [if_pos ⟨c4, c13, c22⟩], by unfold m_action; rw [if_pos ⟨c4, c13, c22⟩, tn_nI (k := j) (by omega), tn_nI (k := i) (by omega)]⟩
      · refine x_iconst a 25 0 d_M_action_25 (by decide) ?_
        exact x_zret a qf 26 d_M_action_26 rfl rfl ⟨by unfold m_action; rw [if_neg (by rintro ⟨z1, z2, z3⟩; first | exact c4 z1 | exact c13 z2 | exact c22 z3)], by unfold m_action; rw [if_neg (by rintro ⟨z1, z2, z3⟩; first | exact c4 z1 | exact c13 z2 | exact c22 z3)]⟩
set_option maxRecDepth 100000 in
set_option maxHeartbeats 4000000 in
theorem c_M_code (h : Hp) (p i o x b : Int32) : Cn u_M_code 2 0 0 (w0 h) [.inr (some 61), .inl p, .inl i, .inl o, .inl x, .inl b] (fun v w' => v = some (m_code h p i o x b).2 ∧ w' = w0 (m_code h p i o x b).1) := by
  refine Cn.of (by decide +kernel) (Nat.le_of_ble_eq_true rfl) (fun E ad a qf => ?_)
  have qa := qf.2.2.2
  have hcs : 0 ≤ (eR E).cells ∧ 0 ≤ (eR E).slots := ⟨Nat.zero_le _, Nat.zero_le _⟩
  refine x_iload_n a 0 d_M_code_0 rfl ?_
  refine x_callS a qa 1 g_M_87 d_M_code_1 (c_M_isOne _ _) rfl rfl (by decide) (Nat.le_of_ble_eq_true rfl) hcs (fun v w' hp => ?_)
  obtain ⟨rfl, rfl⟩ := hp
  refine x_st1 ?_
  refine x_ifB_eq a 4 17 d_M_code_4 (by decide) (fun c4 => ?_) (fun c4 => ?_)
  · refine x_iconst a 17 0 d_M_code_17 (by decide) ?_
    exact x_zret a qf 18 d_M_code_18 rfl rfl ⟨by unfold m_code; rw [if_neg (by rintro ⟨z1, z2⟩; first | exact c4 z1 | exact c14 z2)], by unfold m_code; rw [if_neg (by rintro ⟨z1, z2⟩; first | exact c4 z1 | exact c14 z2)]⟩
  · refine x_iload_n a 7 d_M_code_7 rfl ?_
    refine x_iconst a 8 0 d_M_code_8 (by decide) ?_
    refine x_bipush a 9 15 d_M_code_9 (by decide) ?_
    refine x_callS a qa 11 g_M_83 d_M_code_11 (c_M_in _ _ _ _) rfl rfl (by decide) (Nat.le_of_ble_eq_true rfl) hcs (fun v w' hp => ?_)
    obtain ⟨rfl, rfl⟩ := hp
    refine x_st1 ?_
    refine x_ifB_ne a 14 19 d_M_code_14 (by decide) (fun c14 => ?_) (fun c14 => ?_)
    · obtain ⟨j, hj, rfl⟩ := vp_in_of (x := p) (n := 4) (vp_in_iff.mpr (by have c1 := c4.1; have c2 := c4.2; (try simp (disch := omega) only [Int32.le_iff_toInt_le, Int32.lt_iff_toInt_lt, ← Int32.toInt_inj, Int32.reduceToInt, nI_1, nI_add, pk_sub, nI_toInt] at *); omega)) (by decide)
      obtain ⟨k, hk, rfl⟩ := vp_in_of (x := i) (n := 16) (vp_in_iff.mpr (by have z1 := c14.1; have z2 := c14.2; (try simp (disch := omega) only [Int32.le_iff_toInt_le, Int32.lt_iff_toInt_lt, ← Int32.toInt_inj, Int32.reduceToInt, nI_1, nI_add, pk_sub, nI_toInt] at *); omega)) (by decide)
      refine x_bipush a 19 16 d_M_code_19 (by decide) ?_
      refine x_iload_n a 21 d_M_code_21 rfl ?_
      refine x_imul a 22 d_M_code_22 ?_
      refine x_iload_n a 23 d_M_code_23 rfl ?_
      refine x_iadd a 24 d_M_code_24 ?_
      refine x_push (ix_n (K := 16) rfl j k) ?_
      refine x_istore a 25 d_M_code_25 (by decide) ?_
      refine x_aload_n a 27 d_M_code_27 rfl ?_
      refine x_getR a 28 f_M_43 d_M_code_28 rfl (by omega) (by decide) (o' := 73) rfl ?_
      refine x_iload a 31 d_M_code_31 rfl ?_
      refine x_iload_n a 33 d_M_code_33 rfl ?_
      refine x_iast a 34 d_M_code_34 rfl (by omega) (j := (16 * j + k)) rfl (by omega) (by decide) ?_
      refine x_aload_n a 35 d_M_code_35 rfl ?_
      refine x_getR a 36 f_M_46 d_M_code_36 rfl (by omega) (by decide) (o' := 74) rfl ?_
      refine x_iload a 39 d_M_code_39 rfl ?_
      refine x_iload a 41 d_M_code_41 rfl ?_
      refine x_iast a 43 d_M_code_43 rfl (by omega) (j := (16 * j + k)) rfl (by omega) (by decide) ?_
      refine x_aload_n a 44 d_M_code_44 rfl ?_
      refine x_getR a 45 f_M_49 d_M_code_45 rfl (by omega) (by decide) (o' := 75) rfl ?_
      refine x_iload a 48 d_M_code_48 rfl ?_
      refine x_iload a 50 d_M_code_50 rfl ?_
      refine x_iast a 52 d_M_code_52 rfl (by omega) (j := (16 * j + k)) rfl (by omega) (by decide) ?_
      refine x_aload_n a 53 d_M_code_53 rfl ?_
      refine x_iconst a 54 0 d_M_code_54 (by decide) ?_
      refine x_putI a 55 f_M_91 d_M_code_55 rfl (by omega) (by decide) rfl rfl rfl ?_
      refine x_iconst a 58 1 d_M_code_58 (by decide) ?_
      exact x_zret a qf 59 d_M_code_59 rfl rfl ⟨by unfold m_code; rw [if_pos ⟨c4, c14⟩], by unfold m_code; rw [if_pos ⟨c4, c14⟩, tn_nI (k := j) (by omega), tn_nI (k := k) (by omega)]⟩
    · refine x_iconst a 17 0 d_M_code_17 (by decide) ?_
      exact x_zret a qf 18 d_M_code_18 rfl rfl ⟨by unfold m_code; rw [if_neg (by rintro ⟨z1, z2⟩; first | exact c4 z1 | exact c14 z2)], by unfold m_code; rw [if_neg (by rintro ⟨z1, z2⟩; first | exact c4 z1 | exact c14 z2)]⟩
set_option maxRecDepth 100000 in
set_option maxHeartbeats 4000000 in
theorem c_M_takesPart (h : Hp) {p : Nat} (hp4 : p < 4) : Cn u_M_takesPart 0 0 0 (w0 h) [.inr (some 61), .inl (nI p)] (fun r w' => r = some (bI (m_part h p)) ∧ w' = w0 h) := by
  refine Cn.of (by decide +kernel) (Nat.le_of_ble_eq_true rfl) (fun E ad a qf => ?_)
  have qa := qf.2.2.2
  have hcs : 0 ≤ (eR E).cells ∧ 0 ≤ (eR E).slots := ⟨Nat.zero_le _, Nat.zero_le _⟩
  refine x_aload_n a 0 d_M_takesPart_0 rfl ?_
  refine x_getR a 1 f_M_7 d_M_takesPart_1 rfl (by omega) (by decide) (o' := 62) rfl ?_
  refine x_iload_n a 4 d_M_takesPart_4 rfl ?_
  refine x_iald a 5 d_M_takesPart_5 rfl (by omega) (j := p) rfl (by omega) (by decide) rfl ?_
  refine x_if_lt a 6 13 d_M_takesPart_6 (by decide) (fun c6 => ?_) (fun c6 => ?_)
  · refine x_iconst a 13 0 d_M_takesPart_13 (by decide) ?_
    exact x_zret a qf 14 d_M_takesPart_14 rfl rfl ⟨by first | rw [bI_f (by (try simp (disch := omega) only [Int32.le_iff_toInt_le, Int32.lt_iff_toInt_lt, ← Int32.toInt_inj, Int32.reduceToInt, nI_1, nI_add, pk_sub, nI_toInt] at *); omega)] | rw [bI_t (by (try simp (disch := omega) only [Int32.le_iff_toInt_le, Int32.lt_iff_toInt_lt, ← Int32.toInt_inj, Int32.reduceToInt, nI_1, nI_add, pk_sub, nI_toInt] at *); omega)], rfl⟩
  · refine x_iconst a 9 1 d_M_takesPart_9 (by decide) ?_
    refine x_goto a 10 14 d_M_takesPart_10 (by decide) ?_
    exact x_zret a qf 14 d_M_takesPart_14 rfl rfl ⟨by first | rw [bI_f (by (try simp (disch := omega) only [Int32.le_iff_toInt_le, Int32.lt_iff_toInt_lt, ← Int32.toInt_inj, Int32.reduceToInt, nI_1, nI_add, pk_sub, nI_toInt] at *); omega)] | rw [bI_t (by (try simp (disch := omega) only [Int32.le_iff_toInt_le, Int32.lt_iff_toInt_lt, ← Int32.toInt_inj, Int32.reduceToInt, nI_1, nI_add, pk_sub, nI_toInt] at *); omega)], rfl⟩
set_option maxRecDepth 100000 in
set_option maxHeartbeats 4000000 in
theorem c_M_goOn (h : Hp) {p : Nat} (hp4 : p < 4) : Cn u_M_goOn 0 0 0 (w0 h) [.inr (some 61), .inl (nI p)] (fun r w' => r = none ∧ w' = w0 (m_go h p)) := by
  refine Cn.of (by decide +kernel) (Nat.le_of_ble_eq_true rfl) (fun E ad a qf => ?_)
  have qa := qf.2.2.2
  have hcs : 0 ≤ (eR E).cells ∧ 0 ≤ (eR E).slots := ⟨Nat.zero_le _, Nat.zero_le _⟩
  refine x_aload_n a 0 d_M_goOn_0 rfl ?_
  refine x_getR a 1 f_M_58 d_M_goOn_1 rfl (by omega) (by decide) (o' := 78) rfl ?_
  refine x_iload_n a 4 d_M_goOn_4 rfl ?_
  refine x_dup2 a 5 d_M_goOn_5 ?_
  refine x_iald a 6 d_M_goOn_6 rfl (by omega) (j := p) rfl (by omega) (by decide) rfl ?_
  refine x_iconst a 7 1 d_M_goOn_7 (by decide) ?_
  refine x_iadd a 8 d_M_goOn_8 ?_
  refine x_iast a 9 d_M_goOn_9 rfl (by omega) (j := p) rfl (by omega) (by decide) ?_
  exact x_vret a qf 10 d_M_goOn_10 rfl ⟨rfl, rfl⟩
set_option maxRecDepth 100000 in
set_option maxHeartbeats 4000000 in
theorem c_M_input (h : Hp) (p x : Int32) (hi : ∀ j, j < 4 → Nlt (h 82 j) 9) : Cn u_M_input 2 0 0 (w0 h) [.inr (some 61), .inl p, .inl x] (fun v w' => v = some (m_input h p x).2 ∧ w' = w0 (m_input h p x).1) := by
  refine Cn.of (by decide +kernel) (Nat.le_of_ble_eq_true rfl) (fun E ad a qf => ?_)
  have qa := qf.2.2.2
  have hcs : 0 ≤ (eR E).cells ∧ 0 ≤ (eR E).slots := ⟨Nat.zero_le _, Nat.zero_le _⟩
  refine x_iload_n a 0 d_M_input_0 rfl ?_
  refine x_callS a qa 1 g_M_87 d_M_input_1 (c_M_isOne _ _) rfl rfl (by decide) (Nat.le_of_ble_eq_true rfl) hcs (fun v w' hp => ?_)
  obtain ⟨rfl, rfl⟩ := hp
  refine x_st1 ?_
  refine x_ifB_eq a 4 18 d_M_input_4 (by decide) (fun c4 => ?_) (fun c4 => ?_)
  · refine x_iconst a 18 (-1) d_M_input_18 (by decide) ?_
    exact x_iret a qf 19 d_M_input_19 rfl ⟨by unfold m_input; first | (rw [if_neg (fun z => c4 z.1)]; done) | (rw [tn_nI (k := j) (by omega), if_neg (fun z => z.2 c15)]; done), by unfold m_input; first | (rw [if_neg (fun z => c4 z.1)]; done) | (rw [tn_nI (k := j) (by omega), if_neg (fun z => z.2 c15)]; done)⟩
  · obtain ⟨j, hj, rfl⟩ := vp_in_of (x := p) (n := 4) (vp_in_iff.mpr (by have c1 := c4.1; have c2 := c4.2; (try simp (disch := omega) only [Int32.le_iff_toInt_le, Int32.lt_iff_toInt_lt, ← Int32.toInt_inj, Int32.reduceToInt, nI_1, nI_add, pk_sub, nI_toInt] at *); omega)) (by decide)
    refine x_aload_n a 7 d_M_input_7 rfl ?_
    refine x_getR a 8 f_M_71 d_M_input_8 rfl (by omega) (by decide) (o' := 82) rfl ?_
    refine x_iload_n a 11 d_M_input_11 rfl ?_
    refine x_iald a 12 d_M_input_12 rfl (by omega) (j := j) rfl hj (by decide) rfl ?_
    refine x_bipush a 13 8 d_M_input_13 (by decide) ?_
    refine x_icmp_ne a 15 20 d_M_input_15 (by decide) (fun c15 => ?_) (fun c15 => ?_)
    · have hi9 := (hi j hj).1
      have hi2 := (hi j hj).2
      have hi8 : tn (h 82 j) < 8 := by rw [hi2] at c15; exact (by (try simp (disch := omega) only [Int32.le_iff_toInt_le, Int32.lt_iff_toInt_lt, ← Int32.toInt_inj, Int32.reduceToInt, nI_1, nI_add, pk_sub, nI_toInt] at *); omega)
      refine x_aload_n a 20 d_M_input_20 rfl ?_
      refine x_getR a 21 f_M_74 d_M_input_21 rfl (by omega) (by decide) (o' := 83) rfl ?_
      refine x_bipush a 24 8 d_M_input_24 (by decide) ?_
      refine x_iload_n a 26 d_M_input_26 rfl ?_
      refine x_imul a 27 d_M_input_27 ?_
      refine x_aload_n a 28 d_M_input_28 rfl ?_
      refine x_getR a 29 f_M_71 d_M_input_29 rfl (by omega) (by decide) (o' := 82) rfl ?_
      refine x_iload_n a 32 d_M_input_32 rfl ?_
      refine x_iald a 33 d_M_input_33 rfl (by omega) (j := j) rfl hj (by decide) rfl ?_
      refine x_iadd a 34 d_M_input_34 ?_
      refine x_iload_n a 35 d_M_input_35 rfl ?_
      refine x_iast a 36 d_M_input_36 rfl (by omega) (j := 8 * j + tn (h 82 j)) (by rw [hi2, ix_n (k := 8) (K := 8) rfl, ← hi2]) (by omega) (by decide) ?_
      refine x_aload_n a 37 d_M_input_37 rfl ?_
      refine x_getR a 38 f_M_71 d_M_input_38 rfl (by omega) (by decide) (o' := 82) rfl ?_
      refine x_iload_n a 41 d_M_input_41 rfl ?_
      refine x_dup2 a 42 d_M_input_42 ?_
      refine x_iald a 43 d_M_input_43 rfl (by omega) (j := j) rfl hj (by decide) (v := h 82 j) (by rw [up2_o _ _ _ (by omega)]) ?_
      refine x_iconst a 44 1 d_M_input_44 (by decide) ?_
      refine x_iadd a 45 d_M_input_45 ?_
      refine x_iast a 46 d_M_input_46 rfl (by omega) (j := j) rfl hj (by decide) ?_
      refine x_aload_n a 47 d_M_input_47 rfl ?_
      refine x_getR a 48 f_M_71 d_M_input_48 rfl (by omega) (by decide) (o' := 82) rfl ?_
      refine x_iload_n a 51 d_M_input_51 rfl ?_
      refine x_iald a 52 d_M_input_52 rfl (by omega) (j := j) rfl hj (by decide) (v := h 82 j + 1) (up2_s _ _ _ _) ?_
      exact x_iret a qf 53 d_M_input_53 rfl ⟨by unfold m_input; rw [tn_nI (k := j) (by omega), if_pos ⟨c4, c15⟩], by unfold m_input; rw [tn_nI (k := j) (by omega), if_pos ⟨c4, c15⟩]⟩
    · refine x_iconst a 18 (-1) d_M_input_18 (by decide) ?_
      exact x_iret a qf 19 d_M_input_19 rfl ⟨by unfold m_input; first | (rw [if_neg (fun z => c4 z.1)]; done) | (rw [tn_nI (k := j) (by omega), if_neg (fun z => z.2 c15)]; done), by unfold m_input; first | (rw [if_neg (fun z => c4 z.1)]; done) | (rw [tn_nI (k := j) (by omega), if_neg (fun z => z.2 c15)]; done)⟩
set_option maxRecDepth 100000 in
set_option maxHeartbeats 4000000 in
theorem c_M_output (h : Hp) (p i : Int32) : Cn u_M_output 2 0 0 (w0 h) [.inr (some 61), .inl p, .inl i] (fun v w' => v = some (m_output h p i) ∧ w' = w0 h) := by
  refine Cn.of (by decide +kernel) (Nat.le_of_ble_eq_true rfl) (fun E ad a qf => ?_)
  have qa := qf.2.2.2
  have hcs : 0 ≤ (eR E).cells ∧ 0 ≤ (eR E).slots := ⟨Nat.zero_le _, Nat.zero_le _⟩
  refine x_iload_n a 0 d_M_output_0 rfl ?_
  refine x_callS a qa 1 g_M_87 d_M_output_1 (c_M_isOne _ _) rfl rfl (by decide) (Nat.le_of_ble_eq_true rfl) hcs (fun v w' hp => ?_)
  obtain ⟨rfl, rfl⟩ := hp
  refine x_st1 ?_
  refine x_ifB_eq a 4 41 d_M_output_4 (by decide) (fun c4 => ?_) (fun c4 => ?_)
  · refine x_iconst a 41 0 d_M_output_41 (by decide) ?_
    exact x_iret a qf 42 d_M_output_42 rfl ⟨by unfold m_output; first | (rw [if_neg (fun z => c4 z.1)]; done) | (rw [if_neg (fun z => c14 z.2.1)]; done) | (rw [tn_nI (k := j) (by omega), if_neg (fun z => absurd z.2.2 (Int32.not_lt.mpr c24))]; done), rfl⟩
  · refine x_iload_n a 7 d_M_output_7 rfl ?_
    refine x_iconst a 8 0 d_M_output_8 (by decide) ?_
    refine x_bipush a 9 15 d_M_output_9 (by decide) ?_
    refine x_callS a qa 11 g_M_83 d_M_output_11 (c_M_in _ _ _ _) rfl rfl (by decide) (Nat.le_of_ble_eq_true rfl) hcs (fun v w' hp => ?_)
    obtain ⟨rfl, rfl⟩ := hp
    refine x_st1 ?_
    refine x_ifB_eq a 14 41 d_M_output_14 (by decide) (fun c14 => ?_) (fun c14 => ?_)
    · refine x_iconst a 41 0 d_M_output_41 (by decide) ?_
      exact x_iret a qf 42 d_M_output_42 rfl ⟨by unfold m_output; first | (rw [if_neg (fun z => c4 z.1)]; done) | (rw [if_neg (fun z => c14 z.2.1)]; done) | (rw [tn_nI (k := j) (by omega), if_neg (fun z => absurd z.2.2 (Int32.not_lt.mpr c24))]; done), rfl⟩
    · obtain ⟨j, hj, rfl⟩ := vp_in_of (x := p) (n := 4) (vp_in_iff.mpr (by have c1 := c4.1; have c2 := c4.2; (try simp (disch := omega) only [Int32.le_iff_toInt_le, Int32.lt_iff_toInt_lt, ← Int32.toInt_inj, Int32.reduceToInt, nI_1, nI_add, pk_sub, nI_toInt] at *); omega)) (by decide)
      refine x_iload_n a 17 d_M_output_17 rfl ?_
      refine x_aload_n a 18 d_M_output_18 rfl ?_
      refine x_getR a 19 f_M_77 d_M_output_19 rfl (by omega) (by decide) (o' := 84) rfl ?_
      refine x_iload_n a 22 d_M_output_22 rfl ?_
      refine x_iald a 23 d_M_output_23 rfl (by omega) (j := j) rfl hj (by decide) rfl ?_
      refine x_icmp_ge a 24 41 d_M_output_24 (by decide) (fun c24 => ?_) (fun c24 => ?_)
      · refine x_iconst a 41 0 d_M_output_41 (by decide) ?_
        exact x_iret a qf 42 d_M_output_42 rfl ⟨by unfold m_output; first | (rw [if_neg (fun z => c4 z.1)]; done) | (rw [if_neg (fun z => c14 z.2.1)]; done) | (rw [tn_nI (k := j) (by omega), if_neg (fun z => absurd z.2.2 (Int32.not_lt.mpr c24))]; done), rfl⟩
      · obtain ⟨k, hk, rfl⟩ := vp_in_of (x := i) (n := 16) (vp_in_iff.mpr (by have z1 := c14.1; have z2 := c14.2; (try simp (disch := omega) only [Int32.le_iff_toInt_le, Int32.lt_iff_toInt_lt, ← Int32.toInt_inj, Int32.reduceToInt, nI_1, nI_add, pk_sub, nI_toInt] at *); omega)) (by decide)
        refine x_aload_n a 27 d_M_output_27 rfl ?_
        refine x_getR a 28 f_M_80 d_M_output_28 rfl (by omega) (by decide) (o' := 85) rfl ?_
        refine x_bipush a 31 16 d_M_output_31 (by decide) ?_
        refine x_iload_n a 33 d_M_output_33 rfl ?_
        refine x_imul a 34 d_M_output_34 ?_
        refine x_iload_n a 35 d_M_output_35 rfl ?_
        refine x_iadd a 36 d_M_output_36 ?_
        refine x_iald a 37 d_M_output_37 rfl (by omega) (j := 16 * j + k) (ix_n (K := 16) rfl j k) (by omega) (by decide) rfl ?_
        refine x_goto a 38 42 d_M_output_38 (by decide) ?_
        exact x_iret a qf 42 d_M_output_42 rfl ⟨by unfold m_output; rw [tn_nI (k := j) (by omega), if_pos ⟨c4, c14, Int32.not_le.mp c24⟩, tn_nI (k := k) (by omega)], rfl⟩
set_option maxRecDepth 100000 in
set_option maxHeartbeats 4000000 in
theorem c_M_about (h : Hp) (p x : Int32) : Cn u_M_about 2 0 0 (w0 h) [.inr (some 61), .inl p, .inl x] (fun v w' => v = some (m_about h p x) ∧ w' = w0 h) := by
  refine Cn.of (by decide +kernel) (Nat.le_of_ble_eq_true rfl) (fun E ad a qf => ?_)
  have qa := qf.2.2.2
  have hcs : 0 ≤ (eR E).cells ∧ 0 ≤ (eR E).slots := ⟨Nat.zero_le _, Nat.zero_le _⟩
  refine x_iload_n a 0 d_M_about_0 rfl ?_
  refine x_callS a qa 1 g_M_87 d_M_about_1 (c_M_isOne _ _) rfl rfl (by decide) (Nat.le_of_ble_eq_true rfl) hcs (fun v w' hp => ?_)
  obtain ⟨rfl, rfl⟩ := hp
  refine x_st1 ?_
  refine x_ifB_eq a 4 17 d_M_about_4 (by decide) (fun c4 => ?_) (fun c4 => ?_)
  · refine x_iconst a 17 (-1) d_M_about_17 (by decide) ?_
    exact x_iret a qf 18 d_M_about_18 rfl ⟨by unfold m_about; rw [if_neg (by rintro ⟨z1, z2⟩; first | exact c4 z1 | exact c14 z2)], rfl⟩
  · refine x_iload_n a 7 d_M_about_7 rfl ?_
    refine x_iconst a 8 0 d_M_about_8 (by decide) ?_
    refine x_bipush a 9 8 d_M_about_9 (by decide) ?_
    refine x_callS a qa 11 g_M_83 d_M_about_11 (c_M_in _ _ _ _) rfl rfl (by decide) (Nat.le_of_ble_eq_true rfl) hcs (fun v w' hp => ?_)
    obtain ⟨rfl, rfl⟩ := hp
    refine x_st1 ?_
    refine x_ifB_ne a 14 19 d_M_about_14 (by decide) (fun c14 => ?_) (fun c14 => ?_)
    · obtain ⟨j, hj, rfl⟩ := vp_in_of (x := p) (n := 4) (vp_in_iff.mpr (by have c1 := c4.1; have c2 := c4.2; (try simp (disch := omega) only [Int32.le_iff_toInt_le, Int32.lt_iff_toInt_lt, ← Int32.toInt_inj, Int32.reduceToInt, nI_1, nI_add, pk_sub, nI_toInt] at *); omega)) (by decide)
      refine x_iload_n a 19 d_M_about_19 rfl ?_
      refine x_iconst a 20 4 d_M_about_20 (by decide) ?_
      refine x_icmp_ge a 21 35 d_M_about_21 (by decide) (fun c21 => ?_) (fun c21 => ?_)
      · refine x_iload_n a 35 d_M_about_35 rfl ?_
        refine x_iconst a 36 4 d_M_about_36 (by decide) ?_
        refine x_icmp_ne a 37 47 d_M_about_37 (by decide) (fun c37 => ?_) (fun c37 => ?_)
        · refine x_iload_n a 47 d_M_about_47 rfl ?_
          refine x_iconst a 48 5 d_M_about_48 (by decide) ?_
          refine x_icmp_ne a 49 67 d_M_about_49 (by decide) (fun c49 => ?_) (fun c49 => ?_)
          · refine x_iload_n a 67 d_M_about_67 rfl ?_
            refine x_bipush a 68 6 d_M_about_68 (by decide) ?_
            refine x_icmp_ne a 70 82 d_M_about_70 (by decide) (fun c70 => ?_) (fun c70 => ?_)
            · refine x_iload_n a 82 d_M_about_82 rfl ?_
              refine x_bipush a 83 7 d_M_about_83 (by decide) ?_
              refine x_icmp_ne a 85 97 d_M_about_85 (by decide) (fun c85 => ?_) (fun c85 => ?_)
              · refine x_aload_n a 97 d_M_about_97 rfl ?_
                refine x_getR a 98 f_M_71 d_M_about_98 rfl (by omega) (by decide) (o' := 82) rfl ?_
                refine x_iload_n a 101 d_M_about_101 rfl ?_
                refine x_iald a 102 d_M_about_102 rfl (by omega) (j := j) rfl hj (by decide) rfl ?_
                exact x_iret a qf 103 d_M_about_103 rfl ⟨by unfold m_about; rw [tn_nI (k := j) (by omega), if_pos ⟨c4, c14⟩, if_neg (Int32.not_lt.mpr c21), if_neg c37, if_neg c49]; first | (rw [if_pos c70]; done) | (rw [if_neg c70, if_pos c85]; done) | (rw [if_neg c70, if_neg c85]; done), rfl⟩
              · refine x_aload_n a 88 d_M_about_88 rfl ?_
                refine x_getR a 89 f_M_77 d_M_about_89 rfl (by omega) (by decide) (o' := 84) rfl ?_
                refine x_iload_n a 92 d_M_about_92 rfl ?_
                refine x_iald a 93 d_M_about_93 rfl (by omega) (j := j) rfl hj (by decide) rfl ?_
                refine x_goto a 94 103 d_M_about_94 (by decide) ?_
                exact x_iret a qf 103 d_M_about_103 rfl ⟨by unfold m_about; rw [tn_nI (k := j) (by omega), if_pos ⟨c4, c14⟩, if_neg (Int32.not_lt.mpr c21), if_neg c37, if_neg c49]; first | (rw [if_pos c70]; done) | (rw [if_neg c70, if_pos c85]; done) | (rw [if_neg c70, if_neg c85]; done), rfl⟩
            · refine x_aload_n a 73 d_M_about_73 rfl ?_
              refine x_getR a 74 f_M_61 d_M_about_74 rfl (by omega) (by decide) (o' := 79) rfl ?_
              refine x_iload_n a 77 d_M_about_77 rfl ?_
              refine x_iald a 78 d_M_about_78 rfl (by omega) (j := j) rfl hj (by decide) rfl ?_
              refine x_goto a 79 103 d_M_about_79 (by decide) ?_
              exact x_iret a qf 103 d_M_about_103 rfl ⟨by unfold m_about; rw [tn_nI (k := j) (by omega), if_pos ⟨c4, c14⟩, if_neg (Int32.not_lt.mpr c21), if_neg c37, if_neg c49]; first | (rw [if_pos c70]; done) | (rw [if_neg c70, if_pos c85]; done) | (rw [if_neg c70, if_neg c85]; done), rfl⟩
          · refine x_aload_n a 52 d_M_about_52 rfl ?_
            refine x_getR a 53 f_M_64 d_M_about_53 rfl (by omega) (by decide) (o' := 80) rfl ?_
            refine x_iload_n a 56 d_M_about_56 rfl ?_
            refine x_zald a 57 d_M_about_57 rfl (by omega) (j := j) rfl hj (by decide) rfl ?_
            refine x_if_eq a 58 65 d_M_about_58 (by decide) (fun c58 => ?_) (fun c58 => ?_)
            · refine x_iconst a 65 0 d_M_about_65 (by decide) ?_
              exact x_iret a qf 66 d_M_about_66 rfl ⟨by unfold m_about; rw [tn_nI (k := j) (by omega), if_pos ⟨c4, c14⟩, if_neg (Int32.not_lt.mpr c21), if_neg c37, if_pos c49]; first | (rw [if_pos c58]; done) | (rw [if_neg c58]; done), rfl⟩
            · refine x_iconst a 61 1 d_M_about_61 (by decide) ?_
              refine x_goto a 62 66 d_M_about_62 (by decide) ?_
              exact x_iret a qf 66 d_M_about_66 rfl ⟨by unfold m_about; rw [tn_nI (k := j) (by omega), if_pos ⟨c4, c14⟩, if_neg (Int32.not_lt.mpr c21), if_neg c37, if_pos c49]; first | (rw [if_pos c58]; done) | (rw [if_neg c58]; done), rfl⟩
        · refine x_aload_n a 40 d_M_about_40 rfl ?_
          refine x_getR a 41 f_M_58 d_M_about_41 rfl (by omega) (by decide) (o' := 78) rfl ?_
          refine x_iload_n a 44 d_M_about_44 rfl ?_
          refine x_iald a 45 d_M_about_45 rfl (by omega) (j := j) rfl hj (by decide) rfl ?_
          exact x_iret a qf 46 d_M_about_46 rfl ⟨by unfold m_about; rw [tn_nI (k := j) (by omega), if_pos ⟨c4, c14⟩, if_neg (Int32.not_lt.mpr c21), if_pos c37], rfl⟩
      · obtain ⟨k, hk, rfl⟩ := vp_in_of (x := x) (n := 4) (vp_in_iff.mpr (by have z1 := c14.1; have z2 := c14.2; (try simp (disch := omega) only [Int32.le_iff_toInt_le, Int32.lt_iff_toInt_lt, ← Int32.toInt_inj, Int32.reduceToInt, nI_1, nI_add, pk_sub, nI_toInt] at *); omega)) (by decide)
        refine x_aload_n a 24 d_M_about_24 rfl ?_
        refine x_getR a 25 f_M_55 d_M_about_25 rfl (by omega) (by decide) (o' := 77) rfl ?_
        refine x_iconst a 28 4 d_M_about_28 (by decide) ?_
        refine x_iload_n a 29 d_M_about_29 rfl ?_
        refine x_imul a 30 d_M_about_30 ?_
        refine x_iload_n a 31 d_M_about_31 rfl ?_
        refine x_iadd a 32 d_M_about_32 ?_
        refine x_iald a 33 d_M_about_33 rfl (by omega) (j := 4 * j + k) (ix_n (K := 4) rfl j k) (by omega) (by decide) rfl ?_
        exact x_iret a qf 34 d_M_about_34 rfl ⟨by unfold m_about; rw [tn_nI (k := j) (by omega), if_pos ⟨c4, c14⟩, if_pos (Int32.not_le.mp c21), tn_nI (k := k) (by omega)], rfl⟩
    · refine x_iconst a 17 (-1) d_M_about_17 (by decide) ?_
      exact x_iret a qf 18 d_M_about_18 rfl ⟨by unfold m_about; rw [if_neg (by rintro ⟨z1, z2⟩; first | exact c4 z1 | exact c14 z2)], rfl⟩
set_option maxRecDepth 100000 in
set_option maxHeartbeats 4000000 in
theorem c_M_word (h : Hp) (i : Int32) : Cn u_M_word 1 0 0 (w0 h) [.inr (some 61), .inl i] (fun v w' => v = some (m_word h i) ∧ w' = w0 h) := by
  refine Cn.of (by decide +kernel) (Nat.le_of_ble_eq_true rfl) (fun E ad a qf => ?_)
  have qa := qf.2.2.2
  have hcs : 0 ≤ (eR E).cells ∧ 0 ≤ (eR E).slots := ⟨Nat.zero_le _, Nat.zero_le _⟩
  refine x_iload_n a 0 d_M_word_0 rfl ?_
  refine x_iconst a 1 0 d_M_word_1 (by decide) ?_
  refine x_bipush a 2 63 d_M_word_2 (by decide) ?_
  refine x_callS a qa 4 g_M_83 d_M_word_4 (c_M_in _ _ _ _) rfl rfl (by decide) (Nat.le_of_ble_eq_true rfl) hcs (fun v w' hp => ?_)
  obtain ⟨rfl, rfl⟩ := hp
  refine x_st1 ?_
  refine x_ifB_eq a 7 19 d_M_word_7 (by decide) (fun c7 => ?_) (fun c7 => ?_)
  · refine x_iconst a 19 0 d_M_word_19 (by decide) ?_
    exact x_iret a qf 20 d_M_word_20 rfl ⟨by unfold m_word; rw [if_neg c7], rfl⟩
  · obtain ⟨j, hj, rfl⟩ := vp_in_of (x := i) (n := 64) (vp_in_iff.mpr (by have z1 := c7.1; have z2 := c7.2; (try simp (disch := omega) only [Int32.le_iff_toInt_le, Int32.lt_iff_toInt_lt, ← Int32.toInt_inj, Int32.reduceToInt, nI_1, nI_add, pk_sub, nI_toInt] at *); omega)) (by decide)
    refine x_aload_n a 10 d_M_word_10 rfl ?_
    refine x_getR a 11 f_M_52 d_M_word_11 rfl (by omega) (by decide) (o' := 76) rfl ?_
    refine x_iload_n a 14 d_M_word_14 rfl ?_
    refine x_iald a 15 d_M_word_15 rfl (by omega) (j := j) rfl hj (by decide) rfl ?_
    refine x_goto a 16 20 d_M_word_16 (by decide) ?_
    exact x_iret a qf 20 d_M_word_20 rfl ⟨by unfold m_word; rw [if_pos c7, tn_nI (k := j) (by omega)], rfl⟩
theorem in_ports {x y : Int32} {n : Nat} (hy : Nlt y (n + 1)) (hn : n ≤ 100) (h : mIn x 0 (y - 1)) : Nlt x n := by
  have h1 := hy.1
  have h2 := hy.int (by omega)
  have h3 := nn_tn h.1
  have h4 := tn_int h.1
  have h5 := h.2
  rw [Int32.le_iff_toInt_le, Int32.toInt_sub, h2, show (1 : Int32).toInt = 1 from rfl, Int.bmod_eq_of_le (by omega) (by omega)] at h5
  exact ⟨by omega, h3⟩
set_option maxRecDepth 100000 in
set_option maxHeartbeats 4000000 in
theorem c_M_waiting (h : Hp) (x : Int32) (hn : Nlt (h 61 25) 7) : Cn u_M_waiting 1 0 0 (w0 h) [.inr (some 61), .inl x] (fun v w' => v = some (m_waiting h x) ∧ w' = w0 h) := by
  refine Cn.of (by decide +kernel) (Nat.le_of_ble_eq_true rfl) (fun E ad a qf => ?_)
  have qa := qf.2.2.2
  have hcs : 0 ≤ (eR E).cells ∧ 0 ≤ (eR E).slots := ⟨Nat.zero_le _, Nat.zero_le _⟩
  refine x_iload_n a 0 d_M_waiting_0 rfl ?_
  refine x_iconst a 1 0 d_M_waiting_1 (by decide) ?_
  refine x_aload_n a 2 d_M_waiting_2 rfl ?_
  refine x_getI a 3 f_M_99 d_M_waiting_3 rfl (by omega) (by decide) rfl ?_
  refine x_iconst a 6 1 d_M_waiting_6 (by decide) ?_
  refine x_isub a 7 d_M_waiting_7 ?_
  refine x_callS a qa 8 g_M_83 d_M_waiting_8 (c_M_in _ _ _ _) rfl rfl (by decide) (Nat.le_of_ble_eq_true rfl) hcs (fun v w' hp => ?_)
  obtain ⟨rfl, rfl⟩ := hp
  refine x_st1 ?_
  refine x_ifB_eq a 11 23 d_M_waiting_11 (by decide) (fun c11 => ?_) (fun c11 => ?_)
  · refine x_iconst a 23 (-1) d_M_waiting_23 (by decide) ?_
    exact x_iret a qf 24 d_M_waiting_24 rfl ⟨by unfold m_waiting; rw [if_neg c11], rfl⟩
  · have hx := in_ports (n := 6) hn (by decide) c11
    refine x_aload_n a 14 d_M_waiting_14 rfl ?_
    refine x_getR a 15 f_M_31 d_M_waiting_15 rfl (by omega) (by decide) (o' := 69) rfl ?_
    refine x_iload_n a 18 d_M_waiting_18 rfl ?_
    refine x_iald a 19 d_M_waiting_19 rfl (by omega) (j := tn x) hx.2 hx.1 (by decide) rfl ?_
    refine x_goto a 20 24 d_M_waiting_20 (by decide) ?_
    exact x_iret a qf 24 d_M_waiting_24 rfl ⟨by unfold m_waiting; rw [if_pos c11], rfl⟩
set_option maxRecDepth 100000 in
set_option maxHeartbeats 4000000 in
theorem c_M_clock (h : Hp) (x : Int32) : Cn u_M_clock 0 0 0 (w0 h) [.inr (some 61), .inl x] (fun v w' => v = some (m_clock h x) ∧ w' = w0 h) := by
  refine Cn.of (by decide +kernel) (Nat.le_of_ble_eq_true rfl) (fun E ad a qf => ?_)
  have qa := qf.2.2.2
  have hcs : 0 ≤ (eR E).cells ∧ 0 ≤ (eR E).slots := ⟨Nat.zero_le _, Nat.zero_le _⟩
  refine x_aload_n a 0 d_M_clock_0 rfl ?_
  refine x_getI a 1 f_M_91 d_M_clock_1 rfl (by omega) (by decide) rfl ?_
  refine x_if_ne a 4 11 d_M_clock_4 (by decide) (fun c4 => ?_) (fun c4 => ?_)
  · refine x_iload_n a 11 d_M_clock_11 rfl ?_
    refine x_if_ne a 12 22 d_M_clock_12 (by decide) (fun c12 => ?_) (fun c12 => ?_)
    · refine x_iload_n a 22 d_M_clock_22 rfl ?_
      refine x_iconst a 23 1 d_M_clock_23 (by decide) ?_
      refine x_icmp_ne a 24 34 d_M_clock_24 (by decide) (fun c24 => ?_) (fun c24 => ?_)
      · refine x_iload_n a 34 d_M_clock_34 rfl ?_
        refine x_iconst a 35 2 d_M_clock_35 (by decide) ?_
        refine x_icmp_ne a 36 46 d_M_clock_36 (by decide) (fun c36 => ?_) (fun c36 => ?_)
        · refine x_iconst a 46 (-1) d_M_clock_46 (by decide) ?_
          exact x_iret a qf 47 d_M_clock_47 rfl ⟨by unfold m_clock; first | (rw [if_pos c4]; done) | (rw [if_neg c4, if_pos c12]; done) | (rw [if_neg c4, if_neg c12, if_pos c24]; done) | (rw [if_neg c4, if_neg c12, if_neg c24, if_pos c36]; done) | (rw [if_neg c4, if_neg c12, if_neg c24, if_neg c36]; done), rfl⟩
        · refine x_aload_n a 39 d_M_clock_39 rfl ?_
          refine x_getI a 40 f_M_115 d_M_clock_40 rfl (by omega) (by decide) rfl ?_
          refine x_goto a 43 47 d_M_clock_43 (by decide) ?_
          exact x_iret a qf 47 d_M_clock_47 rfl ⟨by unfold m_clock; first | (rw [if_pos c4]; done) | (rw [if_neg c4, if_pos c12]; done) | (rw [if_neg c4, if_neg c12, if_pos c24]; done) | (rw [if_neg c4, if_neg c12, if_neg c24, if_pos c36]; done) | (rw [if_neg c4, if_neg c12, if_neg c24, if_neg c36]; done), rfl⟩
      · refine x_aload_n a 27 d_M_clock_27 rfl ?_
        refine x_getI a 28 f_M_112 d_M_clock_28 rfl (by omega) (by decide) rfl ?_
        refine x_goto a 31 47 d_M_clock_31 (by decide) ?_
        exact x_iret a qf 47 d_M_clock_47 rfl ⟨by unfold m_clock; first | (rw [if_pos c4]; done) | (rw [if_neg c4, if_pos c12]; done) | (rw [if_neg c4, if_neg c12, if_pos c24]; done) | (rw [if_neg c4, if_neg c12, if_neg c24, if_pos c36]; done) | (rw [if_neg c4, if_neg c12, if_neg c24, if_neg c36]; done), rfl⟩
    · refine x_aload_n a 15 d_M_clock_15 rfl ?_
      refine x_getI a 16 f_M_109 d_M_clock_16 rfl (by omega) (by decide) rfl ?_
      refine x_goto a 19 47 d_M_clock_19 (by decide) ?_
      exact x_iret a qf 47 d_M_clock_47 rfl ⟨by unfold m_clock; first | (rw [if_pos c4]; done) | (rw [if_neg c4, if_pos c12]; done) | (rw [if_neg c4, if_neg c12, if_pos c24]; done) | (rw [if_neg c4, if_neg c12, if_neg c24, if_pos c36]; done) | (rw [if_neg c4, if_neg c12, if_neg c24, if_neg c36]; done), rfl⟩
  · refine x_iconst a 7 (-1) d_M_clock_7 (by decide) ?_
    refine x_goto a 8 47 d_M_clock_8 (by decide) ?_
    exact x_iret a qf 47 d_M_clock_47 rfl ⟨by unfold m_clock; first | (rw [if_pos c4]; done) | (rw [if_neg c4, if_pos c12]; done) | (rw [if_neg c4, if_neg c12, if_pos c24]; done) | (rw [if_neg c4, if_neg c12, if_neg c24, if_pos c36]; done) | (rw [if_neg c4, if_neg c12, if_neg c24, if_neg c36]; done), rfl⟩
end
section
/-! react: what a fault does -/
def mr_reg (h : Hp) (p : Nat) : Nat → Hp
  | 0 => h
  | k + 1 => up2 (mr_reg h p k) 77 (4 * p + k) 0
theorem mr_reg_o (h : Hp) (p : Nat) {a : Nat} (ha : a ≠ 77) : ∀ k, mr_reg h p k a = h a
  | 0 => rfl
  | k + 1 => by rw [mr_reg, up2_o _ _ _ ha, mr_reg_o h p ha k]
def mr_mem (h : Hp) (f : Nat) : Nat → Hp
  | 0 => h
  | k + 1 => up2 (mr_mem h f k) 76 (f + k) 0
theorem mr_mem_o (h : Hp) (f : Nat) {a : Nat} (ha : a ≠ 76) : ∀ k, mr_mem h f k a = h a
  | 0 => rfl
  | k + 1 => by rw [mr_mem, up2_o _ _ _ ha, mr_mem_o h f ha k]
def mr_prt (h : Hp) (p : Nat) : Nat → Hp
  | 0 => h
  | k + 1 => up2 (mr_prt h p k) 69 k (if h 67 k = nI p then 0 else mr_prt h p k 69 k)
theorem mr_prt_o (h : Hp) (p : Nat) {a : Nat} (ha : a ≠ 69) : ∀ k, mr_prt h p k a = h a
  | 0 => rfl
  | k + 1 => by rw [mr_prt, up2_o _ _ _ ha, mr_prt_o h p ha k]
def m_again (g : Hp) (p : Nat) : Hp := mr_prt (mr_mem (mr_reg g p 4) (tn (g 62 p)) (tn (g 63 p))) p (tn (g 61 25))
def m_react (h : Hp) (p f : Nat) : Hp :=
  if h 72 (4 * p + f - 1) = 0 then up2 (up2 h 79 p (h 79 p + 1)) 80 p 0
  else if h 72 (4 * p + f - 1) = 1 then m_again (up2 (up2 h 79 p (h 79 p + 1)) 78 p 0) p
  else if h 72 (4 * p + f - 1) = 2 then up2 (up2 h 79 p (h 79 p + 1)) 78 p (if f = 4 then 0 else h 78 p + 1)
  else up2 h 79 p (h 79 p + 1)
/-- a region, or none -/
def mReg (h : Hp) (p : Nat) : Prop := (h 62 p = -1 ∧ h 63 p = 0) ∨ (Nlt (h 62 p) 65 ∧ Nlt (h 63 p) 33 ∧ tn (h 62 p) + tn (h 63 p) ≤ 64)
set_option maxRecDepth 100000 in
set_option maxHeartbeats 4000000 in
theorem l_M_react3 {E : En} {ad : Nat → Nat} {h : Hp} {n0 : Nat} {Post : Option Int32 → Wd → Prop} (a : Amb u_M_react 0 E) (qf : Fin Post n0 ad 0 0 E) (qa : va_AO R_2 (eS E) ∧ va_AO R_3 (eS E)) (hcs : 0 ≤ (eR E).cells ∧ 0 ≤ (eR E).slots) {p n : Nat} (hp4 : p < 4) (hn : h 61 25 = nI n) (hn6 : n ≤ 6) (hpo : Post none (w0 (mr_prt h p n))) : ∀ m k : Nat, k ≤ n → n < k + m → X E 0 0 ad (w0 (mr_prt h p k)) 147 [(0, .inr (some 61)), (1, .inl (nI p)), (4, .inl (nI k))] [] := by
  intro m
  induction m with
  | zero => intro k h1 h2; omega
  | succ m ih =>
    intro k h1 h2
    refine x_iload a 147 d_M_react_147 rfl ?_
    refine x_aload_n a 149 d_M_react_149 rfl ?_
    refine x_getI a 150 f_M_99 d_M_react_150 rfl (by omega) (by decide) (v := nI n) (by rw [mr_prt_o _ _ (by omega)]; exact hn) ?_
    refine x_icmp_ge a 153 191 d_M_react_153 (by decide) (fun c153 => ?_) (fun c153 => ?_)
    · have hk : k = n := (by (try simp (disch := omega) only [Int32.le_iff_toInt_le, Int32.lt_iff_toInt_lt, ← Int32.toInt_inj, Int32.reduceToInt, nI_1, nI_add, pk_sub, nI_toInt] at *); omega)
      subst hk
      exact x_vret a qf 191 d_M_react_191 rfl hpo
    · have hk : k < n := (by (try simp (disch := omega) only [Int32.le_iff_toInt_le, Int32.lt_iff_toInt_lt, ← Int32.toInt_inj, Int32.reduceToInt, nI_1, nI_add, pk_sub, nI_toInt] at *); omega)
      refine x_aload_n a 156 d_M_react_156 rfl ?_
      refine x_getR a 157 f_M_31 d_M_react_157 rfl (by omega) (by decide) (o' := 69) rfl ?_
      refine x_iload a 160 d_M_react_160 rfl ?_
      refine x_aload_n a 162 d_M_react_162 rfl ?_
      refine x_getR a 163 f_M_25 d_M_react_163 rfl (by omega) (by decide) (o' := 67) rfl ?_
      refine x_iload a 166 d_M_react_166 rfl ?_
      refine x_iald a 168 d_M_react_168 rfl (by omega) (j := k) rfl (by omega) (by decide) (v := h 67 k) (by rw [mr_prt_o _ _ (by omega)]) ?_
      refine x_iload_n a 169 d_M_react_169 rfl ?_
      refine x_icmp_ne a 170 177 d_M_react_170 (by decide) (fun c170 => ?_) (fun c170 => ?_)
      · refine x_aload_n a 177 d_M_react_177 rfl ?_
        refine x_getR a 178 f_M_31 d_M_react_178 rfl (by omega) (by decide) (o' := 69) rfl ?_
        refine x_iload a 181 d_M_react_181 rfl ?_
        refine x_iald a 183 d_M_react_183 rfl (by omega) (j := k) rfl (by omega) (by decide) rfl ?_
        refine x_push (y := if h 67 k = nI p then 0 else mr_prt h p k 69 k) (by first | (rw [if_pos c170]; done) | (rw [if_neg c170]; done)) ?_
        refine x_iast a 184 d_M_react_184 rfl (by omega) (j := k) rfl (by omega) (by decide) ?_
        refine x_iinc a 185 (nI (k + 1)) d_M_react_185 rfl (nI_inc k) (by decide) ?_
        refine x_goto a 188 147 d_M_react_188 (by decide) ?_
        refine x_lv [(0, .inr (some 61)), (1, .inl (nI p)), (4, .inl (nI (k + 1)))] (List.forall_mem_cons.mpr ⟨rfl, List.forall_mem_cons.mpr ⟨rfl, List.forall_mem_cons.mpr ⟨rfl, fun _ z => absurd z List.not_mem_nil⟩⟩⟩) ?_
        exact ih (k + 1) hk (by omega)
      · refine x_iconst a 173 0 d_M_react_173 (by decide) ?_
        refine x_goto a 174 184 d_M_react_174 (by decide) ?_
        refine x_push (y := if h 67 k = nI p then 0 else mr_prt h p k 69 k) (by first | (rw [if_pos c170]; done) | (rw [if_neg c170]; done)) ?_
        refine x_iast a 184 d_M_react_184 rfl (by omega) (j := k) rfl (by omega) (by decide) ?_
        refine x_iinc a 185 (nI (k + 1)) d_M_react_185 rfl (nI_inc k) (by decide) ?_
        refine x_goto a 188 147 d_M_react_188 (by decide) ?_
        refine x_lv [(0, .inr (some 61)), (1, .inl (nI p)), (4, .inl (nI (k + 1)))] (List.forall_mem_cons.mpr ⟨rfl, List.forall_mem_cons.mpr ⟨rfl, List.forall_mem_cons.mpr ⟨rfl, fun _ z => absurd z List.not_mem_nil⟩⟩⟩) ?_
        exact ih (k + 1) hk (by omega)
set_option maxRecDepth 100000 in
set_option maxHeartbeats 4000000 in
theorem l_M_react2 {E : En} {ad : Nat → Nat} {h : Hp} {n0 : Nat} {Post : Option Int32 → Wd → Prop} (a : Amb u_M_react 0 E) (qf : Fin Post n0 ad 0 0 E) (qa : va_AO R_2 (eS E) ∧ va_AO R_3 (eS E)) (hcs : 0 ≤ (eR E).cells ∧ 0 ≤ (eR E).slots) {p n f s : Nat} (hp4 : p < 4) (hn : h 61 25 = nI n) (hn6 : n ≤ 6) (hf : h 62 p = nI f) (hs : h 63 p = nI s) (hfs : f + s ≤ 64) (hpo : Post none (w0 (mr_prt (mr_mem h f s) p n))) : ∀ m k : Nat, k ≤ s → s < k + m → X E 0 0 ad (w0 (mr_mem h f k)) 112 [(0, .inr (some 61)), (1, .inl (nI p)), (4, .inl (nI (f + k)))] [] := by
  intro m
  induction m with
  | zero => intro k h1 h2; omega
  | succ m ih =>
    intro k h1 h2
    refine x_iload a 112 d_M_react_112 rfl ?_
    refine x_aload_n a 114 d_M_react_114 rfl ?_
    refine x_getR a 115 f_M_7 d_M_react_115 rfl (by omega) (by decide) (o' := 62) rfl ?_
    refine x_iload_n a 118 d_M_react_118 rfl ?_
    refine x_iald a 119 d_M_react_119 rfl (by omega) (j := p) rfl (by omega) (by decide) (v := nI f) (by rw [mr_mem_o _ _ (by omega)]; exact hf) ?_
    refine x_aload_n a 120 d_M_react_120 rfl ?_
    refine x_getR a 121 f_M_13 d_M_react_121 rfl (by omega) (by decide) (o' := 63) rfl ?_
    refine x_iload_n a 124 d_M_react_124 rfl ?_
    refine x_iald a 125 d_M_react_125 rfl (by omega) (j := p) rfl (by omega) (by decide) (v := nI s) (by rw [mr_mem_o _ _ (by omega)]; exact hs) ?_
    refine x_iadd a 126 d_M_react_126 ?_
    refine x_icmp_ge a 127 144 d_M_react_127 (by decide) (fun c127 => ?_) (fun c127 => ?_)
    · have hk : k = s := (by (try simp (disch := omega) only [Int32.le_iff_toInt_le, Int32.lt_iff_toInt_lt, ← Int32.toInt_inj, Int32.reduceToInt, nI_1, nI_add, pk_sub, nI_toInt] at *); omega)
      subst hk
      refine x_iconst a 144 0 d_M_react_144 (by decide) ?_
      refine x_istore a 145 d_M_react_145 (by decide) ?_
      refine x_lv [(0, .inr (some 61)), (1, .inl (nI p)), (4, .inl (nI 0))] (List.forall_mem_cons.mpr ⟨rfl, List.forall_mem_cons.mpr ⟨rfl, List.forall_mem_cons.mpr ⟨rfl, fun _ z => absurd z List.not_mem_nil⟩⟩⟩) ?_
      exact l_M_react3 (h := mr_mem h f k) a qf qa hcs hp4 (by rw [mr_mem_o _ _ (by omega)]; exact hn) hn6 hpo (n + 1) 0 (by omega) (by omega)
    · have hk : k < s := (by (try simp (disch := omega) only [Int32.le_iff_toInt_le, Int32.lt_iff_toInt_lt, ← Int32.toInt_inj, Int32.reduceToInt, nI_1, nI_add, pk_sub, nI_toInt] at *); omega)
      refine x_aload_n a 130 d_M_react_130 rfl ?_
      refine x_getR a 131 f_M_52 d_M_react_131 rfl (by omega) (by decide) (o' := 76) rfl ?_
      refine x_iload a 134 d_M_react_134 rfl ?_
      refine x_iconst a 136 0 d_M_react_136 (by decide) ?_
      refine x_iast a 137 d_M_react_137 rfl (by omega) (j := (f + k)) rfl (by omega) (by decide) ?_
      refine x_iinc a 138 (nI (f + (k + 1))) d_M_react_138 rfl (nI_inc (f + k)) (by decide) ?_
      refine x_goto a 141 112 d_M_react_141 (by decide) ?_
      refine x_lv [(0, .inr (some 61)), (1, .inl (nI p)), (4, .inl (nI (f + (k + 1))))] (List.forall_mem_cons.mpr ⟨rfl, List.forall_mem_cons.mpr ⟨rfl, List.forall_mem_cons.mpr ⟨rfl, fun _ z => absurd z List.not_mem_nil⟩⟩⟩) ?_
      exact ih (k + 1) hk (by omega)
set_option maxRecDepth 100000 in
set_option maxHeartbeats 4000000 in
theorem l_M_react0 {E : En} {ad : Nat → Nat} {h : Hp} {n0 : Nat} {Post : Option Int32 → Wd → Prop} (a : Amb u_M_react 0 E) (qf : Fin Post n0 ad 0 0 E) (qa : va_AO R_2 (eS E) ∧ va_AO R_3 (eS E)) (hcs : 0 ≤ (eR E).cells ∧ 0 ≤ (eR E).slots) {p n : Nat} (hp4 : p < 4) (hn : h 61 25 = nI n) (hn6 : n ≤ 6) (hf : h 62 p = -1) (hs : h 63 p = 0) (hpo : Post none (w0 (mr_prt h p n))) : X E 0 0 ad (w0 h) 112 [(0, .inr (some 61)), (1, .inl (nI p)), (4, .inl (-1))] [] := by
  refine x_iload a 112 d_M_react_112 rfl ?_
  refine x_aload_n a 114 d_M_react_114 rfl ?_
  refine x_getR a 115 f_M_7 d_M_react_115 rfl (by omega) (by decide) (o' := 62) rfl ?_
  refine x_iload_n a 118 d_M_react_118 rfl ?_
  refine x_iald a 119 d_M_react_119 rfl (by omega) (j := p) rfl (by omega) (by decide) (v := -1) hf ?_
  refine x_aload_n a 120 d_M_react_120 rfl ?_
  refine x_getR a 121 f_M_13 d_M_react_121 rfl (by omega) (by decide) (o' := 63) rfl ?_
  refine x_iload_n a 124 d_M_react_124 rfl ?_
  refine x_iald a 125 d_M_react_125 rfl (by omega) (j := p) rfl (by omega) (by decide) (v := 0) hs ?_
  refine x_iadd a 126 d_M_react_126 ?_
  refine x_icmp_ge a 127 144 d_M_react_127 (by decide) (fun c127 => ?_) (fun c127 => absurd c127 (fun z => z (by decide)))
  refine x_iconst a 144 0 d_M_react_144 (by decide) ?_
  refine x_istore a 145 d_M_react_145 (by decide) ?_
  refine x_lv [(0, .inr (some 61)), (1, .inl (nI p)), (4, .inl (nI 0))] (List.forall_mem_cons.mpr ⟨rfl, List.forall_mem_cons.mpr ⟨rfl, List.forall_mem_cons.mpr ⟨rfl, fun _ z => absurd z List.not_mem_nil⟩⟩⟩) ?_
  exact l_M_react3 a qf qa hcs hp4 hn hn6 hpo (n + 1) 0 (by omega) (by omega)
set_option maxRecDepth 100000 in
set_option maxHeartbeats 4000000 in
theorem l_M_react1 {E : En} {ad : Nat → Nat} {h : Hp} {n0 : Nat} {Post : Option Int32 → Wd → Prop} (a : Amb u_M_react 0 E) (qf : Fin Post n0 ad 0 0 E) (qa : va_AO R_2 (eS E) ∧ va_AO R_3 (eS E)) (hcs : 0 ≤ (eR E).cells ∧ 0 ≤ (eR E).slots) {p : Nat} (hp4 : p < 4) (hn : Nlt (h 61 25) 7) (hr : mReg h p) (hpo : Post none (w0 (m_again h p))) : ∀ m k : Nat, k ≤ 4 → 4 < k + m → X E 0 0 ad (w0 (mr_reg h p k)) 80 [(0, .inr (some 61)), (1, .inl (nI p)), (4, .inl (nI (4 * p + k)))] [] := by
  intro m
  induction m with
  | zero => intro k h1 h2; omega
  | succ m ih =>
    intro k h1 h2
    refine x_iload a 80 d_M_react_80 rfl ?_
    refine x_iconst a 82 4 d_M_react_82 (by decide) ?_
    refine x_iload_n a 83 d_M_react_83 rfl ?_
    refine x_imul a 84 d_M_react_84 ?_
    refine x_iconst a 85 4 d_M_react_85 (by decide) ?_
    refine x_iadd a 86 d_M_react_86 ?_
    refine x_push (y := nI (4 * p + 4)) (by rw [show (4 : Int32) = nI 4 from rfl, pk_mul, nI_add]) ?_
    refine x_icmp_ge a 87 104 d_M_react_87 (by decide) (fun c87 => ?_) (fun c87 => ?_)
    · have hk : k = 4 := (by (try simp (disch := omega) only [Int32.le_iff_toInt_le, Int32.lt_iff_toInt_lt, ← Int32.toInt_inj, Int32.reduceToInt, nI_1, nI_add, pk_sub, nI_toInt] at *); omega)
      subst hk
      have hn1 := hn.1
      refine x_aload_n a 104 d_M_react_104 rfl ?_
      refine x_getR a 105 f_M_7 d_M_react_105 rfl (by omega) (by decide) (o' := 62) rfl ?_
      refine x_iload_n a 108 d_M_react_108 rfl ?_
      refine x_iald a 109 d_M_react_109 rfl (by omega) (j := p) rfl hp4 (by decide) (v := h 62 p) (by rw [mr_reg_o _ _ (by omega)]) ?_
      refine x_istore a 110 d_M_react_110 (by decide) ?_
      rcases hr with ⟨e1, e2⟩ | ⟨e1, e2, e3⟩
      · refine x_lv [(0, .inr (some 61)), (1, .inl (nI p)), (4, .inl (-1))] (by rw [e1]; exact (List.forall_mem_cons.mpr ⟨rfl, List.forall_mem_cons.mpr ⟨rfl, List.forall_mem_cons.mpr ⟨rfl, fun _ z => absurd z List.not_mem_nil⟩⟩⟩)) ?_
        exact l_M_react0 (h := mr_reg h p 4) a qf qa hcs hp4 (by rw [mr_reg_o _ _ (by omega)]; exact hn.2) (by omega) (by rw [mr_reg_o _ _ (by omega)]; exact e1) (by rw [mr_reg_o _ _ (by omega)]; exact e2) (by unfold m_again at hpo; rw [e1, e2] at hpo; exact hpo)
      · refine x_lv [(0, .inr (some 61)), (1, .inl (nI p)), (4, .inl (nI (tn (h 62 p) + 0)))] (by rw [show nI (tn (h 62 p) + 0) = h 62 p from e1.2.symm]; exact (List.forall_mem_cons.mpr ⟨rfl, List.forall_mem_cons.mpr ⟨rfl, List.forall_mem_cons.mpr ⟨rfl, fun _ z => absurd z List.not_mem_nil⟩⟩⟩)) ?_
        exact l_M_react2 (h := mr_reg h p 4) a qf qa hcs hp4 (by rw [mr_reg_o _ _ (by omega)]; exact hn.2) (by omega) (by rw [mr_reg_o _ _ (by omega)]; exact e1.2) (by rw [mr_reg_o _ _ (by omega)]; exact e2.2) e3 hpo (tn (h 63 p) + 1) 0 (by omega) (by omega)
    · have hk : k < 4 := (by (try simp (disch := omega) only [Int32.le_iff_toInt_le, Int32.lt_iff_toInt_lt, ← Int32.toInt_inj, Int32.reduceToInt, nI_1, nI_add, pk_sub, nI_toInt] at *); omega)
      refine x_aload_n a 90 d_M_react_90 rfl ?_
      refine x_getR a 91 f_M_55 d_M_react_91 rfl (by omega) (by decide) (o' := 77) rfl ?_
      refine x_iload a 94 d_M_react_94 rfl ?_
      refine x_iconst a 96 0 d_M_react_96 (by decide) ?_
      refine x_iast a 97 d_M_react_97 rfl (by omega) (j := (4 * p + k)) rfl (by omega) (by decide) ?_
      refine x_iinc a 98 (nI (4 * p + (k + 1))) d_M_react_98 rfl (nI_inc (4 * p + k)) (by decide) ?_
      refine x_goto a 101 80 d_M_react_101 (by decide) ?_
      refine x_lv [(0, .inr (some 61)), (1, .inl (nI p)), (4, .inl (nI (4 * p + (k + 1))))] (List.forall_mem_cons.mpr ⟨rfl, List.forall_mem_cons.mpr ⟨rfl, List.forall_mem_cons.mpr ⟨rfl, fun _ z => absurd z List.not_mem_nil⟩⟩⟩) ?_
      exact ih (k + 1) hk (by omega)
set_option maxRecDepth 100000 in
set_option maxHeartbeats 4000000 in
theorem c_M_react (h : Hp) {p f : Nat} (hp4 : p < 4) (hf1 : 1 ≤ f) (hf4 : f ≤ 4) (hn : Nlt (h 61 25) 7) (hr : mReg h p) : Cn u_M_react 0 0 0 (w0 h) [.inr (some 61), .inl (nI p), .inl (nI f)] (fun r w' => r = none ∧ w' = w0 (m_react h p f)) := by
  refine Cn.of (by decide +kernel) (Nat.le_of_ble_eq_true rfl) (fun E ad a qf => ?_)
  have qa := qf.2.2.2
  have hcs : 0 ≤ (eR E).cells ∧ 0 ≤ (eR E).slots := ⟨Nat.zero_le _, Nat.zero_le _⟩
  obtain ⟨t, ht⟩ : ∃ z, z = h 72 (4 * p + f - 1) := ⟨_, rfl⟩
  refine x_aload_n a 0 d_M_react_0 rfl ?_
  refine x_getR a 1 f_M_40 d_M_react_1 rfl (by omega) (by decide) (o' := 72) rfl ?_
  refine x_iconst a 4 4 d_M_react_4 (by decide) ?_
  refine x_iload_n a 5 d_M_react_5 rfl ?_
  refine x_imul a 6 d_M_react_6 ?_
  refine x_iload_n a 7 d_M_react_7 rfl ?_
  refine x_iadd a 8 d_M_react_8 ?_
  refine x_iconst a 9 1 d_M_react_9 (by decide) ?_
  refine x_isub a 10 d_M_react_10 ?_
  refine x_iald a 11 d_M_react_11 rfl (by omega) (j := 4 * p + f - 1) (by rw [ix_n (k := 4) (K := 4) rfl]; exact pk_sub (b := 1) (by omega)) (by omega) (by decide) (v := t) ht.symm ?_
  refine x_istore_n a 12 d_M_react_12 (by decide) ?_
  refine x_aload_n a 13 d_M_react_13 rfl ?_
  refine x_getR a 14 f_M_61 d_M_react_14 rfl (by omega) (by decide) (o' := 79) rfl ?_
  refine x_iload_n a 17 d_M_react_17 rfl ?_
  refine x_dup2 a 18 d_M_react_18 ?_
  refine x_iald a 19 d_M_react_19 rfl (by omega) (j := p) rfl (by omega) (by decide) rfl ?_
  refine x_iconst a 20 1 d_M_react_20 (by decide) ?_
  refine x_iadd a 21 d_M_react_21 ?_
  refine x_iast a 22 d_M_react_22 rfl (by omega) (j := p) rfl (by omega) (by decide) ?_
  by_cases s23_0 : t = 0
  · subst s23_0
    refine x_iload_n a 23 d_M_react_23 rfl ?_
    refine x_if_ne a 24 34 d_M_react_24 (by decide) (fun z => absurd z (by decide)) (fun _ => ?_)
    refine x_aload_n a 27 d_M_react_27 rfl ?_
    refine x_getR a 28 f_M_64 d_M_react_28 rfl (by omega) (by decide) (o' := 80) rfl ?_
    refine x_iload_n a 31 d_M_react_31 rfl ?_
    refine x_iconst a 32 0 d_M_react_32 (by decide) ?_
    refine x_zast a 33 d_M_react_33 rfl (by omega) (j := p) rfl (by omega) (by decide) rfl ?_
    refine x_iload_n a 34 d_M_react_34 rfl ?_
    refine x_iconst a 35 2 d_M_react_35 (by decide) ?_
    refine x_icmp_ne a 36 62 d_M_react_36 (by decide) (fun _ => ?_) (fun z => absurd z (by decide))
    refine x_iload_n a 62 d_M_react_62 rfl ?_
    refine x_iconst a 63 1 d_M_react_63 (by decide) ?_
    refine x_icmp_eq a 64 68 d_M_react_64 (by decide) (fun z => absurd z (by decide)) (fun _ => ?_)
    exact x_vret a qf 67 d_M_react_67 rfl ⟨rfl, by unfold m_react; rw [← ht]; first | (rw [if_pos (show (0 : Int32) = 0 from rfl)]; done) | (rw [if_neg (show ¬ (1 : Int32) = 0 by decide), if_pos (show (1 : Int32) = 1 from rfl)]; done) | (rw [if_neg (show ¬ (2 : Int32) = 0 by decide), if_neg (show ¬ (2 : Int32) = 1 by decide), if_pos (show (2 : Int32) = 2 from rfl)]; done) | (rw [if_neg s23_0, if_neg s23_1, if_neg s23_2]; done)⟩
  by_cases s23_1 : t = 1
  · subst s23_1
    refine x_iload_n a 23 d_M_react_23 rfl ?_
    refine x_if_ne a 24 34 d_M_react_24 (by decide) (fun _ => ?_) (fun z => absurd z (by decide))
    refine x_iload_n a 34 d_M_react_34 rfl ?_
    refine x_iconst a 35 2 d_M_react_35 (by decide) ?_
    refine x_icmp_ne a 36 62 d_M_react_36 (by decide) (fun _ => ?_) (fun z => absurd z (by decide))
    refine x_iload_n a 62 d_M_react_62 rfl ?_
    refine x_iconst a 63 1 d_M_react_63 (by decide) ?_
    refine x_icmp_eq a 64 68 d_M_react_64 (by decide) (fun _ => ?_) (fun z => absurd z (by decide))
    refine x_aload_n a 68 d_M_react_68 rfl ?_
    refine x_getR a 69 f_M_58 d_M_react_69 rfl (by omega) (by decide) (o' := 78) rfl ?_
    refine x_iload_n a 72 d_M_react_72 rfl ?_
    refine x_iconst a 73 0 d_M_react_73 (by decide) ?_
    refine x_iast a 74 d_M_react_74 rfl (by omega) (j := p) rfl (by omega) (by decide) ?_
    refine x_iconst a 75 4 d_M_react_75 (by decide) ?_
    refine x_iload_n a 76 d_M_react_76 rfl ?_
    refine x_imul a 77 d_M_react_77 ?_
    refine x_istore a 78 d_M_react_78 (by decide) ?_
    refine x_lv [(0, .inr (some 61)), (1, .inl (nI p)), (4, .inl (nI (4 * p + 0)))] (by rw [show nI (4 * p + 0) = (4 : Int32) * nI p from (pk_mul 4 p).symm]; exact (List.forall_mem_cons.mpr ⟨rfl, List.forall_mem_cons.mpr ⟨rfl, List.forall_mem_cons.mpr ⟨rfl, fun _ z => absurd z List.not_mem_nil⟩⟩⟩)) ?_
    exact l_M_react1 (h := up2 (up2 h 79 p (h 79 p + 1)) 78 p 0) a qf qa hcs hp4 (by rw [up2_o _ _ _ (by omega), up2_o _ _ _ (by omega)]; exact hn) (by unfold mReg; rw [up2_o _ _ _ (by omega), up2_o _ _ _ (by omega), up2_o _ _ _ (by omega), up2_o _ _ _ (by omega)]; exact hr) ⟨rfl, by unfold m_react; rw [← ht]; first | (rw [if_pos (show (0 : Int32) = 0 from rfl)]; done) | (rw [if_neg (show ¬ (1 : Int32) = 0 by decide), if_pos (show (1 : Int32) = 1 from rfl)]; done) | (rw [if_neg (show ¬ (2 : Int32) = 0 by decide), if_neg (show ¬ (2 : Int32) = 1 by decide), if_pos (show (2 : Int32) = 2 from rfl)]; done) | (rw [if_neg s23_0, if_neg s23_1, if_neg s23_2]; done)⟩ 5 0 (by omega) (by omega)
  by_cases s23_2 : t = 2
  · subst s23_2
    refine x_iload_n a 23 d_M_react_23 rfl ?_
    refine x_if_ne a 24 34 d_M_react_24 (by decide) (fun _ => ?_) (fun z => absurd z (by decide))
    refine x_iload_n a 34 d_M_react_34 rfl ?_
    refine x_iconst a 35 2 d_M_react_35 (by decide) ?_
    refine x_icmp_ne a 36 62 d_M_react_36 (by decide) (fun z => absurd z (by decide)) (fun _ => ?_)
    refine x_aload_n a 39 d_M_react_39 rfl ?_
    refine x_getR a 40 f_M_58 d_M_react_40 rfl (by omega) (by decide) (o' := 78) rfl ?_
    refine x_iload_n a 43 d_M_react_43 rfl ?_
    refine x_iload_n a 44 d_M_react_44 rfl ?_
    refine x_iconst a 45 4 d_M_react_45 (by decide) ?_
    refine x_icmp_ne a 46 53 d_M_react_46 (by decide) (fun c46 => ?_) (fun c46 => ?_)
    · refine x_aload_n a 53 d_M_react_53 rfl ?_
      refine x_getR a 54 f_M_58 d_M_react_54 rfl (by omega) (by decide) (o' := 78) rfl ?_
      refine x_iload_n a 57 d_M_react_57 rfl ?_
      refine x_iald a 58 d_M_react_58 rfl (by omega) (j := p) rfl (by omega) (by decide) (v := h 78 p) (by rw [up2_o _ _ _ (by omega)]) ?_
      refine x_iconst a 59 1 d_M_react_59 (by decide) ?_
      refine x_iadd a 60 d_M_react_60 ?_
      refine x_push (y := if f = 4 then 0 else h 78 p + 1) (by first | (rw [if_pos (by (try simp (disch := omega) only [Int32.le_iff_toInt_le, Int32.lt_iff_toInt_lt, ← Int32.toInt_inj, Int32.reduceToInt, nI_1, nI_add, pk_sub, nI_toInt] at *); omega)]; done) | (rw [if_neg (by (try simp (disch := omega) only [Int32.le_iff_toInt_le, Int32.lt_iff_toInt_lt, ← Int32.toInt_inj, Int32.reduceToInt, nI_1, nI_add, pk_sub, nI_toInt] at *); omega)]; done)) ?_
      refine x_iast a 61 d_M_react_61 rfl (by omega) (j := p) rfl (by omega) (by decide) ?_
      refine x_iload_n a 62 d_M_react_62 rfl ?_
      refine x_iconst a 63 1 d_M_react_63 (by decide) ?_
      refine x_icmp_eq a 64 68 d_M_react_64 (by decide) (fun z => absurd z (by decide)) (fun _ => ?_)
      exact x_vret a qf 67 d_M_react_67 rfl ⟨rfl, by unfold m_react; rw [← ht]; first | (rw [if_pos (show (0 : Int32) = 0 from rfl)]; done) | (rw [if_neg (show ¬ (1 : Int32) = 0 by decide), if_pos (show (1 : Int32) = 1 from rfl)]; done) | (rw [if_neg (show ¬ (2 : Int32) = 0 by decide), if_neg (show ¬ (2 : Int32) = 1 by decide), if_pos (show (2 : Int32) = 2 from rfl)]; done) | (rw [if_neg s23_0, if_neg s23_1, if_neg s23_2]; done)⟩
    · refine x_iconst a 49 0 d_M_react_49 (by decide) ?_
      refine x_goto a 50 61 d_M_react_50 (by decide) ?_
      refine x_push (y := if f = 4 then 0 else h 78 p + 1) (by first | (rw [if_pos (by (try simp (disch := omega) only [Int32.le_iff_toInt_le, Int32.lt_iff_toInt_lt, ← Int32.toInt_inj, Int32.reduceToInt, nI_1, nI_add, pk_sub, nI_toInt] at *); omega)]; done) | (rw [if_neg (by (try simp (disch := omega) only [Int32.le_iff_toInt_le, Int32.lt_iff_toInt_lt, ← Int32.toInt_inj, Int32.reduceToInt, nI_1, nI_add, pk_sub, nI_toInt] at *); omega)]; done)) ?_
      refine x_iast a 61 d_M_react_61 rfl (by omega) (j := p) rfl (by omega) (by decide) ?_
      refine x_iload_n a 62 d_M_react_62 rfl ?_
      refine x_iconst a 63 1 d_M_react_63 (by decide) ?_
      refine x_icmp_eq a 64 68 d_M_react_64 (by decide) (fun z => absurd z (by decide)) (fun _ => ?_)
      exact x_vret a qf 67 d_M_react_67 rfl ⟨rfl, by unfold m_react; rw [← ht]; first | (rw [if_pos (show (0 : Int32) = 0 from rfl)]; done) | (rw [if_neg (show ¬ (1 : Int32) = 0 by decide), if_pos (show (1 : Int32) = 1 from rfl)]; done) | (rw [if_neg (show ¬ (2 : Int32) = 0 by decide), if_neg (show ¬ (2 : Int32) = 1 by decide), if_pos (show (2 : Int32) = 2 from rfl)]; done) | (rw [if_neg s23_0, if_neg s23_1, if_neg s23_2]; done)⟩
  refine x_iload_n a 23 d_M_react_23 rfl ?_
  refine x_if_ne a 24 34 d_M_react_24 (by decide) (fun c24 => ?_) (fun c24 => absurd c24 s23_0)
  refine x_iload_n a 34 d_M_react_34 rfl ?_
  refine x_iconst a 35 2 d_M_react_35 (by decide) ?_
  refine x_icmp_ne a 36 62 d_M_react_36 (by decide) (fun c36 => ?_) (fun c36 => absurd c36 s23_2)
  refine x_iload_n a 62 d_M_react_62 rfl ?_
  refine x_iconst a 63 1 d_M_react_63 (by decide) ?_
  refine x_icmp_eq a 64 68 d_M_react_64 (by decide) (fun c64 => absurd c64 s23_1) (fun c64 => ?_)
  exact x_vret a qf 67 d_M_react_67 rfl ⟨rfl, by unfold m_react; rw [← ht]; first | (rw [if_pos (show (0 : Int32) = 0 from rfl)]; done) | (rw [if_neg (show ¬ (1 : Int32) = 0 by decide), if_pos (show (1 : Int32) = 1 from rfl)]; done) | (rw [if_neg (show ¬ (2 : Int32) = 0 by decide), if_neg (show ¬ (2 : Int32) = 1 by decide), if_pos (show (2 : Int32) = 2 from rfl)]; done) | (rw [if_neg s23_0, if_neg s23_1, if_neg s23_2]; done)⟩
end
section
/-! one place nearer -/
def mshift (h : Hp) (o b : Nat) : Nat → Hp
  | 0 => h
  | k + 1 => up2 (mshift h o b k) o (b + k) (mshift h o b k o (b + k + 1))
theorem mshift_o (h : Hp) {o b a : Nat} (ha : a ≠ o) : ∀ k, mshift h o b k a = h a
  | 0 => rfl
  | k + 1 => by rw [mshift, up2_o _ _ _ ha, mshift_o h ha k]
theorem m_go_o (h : Hp) {p a : Nat} (ha : a ≠ 78) : m_go h p a = h a := by unfold m_go; rw [up2_o _ _ _ ha]
def m_in11 (g : Hp) (p x c : Nat) : Hp :=
  if 0 < c then up2 (mshift (up2 (up2 g 77 x (g 83 (8 * p))) 82 p (nI (c - 1))) 83 (8 * p) (c - 1)) 77 (4 * p + 3) 1
  else up2 (up2 (up2 g 77 x 0) 82 p 0) 77 (4 * p + 3) 0
def m_out12 (g : Hp) (p x c : Nat) : Hp := up2 (if c < 16 then up2 g 85 (16 * p + c) (g 77 x) else g) 84 p (nI (c + 1))
def m_simp (g : Hp) (p : Nat) (o : Int32) (x : Nat) (b y : Int32) : Hp :=
  if o = 1 then up2 g 77 x b
  else if o = 2 then up2 g 77 x (g 77 x + y)
  else if o = 3 then up2 g 77 x (g 77 x - y)
  else if o = 4 then up2 g 77 x (g 77 x ^^^ y)
  else if o = 11 then m_in11 g p x (tn (g 82 p))
  else if o = 12 then m_out12 g p x (tn (g 84 p))
  else if o = 13 then up2 g 81 p 1
  else if o = 14 then up2 g 80 p 0
  else g
def m_simple (h : Hp) (p : Nat) (o x b : Int32) : Hp × Nat := if o < 0 ∨ 14 < o then (h, 3) else (m_simp (m_go h p) p o (4 * p + rg x) b (h 77 (4 * p + rg b)), 0)
set_option maxRecDepth 100000 in
set_option maxHeartbeats 4000000 in
theorem l_M_shift11 {E : En} {ad : Nat → Nat} {h : Hp} (a : Amb u_M_simple 1 E) {p x n : Nat} (hp4 : p < 4) (hn : h 82 p = nI n) (hn8 : n ≤ 7) (K : X E 0 0 ad (w0 (mshift h 83 (8 * p) n)) 235 [(0, .inr (some 61)), (1, .inl (nI p)), (2, .inl 11), (5, .inl (nI x)), (7, .inl 1)] []) : ∀ m k : Nat, k ≤ n → n < k + m → X E 0 0 ad (w0 (mshift h 83 (8 * p) k)) 197 [(0, .inr (some 61)), (1, .inl (nI p)), (2, .inl 11), (5, .inl (nI x)), (7, .inl 1), (8, .inl (nI (8 * p + k)))] [] := by
  intro m
  induction m with
  | zero => intro k h1 h2; omega
  | succ m ih =>
    intro k h1 h2
    refine x_iload a 197 d_M_simple_197 rfl ?_
    refine x_bipush a 199 8 d_M_simple_199 (by decide) ?_
    refine x_iload_n a 201 d_M_simple_201 rfl ?_
    refine x_imul a 202 d_M_simple_202 ?_
    refine x_aload_n a 203 d_M_simple_203 rfl ?_
    refine x_getR a 204 f_M_71 d_M_simple_204 rfl (by omega) (by decide) (o' := 82) rfl ?_
    refine x_iload_n a 207 d_M_simple_207 rfl ?_
    refine x_iald a 208 d_M_simple_208 rfl (by omega) (j := p) rfl hp4 (by decide) (v := nI n) (by rw [mshift_o _ (by omega)]; exact hn) ?_
    refine x_iadd a 209 d_M_simple_209 ?_
    refine x_push (y := nI (8 * p + n)) (ix_n (k := 8) (K := 8) rfl p n) ?_
    refine x_icmp_ge a 210 235 d_M_simple_210 (by decide) (fun c210 => ?_) (fun c210 => ?_)
    · have hk : k = n := (by (try simp (disch := omega) only [Int32.le_iff_toInt_le, Int32.lt_iff_toInt_lt, ← Int32.toInt_inj, Int32.reduceToInt, nI_1, nI_add, pk_sub, nI_toInt] at *); omega)
      subst hk
      refine x_lv [(0, .inr (some 61)), (1, .inl (nI p)), (2, .inl 11), (5, .inl (nI x)), (7, .inl 1)] (List.forall_mem_cons.mpr ⟨rfl, List.forall_mem_cons.mpr ⟨rfl, List.forall_mem_cons.mpr ⟨rfl, List.forall_mem_cons.mpr ⟨rfl, List.forall_mem_cons.mpr ⟨rfl, fun _ z => absurd z List.not_mem_nil⟩⟩⟩⟩⟩) ?_
      exact K
    · have hk : k < n := (by (try simp (disch := omega) only [Int32.le_iff_toInt_le, Int32.lt_iff_toInt_lt, ← Int32.toInt_inj, Int32.reduceToInt, nI_1, nI_add, pk_sub, nI_toInt] at *); omega)
      refine x_aload_n a 213 d_M_simple_213 rfl ?_
      refine x_getR a 214 f_M_74 d_M_simple_214 rfl (by omega) (by decide) (o' := 83) rfl ?_
      refine x_iload a 217 d_M_simple_217 rfl ?_
      refine x_aload_n a 219 d_M_simple_219 rfl ?_
      refine x_getR a 220 f_M_74 d_M_simple_220 rfl (by omega) (by decide) (o' := 83) rfl ?_
      refine x_iload a 223 d_M_simple_223 rfl ?_
      refine x_iconst a 225 1 d_M_simple_225 (by decide) ?_
      refine x_iadd a 226 d_M_simple_226 ?_
      refine x_iald a 227 d_M_simple_227 rfl (by omega) (j := 8 * p + k + 1) (nI_1 _) (by omega) (by decide) rfl ?_
      refine x_iast a 228 d_M_simple_228 rfl (by omega) (j := (8 * p + k)) rfl (by omega) (by decide) ?_
      refine x_iinc a 229 (nI (8 * p + (k + 1))) d_M_simple_229 rfl (nI_inc (8 * p + k)) (by decide) ?_
      refine x_goto a 232 197 d_M_simple_232 (by decide) ?_
      refine x_lv [(0, .inr (some 61)), (1, .inl (nI p)), (2, .inl 11), (5, .inl (nI x)), (7, .inl 1), (8, .inl (nI (8 * p + (k + 1))))] (List.forall_mem_cons.mpr ⟨rfl, List.forall_mem_cons.mpr ⟨rfl, List.forall_mem_cons.mpr ⟨rfl, List.forall_mem_cons.mpr ⟨rfl, List.forall_mem_cons.mpr ⟨rfl, List.forall_mem_cons.mpr ⟨rfl, fun _ z => absurd z List.not_mem_nil⟩⟩⟩⟩⟩⟩) ?_
      exact ih (k + 1) hk (by omega)
set_option maxRecDepth 100000 in
set_option maxHeartbeats 4000000 in
theorem l_M_s11p {E : En} {ad : Nat → Nat} {h : Hp} {n0 : Nat} {Post : Option Int32 → Wd → Prop} (a : Amb u_M_simple 1 E) (qf : Fin Post n0 ad 0 0 E) {p x c : Nat} (hp4 : p < 4) (hx : x < 16) (hc : h 82 p = nI c) (hc8 : c ≤ 8) (hc0 : 0 < c) (hpo : Post (some 0) (w0 (m_in11 h p x c))) : X E 0 0 ad (w0 h) 127 [(0, .inr (some 61)), (1, .inl (nI p)), (2, .inl 11), (5, .inl (nI x))] [] := by
  refine x_aload_n a 127 d_M_simple_127 rfl ?_
  refine x_getR a 128 f_M_71 d_M_simple_128 rfl (by omega) (by decide) (o' := 82) rfl ?_
  refine x_iload_n a 131 d_M_simple_131 rfl ?_
  refine x_iald a 132 d_M_simple_132 rfl (by omega) (j := p) rfl (by omega) (by decide) (v := nI c) hc ?_
  refine x_if_le a 133 140 d_M_simple_133 (by decide) (fun c133 => absurd c133 (by (try simp (disch := omega) only [Int32.le_iff_toInt_le, Int32.lt_iff_toInt_lt, ← Int32.toInt_inj, Int32.reduceToInt, nI_1, nI_add, pk_sub, nI_toInt] at *); omega)) (fun c133 => ?_)
  refine x_iconst a 136 1 d_M_simple_136 (by decide) ?_
  refine x_goto a 137 141 d_M_simple_137 (by decide) ?_
  refine x_istore a 141 d_M_simple_141 (by decide) ?_
  refine x_aload_n a 143 d_M_simple_143 rfl ?_
  refine x_getR a 144 f_M_55 d_M_simple_144 rfl (by omega) (by decide) (o' := 77) rfl ?_
  refine x_iload a 147 d_M_simple_147 rfl ?_
  refine x_iload a 149 d_M_simple_149 rfl ?_
  refine x_if_eq a 151 166 d_M_simple_151 (by decide) (fun z => absurd z (by decide)) (fun _ => ?_)
  refine x_aload_n a 154 d_M_simple_154 rfl ?_
  refine x_getR a 155 f_M_74 d_M_simple_155 rfl (by omega) (by decide) (o' := 83) rfl ?_
  refine x_bipush a 158 8 d_M_simple_158 (by decide) ?_
  refine x_iload_n a 160 d_M_simple_160 rfl ?_
  refine x_imul a 161 d_M_simple_161 ?_
  refine x_iald a 162 d_M_simple_162 rfl (by omega) (j := 8 * p) (pk_mul 8 p) (by omega) (by decide) rfl ?_
  refine x_goto a 163 167 d_M_simple_163 (by decide) ?_
  refine x_iast a 167 d_M_simple_167 rfl (by omega) (j := x) rfl (by omega) (by decide) ?_
  refine x_aload_n a 168 d_M_simple_168 rfl ?_
  refine x_getR a 169 f_M_71 d_M_simple_169 rfl (by omega) (by decide) (o' := 82) rfl ?_
  refine x_iload_n a 172 d_M_simple_172 rfl ?_
  refine x_iload a 173 d_M_simple_173 rfl ?_
  refine x_if_eq a 175 189 d_M_simple_175 (by decide) (fun z => absurd z (by decide)) (fun _ => ?_)
  refine x_aload_n a 178 d_M_simple_178 rfl ?_
  refine x_getR a 179 f_M_71 d_M_simple_179 rfl (by omega) (by decide) (o' := 82) rfl ?_
  refine x_iload_n a 182 d_M_simple_182 rfl ?_
  refine x_iald a 183 d_M_simple_183 rfl (by omega) (j := p) rfl (by omega) (by decide) (v := nI c) (by rw [up2_o _ _ _ (by omega)]; exact hc) ?_
  refine x_iconst a 184 1 d_M_simple_184 (by decide) ?_
  refine x_isub a 185 d_M_simple_185 ?_
  refine x_goto a 186 190 d_M_simple_186 (by decide) ?_
  refine x_push (y := nI (c - 1)) (pk_sub (b := 1) (by omega)) ?_
  refine x_iast a 190 d_M_simple_190 rfl (by omega) (j := p) rfl (by omega) (by decide) ?_
  refine x_bipush a 191 8 d_M_simple_191 (by decide) ?_
  refine x_iload_n a 193 d_M_simple_193 rfl ?_
  refine x_imul a 194 d_M_simple_194 ?_
  refine x_istore a 195 d_M_simple_195 (by decide) ?_
  refine x_lv [(0, .inr (some 61)), (1, .inl (nI p)), (2, .inl 11), (5, .inl (nI x)), (7, .inl 1), (8, .inl (nI (8 * p + 0)))] (by rw [show nI (8 * p + 0) = (8 : Int32) * nI p from (pk_mul 8 p).symm]; exact (List.forall_mem_cons.mpr ⟨rfl, List.forall_mem_cons.mpr ⟨rfl, List.forall_mem_cons.mpr ⟨rfl, List.forall_mem_cons.mpr ⟨rfl, List.forall_mem_cons.mpr ⟨rfl, List.forall_mem_cons.mpr ⟨rfl, fun _ z => absurd z List.not_mem_nil⟩⟩⟩⟩⟩⟩)) ?_
  refine l_M_shift11 (n := c - 1) a hp4 (up2_s _ _ _ _) (by omega) ?_ c 0 (by omega) (by omega)
  refine x_aload_n a 235 d_M_simple_235 rfl ?_
  refine x_getR a 236 f_M_55 d_M_simple_236 rfl (by omega) (by decide) (o' := 77) rfl ?_
  refine x_iconst a 239 4 d_M_simple_239 (by decide) ?_
  refine x_iload_n a 240 d_M_simple_240 rfl ?_
  refine x_imul a 241 d_M_simple_241 ?_
  refine x_iconst a 242 3 d_M_simple_242 (by decide) ?_
  refine x_iadd a 243 d_M_simple_243 ?_
  refine x_iload a 244 d_M_simple_244 rfl ?_
  refine x_if_eq a 246 253 d_M_simple_246 (by decide) (fun z => absurd z (by decide)) (fun _ => ?_)
  refine x_iconst a 249 1 d_M_simple_249 (by decide) ?_
  refine x_goto a 250 254 d_M_simple_250 (by decide) ?_
  refine x_iast a 254 d_M_simple_254 rfl (by omega) (j := 4 * p + 3) (ix_n (k := 4) (K := 4) rfl p 3) (by omega) (by decide) ?_
  refine x_iload_n a 255 d_M_simple_255 rfl ?_
  refine x_bipush a 256 12 d_M_simple_256 (by decide) ?_
  refine x_icmp_ne a 258 305 d_M_simple_258 (by decide) (fun _ => ?_) (fun z => absurd z (by decide))
  refine x_iload_n a 305 d_M_simple_305 rfl ?_
  refine x_bipush a 306 13 d_M_simple_306 (by decide) ?_
  refine x_icmp_ne a 308 318 d_M_simple_308 (by decide) (fun _ => ?_) (fun z => absurd z (by decide))
  refine x_iload_n a 318 d_M_simple_318 rfl ?_
  refine x_bipush a 319 14 d_M_simple_319 (by decide) ?_
  refine x_icmp_ne a 321 331 d_M_simple_321 (by decide) (fun _ => ?_) (fun z => absurd z (by decide))
  refine x_iconst a 331 0 d_M_simple_331 (by decide) ?_
  exact x_iret a qf 332 d_M_simple_332 rfl (by unfold m_in11 at hpo; rw [if_pos hc0] at hpo; exact hpo)
set_option maxRecDepth 100000 in
set_option maxHeartbeats 4000000 in
theorem l_M_s11z {E : En} {ad : Nat → Nat} {h : Hp} {n0 : Nat} {Post : Option Int32 → Wd → Prop} (a : Amb u_M_simple 1 E) (qf : Fin Post n0 ad 0 0 E) {p x c : Nat} (hp4 : p < 4) (hx : x < 16) (hc : h 82 p = nI c) (hc8 : c ≤ 8) (hc0 : c = 0) (hpo : Post (some 0) (w0 (m_in11 h p x c))) : X E 0 0 ad (w0 h) 127 [(0, .inr (some 61)), (1, .inl (nI p)), (2, .inl 11), (5, .inl (nI x))] [] := by
  subst hc0
  refine x_aload_n a 127 d_M_simple_127 rfl ?_
  refine x_getR a 128 f_M_71 d_M_simple_128 rfl (by omega) (by decide) (o' := 82) rfl ?_
  refine x_iload_n a 131 d_M_simple_131 rfl ?_
  refine x_iald a 132 d_M_simple_132 rfl (by omega) (j := p) rfl (by omega) (by decide) (v := nI 0) hc ?_
  refine x_if_le a 133 140 d_M_simple_133 (by decide) (fun c133 => ?_) (fun c133 => absurd c133 (fun z => z (by decide)))
  refine x_iconst a 140 0 d_M_simple_140 (by decide) ?_
  refine x_istore a 141 d_M_simple_141 (by decide) ?_
  refine x_aload_n a 143 d_M_simple_143 rfl ?_
  refine x_getR a 144 f_M_55 d_M_simple_144 rfl (by omega) (by decide) (o' := 77) rfl ?_
  refine x_iload a 147 d_M_simple_147 rfl ?_
  refine x_iload a 149 d_M_simple_149 rfl ?_
  refine x_if_eq a 151 166 d_M_simple_151 (by decide) (fun _ => ?_) (fun z => absurd z (by decide))
  refine x_iconst a 166 0 d_M_simple_166 (by decide) ?_
  refine x_iast a 167 d_M_simple_167 rfl (by omega) (j := x) rfl (by omega) (by decide) ?_
  refine x_aload_n a 168 d_M_simple_168 rfl ?_
  refine x_getR a 169 f_M_71 d_M_simple_169 rfl (by omega) (by decide) (o' := 82) rfl ?_
  refine x_iload_n a 172 d_M_simple_172 rfl ?_
  refine x_iload a 173 d_M_simple_173 rfl ?_
  refine x_if_eq a 175 189 d_M_simple_175 (by decide) (fun _ => ?_) (fun z => absurd z (by decide))
  refine x_iconst a 189 0 d_M_simple_189 (by decide) ?_
  refine x_iast a 190 d_M_simple_190 rfl (by omega) (j := p) rfl (by omega) (by decide) ?_
  refine x_bipush a 191 8 d_M_simple_191 (by decide) ?_
  refine x_iload_n a 193 d_M_simple_193 rfl ?_
  refine x_imul a 194 d_M_simple_194 ?_
  refine x_istore a 195 d_M_simple_195 (by decide) ?_
  refine x_iload a 197 d_M_simple_197 rfl ?_
  refine x_bipush a 199 8 d_M_simple_199 (by decide) ?_
  refine x_iload_n a 201 d_M_simple_201 rfl ?_
  refine x_imul a 202 d_M_simple_202 ?_
  refine x_aload_n a 203 d_M_simple_203 rfl ?_
  refine x_getR a 204 f_M_71 d_M_simple_204 rfl (by omega) (by decide) (o' := 82) rfl ?_
  refine x_iload_n a 207 d_M_simple_207 rfl ?_
  refine x_iald a 208 d_M_simple_208 rfl (by omega) (j := p) rfl (by omega) (by decide) (v := 0) (up2_s _ _ _ _) ?_
  refine x_iadd a 209 d_M_simple_209 ?_
  refine x_icmp_ge a 210 235 d_M_simple_210 (by decide) (fun c210 => ?_) (fun c210 => absurd c210 (fun z => z (by rw [Int32.add_zero]; exact Int32.le_refl _)))
  refine x_aload_n a 235 d_M_simple_235 rfl ?_
  refine x_getR a 236 f_M_55 d_M_simple_236 rfl (by omega) (by decide) (o' := 77) rfl ?_
  refine x_iconst a 239 4 d_M_simple_239 (by decide) ?_
  refine x_iload_n a 240 d_M_simple_240 rfl ?_
  refine x_imul a 241 d_M_simple_241 ?_
  refine x_iconst a 242 3 d_M_simple_242 (by decide) ?_
  refine x_iadd a 243 d_M_simple_243 ?_
  refine x_iload a 244 d_M_simple_244 rfl ?_
  refine x_if_eq a 246 253 d_M_simple_246 (by decide) (fun _ => ?_) (fun z => absurd z (by decide))
  refine x_iconst a 253 0 d_M_simple_253 (by decide) ?_
  refine x_iast a 254 d_M_simple_254 rfl (by omega) (j := 4 * p + 3) (ix_n (k := 4) (K := 4) rfl p 3) (by omega) (by decide) ?_
  refine x_iload_n a 255 d_M_simple_255 rfl ?_
  refine x_bipush a 256 12 d_M_simple_256 (by decide) ?_
  refine x_icmp_ne a 258 305 d_M_simple_258 (by decide) (fun _ => ?_) (fun z => absurd z (by decide))
  refine x_iload_n a 305 d_M_simple_305 rfl ?_
  refine x_bipush a 306 13 d_M_simple_306 (by decide) ?_
  refine x_icmp_ne a 308 318 d_M_simple_308 (by decide) (fun _ => ?_) (fun z => absurd z (by decide))
  refine x_iload_n a 318 d_M_simple_318 rfl ?_
  refine x_bipush a 319 14 d_M_simple_319 (by decide) ?_
  refine x_icmp_ne a 321 331 d_M_simple_321 (by decide) (fun _ => ?_) (fun z => absurd z (by decide))
  refine x_iconst a 331 0 d_M_simple_331 (by decide) ?_
  exact x_iret a qf 332 d_M_simple_332 rfl (by unfold m_in11 at hpo; rw [if_neg (by omega)] at hpo; exact hpo)
set_option maxRecDepth 100000 in
set_option maxHeartbeats 4000000 in
theorem c_M_simple (h : Hp) {p : Nat} (hp4 : p < 4) (o x b : Int32) (hin : Nlt (h 82 p) 9) (hou : Nlt (h 84 p) (2 ^ 30)) : Cn u_M_simple 1 0 0 (w0 h) [.inr (some 61), .inl (nI p), .inl o, .inl x, .inl b] (fun v w' => v = some (nI (m_simple h p o x b).2) ∧ w' = w0 (m_simple h p o x b).1) := by
  refine Cn.of (by decide +kernel) (Nat.le_of_ble_eq_true rfl) (fun E ad a qf => ?_)
  have qa := qf.2.2.2
  have hcs : 0 ≤ (eR E).cells ∧ 0 ≤ (eR E).slots := ⟨Nat.zero_le _, Nat.zero_le _⟩
  have hrx := rg_lt x
  have hrb := rg_lt b
  have hin1 := hin.1
  have hou1 := hou.1
  refine x_iconst a 0 4 d_M_simple_0 (by decide) ?_
  refine x_iload_n a 1 d_M_simple_1 rfl ?_
  refine x_imul a 2 d_M_simple_2 ?_
  refine x_iload_n a 3 d_M_simple_3 rfl ?_
  refine x_iconst a 4 3 d_M_simple_4 (by decide) ?_
  refine x_iand a 5 d_M_simple_5 ?_
  refine x_iadd a 6 d_M_simple_6 ?_
  refine x_push (ix_r p x) ?_
  refine x_istore a 7 d_M_simple_7 (by decide) ?_
  refine x_aload_n a 9 d_M_simple_9 rfl ?_
  refine x_getR a 10 f_M_55 d_M_simple_10 rfl (by omega) (by decide) (o' := 77) rfl ?_
  refine x_iconst a 13 4 d_M_simple_13 (by decide) ?_
  refine x_iload_n a 14 d_M_simple_14 rfl ?_
  refine x_imul a 15 d_M_simple_15 ?_
  refine x_iload a 16 d_M_simple_16 rfl ?_
  refine x_iconst a 18 3 d_M_simple_18 (by decide) ?_
  refine x_iand a 19 d_M_simple_19 ?_
  refine x_iadd a 20 d_M_simple_20 ?_
  refine x_push (ix_r p b) ?_
  refine x_iald a 21 d_M_simple_21 rfl (by omega) (j := (4 * p + rg b)) rfl (by omega) (by decide) rfl ?_
  refine x_istore a 22 d_M_simple_22 (by decide) ?_
  refine x_iload_n a 24 d_M_simple_24 rfl ?_
  refine x_if_lt a 25 34 d_M_simple_25 (by decide) (fun c25 => ?_) (fun c25 => ?_)
  · refine x_iconst a 34 3 d_M_simple_34 (by decide) ?_
    exact x_iret a qf 35 d_M_simple_35 rfl ⟨by unfold m_simple; rw [if_pos (by (try simp (disch := omega) only [Int32.le_iff_toInt_le, Int32.lt_iff_toInt_lt, ← Int32.toInt_inj, Int32.reduceToInt, nI_1, nI_add, pk_sub, nI_toInt] at *); omega)]; rfl, by unfold m_simple; rw [if_pos (by (try simp (disch := omega) only [Int32.le_iff_toInt_le, Int32.lt_iff_toInt_lt, ← Int32.toInt_inj, Int32.reduceToInt, nI_1, nI_add, pk_sub, nI_toInt] at *); omega)]⟩
  · refine x_iload_n a 28 d_M_simple_28 rfl ?_
    refine x_bipush a 29 14 d_M_simple_29 (by decide) ?_
    refine x_icmp_le a 31 36 d_M_simple_31 (by decide) (fun c31 => ?_) (fun c31 => ?_)
    · have hno : ¬ (o < 0 ∨ 14 < o) := (by (try simp (disch := omega) only [Int32.le_iff_toInt_le, Int32.lt_iff_toInt_lt, ← Int32.toInt_inj, Int32.reduceToInt, nI_1, nI_add, pk_sub, nI_toInt] at *); omega)
      have hgi : m_go h p 82 p = nI (tn (h 82 p)) := by rw [m_go_o _ (by omega)]; exact hin.2
      have hgo : m_go h p 84 p = nI (tn (h 84 p)) := by rw [m_go_o _ (by omega)]; exact hou.2
      refine x_aload_n a 36 d_M_simple_36 rfl ?_
      refine x_iload_n a 37 d_M_simple_37 rfl ?_
      refine x_callV a qa 38 g_M_139 d_M_simple_38 (c_M_goOn _ hp4) rfl rfl rfl (show _ < 86 by omega) (by decide) (Nat.le_of_ble_eq_true rfl) hcs (fun v w' hp => ?_)
      obtain ⟨rfl, rfl⟩ := hp
      refine x_st0 ?_
      by_cases s41_1 : o = 1
      · subst s41_1
        refine x_iload_n a 41 d_M_simple_41 rfl ?_
        refine x_iconst a 42 1 d_M_simple_42 (by decide) ?_
        refine x_icmp_ne a 43 55 d_M_simple_43 (by decide) (fun z => absurd z (by decide)) (fun _ => ?_)
        refine x_aload_n a 46 d_M_simple_46 rfl ?_
        refine x_getR a 47 f_M_55 d_M_simple_47 rfl (by omega) (by decide) (o' := 77) rfl ?_
        refine x_iload a 50 d_M_simple_50 rfl ?_
        refine x_iload a 52 d_M_simple_52 rfl ?_
        refine x_iast a 54 d_M_simple_54 rfl (by omega) (j := (4 * p + rg x)) rfl (by omega) (by decide) ?_
        refine x_iload_n a 55 d_M_simple_55 rfl ?_
        refine x_iconst a 56 2 d_M_simple_56 (by decide) ?_
        refine x_icmp_ne a 57 77 d_M_simple_57 (by decide) (fun _ => ?_) (fun z => absurd z (by decide))
        refine x_iload_n a 77 d_M_simple_77 rfl ?_
        refine x_iconst a 78 3 d_M_simple_78 (by decide) ?_
        refine x_icmp_ne a 79 99 d_M_simple_79 (by decide) (fun _ => ?_) (fun z => absurd z (by decide))
        refine x_iload_n a 99 d_M_simple_99 rfl ?_
        refine x_iconst a 100 4 d_M_simple_100 (by decide) ?_
        refine x_icmp_ne a 101 121 d_M_simple_101 (by decide) (fun _ => ?_) (fun z => absurd z (by decide))
        refine x_iload_n a 121 d_M_simple_121 rfl ?_
        refine x_bipush a 122 11 d_M_simple_122 (by decide) ?_
        refine x_icmp_ne a 124 255 d_M_simple_124 (by decide) (fun _ => ?_) (fun z => absurd z (by decide))
        refine x_iload_n a 255 d_M_simple_255 rfl ?_
        refine x_bipush a 256 12 d_M_simple_256 (by decide) ?_
        refine x_icmp_ne a 258 305 d_M_simple_258 (by decide) (fun _ => ?_) (fun z => absurd z (by decide))
        refine x_iload_n a 305 d_M_simple_305 rfl ?_
        refine x_bipush a 306 13 d_M_simple_306 (by decide) ?_
        refine x_icmp_ne a 308 318 d_M_simple_308 (by decide) (fun _ => ?_) (fun z => absurd z (by decide))
        refine x_iload_n a 318 d_M_simple_318 rfl ?_
        refine x_bipush a 319 14 d_M_simple_319 (by decide) ?_
        refine x_icmp_ne a 321 331 d_M_simple_321 (by decide) (fun _ => ?_) (fun z => absurd z (by decide))
        refine x_iconst a 331 0 d_M_simple_331 (by decide) ?_
        exact x_iret a qf 332 d_M_simple_332 rfl ⟨by unfold m_simple; rw [if_neg hno]; rfl, by unfold m_simple; rw [if_neg hno]; unfold m_simp; first | (rw [if_neg s41_1, if_neg s41_2, if_neg s41_3, if_neg s41_4, if_neg s41_11, if_neg s41_12, if_neg s41_13, if_neg s41_14]; done) | (rw [if_pos rfl]; done) | (rw [if_neg (by decide), if_pos rfl]; done) | (rw [if_neg (by decide), if_neg (by decide), if_pos rfl]; done) | (rw [if_neg (by decide), if_neg (by decide), if_neg (by decide), if_pos rfl]; done) | (rw [if_neg (by decide), if_neg (by decide), if_neg (by decide), if_neg (by decide), if_pos rfl]; done) | (rw [if_neg (by decide), if_neg (by decide), if_neg (by decide), if_neg (by decide), if_neg (by decide), if_pos rfl, m_go_o _ (by omega : 84 ≠ 78)]; unfold m_out12; first | (rw [if_pos (show tn (h 84 p) < 16 from (by (try simp (disch := omega) only [Int32.le_iff_toInt_le, Int32.lt_iff_toInt_lt, ← Int32.toInt_inj, Int32.reduceToInt, nI_1, nI_add, pk_sub, nI_toInt] at *); omega))]; done) | (rw [if_neg (show ¬ tn (h 84 p) < 16 from (by (try simp (disch := omega) only [Int32.le_iff_toInt_le, Int32.lt_iff_toInt_lt, ← Int32.toInt_inj, Int32.reduceToInt, nI_1, nI_add, pk_sub, nI_toInt] at *); omega))]; done)) | (rw [if_neg (by decide), if_neg (by decide), if_neg (by decide), if_neg (by decide), if_neg (by decide), if_neg (by decide), if_pos rfl]; done) | (rw [if_neg (by decide), if_neg (by decide), if_neg (by decide), if_neg (by decide), if_neg (by decide), if_neg (by decide), if_neg (by decide), if_pos rfl]; done)⟩
      by_cases s41_2 : o = 2
      · subst s41_2
        refine x_iload_n a 41 d_M_simple_41 rfl ?_
        refine x_iconst a 42 1 d_M_simple_42 (by decide) ?_
        refine x_icmp_ne a 43 55 d_M_simple_43 (by decide) (fun _ => ?_) (fun z => absurd z (by decide))
        refine x_iload_n a 55 d_M_simple_55 rfl ?_
        refine x_iconst a 56 2 d_M_simple_56 (by decide) ?_
        refine x_icmp_ne a 57 77 d_M_simple_57 (by decide) (fun z => absurd z (by decide)) (fun _ => ?_)
        refine x_aload_n a 60 d_M_simple_60 rfl ?_
        refine x_getR a 61 f_M_55 d_M_simple_61 rfl (by omega) (by decide) (o' := 77) rfl ?_
        refine x_iload a 64 d_M_simple_64 rfl ?_
        refine x_aload_n a 66 d_M_simple_66 rfl ?_
        refine x_getR a 67 f_M_55 d_M_simple_67 rfl (by omega) (by decide) (o' := 77) rfl ?_
        refine x_iload a 70 d_M_simple_70 rfl ?_
        refine x_iald a 72 d_M_simple_72 rfl (by omega) (j := (4 * p + rg x)) rfl (by omega) (by decide) rfl ?_
        refine x_iload a 73 d_M_simple_73 rfl ?_
        refine x_iadd a 75 d_M_simple_75 ?_
        refine x_iast a 76 d_M_simple_76 rfl (by omega) (j := (4 * p + rg x)) rfl (by omega) (by decide) ?_
        refine x_iload_n a 77 d_M_simple_77 rfl ?_
        refine x_iconst a 78 3 d_M_simple_78 (by decide) ?_
        refine x_icmp_ne a 79 99 d_M_simple_79 (by decide) (fun _ => ?_) (fun z => absurd z (by decide))
        refine x_iload_n a 99 d_M_simple_99 rfl ?_
        refine x_iconst a 100 4 d_M_simple_100 (by decide) ?_
        refine x_icmp_ne a 101 121 d_M_simple_101 (by decide) (fun _ => ?_) (fun z => absurd z (by decide))
        refine x_iload_n a 121 d_M_simple_121 rfl ?_
        refine x_bipush a 122 11 d_M_simple_122 (by decide) ?_
        refine x_icmp_ne a 124 255 d_M_simple_124 (by decide) (fun _ => ?_) (fun z => absurd z (by decide))
        refine x_iload_n a 255 d_M_simple_255 rfl ?_
        refine x_bipush a 256 12 d_M_simple_256 (by decide) ?_
        refine x_icmp_ne a 258 305 d_M_simple_258 (by decide) (fun _ => ?_) (fun z => absurd z (by decide))
        refine x_iload_n a 305 d_M_simple_305 rfl ?_
        refine x_bipush a 306 13 d_M_simple_306 (by decide) ?_
        refine x_icmp_ne a 308 318 d_M_simple_308 (by decide) (fun _ => ?_) (fun z => absurd z (by decide))
        refine x_iload_n a 318 d_M_simple_318 rfl ?_
        refine x_bipush a 319 14 d_M_simple_319 (by decide) ?_
        refine x_icmp_ne a 321 331 d_M_simple_321 (by decide) (fun _ => ?_) (fun z => absurd z (by decide))
        refine x_iconst a 331 0 d_M_simple_331 (by decide) ?_
        exact x_iret a qf 332 d_M_simple_332 rfl ⟨by unfold m_simple; rw [if_neg hno]; rfl, by unfold m_simple; rw [if_neg hno]; unfold m_simp; first | (rw [if_neg s41_1, if_neg s41_2, if_neg s41_3, if_neg s41_4, if_neg s41_11, if_neg s41_12, if_neg s41_13, if_neg s41_14]; done) | (rw [if_pos rfl]; done) | (rw [if_neg (by decide), if_pos rfl]; done) | (rw [if_neg (by decide), if_neg (by decide), if_pos rfl]; done) | (rw [if_neg (by decide), if_neg (by decide), if_neg (by decide), if_pos rfl]; done) | (rw [if_neg (by decide), if_neg (by decide), if_neg (by decide), if_neg (by decide), if_pos rfl]; done) | (rw [if_neg (by decide), if_neg (by decide), if_neg (by decide), if_neg (by decide), if_neg (by decide), if_pos rfl, m_go_o _ (by omega : 84 ≠ 78)]; unfold m_out12; first | (rw [if_pos (show tn (h 84 p) < 16 from (by (try simp (disch := omega) only [Int32.le_iff_toInt_le, Int32.lt_iff_toInt_lt, ← Int32.toInt_inj, Int32.reduceToInt, nI_1, nI_add, pk_sub, nI_toInt] at *); omega))]; done) | (rw [if_neg (show ¬ tn (h 84 p) < 16 from (by (try simp (disch := omega) only [Int32.le_iff_toInt_le, Int32.lt_iff_toInt_lt, ← Int32.toInt_inj, Int32.reduceToInt, nI_1, nI_add, pk_sub, nI_toInt] at *); omega))]; done)) | (rw [if_neg (by decide), if_neg (by decide), if_neg (by decide), if_neg (by decide), if_neg (by decide), if_neg (by decide), if_pos rfl]; done) | (rw [if_neg (by decide), if_neg (by decide), if_neg (by decide), if_neg (by decide), if_neg (by decide), if_neg (by decide), if_neg (by decide), if_pos rfl]; done)⟩
      by_cases s41_3 : o = 3
      · subst s41_3
        refine x_iload_n a 41 d_M_simple_41 rfl ?_
        refine x_iconst a 42 1 d_M_simple_42 (by decide) ?_
        refine x_icmp_ne a 43 55 d_M_simple_43 (by decide) (fun _ => ?_) (fun z => absurd z (by decide))
        refine x_iload_n a 55 d_M_simple_55 rfl ?_
        refine x_iconst a 56 2 d_M_simple_56 (by decide) ?_
        refine x_icmp_ne a 57 77 d_M_simple_57 (by decide) (fun _ => ?_) (fun z => absurd z (by decide))
        refine x_iload_n a 77 d_M_simple_77 rfl ?_
        refine x_iconst a 78 3 d_M_simple_78 (by decide) ?_
        refine x_icmp_ne a 79 99 d_M_simple_79 (by decide) (fun z => absurd z (by decide)) (fun _ => ?_)
        refine x_aload_n a 82 d_M_simple_82 rfl ?_
        refine x_getR a 83 f_M_55 d_M_simple_83 rfl (by omega) (by decide) (o' := 77) rfl ?_
        refine x_iload a 86 d_M_simple_86 rfl ?_
        refine x_aload_n a 88 d_M_simple_88 rfl ?_
        refine x_getR a 89 f_M_55 d_M_simple_89 rfl (by omega) (by decide) (o' := 77) rfl ?_
        refine x_iload a 92 d_M_simple_92 rfl ?_
        refine x_iald a 94 d_M_simple_94 rfl (by omega) (j := (4 * p + rg x)) rfl (by omega) (by decide) rfl ?_
        refine x_iload a 95 d_M_simple_95 rfl ?_
        refine x_isub a 97 d_M_simple_97 ?_
        refine x_iast a 98 d_M_simple_98 rfl (by omega) (j := (4 * p + rg x)) rfl (by omega) (by decide) ?_
        refine x_iload_n a 99 d_M_simple_99 rfl ?_
        refine x_iconst a 100 4 d_M_simple_100 (by decide) ?_
        refine x_icmp_ne a 101 121 d_M_simple_101 (by decide) (fun _ => ?_) (fun z => absurd z (by decide))
        refine x_iload_n a 121 d_M_simple_121 rfl ?_
        refine x_bipush a 122 11 d_M_simple_122 (by decide) ?_
        refine x_icmp_ne a 124 255 d_M_simple_124 (by decide) (fun _ => ?_) (fun z => absurd z (by decide))
        refine x_iload_n a 255 d_M_simple_255 rfl ?_
        refine x_bipush a 256 12 d_M_simple_256 (by decide) ?_
        refine x_icmp_ne a 258 305 d_M_simple_258 (by decide) (fun _ => ?_) (fun z => absurd z (by decide))
        refine x_iload_n a 305 d_M_simple_305 rfl ?_
        refine x_bipush a 306 13 d_M_simple_306 (by decide) ?_
        refine x_icmp_ne a 308 318 d_M_simple_308 (by decide) (fun _ => ?_) (fun z => absurd z (by decide))
        refine x_iload_n a 318 d_M_simple_318 rfl ?_
        refine x_bipush a 319 14 d_M_simple_319 (by decide) ?_
        refine x_icmp_ne a 321 331 d_M_simple_321 (by decide) (fun _ => ?_) (fun z => absurd z (by decide))
        refine x_iconst a 331 0 d_M_simple_331 (by decide) ?_
        exact x_iret a qf 332 d_M_simple_332 rfl ⟨by unfold m_simple; rw [if_neg hno]; rfl, by unfold m_simple; rw [if_neg hno]; unfold m_simp; first | (rw [if_neg s41_1, if_neg s41_2, if_neg s41_3, if_neg s41_4, if_neg s41_11, if_neg s41_12, if_neg s41_13, if_neg s41_14]; done) | (rw [if_pos rfl]; done) | (rw [if_neg (by decide), if_pos rfl]; done) | (rw [if_neg (by decide), if_neg (by decide), if_pos rfl]; done) | (rw [if_neg (by decide), if_neg (by decide), if_neg (by decide), if_pos rfl]; done) | (rw [if_neg (by decide), if_neg (by decide), if_neg (by decide), if_neg (by decide), if_pos rfl]; done) | (rw [if_neg (by decide), if_neg (by decide), if_neg (by decide), if_neg (by decide), if_neg (by decide), if_pos rfl, m_go_o _ (by omega : 84 ≠ 78)]; unfold m_out12; first | (rw [if_pos (show tn (h 84 p) < 16 from (by (try simp (disch := omega) only [Int32.le_iff_toInt_le, Int32.lt_iff_toInt_lt, ← Int32.toInt_inj, Int32.reduceToInt, nI_1, nI_add, pk_sub, nI_toInt] at *); omega))]; done) | (rw [if_neg (show ¬ tn (h 84 p) < 16 from (by (try simp (disch := omega) only [Int32.le_iff_toInt_le, Int32.lt_iff_toInt_lt, ← Int32.toInt_inj, Int32.reduceToInt, nI_1, nI_add, pk_sub, nI_toInt] at *); omega))]; done)) | (rw [if_neg (by decide), if_neg (by decide), if_neg (by decide), if_neg (by decide), if_neg (by decide), if_neg (by decide), if_pos rfl]; done) | (rw [if_neg (by decide), if_neg (by decide), if_neg (by decide), if_neg (by decide), if_neg (by decide), if_neg (by decide), if_neg (by decide), if_pos rfl]; done)⟩
      by_cases s41_4 : o = 4
      · subst s41_4
        refine x_iload_n a 41 d_M_simple_41 rfl ?_
        refine x_iconst a 42 1 d_M_simple_42 (by decide) ?_
        refine x_icmp_ne a 43 55 d_M_simple_43 (by decide) (fun _ => ?_) (fun z => absurd z (by decide))
        refine x_iload_n a 55 d_M_simple_55 rfl ?_
        refine x_iconst a 56 2 d_M_simple_56 (by decide) ?_
        refine x_icmp_ne a 57 77 d_M_simple_57 (by decide) (fun _ => ?_) (fun z => absurd z (by decide))
        refine x_iload_n a 77 d_M_simple_77 rfl ?_
        refine x_iconst a 78 3 d_M_simple_78 (by decide) ?_
        refine x_icmp_ne a 79 99 d_M_simple_79 (by decide) (fun _ => ?_) (fun z => absurd z (by decide))
        refine x_iload_n a 99 d_M_simple_99 rfl ?_
        refine x_iconst a 100 4 d_M_simple_100 (by decide) ?_
        refine x_icmp_ne a 101 121 d_M_simple_101 (by decide) (fun z => absurd z (by decide)) (fun _ => ?_)
        refine x_aload_n a 104 d_M_simple_104 rfl ?_
        refine x_getR a 105 f_M_55 d_M_simple_105 rfl (by omega) (by decide) (o' := 77) rfl ?_
        refine x_iload a 108 d_M_simple_108 rfl ?_
        refine x_aload_n a 110 d_M_simple_110 rfl ?_
        refine x_getR a 111 f_M_55 d_M_simple_111 rfl (by omega) (by decide) (o' := 77) rfl ?_
        refine x_iload a 114 d_M_simple_114 rfl ?_
        refine x_iald a 116 d_M_simple_116 rfl (by omega) (j := (4 * p + rg x)) rfl (by omega) (by decide) rfl ?_
        refine x_iload a 117 d_M_simple_117 rfl ?_
        refine x_ixor a 119 d_M_simple_119 ?_
        refine x_iast a 120 d_M_simple_120 rfl (by omega) (j := (4 * p + rg x)) rfl (by omega) (by decide) ?_
        refine x_iload_n a 121 d_M_simple_121 rfl ?_
        refine x_bipush a 122 11 d_M_simple_122 (by decide) ?_
        refine x_icmp_ne a 124 255 d_M_simple_124 (by decide) (fun _ => ?_) (fun z => absurd z (by decide))
        refine x_iload_n a 255 d_M_simple_255 rfl ?_
        refine x_bipush a 256 12 d_M_simple_256 (by decide) ?_
        refine x_icmp_ne a 258 305 d_M_simple_258 (by decide) (fun _ => ?_) (fun z => absurd z (by decide))
        refine x_iload_n a 305 d_M_simple_305 rfl ?_
        refine x_bipush a 306 13 d_M_simple_306 (by decide) ?_
        refine x_icmp_ne a 308 318 d_M_simple_308 (by decide) (fun _ => ?_) (fun z => absurd z (by decide))
        refine x_iload_n a 318 d_M_simple_318 rfl ?_
        refine x_bipush a 319 14 d_M_simple_319 (by decide) ?_
        refine x_icmp_ne a 321 331 d_M_simple_321 (by decide) (fun _ => ?_) (fun z => absurd z (by decide))
        refine x_iconst a 331 0 d_M_simple_331 (by decide) ?_
        exact x_iret a qf 332 d_M_simple_332 rfl ⟨by unfold m_simple; rw [if_neg hno]; rfl, by unfold m_simple; rw [if_neg hno]; unfold m_simp; first | (rw [if_neg s41_1, if_neg s41_2, if_neg s41_3, if_neg s41_4, if_neg s41_11, if_neg s41_12, if_neg s41_13, if_neg s41_14]; done) | (rw [if_pos rfl]; done) | (rw [if_neg (by decide), if_pos rfl]; done) | (rw [if_neg (by decide), if_neg (by decide), if_pos rfl]; done) | (rw [if_neg (by decide), if_neg (by decide), if_neg (by decide), if_pos rfl]; done) | (rw [if_neg (by decide), if_neg (by decide), if_neg (by decide), if_neg (by decide), if_pos rfl]; done) | (rw [if_neg (by decide), if_neg (by decide), if_neg (by decide), if_neg (by decide), if_neg (by decide), if_pos rfl, m_go_o _ (by omega : 84 ≠ 78)]; unfold m_out12; first | (rw [if_pos (show tn (h 84 p) < 16 from (by (try simp (disch := omega) only [Int32.le_iff_toInt_le, Int32.lt_iff_toInt_lt, ← Int32.toInt_inj, Int32.reduceToInt, nI_1, nI_add, pk_sub, nI_toInt] at *); omega))]; done) | (rw [if_neg (show ¬ tn (h 84 p) < 16 from (by (try simp (disch := omega) only [Int32.le_iff_toInt_le, Int32.lt_iff_toInt_lt, ← Int32.toInt_inj, Int32.reduceToInt, nI_1, nI_add, pk_sub, nI_toInt] at *); omega))]; done)) | (rw [if_neg (by decide), if_neg (by decide), if_neg (by decide), if_neg (by decide), if_neg (by decide), if_neg (by decide), if_pos rfl]; done) | (rw [if_neg (by decide), if_neg (by decide), if_neg (by decide), if_neg (by decide), if_neg (by decide), if_neg (by decide), if_neg (by decide), if_pos rfl]; done)⟩
      by_cases s41_11 : o = 11
      · subst s41_11
        refine x_iload_n a 41 d_M_simple_41 rfl ?_
        refine x_iconst a 42 1 d_M_simple_42 (by decide) ?_
        refine x_icmp_ne a 43 55 d_M_simple_43 (by decide) (fun _ => ?_) (fun z => absurd z (by decide))
        refine x_iload_n a 55 d_M_simple_55 rfl ?_
        refine x_iconst a 56 2 d_M_simple_56 (by decide) ?_
        refine x_icmp_ne a 57 77 d_M_simple_57 (by decide) (fun _ => ?_) (fun z => absurd z (by decide))
        refine x_iload_n a 77 d_M_simple_77 rfl ?_
        refine x_iconst a 78 3 d_M_simple_78 (by decide) ?_
        refine x_icmp_ne a 79 99 d_M_simple_79 (by decide) (fun _ => ?_) (fun z => absurd z (by decide))
        refine x_iload_n a 99 d_M_simple_99 rfl ?_
        refine x_iconst a 100 4 d_M_simple_100 (by decide) ?_
        refine x_icmp_ne a 101 121 d_M_simple_101 (by decide) (fun _ => ?_) (fun z => absurd z (by decide))
        refine x_iload_n a 121 d_M_simple_121 rfl ?_
        refine x_bipush a 122 11 d_M_simple_122 (by decide) ?_
        refine x_icmp_ne a 124 255 d_M_simple_124 (by decide) (fun z => absurd z (by decide)) (fun _ => ?_)
        refine x_lv [(0, .inr (some 61)), (1, .inl (nI p)), (2, .inl 11), (5, .inl (nI (4 * p + rg x)))] (List.forall_mem_cons.mpr ⟨rfl, List.forall_mem_cons.mpr ⟨rfl, List.forall_mem_cons.mpr ⟨rfl, List.forall_mem_cons.mpr ⟨rfl, fun _ z => absurd z List.not_mem_nil⟩⟩⟩⟩) ?_
        by_cases hc0 : 0 < tn (h 82 p)
        · exact l_M_s11p a qf hp4 (by omega) hgi (by omega) hc0 ⟨by unfold m_simple; rw [if_neg hno]; rfl, by unfold m_simple; rw [if_neg hno]; unfold m_simp; rw [if_neg (by decide), if_neg (by decide), if_neg (by decide), if_neg (by decide), if_pos rfl, m_go_o _ (by omega : 82 ≠ 78)]⟩
        · exact l_M_s11z a qf hp4 (by omega) hgi (by omega) (by omega) ⟨by unfold m_simple; rw [if_neg hno]; rfl, by unfold m_simple; rw [if_neg hno]; unfold m_simp; rw [if_neg (by decide), if_neg (by decide), if_neg (by decide), if_neg (by decide), if_pos rfl, m_go_o _ (by omega : 82 ≠ 78)]⟩
      by_cases s41_12 : o = 12
      · subst s41_12
        refine x_iload_n a 41 d_M_simple_41 rfl ?_
        refine x_iconst a 42 1 d_M_simple_42 (by decide) ?_
        refine x_icmp_ne a 43 55 d_M_simple_43 (by decide) (fun _ => ?_) (fun z => absurd z (by decide))
        refine x_iload_n a 55 d_M_simple_55 rfl ?_
        refine x_iconst a 56 2 d_M_simple_56 (by decide) ?_
        refine x_icmp_ne a 57 77 d_M_simple_57 (by decide) (fun _ => ?_) (fun z => absurd z (by decide))
        refine x_iload_n a 77 d_M_simple_77 rfl ?_
        refine x_iconst a 78 3 d_M_simple_78 (by decide) ?_
        refine x_icmp_ne a 79 99 d_M_simple_79 (by decide) (fun _ => ?_) (fun z => absurd z (by decide))
        refine x_iload_n a 99 d_M_simple_99 rfl ?_
        refine x_iconst a 100 4 d_M_simple_100 (by decide) ?_
        refine x_icmp_ne a 101 121 d_M_simple_101 (by decide) (fun _ => ?_) (fun z => absurd z (by decide))
        refine x_iload_n a 121 d_M_simple_121 rfl ?_
        refine x_bipush a 122 11 d_M_simple_122 (by decide) ?_
        refine x_icmp_ne a 124 255 d_M_simple_124 (by decide) (fun _ => ?_) (fun z => absurd z (by decide))
        refine x_iload_n a 255 d_M_simple_255 rfl ?_
        refine x_bipush a 256 12 d_M_simple_256 (by decide) ?_
        refine x_icmp_ne a 258 305 d_M_simple_258 (by decide) (fun z => absurd z (by decide)) (fun _ => ?_)
        refine x_aload_n a 261 d_M_simple_261 rfl ?_
        refine x_getR a 262 f_M_77 d_M_simple_262 rfl (by omega) (by decide) (o' := 84) rfl ?_
        refine x_iload_n a 265 d_M_simple_265 rfl ?_
        refine x_iald a 266 d_M_simple_266 rfl (by omega) (j := p) rfl (by omega) (by decide) (v := nI (tn (h 84 p))) hgo ?_
        refine x_bipush a 267 16 d_M_simple_267 (by decide) ?_
        refine x_icmp_ge a 269 295 d_M_simple_269 (by decide) (fun c269 => ?_) (fun c269 => ?_)
        · refine x_aload_n a 295 d_M_simple_295 rfl ?_
          refine x_getR a 296 f_M_77 d_M_simple_296 rfl (by omega) (by decide) (o' := 84) rfl ?_
          refine x_iload_n a 299 d_M_simple_299 rfl ?_
          refine x_dup2 a 300 d_M_simple_300 ?_
          refine x_iald a 301 d_M_simple_301 rfl (by omega) (j := p) rfl (by omega) (by decide) (v := nI (tn (h 84 p))) (by first | exact hgo | (rw [up2_o _ _ _ (by omega)]; exact hgo)) ?_
          refine x_iconst a 302 1 d_M_simple_302 (by decide) ?_
          refine x_iadd a 303 d_M_simple_303 ?_
          refine x_push (nI_1 _) ?_
          refine x_iast a 304 d_M_simple_304 rfl (by omega) (j := p) rfl (by omega) (by decide) ?_
          refine x_iload_n a 305 d_M_simple_305 rfl ?_
          refine x_bipush a 306 13 d_M_simple_306 (by decide) ?_
          refine x_icmp_ne a 308 318 d_M_simple_308 (by decide) (fun _ => ?_) (fun z => absurd z (by decide))
          refine x_iload_n a 318 d_M_simple_318 rfl ?_
          refine x_bipush a 319 14 d_M_simple_319 (by decide) ?_
          refine x_icmp_ne a 321 331 d_M_simple_321 (by decide) (fun _ => ?_) (fun z => absurd z (by decide))
          refine x_iconst a 331 0 d_M_simple_331 (by decide) ?_
          exact x_iret a qf 332 d_M_simple_332 rfl ⟨by unfold m_simple; rw [if_neg hno]; rfl, by unfold m_simple; rw [if_neg hno]; unfold m_simp; first | (rw [if_neg s41_1, if_neg s41_2, if_neg s41_3, if_neg s41_4, if_neg s41_11, if_neg s41_12, if_neg s41_13, if_neg s41_14]; done) | (rw [if_pos rfl]; done) | (rw [if_neg (by decide), if_pos rfl]; done) | (rw [if_neg (by decide), if_neg (by decide), if_pos rfl]; done) | (rw [if_neg (by decide), if_neg (by decide), if_neg (by decide), if_pos rfl]; done) | (rw [if_neg (by decide), if_neg (by decide), if_neg (by decide), if_neg (by decide), if_pos rfl]; done) | (rw [if_neg (by decide), if_neg (by decide), if_neg (by decide), if_neg (by decide), if_neg (by decide), if_pos rfl, m_go_o _ (by omega : 84 ≠ 78)]; unfold m_out12; first | (rw [if_pos (show tn (h 84 p) < 16 from (by (try simp (disch := omega) only [Int32.le_iff_toInt_le, Int32.lt_iff_toInt_lt, ← Int32.toInt_inj, Int32.reduceToInt, nI_1, nI_add, pk_sub, nI_toInt] at *); omega))]; done) | (rw [if_neg (show ¬ tn (h 84 p) < 16 from (by (try simp (disch := omega) only [Int32.le_iff_toInt_le, Int32.lt_iff_toInt_lt, ← Int32.toInt_inj, Int32.reduceToInt, nI_1, nI_add, pk_sub, nI_toInt] at *); omega))]; done)) | (rw [if_neg (by decide), if_neg (by decide), if_neg (by decide), if_neg (by decide), if_neg (by decide), if_neg (by decide), if_pos rfl]; done) | (rw [if_neg (by decide), if_neg (by decide), if_neg (by decide), if_neg (by decide), if_neg (by decide), if_neg (by decide), if_neg (by decide), if_pos rfl]; done)⟩
        · refine x_aload_n a 272 d_M_simple_272 rfl ?_
          refine x_getR a 273 f_M_80 d_M_simple_273 rfl (by omega) (by decide) (o' := 85) rfl ?_
          refine x_bipush a 276 16 d_M_simple_276 (by decide) ?_
          refine x_iload_n a 278 d_M_simple_278 rfl ?_
          refine x_imul a 279 d_M_simple_279 ?_
          refine x_aload_n a 280 d_M_simple_280 rfl ?_
          refine x_getR a 281 f_M_77 d_M_simple_281 rfl (by omega) (by decide) (o' := 84) rfl ?_
          refine x_iload_n a 284 d_M_simple_284 rfl ?_
          refine x_iald a 285 d_M_simple_285 rfl (by omega) (j := p) rfl (by omega) (by decide) (v := nI (tn (h 84 p))) hgo ?_
          refine x_iadd a 286 d_M_simple_286 ?_
          refine x_aload_n a 287 d_M_simple_287 rfl ?_
          refine x_getR a 288 f_M_55 d_M_simple_288 rfl (by omega) (by decide) (o' := 77) rfl ?_
          refine x_iload a 291 d_M_simple_291 rfl ?_
          refine x_iald a 293 d_M_simple_293 rfl (by omega) (j := (4 * p + rg x)) rfl (by omega) (by decide) rfl ?_
          refine x_iast a 294 d_M_simple_294 rfl (by omega) (j := 16 * p + tn (h 84 p)) (ix_n (k := 16) (K := 16) rfl p _) (by (try simp (disch := omega) only [Int32.le_iff_toInt_le, Int32.lt_iff_toInt_lt, ← Int32.toInt_inj, Int32.reduceToInt, nI_1, nI_add, pk_sub, nI_toInt] at *); omega) (by decide) ?_
          refine x_aload_n a 295 d_M_simple_295 rfl ?_
          refine x_getR a 296 f_M_77 d_M_simple_296 rfl (by omega) (by decide) (o' := 84) rfl ?_
          refine x_iload_n a 299 d_M_simple_299 rfl ?_
          refine x_dup2 a 300 d_M_simple_300 ?_
          refine x_iald a 301 d_M_simple_301 rfl (by omega) (j := p) rfl (by omega) (by decide) (v := nI (tn (h 84 p))) (by first | exact hgo | (rw [up2_o _ _ _ (by omega)]; exact hgo)) ?_
          refine x_iconst a 302 1 d_M_simple_302 (by decide) ?_
          refine x_iadd a 303 d_M_simple_303 ?_
          refine x_push (nI_1 _) ?_
          refine x_iast a 304 d_M_simple_304 rfl (by omega) (j := p) rfl (by omega) (by decide) ?_
          refine x_iload_n a 305 d_M_simple_305 rfl ?_
          refine x_bipush a 306 13 d_M_simple_306 (by decide) ?_
          refine x_icmp_ne a 308 318 d_M_simple_308 (by decide) (fun _ => ?_) (fun z => absurd z (by decide))
          refine x_iload_n a 318 d_M_simple_318 rfl ?_
          refine x_bipush a 319 14 d_M_simple_319 (by decide) ?_
          refine x_icmp_ne a 321 331 d_M_simple_321 (by decide) (fun _ => ?_) (fun z => absurd z (by decide))
          refine x_iconst a 331 0 d_M_simple_331 (by decide) ?_
          exact x_iret a qf 332 d_M_simple_332 rfl ⟨by unfold m_simple; rw [if_neg hno]; rfl, by unfold m_simple; rw [if_neg hno]; unfold m_simp; first | (rw [if_neg s41_1, if_neg s41_2, if_neg s41_3, if_neg s41_4, if_neg s41_11, if_neg s41_12, if_neg s41_13, if_neg s41_14]; done) | (rw [if_pos rfl]; done) | (rw [if_neg (by decide), if_pos rfl]; done) | (rw [if_neg (by decide), if_neg (by decide), if_pos rfl]; done) | (rw [if_neg (by decide), if_neg (by decide), if_neg (by decide), if_pos rfl]; done) | (rw [if_neg (by decide), if_neg (by decide), if_neg (by decide), if_neg (by decide), if_pos rfl]; done) | (rw [if_neg (by decide), if_neg (by decide), if_neg (by decide), if_neg (by decide), if_neg (by decide), if_pos rfl, m_go_o _ (by omega : 84 ≠ 78)]; unfold m_out12; first | (rw [if_pos (show tn (h 84 p) < 16 from (by (try simp (disch := omega) only [Int32.le_iff_toInt_le, Int32.lt_iff_toInt_lt, ← Int32.toInt_inj, Int32.reduceToInt, nI_1, nI_add, pk_sub, nI_toInt] at *); omega))]; done) | (rw [if_neg (show ¬ tn (h 84 p) < 16 from (by (try simp (disch := omega) only [Int32.le_iff_toInt_le, Int32.lt_iff_toInt_lt, ← Int32.toInt_inj, Int32.reduceToInt, nI_1, nI_add, pk_sub, nI_toInt] at *); omega))]; done)) | (rw [if_neg (by decide), if_neg (by decide), if_neg (by decide), if_neg (by decide), if_neg (by decide), if_neg (by decide), if_pos rfl]; done) | (rw [if_neg (by decide), if_neg (by decide), if_neg (by decide), if_neg (by decide), if_neg (by decide), if_neg (by decide), if_neg (by decide), if_pos rfl]; done)⟩
      by_cases s41_13 : o = 13
      · subst s41_13
        refine x_iload_n a 41 d_M_simple_41 rfl ?_
        refine x_iconst a 42 1 d_M_simple_42 (by decide) ?_
        refine x_icmp_ne a 43 55 d_M_simple_43 (by decide) (fun _ => ?_) (fun z => absurd z (by decide))
        refine x_iload_n a 55 d_M_simple_55 rfl ?_
        refine x_iconst a 56 2 d_M_simple_56 (by decide) ?_
        refine x_icmp_ne a 57 77 d_M_simple_57 (by decide) (fun _ => ?_) (fun z => absurd z (by decide))
        refine x_iload_n a 77 d_M_simple_77 rfl ?_
        refine x_iconst a 78 3 d_M_simple_78 (by decide) ?_
        refine x_icmp_ne a 79 99 d_M_simple_79 (by decide) (fun _ => ?_) (fun z => absurd z (by decide))
        refine x_iload_n a 99 d_M_simple_99 rfl ?_
        refine x_iconst a 100 4 d_M_simple_100 (by decide) ?_
        refine x_icmp_ne a 101 121 d_M_simple_101 (by decide) (fun _ => ?_) (fun z => absurd z (by decide))
        refine x_iload_n a 121 d_M_simple_121 rfl ?_
        refine x_bipush a 122 11 d_M_simple_122 (by decide) ?_
        refine x_icmp_ne a 124 255 d_M_simple_124 (by decide) (fun _ => ?_) (fun z => absurd z (by decide))
        refine x_iload_n a 255 d_M_simple_255 rfl ?_
        refine x_bipush a 256 12 d_M_simple_256 (by decide) ?_
        refine x_icmp_ne a 258 305 d_M_simple_258 (by decide) (fun _ => ?_) (fun z => absurd z (by decide))
        refine x_iload_n a 305 d_M_simple_305 rfl ?_
        refine x_bipush a 306 13 d_M_simple_306 (by decide) ?_
        refine x_icmp_ne a 308 318 d_M_simple_308 (by decide) (fun z => absurd z (by decide)) (fun _ => ?_)
        refine x_aload_n a 311 d_M_simple_311 rfl ?_
        refine x_getR a 312 f_M_68 d_M_simple_312 rfl (by omega) (by decide) (o' := 81) rfl ?_
        refine x_iload_n a 315 d_M_simple_315 rfl ?_
        refine x_iconst a 316 1 d_M_simple_316 (by decide) ?_
        refine x_zast a 317 d_M_simple_317 rfl (by omega) (j := p) rfl (by omega) (by decide) rfl ?_
        refine x_iload_n a 318 d_M_simple_318 rfl ?_
        refine x_bipush a 319 14 d_M_simple_319 (by decide) ?_
        refine x_icmp_ne a 321 331 d_M_simple_321 (by decide) (fun _ => ?_) (fun z => absurd z (by decide))
        refine x_iconst a 331 0 d_M_simple_331 (by decide) ?_
        exact x_iret a qf 332 d_M_simple_332 rfl ⟨by unfold m_simple; rw [if_neg hno]; rfl, by unfold m_simple; rw [if_neg hno]; unfold m_simp; first | (rw [if_neg s41_1, if_neg s41_2, if_neg s41_3, if_neg s41_4, if_neg s41_11, if_neg s41_12, if_neg s41_13, if_neg s41_14]; done) | (rw [if_pos rfl]; done) | (rw [if_neg (by decide), if_pos rfl]; done) | (rw [if_neg (by decide), if_neg (by decide), if_pos rfl]; done) | (rw [if_neg (by decide), if_neg (by decide), if_neg (by decide), if_pos rfl]; done) | (rw [if_neg (by decide), if_neg (by decide), if_neg (by decide), if_neg (by decide), if_pos rfl]; done) | (rw [if_neg (by decide), if_neg (by decide), if_neg (by decide), if_neg (by decide), if_neg (by decide), if_pos rfl, m_go_o _ (by omega : 84 ≠ 78)]; unfold m_out12; first | (rw [if_pos (show tn (h 84 p) < 16 from (by (try simp (disch := omega) only [Int32.le_iff_toInt_le, Int32.lt_iff_toInt_lt, ← Int32.toInt_inj, Int32.reduceToInt, nI_1, nI_add, pk_sub, nI_toInt] at *); omega))]; done) | (rw [if_neg (show ¬ tn (h 84 p) < 16 from (by (try simp (disch := omega) only [Int32.le_iff_toInt_le, Int32.lt_iff_toInt_lt, ← Int32.toInt_inj, Int32.reduceToInt, nI_1, nI_add, pk_sub, nI_toInt] at *); omega))]; done)) | (rw [if_neg (by decide), if_neg (by decide), if_neg (by decide), if_neg (by decide), if_neg (by decide), if_neg (by decide), if_pos rfl]; done) | (rw [if_neg (by decide), if_neg (by decide), if_neg (by decide), if_neg (by decide), if_neg (by decide), if_neg (by decide), if_neg (by decide), if_pos rfl]; done)⟩
      by_cases s41_14 : o = 14
      · subst s41_14
        refine x_iload_n a 41 d_M_simple_41 rfl ?_
        refine x_iconst a 42 1 d_M_simple_42 (by decide) ?_
        refine x_icmp_ne a 43 55 d_M_simple_43 (by decide) (fun _ => ?_) (fun z => absurd z (by decide))
        refine x_iload_n a 55 d_M_simple_55 rfl ?_
        refine x_iconst a 56 2 d_M_simple_56 (by decide) ?_
        refine x_icmp_ne a 57 77 d_M_simple_57 (by decide) (fun _ => ?_) (fun z => absurd z (by decide))
        refine x_iload_n a 77 d_M_simple_77 rfl ?_
        refine x_iconst a 78 3 d_M_simple_78 (by decide) ?_
        refine x_icmp_ne a 79 99 d_M_simple_79 (by decide) (fun _ => ?_) (fun z => absurd z (by decide))
        refine x_iload_n a 99 d_M_simple_99 rfl ?_
        refine x_iconst a 100 4 d_M_simple_100 (by decide) ?_
        refine x_icmp_ne a 101 121 d_M_simple_101 (by decide) (fun _ => ?_) (fun z => absurd z (by decide))
        refine x_iload_n a 121 d_M_simple_121 rfl ?_
        refine x_bipush a 122 11 d_M_simple_122 (by decide) ?_
        refine x_icmp_ne a 124 255 d_M_simple_124 (by decide) (fun _ => ?_) (fun z => absurd z (by decide))
        refine x_iload_n a 255 d_M_simple_255 rfl ?_
        refine x_bipush a 256 12 d_M_simple_256 (by decide) ?_
        refine x_icmp_ne a 258 305 d_M_simple_258 (by decide) (fun _ => ?_) (fun z => absurd z (by decide))
        refine x_iload_n a 305 d_M_simple_305 rfl ?_
        refine x_bipush a 306 13 d_M_simple_306 (by decide) ?_
        refine x_icmp_ne a 308 318 d_M_simple_308 (by decide) (fun _ => ?_) (fun z => absurd z (by decide))
        refine x_iload_n a 318 d_M_simple_318 rfl ?_
        refine x_bipush a 319 14 d_M_simple_319 (by decide) ?_
        refine x_icmp_ne a 321 331 d_M_simple_321 (by decide) (fun z => absurd z (by decide)) (fun _ => ?_)
        refine x_aload_n a 324 d_M_simple_324 rfl ?_
        refine x_getR a 325 f_M_64 d_M_simple_325 rfl (by omega) (by decide) (o' := 80) rfl ?_
        refine x_iload_n a 328 d_M_simple_328 rfl ?_
        refine x_iconst a 329 0 d_M_simple_329 (by decide) ?_
        refine x_zast a 330 d_M_simple_330 rfl (by omega) (j := p) rfl (by omega) (by decide) rfl ?_
        refine x_iconst a 331 0 d_M_simple_331 (by decide) ?_
        exact x_iret a qf 332 d_M_simple_332 rfl ⟨by unfold m_simple; rw [if_neg hno]; rfl, by unfold m_simple; rw [if_neg hno]; unfold m_simp; first | (rw [if_neg s41_1, if_neg s41_2, if_neg s41_3, if_neg s41_4, if_neg s41_11, if_neg s41_12, if_neg s41_13, if_neg s41_14]; done) | (rw [if_pos rfl]; done) | (rw [if_neg (by decide), if_pos rfl]; done) | (rw [if_neg (by decide), if_neg (by decide), if_pos rfl]; done) | (rw [if_neg (by decide), if_neg (by decide), if_neg (by decide), if_pos rfl]; done) | (rw [if_neg (by decide), if_neg (by decide), if_neg (by decide), if_neg (by decide), if_pos rfl]; done) | (rw [if_neg (by decide), if_neg (by decide), if_neg (by decide), if_neg (by decide), if_neg (by decide), if_pos rfl, m_go_o _ (by omega : 84 ≠ 78)]; unfold m_out12; first | (rw [if_pos (show tn (h 84 p) < 16 from (by (try simp (disch := omega) only [Int32.le_iff_toInt_le, Int32.lt_iff_toInt_lt, ← Int32.toInt_inj, Int32.reduceToInt, nI_1, nI_add, pk_sub, nI_toInt] at *); omega))]; done) | (rw [if_neg (show ¬ tn (h 84 p) < 16 from (by (try simp (disch := omega) only [Int32.le_iff_toInt_le, Int32.lt_iff_toInt_lt, ← Int32.toInt_inj, Int32.reduceToInt, nI_1, nI_add, pk_sub, nI_toInt] at *); omega))]; done)) | (rw [if_neg (by decide), if_neg (by decide), if_neg (by decide), if_neg (by decide), if_neg (by decide), if_neg (by decide), if_pos rfl]; done) | (rw [if_neg (by decide), if_neg (by decide), if_neg (by decide), if_neg (by decide), if_neg (by decide), if_neg (by decide), if_neg (by decide), if_pos rfl]; done)⟩
      refine x_iload_n a 41 d_M_simple_41 rfl ?_
      refine x_iconst a 42 1 d_M_simple_42 (by decide) ?_
      refine x_icmp_ne a 43 55 d_M_simple_43 (by decide) (fun c43 => ?_) (fun c43 => absurd c43 s41_1)
      refine x_iload_n a 55 d_M_simple_55 rfl ?_
      refine x_iconst a 56 2 d_M_simple_56 (by decide) ?_
      refine x_icmp_ne a 57 77 d_M_simple_57 (by decide) (fun c57 => ?_) (fun c57 => absurd c57 s41_2)
      refine x_iload_n a 77 d_M_simple_77 rfl ?_
      refine x_iconst a 78 3 d_M_simple_78 (by decide) ?_
      refine x_icmp_ne a 79 99 d_M_simple_79 (by decide) (fun c79 => ?_) (fun c79 => absurd c79 s41_3)
      refine x_iload_n a 99 d_M_simple_99 rfl ?_
      refine x_iconst a 100 4 d_M_simple_100 (by decide) ?_
      refine x_icmp_ne a 101 121 d_M_simple_101 (by decide) (fun c101 => ?_) (fun c101 => absurd c101 s41_4)
      refine x_iload_n a 121 d_M_simple_121 rfl ?_
      refine x_bipush a 122 11 d_M_simple_122 (by decide) ?_
      refine x_icmp_ne a 124 255 d_M_simple_124 (by decide) (fun c124 => ?_) (fun c124 => absurd c124 s41_11)
      refine x_iload_n a 255 d_M_simple_255 rfl ?_
      refine x_bipush a 256 12 d_M_simple_256 (by decide) ?_
      refine x_icmp_ne a 258 305 d_M_simple_258 (by decide) (fun c258 => ?_) (fun c258 => absurd c258 s41_12)
      refine x_iload_n a 305 d_M_simple_305 rfl ?_
      refine x_bipush a 306 13 d_M_simple_306 (by decide) ?_
      refine x_icmp_ne a 308 318 d_M_simple_308 (by decide) (fun c308 => ?_) (fun c308 => absurd c308 s41_13)
      refine x_iload_n a 318 d_M_simple_318 rfl ?_
      refine x_bipush a 319 14 d_M_simple_319 (by decide) ?_
      refine x_icmp_ne a 321 331 d_M_simple_321 (by decide) (fun c321 => ?_) (fun c321 => absurd c321 s41_14)
      refine x_iconst a 331 0 d_M_simple_331 (by decide) ?_
      exact x_iret a qf 332 d_M_simple_332 rfl ⟨by unfold m_simple; rw [if_neg hno]; rfl, by unfold m_simple; rw [if_neg hno]; unfold m_simp; first | (rw [if_neg s41_1, if_neg s41_2, if_neg s41_3, if_neg s41_4, if_neg s41_11, if_neg s41_12, if_neg s41_13, if_neg s41_14]; done) | (rw [if_pos rfl]; done) | (rw [if_neg (by decide), if_pos rfl]; done) | (rw [if_neg (by decide), if_neg (by decide), if_pos rfl]; done) | (rw [if_neg (by decide), if_neg (by decide), if_neg (by decide), if_pos rfl]; done) | (rw [if_neg (by decide), if_neg (by decide), if_neg (by decide), if_neg (by decide), if_pos rfl]; done) | (rw [if_neg (by decide), if_neg (by decide), if_neg (by decide), if_neg (by decide), if_neg (by decide), if_pos rfl, m_go_o _ (by omega : 84 ≠ 78)]; unfold m_out12; first | (rw [if_pos (show tn (h 84 p) < 16 from (by (try simp (disch := omega) only [Int32.le_iff_toInt_le, Int32.lt_iff_toInt_lt, ← Int32.toInt_inj, Int32.reduceToInt, nI_1, nI_add, pk_sub, nI_toInt] at *); omega))]; done) | (rw [if_neg (show ¬ tn (h 84 p) < 16 from (by (try simp (disch := omega) only [Int32.le_iff_toInt_le, Int32.lt_iff_toInt_lt, ← Int32.toInt_inj, Int32.reduceToInt, nI_1, nI_add, pk_sub, nI_toInt] at *); omega))]; done)) | (rw [if_neg (by decide), if_neg (by decide), if_neg (by decide), if_neg (by decide), if_neg (by decide), if_neg (by decide), if_pos rfl]; done) | (rw [if_neg (by decide), if_neg (by decide), if_neg (by decide), if_neg (by decide), if_neg (by decide), if_neg (by decide), if_neg (by decide), if_pos rfl]; done)⟩
    · refine x_iconst a 34 3 d_M_simple_34 (by decide) ?_
      exact x_iret a qf 35 d_M_simple_35 rfl ⟨by unfold m_simple; rw [if_pos (by (try simp (disch := omega) only [Int32.le_iff_toInt_le, Int32.lt_iff_toInt_lt, ← Int32.toInt_inj, Int32.reduceToInt, nI_1, nI_add, pk_sub, nI_toInt] at *); omega)]; rfl, by unfold m_simple; rw [if_pos (by (try simp (disch := omega) only [Int32.le_iff_toInt_le, Int32.lt_iff_toInt_lt, ← Int32.toInt_inj, Int32.reduceToInt, nI_1, nI_add, pk_sub, nI_toInt] at *); omega)]⟩
end
