section
-- ===== PART A: goes FIRST, ahead of the names: the tables' words, and 'selects' of the private methods out of them =====
/-- a private method of a class that the tables say can be made, by its rows of tables_1 -/
def lw_okq (q : MethodName × Nat) : Prop := (q.1.cls ≠ "java/lang/invoke/MethodHandle" ∧ q.1.cls ≠ "java/lang/invoke/VarHandle") ∧ Cond.instantiable q.1.cls q.2 ∈ tables_1 ∧ Cond.privateMethod q.1 ∈ tables_1 ∧ Cond.instanceMethod q.1 ∈ tables_1
theorem lw_p0 : lw_okq (⟨"GridStarts$Islands", "join", "(IILGridStarts$Grid;I)V"⟩, 2) := ⟨⟨by decide +kernel, by decide +kernel⟩, List.mem_of_getElem? (i := 83) (by decide +kernel), List.mem_of_getElem? (i := 175) (by decide +kernel), List.mem_of_getElem? (i := 176) (by decide +kernel)⟩
theorem lw_p1 : lw_okq (⟨"GridStarts$Rules", "spareOf", "(III)I"⟩, 2) := ⟨⟨by decide +kernel, by decide +kernel⟩, List.mem_of_getElem? (i := 96) (by decide +kernel), List.mem_of_getElem? (i := 262) (by decide +kernel), List.mem_of_getElem? (i := 263) (by decide +kernel)⟩
theorem lw_p2 : lw_okq (⟨"GridStarts$Rules", "canCrank", "(IIII)Z"⟩, 2) := ⟨⟨by decide +kernel, by decide +kernel⟩, List.mem_of_getElem? (i := 96) (by decide +kernel), List.mem_of_getElem? (i := 278) (by decide +kernel), List.mem_of_getElem? (i := 279) (by decide +kernel)⟩
theorem lw_p3 : lw_okq (⟨"GridStarts$Rules", "canCarry", "(IIII)Z"⟩, 2) := ⟨⟨by decide +kernel, by decide +kernel⟩, List.mem_of_getElem? (i := 96) (by decide +kernel), List.mem_of_getElem? (i := 282) (by decide +kernel), List.mem_of_getElem? (i := 283) (by decide +kernel)⟩
theorem lw_p4 : lw_okq (⟨"GridStarts", "openLost", "()I"⟩, 6) := ⟨⟨by decide +kernel, by decide +kernel⟩, List.mem_of_getElem? (i := 12) (by decide +kernel), List.mem_of_getElem? (i := 316) (by decide +kernel), List.mem_of_getElem? (i := 317) (by decide +kernel)⟩
theorem lw_p5 : lw_okq (⟨"GridStarts", "isGoal", "(II)Z"⟩, 6) := ⟨⟨by decide +kernel, by decide +kernel⟩, List.mem_of_getElem? (i := 12) (by decide +kernel), List.mem_of_getElem? (i := 336) (by decide +kernel), List.mem_of_getElem? (i := 337) (by decide +kernel)⟩
theorem lw_p6 : lw_okq (⟨"GridStarts$Search", "explore", "(IIIII)I"⟩, 5) := ⟨⟨by decide +kernel, by decide +kernel⟩, List.mem_of_getElem? (i := 109) (by decide +kernel), List.mem_of_getElem? (i := 347) (by decide +kernel), List.mem_of_getElem? (i := 348) (by decide +kernel)⟩
theorem lw_p7 : lw_okq (⟨"GridStarts$Search", "forget", "(I)V"⟩, 5) := ⟨⟨by decide +kernel, by decide +kernel⟩, List.mem_of_getElem? (i := 109) (by decide +kernel), List.mem_of_getElem? (i := 351) (by decide +kernel), List.mem_of_getElem? (i := 352) (by decide +kernel)⟩
theorem lw_p8 : lw_okq (⟨"GridStarts$Search", "add", "(II)Z"⟩, 5) := ⟨⟨by decide +kernel, by decide +kernel⟩, List.mem_of_getElem? (i := 109) (by decide +kernel), List.mem_of_getElem? (i := 355) (by decide +kernel), List.mem_of_getElem? (i := 356) (by decide +kernel)⟩
theorem lw_p9 : lw_okq (⟨"GridStartsModel", "isLine", "(I)Z"⟩, 12) := ⟨⟨by decide +kernel, by decide +kernel⟩, List.mem_of_getElem? (i := 433) (by decide +kernel), List.mem_of_getElem? (i := 499) (by decide +kernel), List.mem_of_getElem? (i := 500) (by decide +kernel)⟩
theorem lw_p10 : lw_okq (⟨"GridStartsModel", "isMachine", "(I)Z"⟩, 12) := ⟨⟨by decide +kernel, by decide +kernel⟩, List.mem_of_getElem? (i := 433) (by decide +kernel), List.mem_of_getElem? (i := 507) (by decide +kernel), List.mem_of_getElem? (i := 508) (by decide +kernel)⟩
theorem lw_p11 : lw_okq (⟨"GridStartsModel", "layNow", "()V"⟩, 12) := ⟨⟨by decide +kernel, by decide +kernel⟩, List.mem_of_getElem? (i := 433) (by decide +kernel), List.mem_of_getElem? (i := 515) (by decide +kernel), List.mem_of_getElem? (i := 516) (by decide +kernel)⟩
theorem lw_p12 : lw_okq (⟨"GridStartsModel", "layIslands", "()V"⟩, 12) := ⟨⟨by decide +kernel, by decide +kernel⟩, List.mem_of_getElem? (i := 433) (by decide +kernel), List.mem_of_getElem? (i := 519) (by decide +kernel), List.mem_of_getElem? (i := 520) (by decide +kernel)⟩
theorem lw_p13 : lw_okq (⟨"GridStartsModel", "joinOnce", "()Z"⟩, 12) := ⟨⟨by decide +kernel, by decide +kernel⟩, List.mem_of_getElem? (i := 433) (by decide +kernel), List.mem_of_getElem? (i := 523) (by decide +kernel), List.mem_of_getElem? (i := 524) (by decide +kernel)⟩
theorem lw_p14 : lw_okq (⟨"GridStartsModel", "islandSet", "(I)I"⟩, 12) := ⟨⟨by decide +kernel, by decide +kernel⟩, List.mem_of_getElem? (i := 433) (by decide +kernel), List.mem_of_getElem? (i := 527) (by decide +kernel), List.mem_of_getElem? (i := 528) (by decide +kernel)⟩
theorem lw_p15 : lw_okq (⟨"GridStartsModel", "isLive", "(I)Z"⟩, 12) := ⟨⟨by decide +kernel, by decide +kernel⟩, List.mem_of_getElem? (i := 433) (by decide +kernel), List.mem_of_getElem? (i := 531) (by decide +kernel), List.mem_of_getElem? (i := 532) (by decide +kernel)⟩
def lw_privs_1 : List (MethodName × Nat) := [(⟨"GridStarts$Islands", "join", "(IILGridStarts$Grid;I)V"⟩, 2), (⟨"GridStarts$Rules", "spareOf", "(III)I"⟩, 2), (⟨"GridStarts$Rules", "canCrank", "(IIII)Z"⟩, 2), (⟨"GridStarts$Rules", "canCarry", "(IIII)Z"⟩, 2), (⟨"GridStarts", "openLost", "()I"⟩, 6), (⟨"GridStarts", "isGoal", "(II)Z"⟩, 6), (⟨"GridStarts$Search", "explore", "(IIIII)I"⟩, 5), (⟨"GridStarts$Search", "forget", "(I)V"⟩, 5), (⟨"GridStarts$Search", "add", "(II)Z"⟩, 5), (⟨"GridStartsModel", "isLine", "(I)Z"⟩, 12), (⟨"GridStartsModel", "isMachine", "(I)Z"⟩, 12), (⟨"GridStartsModel", "layNow", "()V"⟩, 12), (⟨"GridStartsModel", "layIslands", "()V"⟩, 12), (⟨"GridStartsModel", "joinOnce", "()Z"⟩, 12), (⟨"GridStartsModel", "islandSet", "(I)I"⟩, 12), (⟨"GridStartsModel", "isLive", "(I)Z"⟩, 12)]
theorem lw_r1 : ∀ q ∈ lw_privs_1, lw_okq q := List.forall_mem_cons.mpr ⟨lw_p0, List.forall_mem_cons.mpr ⟨lw_p1, List.forall_mem_cons.mpr ⟨lw_p2, List.forall_mem_cons.mpr ⟨lw_p3, List.forall_mem_cons.mpr ⟨lw_p4, List.forall_mem_cons.mpr ⟨lw_p5, List.forall_mem_cons.mpr ⟨lw_p6, List.forall_mem_cons.mpr ⟨lw_p7, List.forall_mem_cons.mpr ⟨lw_p8, List.forall_mem_cons.mpr ⟨lw_p9, List.forall_mem_cons.mpr ⟨lw_p10, List.forall_mem_cons.mpr ⟨lw_p11, List.forall_mem_cons.mpr ⟨lw_p12, List.forall_mem_cons.mpr ⟨lw_p13, List.forall_mem_cons.mpr ⟨lw_p14, List.forall_mem_cons.mpr ⟨lw_p15, fun _ h => absurd h List.not_mem_nil⟩⟩⟩⟩⟩⟩⟩⟩⟩⟩⟩⟩⟩⟩⟩⟩
theorem lw_p16 : lw_okq (⟨"GridStartsModel", "canStep", "(I)Z"⟩, 12) := ⟨⟨by decide +kernel, by decide +kernel⟩, List.mem_of_getElem? (i := 433) (by decide +kernel), List.mem_of_getElem? (i := 539) (by decide +kernel), List.mem_of_getElem? (i := 540) (by decide +kernel)⟩
theorem lw_p17 : lw_okq (⟨"GridStartsModel", "canStart", "(I)Z"⟩, 12) := ⟨⟨by decide +kernel, by decide +kernel⟩, List.mem_of_getElem? (i := 433) (by decide +kernel), List.mem_of_getElem? (i := 543) (by decide +kernel), List.mem_of_getElem? (i := 544) (by decide +kernel)⟩
theorem lw_p18 : lw_okq (⟨"GridStartsModel", "canClose", "(I)Z"⟩, 12) := ⟨⟨by decide +kernel, by decide +kernel⟩, List.mem_of_getElem? (i := 433) (by decide +kernel), List.mem_of_getElem? (i := 547) (by decide +kernel), List.mem_of_getElem? (i := 548) (by decide +kernel)⟩
theorem lw_p19 : lw_okq (⟨"GridStartsModel", "numberBehind", "(I)I"⟩, 12) := ⟨⟨by decide +kernel, by decide +kernel⟩, List.mem_of_getElem? (i := 433) (by decide +kernel), List.mem_of_getElem? (i := 555) (by decide +kernel), List.mem_of_getElem? (i := 556) (by decide +kernel)⟩
theorem lw_p20 : lw_okq (⟨"GridStartsModel", "ranOn", "(II)I"⟩, 12) := ⟨⟨by decide +kernel, by decide +kernel⟩, List.mem_of_getElem? (i := 433) (by decide +kernel), List.mem_of_getElem? (i := 559) (by decide +kernel), List.mem_of_getElem? (i := 560) (by decide +kernel)⟩
theorem lw_p21 : lw_okq (⟨"GridStartsModel", "become", "(I)V"⟩, 12) := ⟨⟨by decide +kernel, by decide +kernel⟩, List.mem_of_getElem? (i := 433) (by decide +kernel), List.mem_of_getElem? (i := 563) (by decide +kernel), List.mem_of_getElem? (i := 564) (by decide +kernel)⟩
theorem lw_p22 : lw_okq (⟨"GridStartsModel", "openAll", "()I"⟩, 12) := ⟨⟨by decide +kernel, by decide +kernel⟩, List.mem_of_getElem? (i := 433) (by decide +kernel), List.mem_of_getElem? (i := 571) (by decide +kernel), List.mem_of_getElem? (i := 572) (by decide +kernel)⟩
theorem lw_p23 : lw_okq (⟨"GridStartsModel", "areSets", "(II)Z"⟩, 12) := ⟨⟨by decide +kernel, by decide +kernel⟩, List.mem_of_getElem? (i := 433) (by decide +kernel), List.mem_of_getElem? (i := 583) (by decide +kernel), List.mem_of_getElem? (i := 584) (by decide +kernel)⟩
theorem lw_p24 : lw_okq (⟨"GridStartsModel", "layWay", "(II)I"⟩, 12) := ⟨⟨by decide +kernel, by decide +kernel⟩, List.mem_of_getElem? (i := 433) (by decide +kernel), List.mem_of_getElem? (i := 587) (by decide +kernel), List.mem_of_getElem? (i := 588) (by decide +kernel)⟩
theorem lw_p25 : lw_okq (⟨"GridStartsModel", "layAll", "(I)V"⟩, 12) := ⟨⟨by decide +kernel, by decide +kernel⟩, List.mem_of_getElem? (i := 433) (by decide +kernel), List.mem_of_getElem? (i := 591) (by decide +kernel), List.mem_of_getElem? (i := 592) (by decide +kernel)⟩
theorem lw_p26 : lw_okq (⟨"GridStartsModel", "numberNow", "()I"⟩, 12) := ⟨⟨by decide +kernel, by decide +kernel⟩, List.mem_of_getElem? (i := 433) (by decide +kernel), List.mem_of_getElem? (i := 595) (by decide +kernel), List.mem_of_getElem? (i := 596) (by decide +kernel)⟩
theorem lw_p27 : lw_okq (⟨"GridStartsModel", "goOn", "(II)Z"⟩, 12) := ⟨⟨by decide +kernel, by decide +kernel⟩, List.mem_of_getElem? (i := 433) (by decide +kernel), List.mem_of_getElem? (i := 599) (by decide +kernel), List.mem_of_getElem? (i := 600) (by decide +kernel)⟩
theorem lw_p28 : lw_okq (⟨"GridStartsModel", "layNumber", "(I)V"⟩, 12) := ⟨⟨by decide +kernel, by decide +kernel⟩, List.mem_of_getElem? (i := 433) (by decide +kernel), List.mem_of_getElem? (i := 603) (by decide +kernel), List.mem_of_getElem? (i := 604) (by decide +kernel)⟩
theorem lw_p29 : lw_okq (⟨"GridStartsModel", "reached", "(II)I"⟩, 12) := ⟨⟨by decide +kernel, by decide +kernel⟩, List.mem_of_getElem? (i := 433) (by decide +kernel), List.mem_of_getElem? (i := 607) (by decide +kernel), List.mem_of_getElem? (i := 608) (by decide +kernel)⟩
theorem lw_p30 : lw_okq (⟨"GridStartsModel", "isGoal", "(III)Z"⟩, 12) := ⟨⟨by decide +kernel, by decide +kernel⟩, List.mem_of_getElem? (i := 433) (by decide +kernel), List.mem_of_getElem? (i := 611) (by decide +kernel), List.mem_of_getElem? (i := 612) (by decide +kernel)⟩
theorem lw_p31 : lw_okq (⟨"GridStartsModel", "readySet", "()I"⟩, 12) := ⟨⟨by decide +kernel, by decide +kernel⟩, List.mem_of_getElem? (i := 433) (by decide +kernel), List.mem_of_getElem? (i := 615) (by decide +kernel), List.mem_of_getElem? (i := 616) (by decide +kernel)⟩
def lw_privs_2 : List (MethodName × Nat) := [(⟨"GridStartsModel", "canStep", "(I)Z"⟩, 12), (⟨"GridStartsModel", "canStart", "(I)Z"⟩, 12), (⟨"GridStartsModel", "canClose", "(I)Z"⟩, 12), (⟨"GridStartsModel", "numberBehind", "(I)I"⟩, 12), (⟨"GridStartsModel", "ranOn", "(II)I"⟩, 12), (⟨"GridStartsModel", "become", "(I)V"⟩, 12), (⟨"GridStartsModel", "openAll", "()I"⟩, 12), (⟨"GridStartsModel", "areSets", "(II)Z"⟩, 12), (⟨"GridStartsModel", "layWay", "(II)I"⟩, 12), (⟨"GridStartsModel", "layAll", "(I)V"⟩, 12), (⟨"GridStartsModel", "numberNow", "()I"⟩, 12), (⟨"GridStartsModel", "goOn", "(II)Z"⟩, 12), (⟨"GridStartsModel", "layNumber", "(I)V"⟩, 12), (⟨"GridStartsModel", "reached", "(II)I"⟩, 12), (⟨"GridStartsModel", "isGoal", "(III)Z"⟩, 12), (⟨"GridStartsModel", "readySet", "()I"⟩, 12)]
theorem lw_r2 : ∀ q ∈ lw_privs_2, lw_okq q := List.forall_mem_cons.mpr ⟨lw_p16, List.forall_mem_cons.mpr ⟨lw_p17, List.forall_mem_cons.mpr ⟨lw_p18, List.forall_mem_cons.mpr ⟨lw_p19, List.forall_mem_cons.mpr ⟨lw_p20, List.forall_mem_cons.mpr ⟨lw_p21, List.forall_mem_cons.mpr ⟨lw_p22, List.forall_mem_cons.mpr ⟨lw_p23, List.forall_mem_cons.mpr ⟨lw_p24, List.forall_mem_cons.mpr ⟨lw_p25, List.forall_mem_cons.mpr ⟨lw_p26, List.forall_mem_cons.mpr ⟨lw_p27, List.forall_mem_cons.mpr ⟨lw_p28, List.forall_mem_cons.mpr ⟨lw_p29, List.forall_mem_cons.mpr ⟨lw_p30, List.forall_mem_cons.mpr ⟨lw_p31, fun _ h => absurd h List.not_mem_nil⟩⟩⟩⟩⟩⟩⟩⟩⟩⟩⟩⟩⟩⟩⟩⟩
theorem lw_p32 : lw_okq (⟨"GridStartsModel", "liveSet", "()I"⟩, 12) := ⟨⟨by decide +kernel, by decide +kernel⟩, List.mem_of_getElem? (i := 433) (by decide +kernel), List.mem_of_getElem? (i := 619) (by decide +kernel), List.mem_of_getElem? (i := 620) (by decide +kernel)⟩
theorem lw_p33 : lw_okq (⟨"GridStartsModel", "layLeads", "(III)V"⟩, 12) := ⟨⟨by decide +kernel, by decide +kernel⟩, List.mem_of_getElem? (i := 433) (by decide +kernel), List.mem_of_getElem? (i := 623) (by decide +kernel), List.mem_of_getElem? (i := 624) (by decide +kernel)⟩
theorem lw_p34 : lw_okq (⟨"GridStartsModel", "stepOn", "(I)I"⟩, 12) := ⟨⟨by decide +kernel, by decide +kernel⟩, List.mem_of_getElem? (i := 433) (by decide +kernel), List.mem_of_getElem? (i := 627) (by decide +kernel), List.mem_of_getElem? (i := 628) (by decide +kernel)⟩
theorem lw_p35 : lw_okq (⟨"GridStartsModel", "canWithout", "(III)Z"⟩, 12) := ⟨⟨by decide +kernel, by decide +kernel⟩, List.mem_of_getElem? (i := 433) (by decide +kernel), List.mem_of_getElem? (i := 639) (by decide +kernel), List.mem_of_getElem? (i := 640) (by decide +kernel)⟩
theorem lw_p36 : lw_okq (⟨"GridStartsModel", "neededLines", "(II)I"⟩, 12) := ⟨⟨by decide +kernel, by decide +kernel⟩, List.mem_of_getElem? (i := 433) (by decide +kernel), List.mem_of_getElem? (i := 643) (by decide +kernel), List.mem_of_getElem? (i := 644) (by decide +kernel)⟩
theorem lw_p37 : lw_okq (⟨"GridStartsModel", "neededMachines", "(II)I"⟩, 12) := ⟨⟨by decide +kernel, by decide +kernel⟩, List.mem_of_getElem? (i := 433) (by decide +kernel), List.mem_of_getElem? (i := 647) (by decide +kernel), List.mem_of_getElem? (i := 648) (by decide +kernel)⟩
theorem lw_p38 : lw_okq (⟨"GridStartsModel", "sumOf", "(II)I"⟩, 12) := ⟨⟨by decide +kernel, by decide +kernel⟩, List.mem_of_getElem? (i := 433) (by decide +kernel), List.mem_of_getElem? (i := 667) (by decide +kernel), List.mem_of_getElem? (i := 668) (by decide +kernel)⟩
theorem lw_p39 : lw_okq (⟨"GridStartsModel", "liveIslands", "()I"⟩, 12) := ⟨⟨by decide +kernel, by decide +kernel⟩, List.mem_of_getElem? (i := 433) (by decide +kernel), List.mem_of_getElem? (i := 674) (by decide +kernel), List.mem_of_getElem? (i := 675) (by decide +kernel)⟩
def lw_privs_3 : List (MethodName × Nat) := [(⟨"GridStartsModel", "liveSet", "()I"⟩, 12), (⟨"GridStartsModel", "layLeads", "(III)V"⟩, 12), (⟨"GridStartsModel", "stepOn", "(I)I"⟩, 12), (⟨"GridStartsModel", "canWithout", "(III)Z"⟩, 12), (⟨"GridStartsModel", "neededLines", "(II)I"⟩, 12), (⟨"GridStartsModel", "neededMachines", "(II)I"⟩, 12), (⟨"GridStartsModel", "sumOf", "(II)I"⟩, 12), (⟨"GridStartsModel", "liveIslands", "()I"⟩, 12)]
theorem lw_r3 : ∀ q ∈ lw_privs_3, lw_okq q := List.forall_mem_cons.mpr ⟨lw_p32, List.forall_mem_cons.mpr ⟨lw_p33, List.forall_mem_cons.mpr ⟨lw_p34, List.forall_mem_cons.mpr ⟨lw_p35, List.forall_mem_cons.mpr ⟨lw_p36, List.forall_mem_cons.mpr ⟨lw_p37, List.forall_mem_cons.mpr ⟨lw_p38, List.forall_mem_cons.mpr ⟨lw_p39, fun _ h => absurd h List.not_mem_nil⟩⟩⟩⟩⟩⟩⟩⟩
def lw_privs : List (MethodName × Nat) := lw_privs_1 ++ (lw_privs_2 ++ (lw_privs_3))
def lw_tbl : List Cond := k2_sels lw_privs ++ tables_1
theorem lw_privs_ok : ∀ q ∈ lw_privs, lw_okq q := by
  show ∀ q ∈ lw_privs_1 ++ (lw_privs_2 ++ (lw_privs_3)), lw_okq q
  exact List.forall_mem_append.mpr ⟨lw_r1, List.forall_mem_append.mpr ⟨lw_r2, lw_r3⟩⟩
end
section
def RX0 : String := "GridStarts$Code"
def TX0 : u_T := fun k => match k with
  | _ => ("", "", "", false)
def tyX0 : Nat → FieldType := fun k => match k with
  | _ => .int
abbrev wsX00 : List Cond := u_ws RX0 TX0 0
theorem nmX0 : ∀ a, a < 0 → ∀ b, b < 0 → a ≠ b → (TX0 a).2.1 ≠ (TX0 b).2.1 := by decide +kernel
theorem tyX0_ok : ∀ k, k < 0 → parseFieldDescriptor (TX0 k).2.2.1 = some (tyX0 k) := by decide +kernel
abbrev cX0_closed : ByteArray := prog_2_method_2_code
def yX0_closed : MethodName := ⟨RX0, "closed", "(I)I"⟩
abbrev cX0_running : ByteArray := prog_2_method_3_code
def yX0_running : MethodName := ⟨RX0, "running", "(I)I"⟩
abbrev cX0_isRunning : ByteArray := prog_2_method_4_code
def yX0_isRunning : MethodName := ⟨RX0, "isRunning", "(II)Z"⟩
abbrev cX0_left : ByteArray := prog_2_method_5_code
def yX0_left : MethodName := ⟨RX0, "left", "(II)I"⟩
abbrev cX0_ready : ByteArray := prog_2_method_6_code
def yX0_ready : MethodName := ⟨RX0, "ready", "(I)I"⟩
abbrev cX0_ticked : ByteArray := prog_2_method_7_code
def yX0_ticked : MethodName := ⟨RX0, "ticked", "(I)I"⟩
abbrev cX0_withStarted : ByteArray := prog_2_method_8_code
def yX0_withStarted : MethodName := ⟨RX0, "withStarted", "(III)I"⟩
abbrev cX0_withStopped : ByteArray := prog_2_method_9_code
def yX0_withStopped : MethodName := ⟨RX0, "withStopped", "(II)I"⟩
abbrev cX0_withClosed : ByteArray := prog_2_method_10_code
def yX0_withClosed : MethodName := ⟨RX0, "withClosed", "(II)I"⟩
abbrev cX0_withOpened : ByteArray := prog_2_method_11_code
def yX0_withOpened : MethodName := ⟨RX0, "withOpened", "(II)I"⟩
abbrev cX0_leftAt : ByteArray := prog_2_method_12_code
def yX0_leftAt : MethodName := ⟨RX0, "leftAt", "(I)I"⟩
def RX1 : String := "GridStarts$Grid"
def TX1 : u_T := fun k => match k with
  | 0 => ("GridStarts$Grid", "lines", "I", false)
  | 1 => ("GridStarts$Grid", "lesser", "[I", true)
  | 2 => ("GridStarts$Grid", "greater", "[I", true)
  | 3 => ("GridStarts$Grid", "charge", "[I", true)
  | 4 => ("GridStarts$Grid", "machines", "I", false)
  | 5 => ("GridStarts$Grid", "home", "[I", true)
  | 6 => ("GridStarts$Grid", "crank", "[I", true)
  | 7 => ("GridStarts$Grid", "power", "[I", true)
  | 8 => ("GridStarts$Grid", "ramp", "[I", true)
  | 9 => ("GridStarts$Grid", "code", "I", false)
  | _ => ("GridStarts$Grid", "now", "I", false)
def tyX1 : Nat → FieldType := fun k => match k with
  | 0 => .int
  | 1 => .array .int
  | 2 => .array .int
  | 3 => .array .int
  | 4 => .int
  | 5 => .array .int
  | 6 => .array .int
  | 7 => .array .int
  | 8 => .array .int
  | 9 => .int
  | _ => .int
abbrev wsX10 : List Cond := u_ws RX1 TX1 11
theorem nmX1 : ∀ a, a < 11 → ∀ b, b < 11 → a ≠ b → (TX1 a).2.1 ≠ (TX1 b).2.1 := by decide +kernel
theorem tyX1_ok : ∀ k, k < 11 → parseFieldDescriptor (TX1 k).2.2.1 = some (tyX1 k) := by decide +kernel
abbrev cX1_init : ByteArray := prog_3_method_1_code
def yX1_init : MethodName := ⟨RX1, "<init>", "()V"⟩
abbrev cX1_hasLine : ByteArray := prog_3_method_2_code
def yX1_hasLine : MethodName := ⟨RX1, "hasLine", "(I)Z"⟩
abbrev cX1_hasMachine : ByteArray := prog_3_method_3_code
def yX1_hasMachine : MethodName := ⟨RX1, "hasMachine", "(I)Z"⟩
abbrev cX1_addLine : ByteArray := prog_3_method_4_code
def yX1_addLine : MethodName := ⟨RX1, "addLine", "(III)I"⟩
abbrev cX1_addMachine : ByteArray := prog_3_method_5_code
def yX1_addMachine : MethodName := ⟨RX1, "addMachine", "(IIII)I"⟩
abbrev cX1_copyFrom : ByteArray := prog_3_method_6_code
def yX1_copyFrom : MethodName := ⟨RX1, "copyFrom", "(LGridStarts$Grid;)V"⟩
def RX2 : String := "GridStarts$Islands"
def TX2 : u_T := fun k => match k with
  | 0 => ("GridStarts$Islands", "sets", "[I", true)
  | _ => ("GridStarts$Islands", "draws", "[I", true)
def tyX2 : Nat → FieldType := fun k => match k with
  | 0 => .array .int
  | _ => .array .int
abbrev wsX20 : List Cond := u_ws RX2 TX2 2
theorem nmX2 : ∀ a, a < 2 → ∀ b, b < 2 → a ≠ b → (TX2 a).2.1 ≠ (TX2 b).2.1 := by decide +kernel
theorem tyX2_ok : ∀ k, k < 2 → parseFieldDescriptor (TX2 k).2.2.1 = some (tyX2 k) := by decide +kernel
abbrev cX2_init : ByteArray := prog_4_method_1_code
def yX2_init : MethodName := ⟨RX2, "<init>", "()V"⟩
abbrev cX2_busesWith : ByteArray := prog_4_method_2_code
def yX2_busesWith : MethodName := ⟨RX2, "busesWith", "(II)I"⟩
abbrev cX2_drawAround : ByteArray := prog_4_method_3_code
def yX2_drawAround : MethodName := ⟨RX2, "drawAround", "(II)I"⟩
abbrev cX2_learnLine : ByteArray := prog_4_method_4_code
def yX2_learnLine : MethodName := ⟨RX2, "learnLine", "(LGridStarts$Grid;I)V"⟩
abbrev cX2_join : ByteArray := prog_4_method_5_code
def yX2_join : MethodName := ⟨RX2, "join", "(IILGridStarts$Grid;I)V"⟩
def RX3 : String := "GridStarts$Rules"
def TX3 : u_T := fun k => match k with
  | 0 => ("GridStarts$Rules", "grid", "LGridStarts$Grid;", true)
  | _ => ("GridStarts$Rules", "islands", "LGridStarts$Islands;", true)
def tyX3 : Nat → FieldType := fun k => match k with
  | 0 => .object "GridStarts$Grid"
  | _ => .object "GridStarts$Islands"
abbrev wsX30 : List Cond := u_ws RX3 TX3 2
theorem nmX3 : ∀ a, a < 2 → ∀ b, b < 2 → a ≠ b → (TX3 a).2.1 ≠ (TX3 b).2.1 := by decide +kernel
theorem tyX3_ok : ∀ k, k < 2 → parseFieldDescriptor (TX3 k).2.2.1 = some (tyX3 k) := by decide +kernel
abbrev cX3_init : ByteArray := prog_5_method_1_code
def yX3_init : MethodName := ⟨RX3, "<init>", "(LGridStarts$Grid;LGridStarts$Islands;)V"⟩
abbrev cX3_liveBuses : ByteArray := prog_5_method_2_code
def yX3_liveBuses : MethodName := ⟨RX3, "liveBuses", "(I)I"⟩
abbrev cX3_countLiveIslands : ByteArray := prog_5_method_3_code
def yX3_countLiveIslands : MethodName := ⟨RX3, "countLiveIslands", "(I)I"⟩
abbrev cX3_spare : ByteArray := prog_5_method_4_code
def yX3_spare : MethodName := ⟨RX3, "spare", "(II)I"⟩
abbrev cX3_spareOf : ByteArray := prog_5_method_5_code
def yX3_spareOf : MethodName := ⟨RX3, "spareOf", "(III)I"⟩
abbrev cX3_isTold : ByteArray := prog_5_method_6_code
def yX3_isTold : MethodName := ⟨RX3, "isTold", "(I)Z"⟩
abbrev cX3_stepsFrom : ByteArray := prog_5_method_7_code
def yX3_stepsFrom : MethodName := ⟨RX3, "stepsFrom", "(I)I"⟩
abbrev cX3_canCrank : ByteArray := prog_5_method_8_code
def yX3_canCrank : MethodName := ⟨RX3, "canCrank", "(IIII)Z"⟩
abbrev cX3_canCarry : ByteArray := prog_5_method_9_code
def yX3_canCarry : MethodName := ⟨RX3, "canCarry", "(IIII)Z"⟩
abbrev cX3_withStep : ByteArray := prog_5_method_10_code
def yX3_withStep : MethodName := ⟨RX3, "withStep", "(II)I"⟩
abbrev cX3_isReached : ByteArray := prog_5_method_11_code
def yX3_isReached : MethodName := ⟨RX3, "isReached", "(III)Z"⟩
abbrev cX3_lostLines : ByteArray := prog_5_method_12_code
def yX3_lostLines : MethodName := ⟨RX3, "lostLines", "(I)I"⟩
def RX4 : String := "GridStarts$Search"
def TX4 : u_T := fun k => match k with
  | 0 => ("GridStarts$Search", "rules", "LGridStarts$Rules;", true)
  | 1 => ("GridStarts$Search", "codes", "[I", true)
  | 2 => ("GridStarts$Search", "origins", "[I", true)
  | 3 => ("GridStarts$Search", "seen", "[I", true)
  | _ => ("GridStarts$Search", "size", "I", false)
def tyX4 : Nat → FieldType := fun k => match k with
  | 0 => .object "GridStarts$Rules"
  | 1 => .array .int
  | 2 => .array .int
  | 3 => .array .int
  | _ => .int
abbrev wsX40 : List Cond := u_ws RX4 TX4 5
theorem nmX4 : ∀ a, a < 5 → ∀ b, b < 5 → a ≠ b → (TX4 a).2.1 ≠ (TX4 b).2.1 := by decide +kernel
theorem tyX4_ok : ∀ k, k < 5 → parseFieldDescriptor (TX4 k).2.2.1 = some (tyX4 k) := by decide +kernel
abbrev cX4_init : ByteArray := prog_6_method_1_code
def yX4_init : MethodName := ⟨RX4, "<init>", "(LGridStarts$Rules;)V"⟩
abbrev cX4_plan : ByteArray := prog_6_method_2_code
def yX4_plan : MethodName := ⟨RX4, "plan", "(III)I"⟩
abbrev cX4_codeAt : ByteArray := prog_6_method_3_code
def yX4_codeAt : MethodName := ⟨RX4, "codeAt", "(I)I"⟩
abbrev cX4_ticksTo : ByteArray := prog_6_method_4_code
def yX4_ticksTo : MethodName := ⟨RX4, "ticksTo", "(I)I"⟩
abbrev cX4_stepBefore : ByteArray := prog_6_method_5_code
def yX4_stepBefore : MethodName := ⟨RX4, "stepBefore", "(II)I"⟩
abbrev cX4_canReach : ByteArray := prog_6_method_6_code
def yX4_canReach : MethodName := ⟨RX4, "canReach", "(III)Z"⟩
abbrev cX4_neededAmong : ByteArray := prog_6_method_7_code
def yX4_neededAmong : MethodName := ⟨RX4, "neededAmong", "(IIII)I"⟩
abbrev cX4_everReady : ByteArray := prog_6_method_8_code
def yX4_everReady : MethodName := ⟨RX4, "everReady", "(II)I"⟩
abbrev cX4_everLive : ByteArray := prog_6_method_9_code
def yX4_everLive : MethodName := ⟨RX4, "everLive", "(I)I"⟩
abbrev cX4_explore : ByteArray := prog_6_method_10_code
def yX4_explore : MethodName := ⟨RX4, "explore", "(IIIII)I"⟩
abbrev cX4_forget : ByteArray := prog_6_method_11_code
def yX4_forget : MethodName := ⟨RX4, "forget", "(I)V"⟩
abbrev cX4_add : ByteArray := prog_6_method_12_code
def yX4_add : MethodName := ⟨RX4, "add", "(II)Z"⟩
def RX5 : String := "GridStarts"
def TX5 : u_T := fun k => match k with
  | 0 => ("GridStarts", "grid", "LGridStarts$Grid;", true)
  | 1 => ("GridStarts", "islands", "LGridStarts$Islands;", true)
  | 2 => ("GridStarts", "rules", "LGridStarts$Rules;", true)
  | 3 => ("GridStarts", "search", "LGridStarts$Search;", true)
  | 4 => ("GridStarts", "images", "[LGridStarts$Grid;", true)
  | _ => ("GridStarts", "kept", "I", false)
def tyX5 : Nat → FieldType := fun k => match k with
  | 0 => .object "GridStarts$Grid"
  | 1 => .object "GridStarts$Islands"
  | 2 => .object "GridStarts$Rules"
  | 3 => .object "GridStarts$Search"
  | 4 => .array (.object "GridStarts$Grid")
  | _ => .int
abbrev wsX50 : List Cond := u_ws RX5 TX5 6
theorem nmX5 : ∀ a, a < 6 → ∀ b, b < 6 → a ≠ b → (TX5 a).2.1 ≠ (TX5 b).2.1 := by decide +kernel
theorem tyX5_ok : ∀ k, k < 6 → parseFieldDescriptor (TX5 k).2.2.1 = some (tyX5 k) := by decide +kernel
abbrev cX5_init : ByteArray := prog_1_method_1_code
def yX5_init : MethodName := ⟨RX5, "<init>", "()V"⟩
abbrev cX5_line : ByteArray := prog_1_method_2_code
def yX5_line : MethodName := ⟨RX5, "line", "(III)I"⟩
abbrev cX5_machine : ByteArray := prog_1_method_3_code
def yX5_machine : MethodName := ⟨RX5, "machine", "(IIII)I"⟩
abbrev cX5_dark : ByteArray := prog_1_method_4_code
def yX5_dark : MethodName := ⟨RX5, "dark", "()I"⟩
abbrev cX5_of : ByteArray := prog_1_method_5_code
def yX5_of : MethodName := ⟨RX5, "of", "(II)I"⟩
abbrev cX5_at : ByteArray := prog_1_method_6_code
def yX5_at : MethodName := ⟨RX5, "at", "(II)I"⟩
abbrev cX5_bus : ByteArray := prog_1_method_7_code
def yX5_bus : MethodName := ⟨RX5, "bus", "(II)I"⟩
abbrev cX5_can : ByteArray := prog_1_method_8_code
def yX5_can : MethodName := ⟨RX5, "can", "()I"⟩
abbrev cX5_tick : ByteArray := prog_1_method_9_code
def yX5_tick : MethodName := ⟨RX5, "tick", "(I)I"⟩
abbrev cX5_fail : ByteArray := prog_1_method_10_code
def yX5_fail : MethodName := ⟨RX5, "fail", "(I)I"⟩
abbrev cX5_trip : ByteArray := prog_1_method_11_code
def yX5_trip : MethodName := ⟨RX5, "trip", "(I)I"⟩
abbrev cX5_way : ByteArray := prog_1_method_12_code
def yX5_way : MethodName := ⟨RX5, "way", "(III)I"⟩
abbrev cX5_go : ByteArray := prog_1_method_13_code
def yX5_go : MethodName := ⟨RX5, "go", "(II)I"⟩
abbrev cX5_needed : ByteArray := prog_1_method_14_code
def yX5_needed : MethodName := ⟨RX5, "needed", "(III)I"⟩
abbrev cX5_ever : ByteArray := prog_1_method_15_code
def yX5_ever : MethodName := ⟨RX5, "ever", "(I)I"⟩
abbrev cX5_image : ByteArray := prog_1_method_16_code
def yX5_image : MethodName := ⟨RX5, "image", "(I)I"⟩
abbrev cX5_restore : ByteArray := prog_1_method_17_code
def yX5_restore : MethodName := ⟨RX5, "restore", "(I)I"⟩
abbrev cX5_count : ByteArray := prog_1_method_18_code
def yX5_count : MethodName := ⟨RX5, "count", "(I)I"⟩
abbrev cX5_openLost : ByteArray := prog_1_method_19_code
def yX5_openLost : MethodName := ⟨RX5, "openLost", "()I"⟩
abbrev cX5_isGoal : ByteArray := prog_1_method_20_code
def yX5_isGoal : MethodName := ⟨RX5, "isGoal", "(II)Z"⟩
abbrev cX5_isBus : ByteArray := prog_1_method_21_code
def yX5_isBus : MethodName := ⟨RX5, "isBus", "(I)Z"⟩
abbrev cX5_isWithin : ByteArray := prog_1_method_22_code
def yX5_isWithin : MethodName := ⟨RX5, "isWithin", "(II)Z"⟩
abbrev cX5_setOfFirst : ByteArray := prog_1_method_23_code
def yX5_setOfFirst : MethodName := ⟨RX5, "setOfFirst", "(I)I"⟩
abbrev cX5_bit : ByteArray := prog_1_method_24_code
def yX5_bit : MethodName := ⟨RX5, "bit", "(II)I"⟩
def RX6 : String := "GridStartsModel"
def TX6 : u_T := fun k => match k with
  | 0 => ("GridStartsModel", "state", "[I", true)
  | 1 => ("GridStartsModel", "images", "[I", true)
  | 2 => ("GridStartsModel", "isKept", "[Z", true)
  | 3 => ("GridStartsModel", "closed", "[I", true)
  | 4 => ("GridStartsModel", "run", "[I", true)
  | 5 => ("GridStartsModel", "island", "[I", true)
  | 6 => ("GridStartsModel", "spare", "[I", true)
  | 7 => ("GridStartsModel", "live", "[Z", true)
  | 8 => ("GridStartsModel", "first", "[I", true)
  | 9 => ("GridStartsModel", "leads", "[Z", true)
  | 10 => ("GridStartsModel", "steps", "[I", true)
  | _ => ("GridStartsModel", "atLast", "I", false)
def tyX6 : Nat → FieldType := fun k => match k with
  | 0 => .array .int
  | 1 => .array .int
  | 2 => .array .boolean
  | 3 => .array .int
  | 4 => .array .int
  | 5 => .array .int
  | 6 => .array .int
  | 7 => .array .boolean
  | 8 => .array .int
  | 9 => .array .boolean
  | 10 => .array .int
  | _ => .int
abbrev wsX60 : List Cond := u_ws RX6 TX6 12
theorem nmX6 : ∀ a, a < 12 → ∀ b, b < 12 → a ≠ b → (TX6 a).2.1 ≠ (TX6 b).2.1 := by decide +kernel
theorem tyX6_ok : ∀ k, k < 12 → parseFieldDescriptor (TX6 k).2.2.1 = some (tyX6 k) := by decide +kernel
abbrev cX6_init : ByteArray := prog_8_method_1_code
def yX6_init : MethodName := ⟨RX6, "<init>", "()V"⟩
abbrev cX6_in : ByteArray := prog_8_method_2_code
def yX6_in : MethodName := ⟨RX6, "in", "(III)Z"⟩
abbrev cX6_isBus : ByteArray := prog_8_method_3_code
def yX6_isBus : MethodName := ⟨RX6, "isBus", "(I)Z"⟩
abbrev cX6_isLine : ByteArray := prog_8_method_4_code
def yX6_isLine : MethodName := ⟨RX6, "isLine", "(I)Z"⟩
abbrev cX6_isMachine : ByteArray := prog_8_method_5_code
def yX6_isMachine : MethodName := ⟨RX6, "isMachine", "(I)Z"⟩
abbrev cX6_line : ByteArray := prog_8_method_6_code
def yX6_line : MethodName := ⟨RX6, "line", "(III)I"⟩
abbrev cX6_machine : ByteArray := prog_8_method_7_code
def yX6_machine : MethodName := ⟨RX6, "machine", "(IIII)I"⟩
abbrev cX6_dark : ByteArray := prog_8_method_8_code
def yX6_dark : MethodName := ⟨RX6, "dark", "()I"⟩
abbrev cX6_of : ByteArray := prog_8_method_9_code
def yX6_of : MethodName := ⟨RX6, "of", "(II)I"⟩
abbrev cX6_at : ByteArray := prog_8_method_10_code
def yX6_at : MethodName := ⟨RX6, "at", "(II)I"⟩
abbrev cX6_joinOnce : ByteArray := prog_8_method_11_code
def yX6_joinOnce : MethodName := ⟨RX6, "joinOnce", "()Z"⟩
abbrev cX6_layIslands : ByteArray := prog_8_method_12_code
def yX6_layIslands : MethodName := ⟨RX6, "layIslands", "()V"⟩
abbrev cX6_layNow : ByteArray := prog_8_method_13_code
def yX6_layNow : MethodName := ⟨RX6, "layNow", "()V"⟩
abbrev cX6_isLive : ByteArray := prog_8_method_14_code
def yX6_isLive : MethodName := ⟨RX6, "isLive", "(I)Z"⟩
abbrev cX6_islandSet : ByteArray := prog_8_method_15_code
def yX6_islandSet : MethodName := ⟨RX6, "islandSet", "(I)I"⟩
abbrev cX6_bus : ByteArray := prog_8_method_16_code
def yX6_bus : MethodName := ⟨RX6, "bus", "(II)I"⟩
abbrev cX6_canStart : ByteArray := prog_8_method_17_code
def yX6_canStart : MethodName := ⟨RX6, "canStart", "(I)Z"⟩
abbrev cX6_canClose : ByteArray := prog_8_method_18_code
def yX6_canClose : MethodName := ⟨RX6, "canClose", "(I)Z"⟩
abbrev cX6_canStep : ByteArray := prog_8_method_19_code
def yX6_canStep : MethodName := ⟨RX6, "canStep", "(I)Z"⟩
abbrev cX6_can : ByteArray := prog_8_method_20_code
def yX6_can : MethodName := ⟨RX6, "can", "()I"⟩
abbrev cX6_ranOn : ByteArray := prog_8_method_21_code
def yX6_ranOn : MethodName := ⟨RX6, "ranOn", "(II)I"⟩
abbrev cX6_numberBehind : ByteArray := prog_8_method_22_code
def yX6_numberBehind : MethodName := ⟨RX6, "numberBehind", "(I)I"⟩
abbrev cX6_numberNow : ByteArray := prog_8_method_23_code
def yX6_numberNow : MethodName := ⟨RX6, "numberNow", "()I"⟩
abbrev cX6_layNumber : ByteArray := prog_8_method_24_code
def yX6_layNumber : MethodName := ⟨RX6, "layNumber", "(I)V"⟩
abbrev cX6_become : ByteArray := prog_8_method_25_code
def yX6_become : MethodName := ⟨RX6, "become", "(I)V"⟩
abbrev cX6_tick : ByteArray := prog_8_method_26_code
def yX6_tick : MethodName := ⟨RX6, "tick", "(I)I"⟩
abbrev cX6_openAll : ByteArray := prog_8_method_27_code
def yX6_openAll : MethodName := ⟨RX6, "openAll", "()I"⟩
abbrev cX6_fail : ByteArray := prog_8_method_28_code
def yX6_fail : MethodName := ⟨RX6, "fail", "(I)I"⟩
abbrev cX6_trip : ByteArray := prog_8_method_29_code
def yX6_trip : MethodName := ⟨RX6, "trip", "(I)I"⟩
abbrev cX6_goOn : ByteArray := prog_8_method_30_code
def yX6_goOn : MethodName := ⟨RX6, "goOn", "(II)Z"⟩
abbrev cX6_layAll : ByteArray := prog_8_method_31_code
def yX6_layAll : MethodName := ⟨RX6, "layAll", "(I)V"⟩
abbrev cX6_readySet : ByteArray := prog_8_method_32_code
def yX6_readySet : MethodName := ⟨RX6, "readySet", "()I"⟩
abbrev cX6_liveSet : ByteArray := prog_8_method_33_code
def yX6_liveSet : MethodName := ⟨RX6, "liveSet", "()I"⟩
abbrev cX6_isGoal : ByteArray := prog_8_method_34_code
def yX6_isGoal : MethodName := ⟨RX6, "isGoal", "(III)Z"⟩
abbrev cX6_reached : ByteArray := prog_8_method_35_code
def yX6_reached : MethodName := ⟨RX6, "reached", "(II)I"⟩
abbrev cX6_stepOn : ByteArray := prog_8_method_36_code
def yX6_stepOn : MethodName := ⟨RX6, "stepOn", "(I)I"⟩
abbrev cX6_layLeads : ByteArray := prog_8_method_37_code
def yX6_layLeads : MethodName := ⟨RX6, "layLeads", "(III)V"⟩
abbrev cX6_layWay : ByteArray := prog_8_method_38_code
def yX6_layWay : MethodName := ⟨RX6, "layWay", "(II)I"⟩
abbrev cX6_areSets : ByteArray := prog_8_method_39_code
def yX6_areSets : MethodName := ⟨RX6, "areSets", "(II)Z"⟩
abbrev cX6_way : ByteArray := prog_8_method_40_code
def yX6_way : MethodName := ⟨RX6, "way", "(III)I"⟩
abbrev cX6_go : ByteArray := prog_8_method_41_code
def yX6_go : MethodName := ⟨RX6, "go", "(II)I"⟩
abbrev cX6_canWithout : ByteArray := prog_8_method_42_code
def yX6_canWithout : MethodName := ⟨RX6, "canWithout", "(III)Z"⟩
abbrev cX6_neededLines : ByteArray := prog_8_method_43_code
def yX6_neededLines : MethodName := ⟨RX6, "neededLines", "(II)I"⟩
abbrev cX6_neededMachines : ByteArray := prog_8_method_44_code
def yX6_neededMachines : MethodName := ⟨RX6, "neededMachines", "(II)I"⟩
abbrev cX6_needed : ByteArray := prog_8_method_45_code
def yX6_needed : MethodName := ⟨RX6, "needed", "(III)I"⟩
abbrev cX6_ever : ByteArray := prog_8_method_46_code
def yX6_ever : MethodName := ⟨RX6, "ever", "(I)I"⟩
abbrev cX6_image : ByteArray := prog_8_method_47_code
def yX6_image : MethodName := ⟨RX6, "image", "(I)I"⟩
abbrev cX6_restore : ByteArray := prog_8_method_48_code
def yX6_restore : MethodName := ⟨RX6, "restore", "(I)I"⟩
abbrev cX6_size : ByteArray := prog_8_method_49_code
def yX6_size : MethodName := ⟨RX6, "size", "(I)I"⟩
abbrev cX6_sumOf : ByteArray := prog_8_method_50_code
def yX6_sumOf : MethodName := ⟨RX6, "sumOf", "(II)I"⟩
abbrev cX6_liveIslands : ByteArray := prog_8_method_51_code
def yX6_liveIslands : MethodName := ⟨RX6, "liveIslands", "()I"⟩
abbrev cX6_count : ByteArray := prog_8_method_52_code
def yX6_count : MethodName := ⟨RX6, "count", "(I)I"⟩
def RJ6 : String := "java/lang/Integer"
def TJ6 : u_T := fun k => match k with
  | _ => ("", "", "", false)
def tyJ6 : Nat → FieldType := fun k => match k with
  | _ => .int
abbrev wsJ60 : List Cond := u_ws RJ6 TJ6 0
theorem nmJ6 : ∀ a, a < 0 → ∀ b, b < 0 → a ≠ b → (TJ6 a).2.1 ≠ (TJ6 b).2.1 := by decide +kernel
theorem tyJ6_ok : ∀ k, k < 0 → parseFieldDescriptor (TJ6 k).2.2.1 = some (tyJ6 k) := by decide +kernel
abbrev cJ6_bitCount_0f7a4 : ByteArray := prog_9_method_49_code
def yJ6_bitCount_0f7a4 : MethodName := ⟨RJ6, "bitCount", "(I)I"⟩
def RJ9 : String := "java/lang/Math"
def TJ9 : u_T := fun k => match k with
  | _ => ("", "", "", false)
def tyJ9 : Nat → FieldType := fun k => match k with
  | _ => .int
abbrev wsJ90 : List Cond := u_ws RJ9 TJ9 0
theorem nmJ9 : ∀ a, a < 0 → ∀ b, b < 0 → a ≠ b → (TJ9 a).2.1 ≠ (TJ9 b).2.1 := by decide +kernel
theorem tyJ9_ok : ∀ k, k < 0 → parseFieldDescriptor (TJ9 k).2.2.1 = some (tyJ9 k) := by decide +kernel
abbrev cJ9_max_7cf53 : ByteArray := prog_10_method_65_code
def yJ9_max_7cf53 : MethodName := ⟨RJ9, "max", "(II)I"⟩
abbrev cJ9_min_7cf53 : ByteArray := prog_10_method_69_code
def yJ9_min_7cf53 : MethodName := ⟨RJ9, "min", "(II)I"⟩
def RJ10 : String := "java/lang/System"
def TJ10 : u_T := fun k => match k with
  | _ => ("", "", "", false)
def tyJ10 : Nat → FieldType := fun k => match k with
  | _ => .int
abbrev wsJ100 : List Cond := u_ws RJ10 TJ10 0
theorem nmJ10 : ∀ a, a < 0 → ∀ b, b < 0 → a ≠ b → (TJ10 a).2.1 ≠ (TJ10 b).2.1 := by decide +kernel
theorem tyJ10_ok : ∀ k, k < 0 → parseFieldDescriptor (TJ10 k).2.2.1 = some (tyJ10 k) := by decide +kernel
def RL : String := "GridStartsLaw"
abbrev cL_law : ByteArray := code
def yL_law : MethodName := ⟨RL, "law", "([I)Z"⟩
abbrev vwCl : List vw_C := [(RX1, TX1, 11), (RX2, TX2, 2), (RX3, TX3, 2), (RX4, TX4, 5), (RX5, TX5, 6), (RX6, TX6, 12)]
end
section
def TW : List Cond := lw_tbl.filter goodWord
theorem tw_of {w : Cond} (h : w ∈ lw_tbl) (hg : goodWord w = true) : w ∈ TW := List.mem_filter.mpr ⟨h, hg⟩
theorem tw_p {i : Nat} {q : MethodName × Nat} (h : lw_privs[i]? = some q) : Cond.selects q.1.cls q.1 q.1 ∈ TW := tw_of (List.mem_append_left _ (List.mem_map.mpr ⟨q, List.mem_of_getElem? h, rfl⟩)) rfl
theorem tw_1 {w : Cond} (i : Nat) (h : tables_1_1[i]? = some w) (hg : goodWord w = true) : w ∈ TW := tw_of (List.mem_append_right _ (List.mem_append_left _ (List.mem_of_getElem? h))) hg
theorem tw_2 {w : Cond} (i : Nat) (h : tables_1_2[i]? = some w) (hg : goodWord w = true) : w ∈ TW := tw_of (List.mem_append_right _ (List.mem_append_right _ (List.mem_append_left _ (List.mem_of_getElem? h)))) hg
theorem tw_3 {w : Cond} (i : Nat) (h : tables_1_3[i]? = some w) (hg : goodWord w = true) : w ∈ TW := tw_of (List.mem_append_right _ (List.mem_append_right _ (List.mem_append_right _ (List.mem_of_getElem? h)))) hg
theorem tk_0 : Cond.selects RX2 yX2_join yX2_join ∈ TW := tw_p (i := 0) rfl
theorem tk_1 : Cond.selects RX3 yX3_spareOf yX3_spareOf ∈ TW := tw_p (i := 1) rfl
theorem tk_2 : Cond.selects RX3 yX3_canCrank yX3_canCrank ∈ TW := tw_p (i := 2) rfl
theorem tk_3 : Cond.selects RX3 yX3_canCarry yX3_canCarry ∈ TW := tw_p (i := 3) rfl
theorem tk_4 : Cond.selects RX5 yX5_openLost yX5_openLost ∈ TW := tw_p (i := 4) rfl
theorem tk_5 : Cond.selects RX5 yX5_isGoal yX5_isGoal ∈ TW := tw_p (i := 5) rfl
theorem tk_6 : Cond.selects RX4 yX4_explore yX4_explore ∈ TW := tw_p (i := 6) rfl
theorem tk_7 : Cond.selects RX4 yX4_forget yX4_forget ∈ TW := tw_p (i := 7) rfl
theorem tk_8 : Cond.selects RX4 yX4_add yX4_add ∈ TW := tw_p (i := 8) rfl
theorem tk_9 : Cond.selects RX6 yX6_isLine yX6_isLine ∈ TW := tw_p (i := 9) rfl
theorem tk_10 : Cond.selects RX6 yX6_isMachine yX6_isMachine ∈ TW := tw_p (i := 10) rfl
theorem tk_11 : Cond.selects RX6 yX6_layNow yX6_layNow ∈ TW := tw_p (i := 11) rfl
theorem tk_12 : Cond.selects RX6 yX6_layIslands yX6_layIslands ∈ TW := tw_p (i := 12) rfl
theorem tk_13 : Cond.selects RX6 yX6_joinOnce yX6_joinOnce ∈ TW := tw_p (i := 13) rfl
theorem tk_14 : Cond.selects RX6 yX6_islandSet yX6_islandSet ∈ TW := tw_p (i := 14) rfl
theorem tk_15 : Cond.selects RX6 yX6_isLive yX6_isLive ∈ TW := tw_p (i := 15) rfl
theorem tk_16 : Cond.selects RX6 yX6_canStep yX6_canStep ∈ TW := tw_p (i := 16) rfl
theorem tk_17 : Cond.selects RX6 yX6_canStart yX6_canStart ∈ TW := tw_p (i := 17) rfl
theorem tk_18 : Cond.selects RX6 yX6_canClose yX6_canClose ∈ TW := tw_p (i := 18) rfl
theorem tk_19 : Cond.selects RX6 yX6_numberBehind yX6_numberBehind ∈ TW := tw_p (i := 19) rfl
theorem tk_20 : Cond.selects RX6 yX6_ranOn yX6_ranOn ∈ TW := tw_p (i := 20) rfl
theorem tk_21 : Cond.selects RX6 yX6_become yX6_become ∈ TW := tw_p (i := 21) rfl
theorem tk_22 : Cond.selects RX6 yX6_openAll yX6_openAll ∈ TW := tw_p (i := 22) rfl
theorem tk_23 : Cond.selects RX6 yX6_areSets yX6_areSets ∈ TW := tw_p (i := 23) rfl
theorem tk_24 : Cond.selects RX6 yX6_layWay yX6_layWay ∈ TW := tw_p (i := 24) rfl
theorem tk_25 : Cond.selects RX6 yX6_layAll yX6_layAll ∈ TW := tw_p (i := 25) rfl
theorem tk_26 : Cond.selects RX6 yX6_numberNow yX6_numberNow ∈ TW := tw_p (i := 26) rfl
theorem tk_27 : Cond.selects RX6 yX6_goOn yX6_goOn ∈ TW := tw_p (i := 27) rfl
theorem tk_28 : Cond.selects RX6 yX6_layNumber yX6_layNumber ∈ TW := tw_p (i := 28) rfl
theorem tk_29 : Cond.selects RX6 yX6_reached yX6_reached ∈ TW := tw_p (i := 29) rfl
theorem tk_30 : Cond.selects RX6 yX6_isGoal yX6_isGoal ∈ TW := tw_p (i := 30) rfl
theorem tk_31 : Cond.selects RX6 yX6_readySet yX6_readySet ∈ TW := tw_p (i := 31) rfl
theorem tk_32 : Cond.selects RX6 yX6_liveSet yX6_liveSet ∈ TW := tw_p (i := 32) rfl
theorem tk_33 : Cond.selects RX6 yX6_layLeads yX6_layLeads ∈ TW := tw_p (i := 33) rfl
theorem tk_34 : Cond.selects RX6 yX6_stepOn yX6_stepOn ∈ TW := tw_p (i := 34) rfl
theorem tk_35 : Cond.selects RX6 yX6_canWithout yX6_canWithout ∈ TW := tw_p (i := 35) rfl
theorem tk_36 : Cond.selects RX6 yX6_neededLines yX6_neededLines ∈ TW := tw_p (i := 36) rfl
theorem tk_37 : Cond.selects RX6 yX6_neededMachines yX6_neededMachines ∈ TW := tw_p (i := 37) rfl
theorem tk_38 : Cond.selects RX6 yX6_sumOf yX6_sumOf ∈ TW := tw_p (i := 38) rfl
theorem tk_39 : Cond.selects RX6 yX6_liveIslands yX6_liveIslands ∈ TW := tw_p (i := 39) rfl
theorem tk_40 : Cond.initialized RL ∈ TW := tw_1 0 rfl rfl
theorem tk_41 : Cond.initialized RX5 ∈ TW := tw_1 1 rfl rfl
theorem tk_42 : Cond.initialized RX1 ∈ TW := tw_1 2 rfl rfl
theorem tk_43 : Cond.initialized RX2 ∈ TW := tw_1 3 rfl rfl
theorem tk_44 : Cond.initialized RX3 ∈ TW := tw_1 4 rfl rfl
theorem tk_45 : Cond.initialized RX4 ∈ TW := tw_1 5 rfl rfl
theorem tk_46 : Cond.initialized RX6 ∈ TW := tw_1 6 rfl rfl
theorem tk_47 : Cond.initialized RJ9 ∈ TW := tw_1 7 rfl rfl
theorem tk_48 : Cond.initialized RX0 ∈ TW := tw_1 8 rfl rfl
theorem tk_49 : Cond.initialized RJ6 ∈ TW := tw_1 9 rfl rfl
theorem tk_50 : Cond.initialized RJ10 ∈ TW := tw_1 10 rfl rfl
theorem tk_51 : Cond.classLink RL 7 "GridStarts" ∈ TW := tw_1 11 rfl rfl
theorem tk_52 : Cond.instantiable RX5 6 ∈ TW := tw_1 12 rfl rfl
theorem tk_53 : Cond.methodLink RL 9 yX5_init ∈ TW := tw_1 13 rfl rfl
theorem tk_54 : Cond.instanceMethod yX5_init ∈ TW := tw_1 14 rfl rfl
theorem tk_55 : Cond.code yX5_init cX5_init 2 none ∈ TW := tw_1 15 rfl rfl
theorem tk_56 : Cond.methodLink RX5 3 ⟨"java/lang/Object", "<init>", "()V"⟩ ∈ TW := tw_1 16 rfl rfl
theorem tk_57 : Cond.instanceMethod ⟨"java/lang/Object", "<init>", "()V"⟩ ∈ TW := tw_1 17 rfl rfl
theorem tk_58 : Cond.code ⟨"java/lang/Object", "<init>", "()V"⟩ object_method_1_code 1 none ∈ TW := tw_1 18 rfl rfl
theorem tk_59 : Cond.classLink RX5 9 "GridStarts$Grid" ∈ TW := tw_1 19 rfl rfl
theorem tk_60 : Cond.instantiable RX1 11 ∈ TW := tw_1 20 rfl rfl
theorem tk_62 : Cond.instanceMethod yX1_init ∈ TW := tw_1 22 rfl rfl
theorem tk_63 : Cond.code yX1_init cX1_init 1 none ∈ TW := tw_1 23 rfl rfl
theorem tk_64 : Cond.methodLink RX1 3 ⟨"java/lang/Object", "<init>", "()V"⟩ ∈ TW := tw_1 24 rfl rfl
theorem tk_65 : Cond.fieldLink RX1 39 "GridStarts$Grid" "lines" "I" ∈ TW := tw_1 25 rfl rfl
theorem tk_66 : Cond.fieldLink RX5 57 "GridStarts$Grid" "lines" "I" ∈ TW := tw_1 26 rfl rfl
theorem tk_67 : Cond.fieldLink RX3 81 "GridStarts$Grid" "lines" "I" ∈ TW := tw_1 27 rfl rfl
theorem tk_68 : Cond.fieldLink RX1 9 "GridStarts$Grid" "lesser" "[I" ∈ TW := tw_1 28 rfl rfl
theorem tk_69 : Cond.fieldLink RX2 22 "GridStarts$Grid" "lesser" "[I" ∈ TW := tw_1 29 rfl rfl
theorem tk_70 : Cond.fieldLink RX5 104 "GridStarts$Grid" "lesser" "[I" ∈ TW := tw_1 30 rfl rfl
theorem tk_71 : Cond.fieldLink RX3 90 "GridStarts$Grid" "lesser" "[I" ∈ TW := tw_1 31 rfl rfl
theorem tk_72 : Cond.fieldLink RX1 15 "GridStarts$Grid" "greater" "[I" ∈ TW := tw_1 32 rfl rfl
theorem tk_73 : Cond.fieldLink RX2 27 "GridStarts$Grid" "greater" "[I" ∈ TW := tw_1 33 rfl rfl
theorem tk_74 : Cond.fieldLink RX5 108 "GridStarts$Grid" "greater" "[I" ∈ TW := tw_1 34 rfl rfl
theorem tk_75 : Cond.fieldLink RX3 93 "GridStarts$Grid" "greater" "[I" ∈ TW := tw_1 35 rfl rfl
theorem tk_76 : Cond.fieldLink RX1 18 "GridStarts$Grid" "charge" "[I" ∈ TW := tw_1 36 rfl rfl
theorem tk_77 : Cond.fieldLink RX2 34 "GridStarts$Grid" "charge" "[I" ∈ TW := tw_1 37 rfl rfl
theorem tk_78 : Cond.fieldLink RX5 111 "GridStarts$Grid" "charge" "[I" ∈ TW := tw_1 38 rfl rfl
theorem tk_79 : Cond.fieldLink RX3 19 "GridStarts$Grid" "machines" "I" ∈ TW := tw_1 39 rfl rfl
theorem tk_80 : Cond.fieldLink RX1 42 "GridStarts$Grid" "machines" "I" ∈ TW := tw_1 40 rfl rfl
theorem tk_81 : Cond.fieldLink RX5 77 "GridStarts$Grid" "machines" "I" ∈ TW := tw_1 41 rfl rfl
theorem tk_82 : Cond.fieldLink RX1 21 "GridStarts$Grid" "home" "[I" ∈ TW := tw_1 42 rfl rfl
theorem tk_83 : Cond.fieldLink RX3 35 "GridStarts$Grid" "home" "[I" ∈ TW := tw_1 43 rfl rfl
theorem tk_84 : Cond.fieldLink RX5 123 "GridStarts$Grid" "home" "[I" ∈ TW := tw_1 44 rfl rfl
theorem tk_85 : Cond.fieldLink RX1 24 "GridStarts$Grid" "crank" "[I" ∈ TW := tw_1 45 rfl rfl
theorem tk_86 : Cond.fieldLink RX5 126 "GridStarts$Grid" "crank" "[I" ∈ TW := tw_1 46 rfl rfl
theorem tk_87 : Cond.fieldLink RX3 87 "GridStarts$Grid" "crank" "[I" ∈ TW := tw_1 47 rfl rfl
theorem tk_88 : Cond.fieldLink RX1 27 "GridStarts$Grid" "power" "[I" ∈ TW := tw_1 48 rfl rfl
theorem tk_89 : Cond.fieldLink RX3 64 "GridStarts$Grid" "power" "[I" ∈ TW := tw_1 49 rfl rfl
theorem tk_90 : Cond.fieldLink RX5 129 "GridStarts$Grid" "power" "[I" ∈ TW := tw_1 50 rfl rfl
theorem tk_91 : Cond.fieldLink RX1 30 "GridStarts$Grid" "ramp" "[I" ∈ TW := tw_1 51 rfl rfl
theorem tk_92 : Cond.fieldLink RX5 132 "GridStarts$Grid" "ramp" "[I" ∈ TW := tw_1 52 rfl rfl
theorem tk_93 : Cond.fieldLink RX3 99 "GridStarts$Grid" "ramp" "[I" ∈ TW := tw_1 53 rfl rfl
theorem tk_94 : Cond.fieldLink RX1 35 "GridStarts$Grid" "code" "I" ∈ TW := tw_1 54 rfl rfl
theorem tk_95 : Cond.fieldLink RX5 84 "GridStarts$Grid" "code" "I" ∈ TW := tw_1 55 rfl rfl
theorem tk_96 : Cond.fieldLink RX5 98 "GridStarts$Grid" "now" "I" ∈ TW := tw_1 56 rfl rfl
theorem tk_97 : Cond.fieldLink RX1 45 "GridStarts$Grid" "now" "I" ∈ TW := tw_1 57 rfl rfl
theorem tk_98 : Cond.lays "GridStarts$Grid" "GridStarts$Grid" "lines" "I" ∈ TW := tw_1 58 rfl rfl
theorem tk_100 : Cond.laysFinal "GridStarts$Grid" "GridStarts$Grid" "lesser" "[I" ∈ TW := tw_1 60 rfl rfl
theorem tk_102 : Cond.laysFinal "GridStarts$Grid" "GridStarts$Grid" "greater" "[I" ∈ TW := tw_1 62 rfl rfl
theorem tk_104 : Cond.laysFinal "GridStarts$Grid" "GridStarts$Grid" "charge" "[I" ∈ TW := tw_1 64 rfl rfl
theorem tk_106 : Cond.lays "GridStarts$Grid" "GridStarts$Grid" "machines" "I" ∈ TW := tw_1 66 rfl rfl
theorem tk_108 : Cond.laysFinal "GridStarts$Grid" "GridStarts$Grid" "home" "[I" ∈ TW := tw_1 68 rfl rfl
theorem tk_110 : Cond.laysFinal "GridStarts$Grid" "GridStarts$Grid" "crank" "[I" ∈ TW := tw_1 70 rfl rfl
theorem tk_112 : Cond.laysFinal "GridStarts$Grid" "GridStarts$Grid" "power" "[I" ∈ TW := tw_1 72 rfl rfl
theorem tk_114 : Cond.laysFinal "GridStarts$Grid" "GridStarts$Grid" "ramp" "[I" ∈ TW := tw_1 74 rfl rfl
theorem tk_116 : Cond.lays "GridStarts$Grid" "GridStarts$Grid" "code" "I" ∈ TW := tw_1 76 rfl rfl
theorem tk_118 : Cond.lays "GridStarts$Grid" "GridStarts$Grid" "now" "I" ∈ TW := tw_1 78 rfl rfl
theorem tk_121 : Cond.arrayClass FieldType.int ∈ TW := tw_1 81 rfl rfl
theorem tk_122 : Cond.classLink RX5 16 "GridStarts$Islands" ∈ TW := tw_1 82 rfl rfl
theorem tk_123 : Cond.instantiable RX2 2 ∈ TW := tw_1 83 rfl rfl
theorem tk_124 : Cond.methodLink RX5 18 yX2_init ∈ TW := tw_1 84 rfl rfl
theorem tk_125 : Cond.instanceMethod yX2_init ∈ TW := tw_1 85 rfl rfl
theorem tk_126 : Cond.code yX2_init cX2_init 2 none ∈ TW := tw_1 86 rfl rfl
theorem tk_127 : Cond.methodLink RX2 3 ⟨"java/lang/Object", "<init>", "()V"⟩ ∈ TW := tw_1 87 rfl rfl
theorem tk_128 : Cond.fieldLink RX2 9 "GridStarts$Islands" "sets" "[I" ∈ TW := tw_1 88 rfl rfl
theorem tk_129 : Cond.fieldLink RX2 15 "GridStarts$Islands" "draws" "[I" ∈ TW := tw_1 89 rfl rfl
theorem tk_130 : Cond.laysFinal "GridStarts$Islands" "GridStarts$Islands" "sets" "[I" ∈ TW := tw_1 90 rfl rfl
theorem tk_132 : Cond.laysFinal "GridStarts$Islands" "GridStarts$Islands" "draws" "[I" ∈ TW := tw_1 92 rfl rfl
theorem tk_135 : Cond.classLink RX5 23 "GridStarts$Rules" ∈ TW := tw_1 95 rfl rfl
theorem tk_136 : Cond.instantiable RX3 2 ∈ TW := tw_1 96 rfl rfl
theorem tk_137 : Cond.methodLink RX5 25 yX3_init ∈ TW := tw_1 97 rfl rfl
theorem tk_138 : Cond.instanceMethod yX3_init ∈ TW := tw_1 98 rfl rfl
theorem tk_139 : Cond.code yX3_init cX3_init 3 none ∈ TW := tw_1 99 rfl rfl
theorem tk_140 : Cond.methodLink RX3 3 ⟨"java/lang/Object", "<init>", "()V"⟩ ∈ TW := tw_1 100 rfl rfl
theorem tk_141 : Cond.fieldLink RX3 9 "GridStarts$Rules" "grid" "LGridStarts$Grid;" ∈ TW := tw_1 101 rfl rfl
theorem tk_142 : Cond.fieldLink RX3 15 "GridStarts$Rules" "islands" "LGridStarts$Islands;" ∈ TW := tw_1 102 rfl rfl
theorem tk_143 : Cond.laysFinal "GridStarts$Rules" "GridStarts$Rules" "grid" "LGridStarts$Grid;" ∈ TW := tw_1 103 rfl rfl
theorem tk_145 : Cond.laysFinal "GridStarts$Rules" "GridStarts$Rules" "islands" "LGridStarts$Islands;" ∈ TW := tw_1 105 rfl rfl
theorem tk_148 : Cond.classLink RX5 32 "GridStarts$Search" ∈ TW := tw_1 108 rfl rfl
theorem tk_149 : Cond.instantiable RX4 5 ∈ TW := tw_1 109 rfl rfl
theorem tk_150 : Cond.methodLink RX5 34 yX4_init ∈ TW := tw_1 110 rfl rfl
theorem tk_151 : Cond.instanceMethod yX4_init ∈ TW := tw_1 111 rfl rfl
theorem tk_152 : Cond.code yX4_init cX4_init 2 none ∈ TW := tw_1 112 rfl rfl
theorem tk_153 : Cond.methodLink RX4 3 ⟨"java/lang/Object", "<init>", "()V"⟩ ∈ TW := tw_1 113 rfl rfl
theorem tk_154 : Cond.fieldLink RX4 23 "GridStarts$Search" "rules" "LGridStarts$Rules;" ∈ TW := tw_1 114 rfl rfl
theorem tk_155 : Cond.fieldLink RX4 11 "GridStarts$Search" "codes" "[I" ∈ TW := tw_1 115 rfl rfl
theorem tk_156 : Cond.fieldLink RX4 15 "GridStarts$Search" "origins" "[I" ∈ TW := tw_1 116 rfl rfl
theorem tk_157 : Cond.fieldLink RX4 20 "GridStarts$Search" "seen" "[I" ∈ TW := tw_1 117 rfl rfl
theorem tk_158 : Cond.fieldLink RX4 53 "GridStarts$Search" "size" "I" ∈ TW := tw_1 118 rfl rfl
theorem tk_159 : Cond.laysFinal "GridStarts$Search" "GridStarts$Search" "rules" "LGridStarts$Rules;" ∈ TW := tw_1 119 rfl rfl
theorem tk_161 : Cond.laysFinal "GridStarts$Search" "GridStarts$Search" "codes" "[I" ∈ TW := tw_1 121 rfl rfl
theorem tk_163 : Cond.laysFinal "GridStarts$Search" "GridStarts$Search" "origins" "[I" ∈ TW := tw_1 123 rfl rfl
theorem tk_165 : Cond.laysFinal "GridStarts$Search" "GridStarts$Search" "seen" "[I" ∈ TW := tw_1 125 rfl rfl
theorem tk_167 : Cond.lays "GridStarts$Search" "GridStarts$Search" "size" "I" ∈ TW := tw_1 127 rfl rfl
theorem tk_171 : Cond.fieldLink RX5 12 "GridStarts" "grid" "LGridStarts$Grid;" ∈ TW := tw_1 131 rfl rfl
theorem tk_172 : Cond.fieldLink RX5 19 "GridStarts" "islands" "LGridStarts$Islands;" ∈ TW := tw_1 132 rfl rfl
theorem tk_173 : Cond.fieldLink RX5 28 "GridStarts" "rules" "LGridStarts$Rules;" ∈ TW := tw_1 133 rfl rfl
theorem tk_174 : Cond.fieldLink RX5 37 "GridStarts" "search" "LGridStarts$Search;" ∈ TW := tw_1 134 rfl rfl
theorem tk_175 : Cond.fieldLink RX5 41 "GridStarts" "images" "[LGridStarts$Grid;" ∈ TW := tw_1 135 rfl rfl
theorem tk_176 : Cond.fieldLink RX5 45 "GridStarts" "kept" "I" ∈ TW := tw_1 136 rfl rfl
theorem tk_177 : Cond.laysFinal "GridStarts" "GridStarts" "grid" "LGridStarts$Grid;" ∈ TW := tw_1 137 rfl rfl
theorem tk_179 : Cond.laysFinal "GridStarts" "GridStarts" "islands" "LGridStarts$Islands;" ∈ TW := tw_1 139 rfl rfl
theorem tk_181 : Cond.laysFinal "GridStarts" "GridStarts" "rules" "LGridStarts$Rules;" ∈ TW := tw_1 141 rfl rfl
theorem tk_183 : Cond.laysFinal "GridStarts" "GridStarts" "search" "LGridStarts$Search;" ∈ TW := tw_1 143 rfl rfl
theorem tk_185 : Cond.laysFinal "GridStarts" "GridStarts" "images" "[LGridStarts$Grid;" ∈ TW := tw_1 145 rfl rfl
theorem tk_187 : Cond.lays "GridStarts" "GridStarts" "kept" "I" ∈ TW := tw_1 147 rfl rfl
theorem tk_190 : Cond.methodLink RL 13 yX5_line ∈ TW := tw_1 150 rfl rfl
theorem tk_191 : Cond.instanceMethod yX5_line ∈ TW := tw_1 151 rfl rfl
theorem tk_192 : Cond.selects RX5 yX5_line yX5_line ∈ TW := tw_1 152 rfl rfl
theorem tk_193 : Cond.code yX5_line cX5_line 5 (some FieldType.int) ∈ TW := tw_1 153 rfl rfl
theorem tk_194 : Cond.methodLink RX5 49 yX5_isBus ∈ TW := tw_1 154 rfl rfl
theorem tk_195 : Cond.static yX5_isBus ∈ TW := tw_1 155 rfl rfl
theorem tk_196 : Cond.code yX5_isBus cX5_isBus 1 (some FieldType.boolean) ∈ TW := tw_1 156 rfl rfl
theorem tk_197 : Cond.methodLink RX5 53 yX5_isWithin ∈ TW := tw_1 157 rfl rfl
theorem tk_198 : Cond.static yX5_isWithin ∈ TW := tw_1 158 rfl rfl
theorem tk_199 : Cond.code yX5_isWithin cX5_isWithin 2 (some FieldType.boolean) ∈ TW := tw_1 159 rfl rfl
theorem tk_200 : Cond.methodLink RX5 60 yJ9_min_7cf53 ∈ TW := tw_1 160 rfl rfl
theorem tk_201 : Cond.static yJ9_min_7cf53 ∈ TW := tw_1 161 rfl rfl
theorem tk_202 : Cond.code yJ9_min_7cf53 cJ9_min_7cf53 2 (some FieldType.int) ∈ TW := tw_1 162 rfl rfl
theorem tk_203 : Cond.methodLink RX5 66 yJ9_max_7cf53 ∈ TW := tw_1 163 rfl rfl
theorem tk_204 : Cond.static yJ9_max_7cf53 ∈ TW := tw_1 164 rfl rfl
theorem tk_205 : Cond.code yJ9_max_7cf53 cJ9_max_7cf53 2 (some FieldType.int) ∈ TW := tw_1 165 rfl rfl
theorem tk_206 : Cond.methodLink RX5 69 yX1_addLine ∈ TW := tw_1 166 rfl rfl
theorem tk_207 : Cond.instanceMethod yX1_addLine ∈ TW := tw_1 167 rfl rfl
theorem tk_208 : Cond.selects RX1 yX1_addLine yX1_addLine ∈ TW := tw_1 168 rfl rfl
theorem tk_209 : Cond.code yX1_addLine cX1_addLine 5 (some FieldType.int) ∈ TW := tw_1 169 rfl rfl
theorem tk_210 : Cond.methodLink RX5 73 yX2_learnLine ∈ TW := tw_1 170 rfl rfl
theorem tk_211 : Cond.instanceMethod yX2_learnLine ∈ TW := tw_1 171 rfl rfl
theorem tk_212 : Cond.selects RX2 yX2_learnLine yX2_learnLine ∈ TW := tw_1 172 rfl rfl
theorem tk_213 : Cond.code yX2_learnLine cX2_learnLine 5 none ∈ TW := tw_1 173 rfl rfl
theorem tk_214 : Cond.methodLink RX2 18 yX2_join ∈ TW := tw_1 174 rfl rfl
theorem tk_216 : Cond.instanceMethod yX2_join ∈ TW := tw_1 176 rfl rfl
theorem tk_217 : Cond.code yX2_join cX2_join 11 none ∈ TW := tw_1 177 rfl rfl
theorem tk_218 : Cond.methodLink RX2 30 yX2_busesWith ∈ TW := tw_1 178 rfl rfl
theorem tk_219 : Cond.instanceMethod yX2_busesWith ∈ TW := tw_1 179 rfl rfl
theorem tk_220 : Cond.selects RX2 yX2_busesWith yX2_busesWith ∈ TW := tw_1 180 rfl rfl
theorem tk_221 : Cond.code yX2_busesWith cX2_busesWith 3 (some FieldType.int) ∈ TW := tw_1 181 rfl rfl
theorem tk_222 : Cond.methodLink RX2 37 yX2_drawAround ∈ TW := tw_1 182 rfl rfl
theorem tk_223 : Cond.instanceMethod yX2_drawAround ∈ TW := tw_1 183 rfl rfl
theorem tk_224 : Cond.selects RX2 yX2_drawAround yX2_drawAround ∈ TW := tw_1 184 rfl rfl
theorem tk_225 : Cond.code yX2_drawAround cX2_drawAround 3 (some FieldType.int) ∈ TW := tw_1 185 rfl rfl
theorem tk_227 : Cond.static yX5_bit ∈ TW := tw_1 187 rfl rfl
theorem tk_228 : Cond.code yX5_bit cX5_bit 2 (some FieldType.int) ∈ TW := tw_1 188 rfl rfl
theorem tk_229 : Cond.methodLink RL 18 yX5_machine ∈ TW := tw_1 189 rfl rfl
theorem tk_230 : Cond.instanceMethod yX5_machine ∈ TW := tw_1 190 rfl rfl
theorem tk_231 : Cond.selects RX5 yX5_machine yX5_machine ∈ TW := tw_1 191 rfl rfl
theorem tk_232 : Cond.code yX5_machine cX5_machine 5 (some FieldType.int) ∈ TW := tw_1 192 rfl rfl
theorem tk_233 : Cond.methodLink RX5 80 yX1_addMachine ∈ TW := tw_1 193 rfl rfl
theorem tk_234 : Cond.instanceMethod yX1_addMachine ∈ TW := tw_1 194 rfl rfl
theorem tk_235 : Cond.selects RX1 yX1_addMachine yX1_addMachine ∈ TW := tw_1 195 rfl rfl
theorem tk_236 : Cond.code yX1_addMachine cX1_addMachine 6 (some FieldType.int) ∈ TW := tw_1 196 rfl rfl
theorem tk_237 : Cond.methodLink RL 23 yX5_dark ∈ TW := tw_1 197 rfl rfl
theorem tk_238 : Cond.instanceMethod yX5_dark ∈ TW := tw_1 198 rfl rfl
theorem tk_239 : Cond.selects RX5 yX5_dark yX5_dark ∈ TW := tw_1 199 rfl rfl
theorem tk_240 : Cond.code yX5_dark cX5_dark 2 (some FieldType.int) ∈ TW := tw_1 200 rfl rfl
theorem tk_241 : Cond.methodLink RX5 87 yX0_running ∈ TW := tw_1 201 rfl rfl
theorem tk_242 : Cond.static yX0_running ∈ TW := tw_1 202 rfl rfl
theorem tk_243 : Cond.code yX0_running cX0_running 1 (some FieldType.int) ∈ TW := tw_1 203 rfl rfl
theorem tk_244 : Cond.methodLink RX5 93 yJ6_bitCount_0f7a4 ∈ TW := tw_1 204 rfl rfl
theorem tk_245 : Cond.static yJ6_bitCount_0f7a4 ∈ TW := tw_1 205 rfl rfl
theorem tk_246 : Cond.code yJ6_bitCount_0f7a4 cJ6_bitCount_0f7a4 1 (some FieldType.int) ∈ TW := tw_1 206 rfl rfl
theorem tk_247 : Cond.constant RJ6 265 1431655765 ∈ TW := tw_1 207 rfl rfl
theorem tk_248 : Cond.constant RJ6 266 858993459 ∈ TW := tw_1 208 rfl rfl
theorem tk_249 : Cond.constant RJ6 267 252645135 ∈ TW := tw_1 209 rfl rfl
theorem tk_250 : Cond.methodLink RL 28 yX5_of ∈ TW := tw_1 210 rfl rfl
theorem tk_251 : Cond.instanceMethod yX5_of ∈ TW := tw_1 211 rfl rfl
theorem tk_252 : Cond.selects RX5 yX5_of yX5_of ∈ TW := tw_1 212 rfl rfl
theorem tk_253 : Cond.code yX5_of cX5_of 3 (some FieldType.int) ∈ TW := tw_1 213 rfl rfl
theorem tk_254 : Cond.methodLink RX5 101 yX1_hasLine ∈ TW := tw_1 214 rfl rfl
theorem tk_255 : Cond.instanceMethod yX1_hasLine ∈ TW := tw_1 215 rfl rfl
theorem tk_256 : Cond.selects RX1 yX1_hasLine yX1_hasLine ∈ TW := tw_1 216 rfl rfl
theorem tk_257 : Cond.code yX1_hasLine cX1_hasLine 2 (some FieldType.boolean) ∈ TW := tw_1 217 rfl rfl
theorem tk_258 : Cond.methodLink RX5 114 yX0_closed ∈ TW := tw_1 218 rfl rfl
theorem tk_259 : Cond.static yX0_closed ∈ TW := tw_1 219 rfl rfl
theorem tk_260 : Cond.code yX0_closed cX0_closed 1 (some FieldType.int) ∈ TW := tw_1 220 rfl rfl
theorem tk_261 : Cond.methodLink RX5 117 yX5_bit ∈ TW := tw_1 221 rfl rfl
theorem tk_262 : Cond.methodLink RL 33 yX5_at ∈ TW := tw_1 222 rfl rfl
theorem tk_263 : Cond.instanceMethod yX5_at ∈ TW := tw_1 223 rfl rfl
theorem tk_264 : Cond.selects RX5 yX5_at yX5_at ∈ TW := tw_1 224 rfl rfl
theorem tk_265 : Cond.code yX5_at cX5_at 3 (some FieldType.int) ∈ TW := tw_1 225 rfl rfl
theorem tk_266 : Cond.methodLink RX5 120 yX1_hasMachine ∈ TW := tw_1 226 rfl rfl
theorem tk_267 : Cond.instanceMethod yX1_hasMachine ∈ TW := tw_1 227 rfl rfl
theorem tk_268 : Cond.selects RX1 yX1_hasMachine yX1_hasMachine ∈ TW := tw_1 228 rfl rfl
theorem tk_269 : Cond.code yX1_hasMachine cX1_hasMachine 2 (some FieldType.boolean) ∈ TW := tw_1 229 rfl rfl
theorem tk_270 : Cond.methodLink RX5 135 yX0_isRunning ∈ TW := tw_1 230 rfl rfl
theorem tk_271 : Cond.static yX0_isRunning ∈ TW := tw_1 231 rfl rfl
theorem tk_272 : Cond.code yX0_isRunning cX0_isRunning 2 (some FieldType.boolean) ∈ TW := tw_1 232 rfl rfl
theorem tk_273 : Cond.methodLink RX0 11 yX0_running ∈ TW := tw_1 233 rfl rfl
theorem tk_275 : Cond.methodLink RX5 138 yX0_left ∈ TW := tw_1 235 rfl rfl
theorem tk_276 : Cond.static yX0_left ∈ TW := tw_1 236 rfl rfl
theorem tk_277 : Cond.code yX0_left cX0_left 2 (some FieldType.int) ∈ TW := tw_1 237 rfl rfl
theorem tk_278 : Cond.methodLink RX0 19 yX0_leftAt ∈ TW := tw_1 238 rfl rfl
theorem tk_279 : Cond.static yX0_leftAt ∈ TW := tw_1 239 rfl rfl
theorem tk_280 : Cond.code yX0_leftAt cX0_leftAt 1 (some FieldType.int) ∈ TW := tw_2 0 rfl rfl
theorem tk_281 : Cond.methodLink RL 37 yX5_bus ∈ TW := tw_2 1 rfl rfl
theorem tk_282 : Cond.instanceMethod yX5_bus ∈ TW := tw_2 2 rfl rfl
theorem tk_283 : Cond.selects RX5 yX5_bus yX5_bus ∈ TW := tw_2 3 rfl rfl
theorem tk_284 : Cond.code yX5_bus cX5_bus 3 (some FieldType.int) ∈ TW := tw_2 4 rfl rfl
theorem tk_285 : Cond.methodLink RX5 141 yX2_busesWith ∈ TW := tw_2 5 rfl rfl
theorem tk_286 : Cond.methodLink RX5 144 yX3_liveBuses ∈ TW := tw_2 6 rfl rfl
theorem tk_287 : Cond.instanceMethod yX3_liveBuses ∈ TW := tw_2 7 rfl rfl
theorem tk_288 : Cond.selects RX3 yX3_liveBuses yX3_liveBuses ∈ TW := tw_2 8 rfl rfl
theorem tk_289 : Cond.code yX3_liveBuses cX3_liveBuses 4 (some FieldType.int) ∈ TW := tw_2 9 rfl rfl
theorem tk_290 : Cond.methodLink RX3 25 yX0_isRunning ∈ TW := tw_2 10 rfl rfl
theorem tk_291 : Cond.methodLink RX3 31 yX0_closed ∈ TW := tw_2 11 rfl rfl
theorem tk_292 : Cond.methodLink RX3 39 yX2_busesWith ∈ TW := tw_2 12 rfl rfl
theorem tk_293 : Cond.methodLink RX5 147 yX3_spare ∈ TW := tw_2 13 rfl rfl
theorem tk_294 : Cond.instanceMethod yX3_spare ∈ TW := tw_2 14 rfl rfl
theorem tk_295 : Cond.selects RX3 yX3_spare yX3_spare ∈ TW := tw_2 15 rfl rfl
theorem tk_296 : Cond.code yX3_spare cX3_spare 3 (some FieldType.int) ∈ TW := tw_2 16 rfl rfl
theorem tk_297 : Cond.methodLink RX3 54 yX0_ready ∈ TW := tw_2 17 rfl rfl
theorem tk_298 : Cond.static yX0_ready ∈ TW := tw_2 18 rfl rfl
theorem tk_299 : Cond.code yX0_ready cX0_ready 3 (some FieldType.int) ∈ TW := tw_2 19 rfl rfl
theorem tk_300 : Cond.methodLink RX0 22 yX0_left ∈ TW := tw_2 20 rfl rfl
theorem tk_301 : Cond.methodLink RX3 57 yX3_spareOf ∈ TW := tw_2 21 rfl rfl
theorem tk_303 : Cond.instanceMethod yX3_spareOf ∈ TW := tw_2 23 rfl rfl
theorem tk_304 : Cond.code yX3_spareOf cX3_spareOf 7 (some FieldType.int) ∈ TW := tw_2 24 rfl rfl
theorem tk_305 : Cond.methodLink RX3 61 yX2_drawAround ∈ TW := tw_2 25 rfl rfl
theorem tk_307 : Cond.methodLink RL 41 yX5_can ∈ TW := tw_2 27 rfl rfl
theorem tk_308 : Cond.instanceMethod yX5_can ∈ TW := tw_2 28 rfl rfl
theorem tk_309 : Cond.selects RX5 yX5_can yX5_can ∈ TW := tw_2 29 rfl rfl
theorem tk_310 : Cond.code yX5_can cX5_can 1 (some FieldType.int) ∈ TW := tw_2 30 rfl rfl
theorem tk_311 : Cond.methodLink RX5 150 yX3_stepsFrom ∈ TW := tw_2 31 rfl rfl
theorem tk_312 : Cond.instanceMethod yX3_stepsFrom ∈ TW := tw_2 32 rfl rfl
theorem tk_313 : Cond.selects RX3 yX3_stepsFrom yX3_stepsFrom ∈ TW := tw_2 33 rfl rfl
theorem tk_314 : Cond.code yX3_stepsFrom cX3_stepsFrom 8 (some FieldType.int) ∈ TW := tw_2 34 rfl rfl
theorem tk_315 : Cond.methodLink RX3 74 yX0_running ∈ TW := tw_2 35 rfl rfl
theorem tk_316 : Cond.methodLink RX3 45 yX3_liveBuses ∈ TW := tw_2 36 rfl rfl
theorem tk_317 : Cond.methodLink RX3 77 yX3_canCrank ∈ TW := tw_2 37 rfl rfl
theorem tk_319 : Cond.instanceMethod yX3_canCrank ∈ TW := tw_2 39 rfl rfl
theorem tk_320 : Cond.code yX3_canCrank cX3_canCrank 7 (some FieldType.boolean) ∈ TW := tw_2 40 rfl rfl
theorem tk_321 : Cond.methodLink RX3 84 yX3_canCarry ∈ TW := tw_2 41 rfl rfl
theorem tk_323 : Cond.instanceMethod yX3_canCarry ∈ TW := tw_2 43 rfl rfl
theorem tk_324 : Cond.code yX3_canCarry cX3_canCarry 7 (some FieldType.boolean) ∈ TW := tw_2 44 rfl rfl
theorem tk_325 : Cond.methodLink RL 45 yX5_tick ∈ TW := tw_2 45 rfl rfl
theorem tk_326 : Cond.instanceMethod yX5_tick ∈ TW := tw_2 46 rfl rfl
theorem tk_327 : Cond.selects RX5 yX5_tick yX5_tick ∈ TW := tw_2 47 rfl rfl
theorem tk_328 : Cond.code yX5_tick cX5_tick 2 (some FieldType.int) ∈ TW := tw_2 48 rfl rfl
theorem tk_329 : Cond.methodLink RX5 153 yX3_isTold ∈ TW := tw_2 49 rfl rfl
theorem tk_330 : Cond.instanceMethod yX3_isTold ∈ TW := tw_2 50 rfl rfl
theorem tk_331 : Cond.selects RX3 yX3_isTold yX3_isTold ∈ TW := tw_2 51 rfl rfl
theorem tk_332 : Cond.code yX3_isTold cX3_isTold 2 (some FieldType.boolean) ∈ TW := tw_2 52 rfl rfl
theorem tk_333 : Cond.methodLink RX3 67 yX1_hasLine ∈ TW := tw_2 53 rfl rfl
theorem tk_334 : Cond.methodLink RX3 71 yX1_hasMachine ∈ TW := tw_2 54 rfl rfl
theorem tk_335 : Cond.methodLink RX5 156 yX0_ticked ∈ TW := tw_2 55 rfl rfl
theorem tk_336 : Cond.static yX0_ticked ∈ TW := tw_2 56 rfl rfl
theorem tk_337 : Cond.code yX0_ticked cX0_ticked 3 (some FieldType.int) ∈ TW := tw_2 57 rfl rfl
theorem tk_338 : Cond.methodLink RX5 159 yX3_withStep ∈ TW := tw_2 58 rfl rfl
theorem tk_339 : Cond.instanceMethod yX3_withStep ∈ TW := tw_2 59 rfl rfl
theorem tk_340 : Cond.selects RX3 yX3_withStep yX3_withStep ∈ TW := tw_2 60 rfl rfl
theorem tk_341 : Cond.code yX3_withStep cX3_withStep 4 (some FieldType.int) ∈ TW := tw_2 61 rfl rfl
theorem tk_342 : Cond.methodLink RX3 96 yX0_withClosed ∈ TW := tw_2 62 rfl rfl
theorem tk_343 : Cond.static yX0_withClosed ∈ TW := tw_2 63 rfl rfl
theorem tk_344 : Cond.code yX0_withClosed cX0_withClosed 2 (some FieldType.int) ∈ TW := tw_2 64 rfl rfl
theorem tk_345 : Cond.methodLink RX3 102 yX0_withStarted ∈ TW := tw_2 65 rfl rfl
theorem tk_346 : Cond.static yX0_withStarted ∈ TW := tw_2 66 rfl rfl
theorem tk_347 : Cond.code yX0_withStarted cX0_withStarted 3 (some FieldType.int) ∈ TW := tw_2 67 rfl rfl
theorem tk_348 : Cond.methodLink RL 50 yX5_fail ∈ TW := tw_2 68 rfl rfl
theorem tk_349 : Cond.instanceMethod yX5_fail ∈ TW := tw_2 69 rfl rfl
theorem tk_350 : Cond.selects RX5 yX5_fail yX5_fail ∈ TW := tw_2 70 rfl rfl
theorem tk_351 : Cond.code yX5_fail cX5_fail 2 (some FieldType.int) ∈ TW := tw_2 71 rfl rfl
theorem tk_352 : Cond.methodLink RX5 162 yX0_withStopped ∈ TW := tw_2 72 rfl rfl
theorem tk_353 : Cond.static yX0_withStopped ∈ TW := tw_2 73 rfl rfl
theorem tk_354 : Cond.code yX0_withStopped cX0_withStopped 2 (some FieldType.int) ∈ TW := tw_2 74 rfl rfl
theorem tk_355 : Cond.methodLink RX5 165 yX5_openLost ∈ TW := tw_2 75 rfl rfl
theorem tk_357 : Cond.instanceMethod yX5_openLost ∈ TW := tw_2 77 rfl rfl
theorem tk_358 : Cond.code yX5_openLost cX5_openLost 2 (some FieldType.int) ∈ TW := tw_2 78 rfl rfl
theorem tk_359 : Cond.methodLink RX5 213 yX3_lostLines ∈ TW := tw_2 79 rfl rfl
theorem tk_360 : Cond.instanceMethod yX3_lostLines ∈ TW := tw_2 80 rfl rfl
theorem tk_361 : Cond.selects RX3 yX3_lostLines yX3_lostLines ∈ TW := tw_2 81 rfl rfl
theorem tk_362 : Cond.code yX3_lostLines cX3_lostLines 7 (some FieldType.int) ∈ TW := tw_2 82 rfl rfl
theorem tk_363 : Cond.methodLink RX3 105 yX3_spare ∈ TW := tw_2 83 rfl rfl
theorem tk_364 : Cond.methodLink RX5 169 yX0_withOpened ∈ TW := tw_2 84 rfl rfl
theorem tk_365 : Cond.static yX0_withOpened ∈ TW := tw_2 85 rfl rfl
theorem tk_366 : Cond.code yX0_withOpened cX0_withOpened 2 (some FieldType.int) ∈ TW := tw_2 86 rfl rfl
theorem tk_367 : Cond.methodLink RL 54 yX5_trip ∈ TW := tw_2 87 rfl rfl
theorem tk_368 : Cond.instanceMethod yX5_trip ∈ TW := tw_2 88 rfl rfl
theorem tk_369 : Cond.selects RX5 yX5_trip yX5_trip ∈ TW := tw_2 89 rfl rfl
theorem tk_370 : Cond.code yX5_trip cX5_trip 2 (some FieldType.int) ∈ TW := tw_2 90 rfl rfl
theorem tk_371 : Cond.methodLink RL 58 yX5_way ∈ TW := tw_2 91 rfl rfl
theorem tk_372 : Cond.instanceMethod yX5_way ∈ TW := tw_2 92 rfl rfl
theorem tk_373 : Cond.selects RX5 yX5_way yX5_way ∈ TW := tw_2 93 rfl rfl
theorem tk_374 : Cond.code yX5_way cX5_way 6 (some FieldType.int) ∈ TW := tw_2 94 rfl rfl
theorem tk_375 : Cond.methodLink RX5 172 yX5_isGoal ∈ TW := tw_2 95 rfl rfl
theorem tk_377 : Cond.instanceMethod yX5_isGoal ∈ TW := tw_2 97 rfl rfl
theorem tk_378 : Cond.code yX5_isGoal cX5_isGoal 3 (some FieldType.boolean) ∈ TW := tw_2 98 rfl rfl
theorem tk_379 : Cond.methodLink RX5 191 yX5_setOfFirst ∈ TW := tw_2 99 rfl rfl
theorem tk_380 : Cond.static yX5_setOfFirst ∈ TW := tw_2 100 rfl rfl
theorem tk_381 : Cond.code yX5_setOfFirst cX5_setOfFirst 1 (some FieldType.int) ∈ TW := tw_2 101 rfl rfl
theorem tk_382 : Cond.methodLink RX5 175 yX4_plan ∈ TW := tw_2 102 rfl rfl
theorem tk_383 : Cond.instanceMethod yX4_plan ∈ TW := tw_2 103 rfl rfl
theorem tk_384 : Cond.selects RX4 yX4_plan yX4_plan ∈ TW := tw_2 104 rfl rfl
theorem tk_385 : Cond.code yX4_plan cX4_plan 4 (some FieldType.int) ∈ TW := tw_2 105 rfl rfl
theorem tk_386 : Cond.methodLink RX4 27 yX4_explore ∈ TW := tw_2 106 rfl rfl
theorem tk_388 : Cond.instanceMethod yX4_explore ∈ TW := tw_2 108 rfl rfl
theorem tk_389 : Cond.code yX4_explore cX4_explore 12 (some FieldType.int) ∈ TW := tw_2 109 rfl rfl
theorem tk_390 : Cond.methodLink RX4 39 yX4_forget ∈ TW := tw_2 110 rfl rfl
theorem tk_392 : Cond.instanceMethod yX4_forget ∈ TW := tw_2 112 rfl rfl
theorem tk_393 : Cond.code yX4_forget cX4_forget 4 none ∈ TW := tw_2 113 rfl rfl
theorem tk_394 : Cond.methodLink RX4 43 yX4_add ∈ TW := tw_2 114 rfl rfl
theorem tk_396 : Cond.instanceMethod yX4_add ∈ TW := tw_2 116 rfl rfl
theorem tk_397 : Cond.code yX4_add cX4_add 5 (some FieldType.boolean) ∈ TW := tw_2 117 rfl rfl
theorem tk_399 : Cond.methodLink RX4 47 yX3_isReached ∈ TW := tw_2 119 rfl rfl
theorem tk_400 : Cond.instanceMethod yX3_isReached ∈ TW := tw_2 120 rfl rfl
theorem tk_401 : Cond.selects RX3 yX3_isReached yX3_isReached ∈ TW := tw_2 121 rfl rfl
theorem tk_402 : Cond.code yX3_isReached cX3_isReached 4 (some FieldType.boolean) ∈ TW := tw_2 122 rfl rfl
theorem tk_403 : Cond.methodLink RX4 57 yX3_stepsFrom ∈ TW := tw_2 123 rfl rfl
theorem tk_404 : Cond.methodLink RX4 60 yX0_ticked ∈ TW := tw_2 124 rfl rfl
theorem tk_406 : Cond.methodLink RX4 63 yX3_withStep ∈ TW := tw_2 126 rfl rfl
theorem tk_407 : Cond.methodLink RX5 178 yX4_ticksTo ∈ TW := tw_2 127 rfl rfl
theorem tk_408 : Cond.instanceMethod yX4_ticksTo ∈ TW := tw_2 128 rfl rfl
theorem tk_409 : Cond.selects RX4 yX4_ticksTo yX4_ticksTo ∈ TW := tw_2 129 rfl rfl
theorem tk_410 : Cond.code yX4_ticksTo cX4_ticksTo 4 (some FieldType.int) ∈ TW := tw_2 130 rfl rfl
theorem tk_411 : Cond.methodLink RX5 181 yX4_stepBefore ∈ TW := tw_2 131 rfl rfl
theorem tk_412 : Cond.instanceMethod yX4_stepBefore ∈ TW := tw_2 132 rfl rfl
theorem tk_413 : Cond.selects RX4 yX4_stepBefore yX4_stepBefore ∈ TW := tw_2 133 rfl rfl
theorem tk_414 : Cond.code yX4_stepBefore cX4_stepBefore 5 (some FieldType.int) ∈ TW := tw_2 134 rfl rfl
theorem tk_415 : Cond.methodLink RL 62 yX5_go ∈ TW := tw_2 135 rfl rfl
theorem tk_416 : Cond.instanceMethod yX5_go ∈ TW := tw_2 136 rfl rfl
theorem tk_417 : Cond.selects RX5 yX5_go yX5_go ∈ TW := tw_2 137 rfl rfl
theorem tk_418 : Cond.code yX5_go cX5_go 4 (some FieldType.int) ∈ TW := tw_2 138 rfl rfl
theorem tk_419 : Cond.methodLink RX5 184 yX4_codeAt ∈ TW := tw_2 139 rfl rfl
theorem tk_420 : Cond.instanceMethod yX4_codeAt ∈ TW := tw_2 140 rfl rfl
theorem tk_421 : Cond.selects RX4 yX4_codeAt yX4_codeAt ∈ TW := tw_2 141 rfl rfl
theorem tk_422 : Cond.code yX4_codeAt cX4_codeAt 2 (some FieldType.int) ∈ TW := tw_2 142 rfl rfl
theorem tk_423 : Cond.methodLink RL 66 yX5_needed ∈ TW := tw_2 143 rfl rfl
theorem tk_424 : Cond.instanceMethod yX5_needed ∈ TW := tw_2 144 rfl rfl
theorem tk_425 : Cond.selects RX5 yX5_needed yX5_needed ∈ TW := tw_2 145 rfl rfl
theorem tk_426 : Cond.code yX5_needed cX5_needed 5 (some FieldType.int) ∈ TW := tw_2 146 rfl rfl
theorem tk_427 : Cond.methodLink RX5 187 yX4_canReach ∈ TW := tw_2 147 rfl rfl
theorem tk_428 : Cond.instanceMethod yX4_canReach ∈ TW := tw_2 148 rfl rfl
theorem tk_429 : Cond.selects RX4 yX4_canReach yX4_canReach ∈ TW := tw_2 149 rfl rfl
theorem tk_430 : Cond.code yX4_canReach cX4_canReach 4 (some FieldType.boolean) ∈ TW := tw_2 150 rfl rfl
theorem tk_431 : Cond.methodLink RX5 194 yX4_neededAmong ∈ TW := tw_2 151 rfl rfl
theorem tk_432 : Cond.instanceMethod yX4_neededAmong ∈ TW := tw_2 152 rfl rfl
theorem tk_433 : Cond.selects RX4 yX4_neededAmong yX4_neededAmong ∈ TW := tw_2 153 rfl rfl
theorem tk_434 : Cond.code yX4_neededAmong cX4_neededAmong 8 (some FieldType.int) ∈ TW := tw_2 154 rfl rfl
theorem tk_435 : Cond.methodLink RL 70 yX5_ever ∈ TW := tw_2 155 rfl rfl
theorem tk_436 : Cond.instanceMethod yX5_ever ∈ TW := tw_2 156 rfl rfl
theorem tk_437 : Cond.selects RX5 yX5_ever yX5_ever ∈ TW := tw_2 157 rfl rfl
theorem tk_438 : Cond.code yX5_ever cX5_ever 2 (some FieldType.int) ∈ TW := tw_2 158 rfl rfl
theorem tk_439 : Cond.methodLink RX5 197 yX4_everReady ∈ TW := tw_2 159 rfl rfl
theorem tk_440 : Cond.instanceMethod yX4_everReady ∈ TW := tw_2 160 rfl rfl
theorem tk_441 : Cond.selects RX4 yX4_everReady yX4_everReady ∈ TW := tw_2 161 rfl rfl
theorem tk_442 : Cond.code yX4_everReady cX4_everReady 5 (some FieldType.int) ∈ TW := tw_2 162 rfl rfl
theorem tk_443 : Cond.methodLink RX5 200 yX4_everLive ∈ TW := tw_2 163 rfl rfl
theorem tk_444 : Cond.instanceMethod yX4_everLive ∈ TW := tw_2 164 rfl rfl
theorem tk_445 : Cond.selects RX4 yX4_everLive yX4_everLive ∈ TW := tw_2 165 rfl rfl
theorem tk_446 : Cond.code yX4_everLive cX4_everLive 4 (some FieldType.int) ∈ TW := tw_2 166 rfl rfl
theorem tk_447 : Cond.methodLink RL 74 yX5_image ∈ TW := tw_2 167 rfl rfl
theorem tk_448 : Cond.instanceMethod yX5_image ∈ TW := tw_2 168 rfl rfl
theorem tk_449 : Cond.selects RX5 yX5_image yX5_image ∈ TW := tw_2 169 rfl rfl
theorem tk_450 : Cond.code yX5_image cX5_image 2 (some FieldType.int) ∈ TW := tw_2 170 rfl rfl
theorem tk_451 : Cond.methodLink RX5 203 yX1_copyFrom ∈ TW := tw_2 171 rfl rfl
theorem tk_452 : Cond.instanceMethod yX1_copyFrom ∈ TW := tw_2 172 rfl rfl
theorem tk_453 : Cond.selects RX1 yX1_copyFrom yX1_copyFrom ∈ TW := tw_2 173 rfl rfl
theorem tk_454 : Cond.code yX1_copyFrom cX1_copyFrom 2 none ∈ TW := tw_2 174 rfl rfl
theorem tk_455 : Cond.methodLink RX1 48 ⟨"java/lang/System", "arraycopy", "(Ljava/lang/Object;ILjava/lang/Object;II)V"⟩ ∈ TW := tw_2 175 rfl rfl
theorem tk_456 : Cond.static ⟨"java/lang/System", "arraycopy", "(Ljava/lang/Object;ILjava/lang/Object;II)V"⟩ ∈ TW := tw_2 176 rfl rfl
theorem tk_457 : Cond.native ⟨"java/lang/System", "arraycopy", "(Ljava/lang/Object;ILjava/lang/Object;II)V"⟩ ∈ TW := tw_2 177 rfl rfl
theorem tk_458 : Cond.methodLink RL 78 yX5_restore ∈ TW := tw_2 178 rfl rfl
theorem tk_459 : Cond.instanceMethod yX5_restore ∈ TW := tw_2 179 rfl rfl
theorem tk_460 : Cond.selects RX5 yX5_restore yX5_restore ∈ TW := tw_2 180 rfl rfl
theorem tk_461 : Cond.code yX5_restore cX5_restore 3 (some FieldType.int) ∈ TW := tw_2 181 rfl rfl
theorem tk_462 : Cond.methodLink RL 82 yX5_count ∈ TW := tw_2 182 rfl rfl
theorem tk_463 : Cond.instanceMethod yX5_count ∈ TW := tw_2 183 rfl rfl
theorem tk_464 : Cond.selects RX5 yX5_count yX5_count ∈ TW := tw_2 184 rfl rfl
theorem tk_465 : Cond.code yX5_count cX5_count 2 (some FieldType.int) ∈ TW := tw_2 185 rfl rfl
theorem tk_466 : Cond.methodLink RX5 207 yX0_ready ∈ TW := tw_2 186 rfl rfl
theorem tk_467 : Cond.methodLink RX5 210 yX3_countLiveIslands ∈ TW := tw_2 187 rfl rfl
theorem tk_468 : Cond.instanceMethod yX3_countLiveIslands ∈ TW := tw_2 188 rfl rfl
theorem tk_469 : Cond.selects RX3 yX3_countLiveIslands yX3_countLiveIslands ∈ TW := tw_2 189 rfl rfl
theorem tk_470 : Cond.code yX3_countLiveIslands cX3_countLiveIslands 7 (some FieldType.int) ∈ TW := tw_2 190 rfl rfl
theorem tk_472 : Cond.classLink RL 10 "GridStartsModel" ∈ TW := tw_2 192 rfl rfl
theorem tk_473 : Cond.instantiable RX6 12 ∈ TW := tw_2 193 rfl rfl
theorem tk_474 : Cond.methodLink RL 12 yX6_init ∈ TW := tw_2 194 rfl rfl
theorem tk_475 : Cond.instanceMethod yX6_init ∈ TW := tw_2 195 rfl rfl
theorem tk_476 : Cond.code yX6_init cX6_init 1 none ∈ TW := tw_2 196 rfl rfl
theorem tk_477 : Cond.methodLink RX6 1 ⟨"java/lang/Object", "<init>", "()V"⟩ ∈ TW := tw_2 197 rfl rfl
theorem tk_478 : Cond.fieldLink RX6 7 "GridStartsModel" "state" "[I" ∈ TW := tw_2 198 rfl rfl
theorem tk_479 : Cond.fieldLink RX6 13 "GridStartsModel" "images" "[I" ∈ TW := tw_2 199 rfl rfl
theorem tk_480 : Cond.fieldLink RX6 16 "GridStartsModel" "isKept" "[Z" ∈ TW := tw_2 200 rfl rfl
theorem tk_481 : Cond.fieldLink RX6 20 "GridStartsModel" "closed" "[I" ∈ TW := tw_2 201 rfl rfl
theorem tk_482 : Cond.fieldLink RX6 23 "GridStartsModel" "run" "[I" ∈ TW := tw_2 202 rfl rfl
theorem tk_483 : Cond.fieldLink RX6 26 "GridStartsModel" "island" "[I" ∈ TW := tw_2 203 rfl rfl
theorem tk_484 : Cond.fieldLink RX6 29 "GridStartsModel" "spare" "[I" ∈ TW := tw_2 204 rfl rfl
theorem tk_485 : Cond.fieldLink RX6 32 "GridStartsModel" "live" "[Z" ∈ TW := tw_2 205 rfl rfl
theorem tk_486 : Cond.fieldLink RX6 35 "GridStartsModel" "first" "[I" ∈ TW := tw_2 206 rfl rfl
theorem tk_487 : Cond.fieldLink RX6 38 "GridStartsModel" "leads" "[Z" ∈ TW := tw_2 207 rfl rfl
theorem tk_488 : Cond.fieldLink RX6 41 "GridStartsModel" "steps" "[I" ∈ TW := tw_2 208 rfl rfl
theorem tk_489 : Cond.fieldLink RX6 131 "GridStartsModel" "atLast" "I" ∈ TW := tw_2 209 rfl rfl
theorem tk_490 : Cond.laysFinal "GridStartsModel" "GridStartsModel" "state" "[I" ∈ TW := tw_2 210 rfl rfl
theorem tk_492 : Cond.laysFinal "GridStartsModel" "GridStartsModel" "images" "[I" ∈ TW := tw_2 212 rfl rfl
theorem tk_494 : Cond.laysFinal "GridStartsModel" "GridStartsModel" "isKept" "[Z" ∈ TW := tw_2 214 rfl rfl
theorem tk_496 : Cond.laysFinal "GridStartsModel" "GridStartsModel" "closed" "[I" ∈ TW := tw_2 216 rfl rfl
theorem tk_498 : Cond.laysFinal "GridStartsModel" "GridStartsModel" "run" "[I" ∈ TW := tw_2 218 rfl rfl
theorem tk_500 : Cond.laysFinal "GridStartsModel" "GridStartsModel" "island" "[I" ∈ TW := tw_2 220 rfl rfl
theorem tk_502 : Cond.laysFinal "GridStartsModel" "GridStartsModel" "spare" "[I" ∈ TW := tw_2 222 rfl rfl
theorem tk_504 : Cond.laysFinal "GridStartsModel" "GridStartsModel" "live" "[Z" ∈ TW := tw_2 224 rfl rfl
theorem tk_506 : Cond.laysFinal "GridStartsModel" "GridStartsModel" "first" "[I" ∈ TW := tw_2 226 rfl rfl
theorem tk_508 : Cond.laysFinal "GridStartsModel" "GridStartsModel" "leads" "[Z" ∈ TW := tw_2 228 rfl rfl
theorem tk_510 : Cond.laysFinal "GridStartsModel" "GridStartsModel" "steps" "[I" ∈ TW := tw_2 230 rfl rfl
theorem tk_512 : Cond.lays "GridStartsModel" "GridStartsModel" "atLast" "I" ∈ TW := tw_2 232 rfl rfl
theorem tk_515 : Cond.arrayClass FieldType.boolean ∈ TW := tw_2 235 rfl rfl
theorem tk_516 : Cond.methodLink RL 17 yX6_line ∈ TW := tw_2 236 rfl rfl
theorem tk_517 : Cond.instanceMethod yX6_line ∈ TW := tw_2 237 rfl rfl
theorem tk_518 : Cond.selects RX6 yX6_line yX6_line ∈ TW := tw_2 238 rfl rfl
theorem tk_519 : Cond.code yX6_line cX6_line 5 (some FieldType.int) ∈ TW := tw_2 239 rfl rfl
theorem tk_520 : Cond.methodLink RX6 48 yX6_isBus ∈ TW := tw_3 0 rfl rfl
theorem tk_521 : Cond.static yX6_isBus ∈ TW := tw_3 1 rfl rfl
theorem tk_522 : Cond.code yX6_isBus cX6_isBus 1 (some FieldType.boolean) ∈ TW := tw_3 2 rfl rfl
theorem tk_523 : Cond.methodLink RX6 44 yX6_in ∈ TW := tw_3 3 rfl rfl
theorem tk_524 : Cond.static yX6_in ∈ TW := tw_3 4 rfl rfl
theorem tk_525 : Cond.code yX6_in cX6_in 3 (some FieldType.boolean) ∈ TW := tw_3 5 rfl rfl
theorem tk_526 : Cond.methodLink RL 22 yX6_machine ∈ TW := tw_3 6 rfl rfl
theorem tk_527 : Cond.instanceMethod yX6_machine ∈ TW := tw_3 7 rfl rfl
theorem tk_528 : Cond.selects RX6 yX6_machine yX6_machine ∈ TW := tw_3 8 rfl rfl
theorem tk_529 : Cond.code yX6_machine cX6_machine 6 (some FieldType.int) ∈ TW := tw_3 9 rfl rfl
theorem tk_530 : Cond.methodLink RL 27 yX6_dark ∈ TW := tw_3 10 rfl rfl
theorem tk_531 : Cond.instanceMethod yX6_dark ∈ TW := tw_3 11 rfl rfl
theorem tk_532 : Cond.selects RX6 yX6_dark yX6_dark ∈ TW := tw_3 12 rfl rfl
theorem tk_533 : Cond.code yX6_dark cX6_dark 3 (some FieldType.int) ∈ TW := tw_3 13 rfl rfl
theorem tk_534 : Cond.methodLink RL 32 yX6_of ∈ TW := tw_3 14 rfl rfl
theorem tk_535 : Cond.instanceMethod yX6_of ∈ TW := tw_3 15 rfl rfl
theorem tk_536 : Cond.selects RX6 yX6_of yX6_of ∈ TW := tw_3 16 rfl rfl
theorem tk_537 : Cond.code yX6_of cX6_of 3 (some FieldType.int) ∈ TW := tw_3 17 rfl rfl
theorem tk_538 : Cond.methodLink RX6 52 yX6_isLine ∈ TW := tw_3 18 rfl rfl
theorem tk_540 : Cond.instanceMethod yX6_isLine ∈ TW := tw_3 20 rfl rfl
theorem tk_541 : Cond.code yX6_isLine cX6_isLine 2 (some FieldType.boolean) ∈ TW := tw_3 21 rfl rfl
theorem tk_542 : Cond.methodLink RL 36 yX6_at ∈ TW := tw_3 22 rfl rfl
theorem tk_543 : Cond.instanceMethod yX6_at ∈ TW := tw_3 23 rfl rfl
theorem tk_544 : Cond.selects RX6 yX6_at yX6_at ∈ TW := tw_3 24 rfl rfl
theorem tk_545 : Cond.code yX6_at cX6_at 3 (some FieldType.int) ∈ TW := tw_3 25 rfl rfl
theorem tk_546 : Cond.methodLink RX6 55 yX6_isMachine ∈ TW := tw_3 26 rfl rfl
theorem tk_548 : Cond.instanceMethod yX6_isMachine ∈ TW := tw_3 28 rfl rfl
theorem tk_549 : Cond.code yX6_isMachine cX6_isMachine 2 (some FieldType.boolean) ∈ TW := tw_3 29 rfl rfl
theorem tk_550 : Cond.methodLink RL 40 yX6_bus ∈ TW := tw_3 30 rfl rfl
theorem tk_551 : Cond.instanceMethod yX6_bus ∈ TW := tw_3 31 rfl rfl
theorem tk_552 : Cond.selects RX6 yX6_bus yX6_bus ∈ TW := tw_3 32 rfl rfl
theorem tk_553 : Cond.code yX6_bus cX6_bus 3 (some FieldType.int) ∈ TW := tw_3 33 rfl rfl
theorem tk_554 : Cond.methodLink RX6 65 yX6_layNow ∈ TW := tw_3 34 rfl rfl
theorem tk_556 : Cond.instanceMethod yX6_layNow ∈ TW := tw_3 36 rfl rfl
theorem tk_557 : Cond.code yX6_layNow cX6_layNow 2 none ∈ TW := tw_3 37 rfl rfl
theorem tk_558 : Cond.methodLink RX6 62 yX6_layIslands ∈ TW := tw_3 38 rfl rfl
theorem tk_560 : Cond.instanceMethod yX6_layIslands ∈ TW := tw_3 40 rfl rfl
theorem tk_561 : Cond.code yX6_layIslands cX6_layIslands 4 none ∈ TW := tw_3 41 rfl rfl
theorem tk_562 : Cond.methodLink RX6 58 yX6_joinOnce ∈ TW := tw_3 42 rfl rfl
theorem tk_564 : Cond.instanceMethod yX6_joinOnce ∈ TW := tw_3 44 rfl rfl
theorem tk_565 : Cond.code yX6_joinOnce cX6_joinOnce 6 (some FieldType.boolean) ∈ TW := tw_3 45 rfl rfl
theorem tk_566 : Cond.methodLink RX6 68 yX6_islandSet ∈ TW := tw_3 46 rfl rfl
theorem tk_568 : Cond.instanceMethod yX6_islandSet ∈ TW := tw_3 48 rfl rfl
theorem tk_569 : Cond.code yX6_islandSet cX6_islandSet 4 (some FieldType.int) ∈ TW := tw_3 49 rfl rfl
theorem tk_570 : Cond.methodLink RX6 72 yX6_isLive ∈ TW := tw_3 50 rfl rfl
theorem tk_572 : Cond.instanceMethod yX6_isLive ∈ TW := tw_3 52 rfl rfl
theorem tk_573 : Cond.code yX6_isLive cX6_isLive 2 (some FieldType.boolean) ∈ TW := tw_3 53 rfl rfl
theorem tk_574 : Cond.methodLink RL 44 yX6_can ∈ TW := tw_3 54 rfl rfl
theorem tk_575 : Cond.instanceMethod yX6_can ∈ TW := tw_3 55 rfl rfl
theorem tk_576 : Cond.selects RX6 yX6_can yX6_can ∈ TW := tw_3 56 rfl rfl
theorem tk_577 : Cond.code yX6_can cX6_can 3 (some FieldType.int) ∈ TW := tw_3 57 rfl rfl
theorem tk_578 : Cond.methodLink RX6 81 yX6_canStep ∈ TW := tw_3 58 rfl rfl
theorem tk_580 : Cond.instanceMethod yX6_canStep ∈ TW := tw_3 60 rfl rfl
theorem tk_581 : Cond.code yX6_canStep cX6_canStep 2 (some FieldType.boolean) ∈ TW := tw_3 61 rfl rfl
theorem tk_582 : Cond.methodLink RX6 75 yX6_canStart ∈ TW := tw_3 62 rfl rfl
theorem tk_584 : Cond.instanceMethod yX6_canStart ∈ TW := tw_3 64 rfl rfl
theorem tk_585 : Cond.code yX6_canStart cX6_canStart 3 (some FieldType.boolean) ∈ TW := tw_3 65 rfl rfl
theorem tk_586 : Cond.methodLink RX6 78 yX6_canClose ∈ TW := tw_3 66 rfl rfl
theorem tk_588 : Cond.instanceMethod yX6_canClose ∈ TW := tw_3 68 rfl rfl
theorem tk_589 : Cond.code yX6_canClose cX6_canClose 5 (some FieldType.boolean) ∈ TW := tw_3 69 rfl rfl
theorem tk_590 : Cond.methodLink RL 49 yX6_tick ∈ TW := tw_3 70 rfl rfl
theorem tk_591 : Cond.instanceMethod yX6_tick ∈ TW := tw_3 71 rfl rfl
theorem tk_592 : Cond.selects RX6 yX6_tick yX6_tick ∈ TW := tw_3 72 rfl rfl
theorem tk_593 : Cond.code yX6_tick cX6_tick 2 (some FieldType.int) ∈ TW := tw_3 73 rfl rfl
theorem tk_594 : Cond.methodLink RX6 88 yX6_numberBehind ∈ TW := tw_3 74 rfl rfl
theorem tk_596 : Cond.instanceMethod yX6_numberBehind ∈ TW := tw_3 76 rfl rfl
theorem tk_597 : Cond.code yX6_numberBehind cX6_numberBehind 4 (some FieldType.int) ∈ TW := tw_3 77 rfl rfl
theorem tk_598 : Cond.methodLink RX6 84 yX6_ranOn ∈ TW := tw_3 78 rfl rfl
theorem tk_600 : Cond.instanceMethod yX6_ranOn ∈ TW := tw_3 80 rfl rfl
theorem tk_601 : Cond.code yX6_ranOn cX6_ranOn 3 (some FieldType.int) ∈ TW := tw_3 81 rfl rfl
theorem tk_602 : Cond.methodLink RX6 91 yX6_become ∈ TW := tw_3 82 rfl rfl
theorem tk_604 : Cond.instanceMethod yX6_become ∈ TW := tw_3 84 rfl rfl
theorem tk_605 : Cond.code yX6_become cX6_become 4 none ∈ TW := tw_3 85 rfl rfl
theorem tk_606 : Cond.methodLink RL 53 yX6_fail ∈ TW := tw_3 86 rfl rfl
theorem tk_607 : Cond.instanceMethod yX6_fail ∈ TW := tw_3 87 rfl rfl
theorem tk_608 : Cond.selects RX6 yX6_fail yX6_fail ∈ TW := tw_3 88 rfl rfl
theorem tk_609 : Cond.code yX6_fail cX6_fail 2 (some FieldType.int) ∈ TW := tw_3 89 rfl rfl
theorem tk_610 : Cond.methodLink RX6 95 yX6_openAll ∈ TW := tw_3 90 rfl rfl
theorem tk_612 : Cond.instanceMethod yX6_openAll ∈ TW := tw_3 92 rfl rfl
theorem tk_613 : Cond.code yX6_openAll cX6_openAll 4 (some FieldType.int) ∈ TW := tw_3 93 rfl rfl
theorem tk_614 : Cond.methodLink RL 57 yX6_trip ∈ TW := tw_3 94 rfl rfl
theorem tk_615 : Cond.instanceMethod yX6_trip ∈ TW := tw_3 95 rfl rfl
theorem tk_616 : Cond.selects RX6 yX6_trip yX6_trip ∈ TW := tw_3 96 rfl rfl
theorem tk_617 : Cond.code yX6_trip cX6_trip 2 (some FieldType.int) ∈ TW := tw_3 97 rfl rfl
theorem tk_618 : Cond.methodLink RL 61 yX6_way ∈ TW := tw_3 98 rfl rfl
theorem tk_619 : Cond.instanceMethod yX6_way ∈ TW := tw_3 99 rfl rfl
theorem tk_620 : Cond.selects RX6 yX6_way yX6_way ∈ TW := tw_3 100 rfl rfl
theorem tk_621 : Cond.code yX6_way cX6_way 5 (some FieldType.int) ∈ TW := tw_3 101 rfl rfl
theorem tk_622 : Cond.methodLink RX6 135 yX6_areSets ∈ TW := tw_3 102 rfl rfl
theorem tk_624 : Cond.instanceMethod yX6_areSets ∈ TW := tw_3 104 rfl rfl
theorem tk_625 : Cond.code yX6_areSets cX6_areSets 3 (some FieldType.boolean) ∈ TW := tw_3 105 rfl rfl
theorem tk_626 : Cond.methodLink RX6 138 yX6_layWay ∈ TW := tw_3 106 rfl rfl
theorem tk_628 : Cond.instanceMethod yX6_layWay ∈ TW := tw_3 108 rfl rfl
theorem tk_629 : Cond.code yX6_layWay cX6_layWay 6 (some FieldType.int) ∈ TW := tw_3 109 rfl rfl
theorem tk_630 : Cond.methodLink RX6 121 yX6_layAll ∈ TW := tw_3 110 rfl rfl
theorem tk_632 : Cond.instanceMethod yX6_layAll ∈ TW := tw_3 112 rfl rfl
theorem tk_633 : Cond.code yX6_layAll cX6_layAll 4 none ∈ TW := tw_3 113 rfl rfl
theorem tk_634 : Cond.methodLink RX6 102 yX6_numberNow ∈ TW := tw_3 114 rfl rfl
theorem tk_636 : Cond.instanceMethod yX6_numberNow ∈ TW := tw_3 116 rfl rfl
theorem tk_637 : Cond.code yX6_numberNow cX6_numberNow 3 (some FieldType.int) ∈ TW := tw_3 117 rfl rfl
theorem tk_638 : Cond.methodLink RX6 105 yX6_goOn ∈ TW := tw_3 118 rfl rfl
theorem tk_640 : Cond.instanceMethod yX6_goOn ∈ TW := tw_3 120 rfl rfl
theorem tk_641 : Cond.code yX6_goOn cX6_goOn 7 (some FieldType.boolean) ∈ TW := tw_3 121 rfl rfl
theorem tk_642 : Cond.methodLink RX6 99 yX6_layNumber ∈ TW := tw_3 122 rfl rfl
theorem tk_644 : Cond.instanceMethod yX6_layNumber ∈ TW := tw_3 124 rfl rfl
theorem tk_645 : Cond.code yX6_layNumber cX6_layNumber 4 none ∈ TW := tw_3 125 rfl rfl
theorem tk_646 : Cond.methodLink RX6 124 yX6_reached ∈ TW := tw_3 126 rfl rfl
theorem tk_648 : Cond.instanceMethod yX6_reached ∈ TW := tw_3 128 rfl rfl
theorem tk_649 : Cond.code yX6_reached cX6_reached 5 (some FieldType.int) ∈ TW := tw_3 129 rfl rfl
theorem tk_650 : Cond.methodLink RX6 115 yX6_isGoal ∈ TW := tw_3 130 rfl rfl
theorem tk_652 : Cond.instanceMethod yX6_isGoal ∈ TW := tw_3 132 rfl rfl
theorem tk_653 : Cond.code yX6_isGoal cX6_isGoal 4 (some FieldType.boolean) ∈ TW := tw_3 133 rfl rfl
theorem tk_654 : Cond.methodLink RX6 109 yX6_readySet ∈ TW := tw_3 134 rfl rfl
theorem tk_656 : Cond.instanceMethod yX6_readySet ∈ TW := tw_3 136 rfl rfl
theorem tk_657 : Cond.code yX6_readySet cX6_readySet 3 (some FieldType.int) ∈ TW := tw_3 137 rfl rfl
theorem tk_658 : Cond.methodLink RX6 112 yX6_liveSet ∈ TW := tw_3 138 rfl rfl
theorem tk_660 : Cond.instanceMethod yX6_liveSet ∈ TW := tw_3 140 rfl rfl
theorem tk_661 : Cond.code yX6_liveSet cX6_liveSet 3 (some FieldType.int) ∈ TW := tw_3 141 rfl rfl
theorem tk_662 : Cond.methodLink RX6 127 yX6_layLeads ∈ TW := tw_3 142 rfl rfl
theorem tk_664 : Cond.instanceMethod yX6_layLeads ∈ TW := tw_3 144 rfl rfl
theorem tk_665 : Cond.code yX6_layLeads cX6_layLeads 6 none ∈ TW := tw_3 145 rfl rfl
theorem tk_666 : Cond.methodLink RX6 118 yX6_stepOn ∈ TW := tw_3 146 rfl rfl
theorem tk_668 : Cond.instanceMethod yX6_stepOn ∈ TW := tw_3 148 rfl rfl
theorem tk_669 : Cond.code yX6_stepOn cX6_stepOn 4 (some FieldType.int) ∈ TW := tw_3 149 rfl rfl
theorem tk_670 : Cond.methodLink RL 65 yX6_go ∈ TW := tw_3 150 rfl rfl
theorem tk_671 : Cond.instanceMethod yX6_go ∈ TW := tw_3 151 rfl rfl
theorem tk_672 : Cond.selects RX6 yX6_go yX6_go ∈ TW := tw_3 152 rfl rfl
theorem tk_673 : Cond.code yX6_go cX6_go 4 (some FieldType.int) ∈ TW := tw_3 153 rfl rfl
theorem tk_674 : Cond.methodLink RL 69 yX6_needed ∈ TW := tw_3 154 rfl rfl
theorem tk_675 : Cond.instanceMethod yX6_needed ∈ TW := tw_3 155 rfl rfl
theorem tk_676 : Cond.selects RX6 yX6_needed yX6_needed ∈ TW := tw_3 156 rfl rfl
theorem tk_677 : Cond.code yX6_needed cX6_needed 4 (some FieldType.int) ∈ TW := tw_3 157 rfl rfl
theorem tk_678 : Cond.methodLink RX6 141 yX6_canWithout ∈ TW := tw_3 158 rfl rfl
theorem tk_680 : Cond.instanceMethod yX6_canWithout ∈ TW := tw_3 160 rfl rfl
theorem tk_681 : Cond.code yX6_canWithout cX6_canWithout 4 (some FieldType.boolean) ∈ TW := tw_3 161 rfl rfl
theorem tk_682 : Cond.methodLink RX6 144 yX6_neededLines ∈ TW := tw_3 162 rfl rfl
theorem tk_684 : Cond.instanceMethod yX6_neededLines ∈ TW := tw_3 164 rfl rfl
theorem tk_685 : Cond.code yX6_neededLines cX6_neededLines 5 (some FieldType.int) ∈ TW := tw_3 165 rfl rfl
theorem tk_686 : Cond.methodLink RX6 147 yX6_neededMachines ∈ TW := tw_3 166 rfl rfl
theorem tk_688 : Cond.instanceMethod yX6_neededMachines ∈ TW := tw_3 168 rfl rfl
theorem tk_689 : Cond.code yX6_neededMachines cX6_neededMachines 5 (some FieldType.int) ∈ TW := tw_3 169 rfl rfl
theorem tk_690 : Cond.methodLink RL 73 yX6_ever ∈ TW := tw_3 170 rfl rfl
theorem tk_691 : Cond.instanceMethod yX6_ever ∈ TW := tw_3 171 rfl rfl
theorem tk_692 : Cond.selects RX6 yX6_ever yX6_ever ∈ TW := tw_3 172 rfl rfl
theorem tk_693 : Cond.code yX6_ever cX6_ever 4 (some FieldType.int) ∈ TW := tw_3 173 rfl rfl
theorem tk_694 : Cond.methodLink RL 77 yX6_image ∈ TW := tw_3 174 rfl rfl
theorem tk_695 : Cond.instanceMethod yX6_image ∈ TW := tw_3 175 rfl rfl
theorem tk_696 : Cond.selects RX6 yX6_image yX6_image ∈ TW := tw_3 176 rfl rfl
theorem tk_697 : Cond.code yX6_image cX6_image 3 (some FieldType.int) ∈ TW := tw_3 177 rfl rfl
theorem tk_698 : Cond.methodLink RL 81 yX6_restore ∈ TW := tw_3 178 rfl rfl
theorem tk_699 : Cond.instanceMethod yX6_restore ∈ TW := tw_3 179 rfl rfl
theorem tk_700 : Cond.selects RX6 yX6_restore yX6_restore ∈ TW := tw_3 180 rfl rfl
theorem tk_701 : Cond.code yX6_restore cX6_restore 3 (some FieldType.int) ∈ TW := tw_3 181 rfl rfl
theorem tk_702 : Cond.methodLink RL 85 yX6_count ∈ TW := tw_3 182 rfl rfl
theorem tk_703 : Cond.instanceMethod yX6_count ∈ TW := tw_3 183 rfl rfl
theorem tk_704 : Cond.selects RX6 yX6_count yX6_count ∈ TW := tw_3 184 rfl rfl
theorem tk_705 : Cond.code yX6_count cX6_count 2 (some FieldType.int) ∈ TW := tw_3 185 rfl rfl
theorem tk_706 : Cond.methodLink RX6 150 yX6_sumOf ∈ TW := tw_3 186 rfl rfl
theorem tk_708 : Cond.instanceMethod yX6_sumOf ∈ TW := tw_3 188 rfl rfl
theorem tk_709 : Cond.code yX6_sumOf cX6_sumOf 5 (some FieldType.int) ∈ TW := tw_3 189 rfl rfl
theorem tk_710 : Cond.methodLink RX6 153 yX6_size ∈ TW := tw_3 190 rfl rfl
theorem tk_711 : Cond.static yX6_size ∈ TW := tw_3 191 rfl rfl
theorem tk_712 : Cond.code yX6_size cX6_size 3 (some FieldType.int) ∈ TW := tw_3 192 rfl rfl
theorem tk_713 : Cond.methodLink RX6 156 yX6_liveIslands ∈ TW := tw_3 193 rfl rfl
theorem tk_715 : Cond.instanceMethod yX6_liveIslands ∈ TW := tw_3 195 rfl rfl
theorem tk_716 : Cond.code yX6_liveIslands cX6_liveIslands 3 (some FieldType.int) ∈ TW := tw_3 196 rfl rfl
theorem tlX1 : ∀ w ∈ u_ws RX1 TX1 11, w ∈ TW := List.forall_mem_cons.mpr ⟨tk_98, List.forall_mem_cons.mpr ⟨tk_100, List.forall_mem_cons.mpr ⟨tk_102, List.forall_mem_cons.mpr ⟨tk_104, List.forall_mem_cons.mpr ⟨tk_106, List.forall_mem_cons.mpr ⟨tk_108, List.forall_mem_cons.mpr ⟨tk_110, List.forall_mem_cons.mpr ⟨tk_112, List.forall_mem_cons.mpr ⟨tk_114, List.forall_mem_cons.mpr ⟨tk_116, List.forall_mem_cons.mpr ⟨tk_118, fun _ h => absurd h List.not_mem_nil⟩⟩⟩⟩⟩⟩⟩⟩⟩⟩⟩
theorem tlX2 : ∀ w ∈ u_ws RX2 TX2 2, w ∈ TW := List.forall_mem_cons.mpr ⟨tk_130, List.forall_mem_cons.mpr ⟨tk_132, fun _ h => absurd h List.not_mem_nil⟩⟩
theorem tlX3 : ∀ w ∈ u_ws RX3 TX3 2, w ∈ TW := List.forall_mem_cons.mpr ⟨tk_143, List.forall_mem_cons.mpr ⟨tk_145, fun _ h => absurd h List.not_mem_nil⟩⟩
theorem tlX4 : ∀ w ∈ u_ws RX4 TX4 5, w ∈ TW := List.forall_mem_cons.mpr ⟨tk_159, List.forall_mem_cons.mpr ⟨tk_161, List.forall_mem_cons.mpr ⟨tk_163, List.forall_mem_cons.mpr ⟨tk_165, List.forall_mem_cons.mpr ⟨tk_167, fun _ h => absurd h List.not_mem_nil⟩⟩⟩⟩⟩
theorem tlX5 : ∀ w ∈ u_ws RX5 TX5 6, w ∈ TW := List.forall_mem_cons.mpr ⟨tk_177, List.forall_mem_cons.mpr ⟨tk_179, List.forall_mem_cons.mpr ⟨tk_181, List.forall_mem_cons.mpr ⟨tk_183, List.forall_mem_cons.mpr ⟨tk_185, List.forall_mem_cons.mpr ⟨tk_187, fun _ h => absurd h List.not_mem_nil⟩⟩⟩⟩⟩⟩
theorem tlX6 : ∀ w ∈ u_ws RX6 TX6 12, w ∈ TW := List.forall_mem_cons.mpr ⟨tk_490, List.forall_mem_cons.mpr ⟨tk_492, List.forall_mem_cons.mpr ⟨tk_494, List.forall_mem_cons.mpr ⟨tk_496, List.forall_mem_cons.mpr ⟨tk_498, List.forall_mem_cons.mpr ⟨tk_500, List.forall_mem_cons.mpr ⟨tk_502, List.forall_mem_cons.mpr ⟨tk_504, List.forall_mem_cons.mpr ⟨tk_506, List.forall_mem_cons.mpr ⟨tk_508, List.forall_mem_cons.mpr ⟨tk_510, List.forall_mem_cons.mpr ⟨tk_512, fun _ h => absurd h List.not_mem_nil⟩⟩⟩⟩⟩⟩⟩⟩⟩⟩⟩⟩
abbrev nestW : List Cond := [Cond.methodLinkNest RX5 11 yX1_init "GridStarts", Cond.methodLinkNest RX2 40 yX5_bit "GridStarts", Cond.methodLinkNest RX0 15 yX5_bit "GridStarts", Cond.methodLinkNest RX3 51 yX5_bit "GridStarts", Cond.methodLinkNest RX4 31 yX5_setOfFirst "GridStarts", Cond.methodLinkNest RX4 35 yX5_bit "GridStarts", Cond.methodLinkNest RX3 48 yX5_setOfFirst "GridStarts"]
theorem nestW_in : ∀ w ∈ nestW, w ∈ lw_tbl := List.forall_mem_cons.mpr ⟨List.mem_append_right _ (List.mem_append_left _ (List.mem_of_getElem? (i := 21) rfl)), List.forall_mem_cons.mpr ⟨List.mem_append_right _ (List.mem_append_left _ (List.mem_of_getElem? (i := 186) rfl)), List.forall_mem_cons.mpr ⟨List.mem_append_right _ (List.mem_append_left _ (List.mem_of_getElem? (i := 234) rfl)), List.forall_mem_cons.mpr ⟨List.mem_append_right _ (List.mem_append_right _ (List.mem_append_left _ (List.mem_of_getElem? (i := 26) rfl))), List.forall_mem_cons.mpr ⟨List.mem_append_right _ (List.mem_append_right _ (List.mem_append_left _ (List.mem_of_getElem? (i := 118) rfl))), List.forall_mem_cons.mpr ⟨List.mem_append_right _ (List.mem_append_right _ (List.mem_append_left _ (List.mem_of_getElem? (i := 125) rfl))), List.forall_mem_cons.mpr ⟨List.mem_append_right _ (List.mem_append_right _ (List.mem_append_left _ (List.mem_of_getElem? (i := 191) rfl))), fun _ h => absurd h List.not_mem_nil⟩⟩⟩⟩⟩⟩⟩
end
