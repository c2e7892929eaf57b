section
-- ===== PART A: goes FIRST, ahead of the names: the tables' words, and 'selects' of the private methods out of them =====
/-- a private method of a class that the tables say can be made, by its rows of tables_1 -/
def lw_okq (q : MethodName × Nat) : Prop := (q.1.cls ≠ "java/lang/invoke/MethodHandle" ∧ q.1.cls ≠ "java/lang/invoke/VarHandle") ∧ Cond.instantiable q.1.cls q.2 ∈ tables_1 ∧ Cond.privateMethod q.1 ∈ tables_1 ∧ Cond.instanceMethod q.1 ∈ tables_1
theorem lw_p0 : lw_okq (⟨"GridStarts$Islands", "join", "(IILGridStarts$Grid;I)V"⟩, 2) := ⟨⟨by decide +kernel, by decide +kernel⟩, List.mem_of_getElem? (i := 83) (by decide +kernel), List.mem_of_getElem? (i := 175) (by decide +kernel), List.mem_of_getElem? (i := 176) (by decide +kernel)⟩
theorem lw_p1 : lw_okq (⟨"GridStarts$Rules", "spareOf", "(III)I"⟩, 2) := ⟨⟨by decide +kernel, by decide +kernel⟩, List.mem_of_getElem? (i := 96) (by decide +kernel), List.mem_of_getElem? (i := 262) (by decide +kernel), List.mem_of_getElem? (i := 263) (by decide +kernel)⟩
theorem lw_p2 : lw_okq (⟨"GridStarts$Rules", "canCrank", "(IIII)Z"⟩, 2) := ⟨⟨by decide +kernel, by decide +kernel⟩, List.mem_of_getElem? (i := 96) (by decide +kernel), List.mem_of_getElem? (i := 278) (by decide +kernel), List.mem_of_getElem? (i := 279) (by decide +kernel)⟩
theorem lw_p3 : lw_okq (⟨"GridStarts$Rules", "canCarry", "(IIII)Z"⟩, 2) := ⟨⟨by decide +kernel, by decide +kernel⟩, List.mem_of_getElem? (i := 96) (by decide +kernel), List.mem_of_getElem? (i := 282) (by decide +kernel), List.mem_of_getElem? (i := 283) (by decide +kernel)⟩
theorem lw_p4 : lw_okq (⟨"GridStarts", "openLost", "()I"⟩, 6) := ⟨⟨by decide +kernel, by decide +kernel⟩, List.mem_of_getElem? (i := 12) (by decide +kernel), List.mem_of_getElem? (i := 316) (by decide +kernel), List.mem_of_getElem? (i := 317) (by decide +kernel)⟩
theorem lw_p5 : lw_okq (⟨"GridStarts", "isGoal", "(II)Z"⟩, 6) := ⟨⟨by decide +kernel, by decide +kernel⟩, List.mem_of_getElem? (i := 12) (by decide +kernel), List.mem_of_getElem? (i := 336) (by decide +kernel), List.mem_of_getElem? (i := 337) (by decide +kernel)⟩
theorem lw_p6 : lw_okq (⟨"GridStarts$Search", "explore", "(IIIII)I"⟩, 5) := ⟨⟨by decide +kernel, by decide +kernel⟩, List.mem_of_getElem? (i := 109) (by decide +kernel), List.mem_of_getElem? (i := 347) (by decide +kernel), List.mem_of_getElem? (i := 348) (by decide +kernel)⟩
theorem lw_p7 : lw_okq (⟨"GridStarts$Search", "forget", "(I)V"⟩, 5) := ⟨⟨by decide +kernel, by decide +kernel⟩, List.mem_of_getElem? (i := 109) (by decide +kernel), List.mem_of_getElem? (i := 351) (by decide +kernel), List.mem_of_getElem? (i := 352) (by decide +kernel)⟩
theorem lw_p8 : lw_okq (⟨"GridStarts$Search", "add", "(II)Z"⟩, 5) := ⟨⟨by decide +kernel, by decide +kernel⟩, List.mem_of_getElem? (i := 109) (by decide +kernel), List.mem_of_getElem? (i := 355) (by decide +kernel), List.mem_of_getElem? (i := 356) (by decide +kernel)⟩
theorem lw_p9 : lw_okq (⟨"GridStartsModel", "isLine", "(I)Z"⟩, 12) := ⟨⟨by decide +kernel, by decide +kernel⟩, List.mem_of_getElem? (i := 433) (by decide +kernel), List.mem_of_getElem? (i := 499) (by decide +kernel), List.mem_of_getElem? (i := 500) (by decide +kernel)⟩
theorem lw_p10 : lw_okq (⟨"GridStartsModel", "isMachine", "(I)Z"⟩, 12) := ⟨⟨by decide +kernel, by decide +kernel⟩, List.mem_of_getElem? (i := 433) (by decide +kernel), List.mem_of_getElem? (i := 507) (by decide +kernel), List.mem_of_getElem? (i := 508) (by decide +kernel)⟩
theorem lw_p11 : lw_okq (⟨"GridStartsModel", "layNow", "()V"⟩, 12) := ⟨⟨by decide +kernel, by decide +kernel⟩, List.mem_of_getElem? (i := 433) (by decide +kernel), List.mem_of_getElem? (i := 515) (by decide +kernel), List.mem_of_getElem? (i := 516) (by decide +kernel)⟩
theorem lw_p12 : lw_okq (⟨"GridStartsModel", "layIslands", "()V"⟩, 12) := ⟨⟨by decide +kernel, by decide +kernel⟩, List.mem_of_getElem? (i := 433) (by decide +kernel), List.mem_of_getElem? (i := 519) (by decide +kernel), List.mem_of_getElem? (i := 520) (by decide +kernel)⟩
theorem lw_p13 : lw_okq (⟨"GridStartsModel", "joinOnce", "()Z"⟩, 12) := ⟨⟨by decide +kernel, by decide +kernel⟩, List.mem_of_getElem? (i := 433) (by decide +kernel), List.mem_of_getElem? (i := 523) (by decide +kernel), List.mem_of_getElem? (i := 524) (by decide +kernel)⟩
theorem lw_p14 : lw_okq (⟨"GridStartsModel", "islandSet", "(I)I"⟩, 12) := ⟨⟨by decide +kernel, by decide +kernel⟩, List.mem_of_getElem? (i := 433) (by decide +kernel), List.mem_of_getElem? (i := 527) (by decide +kernel), List.mem_of_getElem? (i := 528) (by decide +kernel)⟩
theorem lw_p15 : lw_okq (⟨"GridStartsModel", "isLive", "(I)Z"⟩, 12) := ⟨⟨by decide +kernel, by decide +kernel⟩, List.mem_of_getElem? (i := 433) (by decide +kernel), List.mem_of_getElem? (i := 531) (by decide +kernel), List.mem_of_getElem? (i := 532) (by decide +kernel)⟩
def lw_privs_1 : List (MethodName × Nat) := [(⟨"GridStarts$Islands", "join", "(IILGridStarts$Grid;I)V"⟩, 2), (⟨"GridStarts$Rules", "spareOf", "(III)I"⟩, 2), (⟨"GridStarts$Rules", "canCrank", "(IIII)Z"⟩, 2), (⟨"GridStarts$Rules", "canCarry", "(IIII)Z"⟩, 2), (⟨"GridStarts", "openLost", "()I"⟩, 6), (⟨"GridStarts", "isGoal", "(II)Z"⟩, 6), (⟨"GridStarts$Search", "explore", "(IIIII)I"⟩, 5), (⟨"GridStarts$Search", "forget", "(I)V"⟩, 5), (⟨"GridStarts$Search", "add", "(II)Z"⟩, 5), (⟨"GridStartsModel", "isLine", "(I)Z"⟩, 12), (⟨"GridStartsModel", "isMachine", "(I)Z"⟩, 12), (⟨"GridStartsModel", "layNow", "()V"⟩, 12), (⟨"GridStartsModel", "layIslands", "()V"⟩, 12), (⟨"GridStartsModel", "joinOnce", "()Z"⟩, 12), (⟨"GridStartsModel", "islandSet", "(I)I"⟩, 12), (⟨"GridStartsModel", "isLive", "(I)Z"⟩, 12)]
theorem lw_r1 : ∀ q ∈ lw_privs_1, lw_okq q := List.forall_mem_cons.mpr ⟨lw_p0, List.forall_mem_cons.mpr ⟨lw_p1, List.forall_mem_cons.mpr ⟨lw_p2, List.forall_mem_cons.mpr ⟨lw_p3, List.forall_mem_cons.mpr ⟨lw_p4, List.forall_mem_cons.mpr ⟨lw_p5, List.forall_mem_cons.mpr ⟨lw_p6, List.forall_mem_cons.mpr ⟨lw_p7, List.forall_mem_cons.mpr ⟨lw_p8, List.forall_mem_cons.mpr ⟨lw_p9, List.forall_mem_cons.mpr ⟨lw_p10, List.forall_mem_cons.mpr ⟨lw_p11, List.forall_mem_cons.mpr ⟨lw_p12, List.forall_mem_cons.mpr ⟨lw_p13, List.forall_mem_cons.mpr ⟨lw_p14, List.forall_mem_cons.mpr ⟨lw_p15, fun _ h => absurd h List.not_mem_nil⟩⟩⟩⟩⟩⟩⟩⟩⟩⟩⟩⟩⟩⟩⟩⟩
theorem lw_p16 : lw_okq (⟨"GridStartsModel", "canStep", "(I)Z"⟩, 12) := ⟨⟨by decide +kernel, by decide +kernel⟩, List.mem_of_getElem? (i := 433) (by decide +kernel), List.mem_of_getElem? (i := 539) (by decide +kernel), List.mem_of_getElem? (i := 540) (by decide +kernel)⟩
theorem lw_p17 : lw_okq (⟨"GridStartsModel", "canStart", "(I)Z"⟩, 12) := ⟨⟨by decide +kernel, by decide +kernel⟩, List.mem_of_getElem? (i := 433) (by decide +kernel), List.mem_of_getElem? (i := 543) (by decide +kernel), List.mem_of_getElem? (i := 544) (by decide +kernel)⟩
theorem lw_p18 : lw_okq (⟨"GridStartsModel", "canClose", "(I)Z"⟩, 12) := ⟨⟨by decide +kernel, by decide +kernel⟩, List.mem_of_getElem? (i := 433) (by decide +kernel), List.mem_of_getElem? (i := 547) (by decide +kernel), List.mem_of_getElem? (i := 548) (by decide +kernel)⟩
theorem lw_p19 : lw_okq (⟨"GridStartsModel", "numberBehind", "(I)I"⟩, 12) := ⟨⟨by decide +kernel, by decide +kernel⟩, List.mem_of_getElem? (i := 433) (by decide +kernel), List.mem_of_getElem? (i := 555) (by decide +kernel), List.mem_of_getElem? (i := 556) (by decide +kernel)⟩
theorem lw_p20 : lw_okq (⟨"GridStartsModel", "ranOn", "(II)I"⟩, 12) := ⟨⟨by decide +kernel, by decide +kernel⟩, List.mem_of_getElem? (i := 433) (by decide +kernel), List.mem_of_getElem? (i := 559) (by decide +kernel), List.mem_of_getElem? (i := 560) (by decide +kernel)⟩
theorem lw_p21 : lw_okq (⟨"GridStartsModel", "become", "(I)V"⟩, 12) := ⟨⟨by decide +kernel, by decide +kernel⟩, List.mem_of_getElem? (i := 433) (by decide +kernel), List.mem_of_getElem? (i := 563) (by decide +kernel), List.mem_of_getElem? (i := 564) (by decide +kernel)⟩
theorem lw_p22 : lw_okq (⟨"GridStartsModel", "openAll", "()I"⟩, 12) := ⟨⟨by decide +kernel, by decide +kernel⟩, List.mem_of_getElem? (i := 433) (by decide +kernel), List.mem_of_getElem? (i := 571) (by decide +kernel), List.mem_of_getElem? (i := 572) (by decide +kernel)⟩
theorem lw_p23 : lw_okq (⟨"GridStartsModel", "areSets", "(II)Z"⟩, 12) := ⟨⟨by decide +kernel, by decide +kernel⟩, List.mem_of_getElem? (i := 433) (by decide +kernel), List.mem_of_getElem? (i := 583) (by decide +kernel), List.mem_of_getElem? (i := 584) (by decide +kernel)⟩
theorem lw_p24 : lw_okq (⟨"GridStartsModel", "layWay", "(II)I"⟩, 12) := ⟨⟨by decide +kernel, by decide +kernel⟩, List.mem_of_getElem? (i := 433) (by decide +kernel), List.mem_of_getElem? (i := 587) (by decide +kernel), List.mem_of_getElem? (i := 588) (by decide +kernel)⟩
theorem lw_p25 : lw_okq (⟨"GridStartsModel", "layAll", "(I)V"⟩, 12) := ⟨⟨by decide +kernel, by decide +kernel⟩, List.mem_of_getElem? (i := 433) (by decide +kernel), List.mem_of_getElem? (i := 591) (by decide +kernel), List.mem_of_getElem? (i := 592) (by decide +kernel)⟩
theorem lw_p26 : lw_okq (⟨"GridStartsModel", "numberNow", "()I"⟩, 12) := ⟨⟨by decide +kernel, by decide +kernel⟩, List.mem_of_getElem? (i := 433) (by decide +kernel), List.mem_of_getElem? (i := 595) (by decide +kernel), List.mem_of_getElem? (i := 596) (by decide +kernel)⟩
theorem lw_p27 : lw_okq (⟨"GridStartsModel", "goOn", "(II)Z"⟩, 12) := ⟨⟨by decide +kernel, by decide +kernel⟩, List.mem_of_getElem? (i := 433) (by decide +kernel), List.mem_of_getElem? (i := 599) (by decide +kernel), List.mem_of_getElem? (i := 600) (by decide +kernel)⟩
theorem lw_p28 : lw_okq (⟨"GridStartsModel", "layNumber", "(I)V"⟩, 12) := ⟨⟨by decide +kernel, by decide +kernel⟩, List.mem_of_getElem? (i := 433) (by decide +kernel), List.mem_of_getElem? (i := 603) (by decide +kernel), List.mem_of_getElem? (i := 604) (by decide +kernel)⟩
theorem lw_p29 : lw_okq (⟨"GridStartsModel", "reached", "(II)I"⟩, 12) := ⟨⟨by decide +kernel, by decide +kernel⟩, List.mem_of_getElem? (i := 433) (by decide +kernel), List.mem_of_getElem? (i := 607) (by decide +kernel), List.mem_of_getElem? (i := 608) (by decide +kernel)⟩
theorem lw_p30 : lw_okq (⟨"GridStartsModel", "isGoal", "(III)Z"⟩, 12) := ⟨⟨by decide +kernel, by decide +kernel⟩, List.mem_of_getElem? (i := 433) (by decide +kernel), List.mem_of_getElem? (i := 611) (by decide +kernel), List.mem_of_getElem? (i := 612) (by decide +kernel)⟩
theorem lw_p31 : lw_okq (⟨"GridStartsModel", "readySet", "()I"⟩, 12) := ⟨⟨by decide +kernel, by decide +kernel⟩, List.mem_of_getElem? (i := 433) (by decide +kernel), List.mem_of_getElem? (i := 615) (by decide +kernel), List.mem_of_getElem? (i := 616) (by decide +kernel)⟩
def lw_privs_2 : List (MethodName × Nat) := [(⟨"GridStartsModel", "canStep", "(I)Z"⟩, 12), (⟨"GridStartsModel", "canStart", "(I)Z"⟩, 12), (⟨"GridStartsModel", "canClose", "(I)Z"⟩, 12), (⟨"GridStartsModel", "numberBehind", "(I)I"⟩, 12), (⟨"GridStartsModel", "ranOn", "(II)I"⟩, 12), (⟨"GridStartsModel", "become", "(I)V"⟩, 12), (⟨"GridStartsModel", "openAll", "()I"⟩, 12), (⟨"GridStartsModel", "areSets", "(II)Z"⟩, 12), (⟨"GridStartsModel", "layWay", "(II)I"⟩, 12), (⟨"GridStartsModel", "layAll", "(I)V"⟩, 12), (⟨"GridStartsModel", "numberNow", "()I"⟩, 12), (⟨"GridStartsModel", "goOn", "(II)Z"⟩, 12), (⟨"GridStartsModel", "layNumber", "(I)V"⟩, 12), (⟨"GridStartsModel", "reached", "(II)I"⟩, 12), (⟨"GridStartsModel", "isGoal", "(III)Z"⟩, 12), (⟨"GridStartsModel", "readySet", "()I"⟩, 12)]
theorem lw_r2 : ∀ q ∈ lw_privs_2, lw_okq q := List.forall_mem_cons.mpr ⟨lw_p16, List.forall_mem_cons.mpr ⟨lw_p17, List.forall_mem_cons.mpr ⟨lw_p18, List.forall_mem_cons.mpr ⟨lw_p19, List.forall_mem_cons.mpr ⟨lw_p20, List.forall_mem_cons.mpr ⟨lw_p21, List.forall_mem_cons.mpr ⟨lw_p22, List.forall_mem_cons.mpr ⟨lw_p23, List.forall_mem_cons.mpr ⟨lw_p24, List.forall_mem_cons.mpr ⟨lw_p25, List.forall_mem_cons.mpr ⟨lw_p26, List.forall_mem_cons.mpr ⟨lw_p27, List.forall_mem_cons.mpr ⟨lw_p28, List.forall_mem_cons.mpr ⟨lw_p29, List.forall_mem_cons.mpr ⟨lw_p30, List.forall_mem_cons.mpr ⟨lw_p31, fun _ h => absurd h List.not_mem_nil⟩⟩⟩⟩⟩⟩⟩⟩⟩⟩⟩⟩⟩⟩⟩⟩
theorem lw_p32 : lw_okq (⟨"GridStartsModel", "liveSet", "()I"⟩, 12) := ⟨⟨by decide +kernel, by decide +kernel⟩, List.mem_of_getElem? (i := 433) (by decide +kernel), List.mem_of_getElem? (i := 619) (by decide +kernel), List.mem_of_getElem? (i := 620) (by decide +kernel)⟩
theorem lw_p33 : lw_okq (⟨"GridStartsModel", "layLeads", "(III)V"⟩, 12) := ⟨⟨by decide +kernel, by decide +kernel⟩, List.mem_of_getElem? (i := 433) (by decide +kernel), List.mem_of_getElem? (i := 623) (by decide +kernel), List.mem_of_getElem? (i := 624) (by decide +kernel)⟩
theorem lw_p34 : lw_okq (⟨"GridStartsModel", "stepOn", "(I)I"⟩, 12) := ⟨⟨by decide +kernel, by decide +kernel⟩, List.mem_of_getElem? (i := 433) (by decide +kernel), List.mem_of_getElem? (i := 627) (by decide +kernel), List.mem_of_getElem? (i := 628) (by decide +kernel)⟩
theorem lw_p35 : lw_okq (⟨"GridStartsModel", "canWithout", "(III)Z"⟩, 12) := ⟨⟨by decide +kernel, by decide +kernel⟩, List.mem_of_getElem? (i := 433) (by decide +kernel), List.mem_of_getElem? (i := 639) (by decide +kernel), List.mem_of_getElem? (i := 640) (by decide +kernel)⟩
theorem lw_p36 : lw_okq (⟨"GridStartsModel", "neededLines", "(II)I"⟩, 12) := ⟨⟨by decide +kernel, by decide +kernel⟩, List.mem_of_getElem? (i := 433) (by decide +kernel), List.mem_of_getElem? (i := 643) (by decide +kernel), List.mem_of_getElem? (i := 644) (by decide +kernel)⟩
theorem lw_p37 : lw_okq (⟨"GridStartsModel", "neededMachines", "(II)I"⟩, 12) := ⟨⟨by decide +kernel, by decide +kernel⟩, List.mem_of_getElem? (i := 433) (by decide +kernel), List.mem_of_getElem? (i := 647) (by decide +kernel), List.mem_of_getElem? (i := 648) (by decide +kernel)⟩
theorem lw_p38 : lw_okq (⟨"GridStartsModel", "sumOf", "(II)I"⟩, 12) := ⟨⟨by decide +kernel, by decide +kernel⟩, List.mem_of_getElem? (i := 433) (by decide +kernel), List.mem_of_getElem? (i := 667) (by decide +kernel), List.mem_of_getElem? (i := 668) (by decide +kernel)⟩
theorem lw_p39 : lw_okq (⟨"GridStartsModel", "liveIslands", "()I"⟩, 12) := ⟨⟨by decide +kernel, by decide +kernel⟩, List.mem_of_getElem? (i := 433) (by decide +kernel), List.mem_of_getElem? (i := 674) (by decide +kernel), List.mem_of_getElem? (i := 675) (by decide +kernel)⟩
def lw_privs_3 : List (MethodName × Nat) := [(⟨"GridStartsModel", "liveSet", "()I"⟩, 12), (⟨"GridStartsModel", "layLeads", "(III)V"⟩, 12), (⟨"GridStartsModel", "stepOn", "(I)I"⟩, 12), (⟨"GridStartsModel", "canWithout", "(III)Z"⟩, 12), (⟨"GridStartsModel", "neededLines", "(II)I"⟩, 12), (⟨"GridStartsModel", "neededMachines", "(II)I"⟩, 12), (⟨"GridStartsModel", "sumOf", "(II)I"⟩, 12), (⟨"GridStartsModel", "liveIslands", "()I"⟩, 12)]
theorem lw_r3 : ∀ q ∈ lw_privs_3, lw_okq q := List.forall_mem_cons.mpr ⟨lw_p32, List.forall_mem_cons.mpr ⟨lw_p33, List.forall_mem_cons.mpr ⟨lw_p34, List.forall_mem_cons.mpr ⟨lw_p35, List.forall_mem_cons.mpr ⟨lw_p36, List.forall_mem_cons.mpr ⟨lw_p37, List.forall_mem_cons.mpr ⟨lw_p38, List.forall_mem_cons.mpr ⟨lw_p39, fun _ h => absurd h List.not_mem_nil⟩⟩⟩⟩⟩⟩⟩⟩
def lw_privs : List (MethodName × Nat) := lw_privs_1 ++ (lw_privs_2 ++ (lw_privs_3))
def lw_tbl : List Cond := k2_sels lw_privs ++ tables_1
theorem lw_privs_ok : ∀ q ∈ lw_privs, lw_okq q := by
  show ∀ q ∈ lw_privs_1 ++ (lw_privs_2 ++ (lw_privs_3)), lw_okq q
  exact List.forall_mem_append.mpr ⟨lw_r1, List.forall_mem_append.mpr ⟨lw_r2, lw_r3⟩⟩
end
section
def RX0 : String := "GridStarts$Code"
def TX0 : u_T := fun k => match k with
  | _ => ("", "", "", false)
def tyX0 : Nat → FieldType := fun k => match k with
  | _ => .int
abbrev wsX00 : List Cond := u_ws RX0 TX0 0
theorem nmX0 : ∀ a, a < 0 → ∀ b, b < 0 → a ≠ b → (TX0 a).2.1 ≠ (TX0 b).2.1 := by decide +kernel
theorem tyX0_ok : ∀ k, k < 0 → parseFieldDescriptor (TX0 k).2.2.1 = some (tyX0 k) := by decide +kernel
abbrev cX0_closed : ByteArray := prog_2_method_2_code
def yX0_closed : MethodName := ⟨RX0, "closed", "(I)I"⟩
abbrev cX0_running : ByteArray := prog_2_method_3_code
def yX0_running : MethodName := ⟨RX0, "running", "(I)I"⟩
abbrev cX0_isRunning : ByteArray := prog_2_method_4_code
def yX0_isRunning : MethodName := ⟨RX0, "isRunning", "(II)Z"⟩
abbrev cX0_left : ByteArray := prog_2_method_5_code
def yX0_left : MethodName := ⟨RX0, "left", "(II)I"⟩
abbrev cX0_ready : ByteArray := prog_2_method_6_code
def yX0_ready : MethodName := ⟨RX0, "ready", "(I)I"⟩
abbrev cX0_ticked : ByteArray := prog_2_method_7_code
def yX0_ticked : MethodName := ⟨RX0, "ticked", "(I)I"⟩
abbrev cX0_withStarted : ByteArray := prog_2_method_8_code
def yX0_withStarted : MethodName := ⟨RX0, "withStarted", "(III)I"⟩
abbrev cX0_withStopped : ByteArray := prog_2_method_9_code
def yX0_withStopped : MethodName := ⟨RX0, "withStopped", "(II)I"⟩
abbrev cX0_withClosed : ByteArray := prog_2_method_10_code
def yX0_withClosed : MethodName := ⟨RX0, "withClosed", "(II)I"⟩
abbrev cX0_withOpened : ByteArray := prog_2_method_11_code
def yX0_withOpened : MethodName := ⟨RX0, "withOpened", "(II)I"⟩
abbrev cX0_leftAt : ByteArray := prog_2_method_12_code
def yX0_leftAt : MethodName := ⟨RX0, "leftAt", "(I)I"⟩
def RX1 : String := "GridStarts$Grid"
def TX1 : u_T := fun k => match k with
  | 0 => ("GridStarts$Grid", "lines", "I", false)
  | 1 => ("GridStarts$Grid", "lesser", "[I", true)
  | 2 => ("GridStarts$Grid", "greater", "[I", true)
  | 3 => ("GridStarts$Grid", "charge", "[I", true)
  | 4 => ("GridStarts$Grid", "machines", "I", false)
  | 5 => ("GridStarts$Grid", "home", "[I", true)
  | 6 => ("GridStarts$Grid", "crank", "[I", true)
  | 7 => ("GridStarts$Grid", "power", "[I", true)
  | 8 => ("GridStarts$Grid", "ramp", "[I", true)
  | 9 => ("GridStarts$Grid", "code", "I", false)
  | _ => ("GridStarts$Grid", "now", "I", false)
def tyX1 : Nat → FieldType := fun k => match k with
  | 0 => .int
  | 1 => .array .int
  | 2 => .array .int
  | 3 => .array .int
  | 4 => .int
  | 5 => .array .int
  | 6 => .array .int
  | 7 => .array .int
  | 8 => .array .int
  | 9 => .int
  | _ => .int
abbrev wsX10 : List Cond := u_ws RX1 TX1 11
theorem nmX1 : ∀ a, a < 11 → ∀ b, b < 11 → a ≠ b → (TX1 a).2.1 ≠ (TX1 b).2.1 := by decide +kernel
theorem tyX1_ok : ∀ k, k < 11 → parseFieldDescriptor (TX1 k).2.2.1 = some (tyX1 k) := by decide +kernel
abbrev cX1_init : ByteArray := prog_3_method_1_code
def yX1_init : MethodName := ⟨RX1, "<init>", "()V"⟩
abbrev cX1_hasLine : ByteArray := prog_3_method_2_code
def yX1_hasLine : MethodName := ⟨RX1, "hasLine", "(I)Z"⟩
abbrev cX1_hasMachine : ByteArray := prog_3_method_3_code
def yX1_hasMachine : MethodName := ⟨RX1, "hasMachine", "(I)Z"⟩
abbrev cX1_addLine : ByteArray := prog_3_method_4_code
def yX1_addLine : MethodName := ⟨RX1, "addLine", "(III)I"⟩
abbrev cX1_addMachine : ByteArray := prog_3_method_5_code
def yX1_addMachine : MethodName := ⟨RX1, "addMachine", "(IIII)I"⟩
abbrev cX1_copyFrom : ByteArray := prog_3_method_6_code
def yX1_copyFrom : MethodName := ⟨RX1, "copyFrom", "(LGridStarts$Grid;)V"⟩
def RX2 : String := "GridStarts$Islands"
def TX2 : u_T := fun k => match k with
  | 0 => ("GridStarts$Islands", "sets", "[I", true)
  | _ => ("GridStarts$Islands", "draws", "[I", true)
def tyX2 : Nat → FieldType := fun k => match k with
  | 0 => .array .int
  | _ => .array .int
abbrev wsX20 : List Cond := u_ws RX2 TX2 2
theorem nmX2 : ∀ a, a < 2 → ∀ b, b < 2 → a ≠ b → (TX2 a).2.1 ≠ (TX2 b).2.1 := by decide +kernel
theorem tyX2_ok : ∀ k, k < 2 → parseFieldDescriptor (TX2 k).2.2.1 = some (tyX2 k) := by decide +kernel
abbrev cX2_init : ByteArray := prog_4_method_1_code
def yX2_init : MethodName := ⟨RX2, "<init>", "()V"⟩
abbrev cX2_busesWith : ByteArray := prog_4_method_2_code
def yX2_busesWith : MethodName := ⟨RX2, "busesWith", "(II)I"⟩
abbrev cX2_drawAround : ByteArray := prog_4_method_3_code
def yX2_drawAround : MethodName := ⟨RX2, "drawAround", "(II)I"⟩
abbrev cX2_learnLine : ByteArray := prog_4_method_4_code
def yX2_learnLine : MethodName := ⟨RX2, "learnLine", "(LGridStarts$Grid;I)V"⟩
abbrev cX2_join : ByteArray := prog_4_method_5_code
def yX2_join : MethodName := ⟨RX2, "join", "(IILGridStarts$Grid;I)V"⟩
def RX3 : String := "GridStarts$Rules"
def TX3 : u_T := fun k => match k with
  | 0 => ("GridStarts$Rules", "grid", "LGridStarts$Grid;", true)
  | _ => ("GridStarts$Rules", "islands", "LGridStarts$Islands;", true)
def tyX3 : Nat → FieldType := fun k => match k with
  | 0 => .object "GridStarts$Grid"
  | _ => .object "GridStarts$Islands"
abbrev wsX30 : List Cond := u_ws RX3 TX3 2
theorem nmX3 : ∀ a, a < 2 → ∀ b, b < 2 → a ≠ b → (TX3 a).2.1 ≠ (TX3 b).2.1 := by decide +kernel
theorem tyX3_ok : ∀ k, k < 2 → parseFieldDescriptor (TX3 k).2.2.1 = some (tyX3 k) := by decide +kernel
abbrev cX3_init : ByteArray := prog_5_method_1_code
def yX3_init : MethodName := ⟨RX3, "<init>", "(LGridStarts$Grid;LGridStarts$Islands;)V"⟩
abbrev cX3_liveBuses : ByteArray := prog_5_method_2_code
def yX3_liveBuses : MethodName := ⟨RX3, "liveBuses", "(I)I"⟩
abbrev cX3_countLiveIslands : ByteArray := prog_5_method_3_code
def yX3_countLiveIslands : MethodName := ⟨RX3, "countLiveIslands", "(I)I"⟩
abbrev cX3_spare : ByteArray := prog_5_method_4_code
def yX3_spare : MethodName := ⟨RX3, "spare", "(II)I"⟩
abbrev cX3_spareOf : ByteArray := prog_5_method_5_code
def yX3_spareOf : MethodName := ⟨RX3, "spareOf", "(III)I"⟩
abbrev cX3_isTold : ByteArray := prog_5_method_6_code
def yX3_isTold : MethodName := ⟨RX3, "isTold", "(I)Z"⟩
abbrev cX3_stepsFrom : ByteArray := prog_5_method_7_code
def yX3_stepsFrom : MethodName := ⟨RX3, "stepsFrom", "(I)I"⟩
abbrev cX3_canCrank : ByteArray := prog_5_method_8_code
def yX3_canCrank : MethodName := ⟨RX3, "canCrank", "(IIII)Z"⟩
abbrev cX3_canCarry : ByteArray := prog_5_method_9_code
def yX3_canCarry : MethodName := ⟨RX3, "canCarry", "(IIII)Z"⟩
abbrev cX3_withStep : ByteArray := prog_5_method_10_code
def yX3_withStep : MethodName := ⟨RX3, "withStep", "(II)I"⟩
abbrev cX3_isReached : ByteArray := prog_5_method_11_code
def yX3_isReached : MethodName := ⟨RX3, "isReached", "(III)Z"⟩
abbrev cX3_lostLines : ByteArray := prog_5_method_12_code
def yX3_lostLines : MethodName := ⟨RX3, "lostLines", "(I)I"⟩
def RX4 : String := "GridStarts$Search"
def TX4 : u_T := fun k => match k with
  | 0 => ("GridStarts$Search", "rules", "LGridStarts$Rules;", true)
  | 1 => ("GridStarts$Search", "codes", "[I", true)
  | 2 => ("GridStarts$Search", "origins", "[I", true)
  | 3 => ("GridStarts$Search", "seen", "[I", true)
  | _ => ("GridStarts$Search", "size", "I", false)
def tyX4 : Nat → FieldType := fun k => match k with
  | 0 => .object "GridStarts$Rules"
  | 1 => .array .int
  | 2 => .array .int
  | 3 => .array .int
  | _ => .int
abbrev wsX40 : List Cond := u_ws RX4 TX4 5
theorem nmX4 : ∀ a, a < 5 → ∀ b, b < 5 → a ≠ b → (TX4 a).2.1 ≠ (TX4 b).2.1 := by decide +kernel
theorem tyX4_ok : ∀ k, k < 5 → parseFieldDescriptor (TX4 k).2.2.1 = some (tyX4 k) := by decide +kernel
abbrev cX4_init : ByteArray := prog_6_method_1_code
def yX4_init : MethodName := ⟨RX4, "<init>", "(LGridStarts$Rules;)V"⟩
abbrev cX4_plan : ByteArray := prog_6_method_2_code
def yX4_plan : MethodName := ⟨RX4, "plan", "(III)I"⟩
abbrev cX4_codeAt : ByteArray := prog_6_method_3_code
def yX4_codeAt : MethodName := ⟨RX4, "codeAt", "(I)I"⟩
abbrev cX4_ticksTo : ByteArray := prog_6_method_4_code
def yX4_ticksTo : MethodName := ⟨RX4, "ticksTo", "(I)I"⟩
abbrev cX4_stepBefore : ByteArray := prog_6_method_5_code
def yX4_stepBefore : MethodName := ⟨RX4, "stepBefore", "(II)I"⟩
abbrev cX4_canReach : ByteArray := prog_6_method_6_code
def yX4_canReach : MethodName := ⟨RX4, "canReach", "(III)Z"⟩
abbrev cX4_neededAmong : ByteArray := prog_6_method_7_code
def yX4_neededAmong : MethodName := ⟨RX4, "neededAmong", "(IIII)I"⟩
abbrev cX4_everReady : ByteArray := prog_6_method_8_code
def yX4_everReady : MethodName := ⟨RX4, "everReady", "(II)I"⟩
abbrev cX4_everLive : ByteArray := prog_6_method_9_code
def yX4_everLive : MethodName := ⟨RX4, "everLive", "(I)I"⟩
abbrev cX4_explore : ByteArray := prog_6_method_10_code
def yX4_explore : MethodName := ⟨RX4, "explore", "(IIIII)I"⟩
abbrev cX4_forget : ByteArray := prog_6_method_11_code
def yX4_forget : MethodName := ⟨RX4, "forget", "(I)V"⟩
abbrev cX4_add : ByteArray := prog_6_method_12_code
def yX4_add : MethodName := ⟨RX4, "add", "(II)Z"⟩
def RX5 : String := "GridStarts"
def TX5 : u_T := fun k => match k with
  | 0 => ("GridStarts", "grid", "LGridStarts$Grid;", true)
  | 1 => ("GridStarts", "islands", "LGridStarts$Islands;", true)
  | 2 => ("GridStarts", "rules", "LGridStarts$Rules;", true)
  | 3 => ("GridStarts", "search", "LGridStarts$Search;", true)
  | 4 => ("GridStarts", "images", "[LGridStarts$Grid;", true)
  | _ => ("GridStarts", "kept", "I", false)
def tyX5 : Nat → FieldType := fun k => match k with
  | 0 => .object "GridStarts$Grid"
  | 1 => .object "GridStarts$Islands"
  | 2 => .object "GridStarts$Rules"
  | 3 => .object "GridStarts$Search"
  | 4 => .array (.object "GridStarts$Grid")
  | _ => .int
abbrev wsX50 : List Cond := u_ws RX5 TX5 6
theorem nmX5 : ∀ a, a < 6 → ∀ b, b < 6 → a ≠ b → (TX5 a).2.1 ≠ (TX5 b).2.1 := by decide +kernel
theorem tyX5_ok : ∀ k, k < 6 → parseFieldDescriptor (TX5 k).2.2.1 = some (tyX5 k) := by decide +kernel
abbrev cX5_init : ByteArray := prog_1_method_1_code
def yX5_init : MethodName := ⟨RX5, "<init>", "()V"⟩
abbrev cX5_line : ByteArray := prog_1_method_2_code
def yX5_line : MethodName := ⟨RX5, "line", "(III)I"⟩
abbrev cX5_machine : ByteArray := prog_1_method_3_code
def yX5_machine : MethodName := ⟨RX5, "machine", "(IIII)I"⟩
abbrev cX5_dark : ByteArray := prog_1_method_4_code
def yX5_dark : MethodName := ⟨RX5, "dark", "()I"⟩
abbrev cX5_of : ByteArray := prog_1_method_5_code
def yX5_of : MethodName := ⟨RX5, "of", "(II)I"⟩
abbrev cX5_at : ByteArray := prog_1_method_6_code
def yX5_at : MethodName := ⟨RX5, "at", "(II)I"⟩
abbrev cX5_bus : ByteArray := prog_1_method_7_code
def yX5_bus : MethodName := ⟨RX5, "bus", "(II)I"⟩
abbrev cX5_can : ByteArray := prog_1_method_8_code
def yX5_can : MethodName := ⟨RX5, "can", "()I"⟩
abbrev cX5_tick : ByteArray := prog_1_method_9_code
def yX5_tick : MethodName := ⟨RX5, "tick", "(I)I"⟩
abbrev cX5_fail : ByteArray := prog_1_method_10_code
def yX5_fail : MethodName := ⟨RX5, "fail", "(I)I"⟩
abbrev cX5_trip : ByteArray := prog_1_method_11_code
def yX5_trip : MethodName := ⟨RX5, "trip", "(I)I"⟩
abbrev cX5_way : ByteArray := prog_1_method_12_code
def yX5_way : MethodName := ⟨RX5, "way", "(III)I"⟩
abbrev cX5_go : ByteArray := prog_1_method_13_code
def yX5_go : MethodName := ⟨RX5, "go", "(II)I"⟩
abbrev cX5_needed : ByteArray := prog_1_method_14_code
def yX5_needed : MethodName := ⟨RX5, "needed", "(III)I"⟩
abbrev cX5_ever : ByteArray := prog_1_method_15_code
def yX5_ever : MethodName := ⟨RX5, "ever", "(I)I"⟩
abbrev cX5_image : ByteArray := prog_1_method_16_code
def yX5_image : MethodName := ⟨RX5, "image", "(I)I"⟩
abbrev cX5_restore : ByteArray := prog_1_method_17_code
def yX5_restore : MethodName := ⟨RX5, "restore", "(I)I"⟩
abbrev cX5_count : ByteArray := prog_1_method_18_code
def yX5_count : MethodName := ⟨RX5, "count", "(I)I"⟩
abbrev cX5_openLost : ByteArray := prog_1_method_19_code
def yX5_openLost : MethodName := ⟨RX5, "openLost", "()I"⟩
abbrev cX5_isGoal : ByteArray := prog_1_method_20_code
def yX5_isGoal : MethodName := ⟨RX5, "isGoal", "(II)Z"⟩
abbrev cX5_isBus : ByteArray := prog_1_method_21_code
def yX5_isBus : MethodName := ⟨RX5, "isBus", "(I)Z"⟩
abbrev cX5_isWithin : ByteArray := prog_1_method_22_code
def yX5_isWithin : MethodName := ⟨RX5, "isWithin", "(II)Z"⟩
abbrev cX5_setOfFirst : ByteArray := prog_1_method_23_code
def yX5_setOfFirst : MethodName := ⟨RX5, "setOfFirst", "(I)I"⟩
abbrev cX5_bit : ByteArray := prog_1_method_24_code
def yX5_bit : MethodName := ⟨RX5, "bit", "(II)I"⟩
def RX6 : String := "GridStartsModel"
def TX6 : u_T := fun k => match k with
  | 0 => ("GridStartsModel", "state", "[I", true)
  | 1 => ("GridStartsModel", "images", "[I", true)
  | 2 => ("GridStartsModel", "isKept", "[Z", true)
  | 3 => ("GridStartsModel", "closed", "[I", true)
  | 4 => ("GridStartsModel", "run", "[I", true)
  | 5 => ("GridStartsModel", "island", "[I", true)
  | 6 => ("GridStartsModel", "spare", "[I", true)
  | 7 => ("GridStartsModel", "live", "[Z", true)
  | 8 => ("GridStartsModel", "first", "[I", true)
  | 9 => ("GridStartsModel", "leads", "[Z", true)
  | 10 => ("GridStartsModel", "steps", "[I", true)
  | _ => ("GridStartsModel", "atLast", "I", false)
def tyX6 : Nat → FieldType := fun k => match k with
  | 0 => .array .int
  | 1 => .array .int
  | 2 => .array .boolean
  | 3 => .array .int
  | 4 => .array .int
  | 5 => .array .int
  | 6 => .array .int
  | 7 => .array .boolean
  | 8 => .array .int
  | 9 => .array .boolean
  | 10 => .array .int
  | _ => .int
abbrev wsX60 : List Cond := u_ws RX6 TX6 12
theorem nmX6 : ∀ a, a < 12 → ∀ b, b < 12 → a ≠ b → (TX6 a).2.1 ≠ (TX6 b).2.1 := by decide +kernel
theorem tyX6_ok : ∀ k, k < 12 → parseFieldDescriptor (TX6 k).2.2.1 = some (tyX6 k) := by decide +kernel
abbrev cX6_init : ByteArray := prog_8_method_1_code
def yX6_init : MethodName := ⟨RX6, "<init>", "()V"⟩
abbrev cX6_in : ByteArray := prog_8_method_2_code
def yX6_in : MethodName := ⟨RX6, "in", "(III)Z"⟩
abbrev cX6_isBus : ByteArray := prog_8_method_3_code
def yX6_isBus : MethodName := ⟨RX6, "isBus", "(I)Z"⟩
abbrev cX6_isLine : ByteArray := prog_8_method_4_code
def yX6_isLine : MethodName := ⟨RX6, "isLine", "(I)Z"⟩
abbrev cX6_isMachine : ByteArray := prog_8_method_5_code
def yX6_isMachine : MethodName := ⟨RX6, "isMachine", "(I)Z"⟩
abbrev cX6_line : ByteArray := prog_8_method_6_code
def yX6_line : MethodName := ⟨RX6, "line", "(III)I"⟩
abbrev cX6_machine : ByteArray := prog_8_method_7_code
def yX6_machine : MethodName := ⟨RX6, "machine", "(IIII)I"⟩
abbrev cX6_dark : ByteArray := prog_8_method_8_code
def yX6_dark : MethodName := ⟨RX6, "dark", "()I"⟩
abbrev cX6_of : ByteArray := prog_8_method_9_code
def yX6_of : MethodName := ⟨RX6, "of", "(II)I"⟩
abbrev cX6_at : ByteArray := prog_8_method_10_code
def yX6_at : MethodName := ⟨RX6, "at", "(II)I"⟩
abbrev cX6_joinOnce : ByteArray := prog_8_method_11_code
def yX6_joinOnce : MethodName := ⟨RX6, "joinOnce", "()Z"⟩
abbrev cX6_layIslands : ByteArray := prog_8_method_12_code
def yX6_layIslands : MethodName := ⟨RX6, "layIslands", "()V"⟩
abbrev cX6_layNow : ByteArray := prog_8_method_13_code
def yX6_layNow : MethodName := ⟨RX6, "layNow", "()V"⟩
abbrev cX6_isLive : ByteArray := prog_8_method_14_code
def yX6_isLive : MethodName := ⟨RX6, "isLive", "(I)Z"⟩
abbrev cX6_islandSet : ByteArray := prog_8_method_15_code
def yX6_islandSet : MethodName := ⟨RX6, "islandSet", "(I)I"⟩
abbrev cX6_bus : ByteArray := prog_8_method_16_code
def yX6_bus : MethodName := ⟨RX6, "bus", "(II)I"⟩
abbrev cX6_canStart : ByteArray := prog_8_method_17_code
def yX6_canStart : MethodName := ⟨RX6, "canStart", "(I)Z"⟩
abbrev cX6_canClose : ByteArray := prog_8_method_18_code
def yX6_canClose : MethodName := ⟨RX6, "canClose", "(I)Z"⟩
abbrev cX6_canStep : ByteArray := prog_8_method_19_code
def yX6_canStep : MethodName := ⟨RX6, "canStep", "(I)Z"⟩
abbrev cX6_can : ByteArray := prog_8_method_20_code
def yX6_can : MethodName := ⟨RX6, "can", "()I"⟩
abbrev cX6_ranOn : ByteArray := prog_8_method_21_code
def yX6_ranOn : MethodName := ⟨RX6, "ranOn", "(II)I"⟩
abbrev cX6_numberBehind : ByteArray := prog_8_method_22_code
def yX6_numberBehind : MethodName := ⟨RX6, "numberBehind", "(I)I"⟩
abbrev cX6_numberNow : ByteArray := prog_8_method_23_code
def yX6_numberNow : MethodName := ⟨RX6, "numberNow", "()I"⟩
abbrev cX6_layNumber : ByteArray := prog_8_method_24_code
def yX6_layNumber : MethodName := ⟨RX6, "layNumber", "(I)V"⟩
abbrev cX6_become : ByteArray := prog_8_method_25_code
def yX6_become : MethodName := ⟨RX6, "become", "(I)V"⟩
abbrev cX6_tick : ByteArray := prog_8_method_26_code
def yX6_tick : MethodName := ⟨RX6, "tick", "(I)I"⟩
abbrev cX6_openAll : ByteArray := prog_8_method_27_code
def yX6_openAll : MethodName := ⟨RX6, "openAll", "()I"⟩
abbrev cX6_fail : ByteArray := prog_8_method_28_code
def yX6_fail : MethodName := ⟨RX6, "fail", "(I)I"⟩
abbrev cX6_trip : ByteArray := prog_8_method_29_code
def yX6_trip : MethodName := ⟨RX6, "trip", "(I)I"⟩
abbrev cX6_goOn : ByteArray := prog_8_method_30_code
def yX6_goOn : MethodName := ⟨RX6, "goOn", "(II)Z"⟩
abbrev cX6_layAll : ByteArray := prog_8_method_31_code
def yX6_layAll : MethodName := ⟨RX6, "layAll", "(I)V"⟩
abbrev cX6_readySet : ByteArray := prog_8_method_32_code
def yX6_readySet : MethodName := ⟨RX6, "readySet", "()I"⟩
abbrev cX6_liveSet : ByteArray := prog_8_method_33_code
def yX6_liveSet : MethodName := ⟨RX6, "liveSet", "()I"⟩
abbrev cX6_isGoal : ByteArray := prog_8_method_34_code
def yX6_isGoal : MethodName := ⟨RX6, "isGoal", "(III)Z"⟩
abbrev cX6_reached : ByteArray := prog_8_method_35_code
def yX6_reached : MethodName := ⟨RX6, "reached", "(II)I"⟩
abbrev cX6_stepOn : ByteArray := prog_8_method_36_code
def yX6_stepOn : MethodName := ⟨RX6, "stepOn", "(I)I"⟩
abbrev cX6_layLeads : ByteArray := prog_8_method_37_code
def yX6_layLeads : MethodName := ⟨RX6, "layLeads", "(III)V"⟩
abbrev cX6_layWay : ByteArray := prog_8_method_38_code
def yX6_layWay : MethodName := ⟨RX6, "layWay", "(II)I"⟩
abbrev cX6_areSets : ByteArray := prog_8_method_39_code
def yX6_areSets : MethodName := ⟨RX6, "areSets", "(II)Z"⟩
abbrev cX6_way : ByteArray := prog_8_method_40_code
def yX6_way : MethodName := ⟨RX6, "way", "(III)I"⟩
abbrev cX6_go : ByteArray := prog_8_method_41_code
def yX6_go : MethodName := ⟨RX6, "go", "(II)I"⟩
abbrev cX6_canWithout : ByteArray := prog_8_method_42_code
def yX6_canWithout : MethodName := ⟨RX6, "canWithout", "(III)Z"⟩
abbrev cX6_neededLines : ByteArray := prog_8_method_43_code
def yX6_neededLines : MethodName := ⟨RX6, "neededLines", "(II)I"⟩
abbrev cX6_neededMachines : ByteArray := prog_8_method_44_code
def yX6_neededMachines : MethodName := ⟨RX6, "neededMachines", "(II)I"⟩
abbrev cX6_needed : ByteArray := prog_8_method_45_code
def yX6_needed : MethodName := ⟨RX6, "needed", "(III)I"⟩
abbrev cX6_ever : ByteArray := prog_8_method_46_code
def yX6_ever : MethodName := ⟨RX6, "ever", "(I)I"⟩
abbrev cX6_image : ByteArray := prog_8_method_47_code
def yX6_image : MethodName := ⟨RX6, "image", "(I)I"⟩
abbrev cX6_restore : ByteArray := prog_8_method_48_code
def yX6_restore : MethodName := ⟨RX6, "restore", "(I)I"⟩
abbrev cX6_size : ByteArray := prog_8_method_49_code
def yX6_size : MethodName := ⟨RX6, "size", "(I)I"⟩
abbrev cX6_sumOf : ByteArray := prog_8_method_50_code
def yX6_sumOf : MethodName := ⟨RX6, "sumOf", "(II)I"⟩
abbrev cX6_liveIslands : ByteArray := prog_8_method_51_code
def yX6_liveIslands : MethodName := ⟨RX6, "liveIslands", "()I"⟩
abbrev cX6_count : ByteArray := prog_8_method_52_code
def yX6_count : MethodName := ⟨RX6, "count", "(I)I"⟩
def RJ6 : String := "java/lang/Integer"
def TJ6 : u_T := fun k => match k with
  | _ => ("", "", "", false)
def tyJ6 : Nat → FieldType := fun k => match k with
  | _ => .int
abbrev wsJ60 : List Cond := u_ws RJ6 TJ6 0
theorem nmJ6 : ∀ a, a < 0 → ∀ b, b < 0 → a ≠ b → (TJ6 a).2.1 ≠ (TJ6 b).2.1 := by decide +kernel
theorem tyJ6_ok : ∀ k, k < 0 → parseFieldDescriptor (TJ6 k).2.2.1 = some (tyJ6 k) := by decide +kernel
abbrev cJ6_bitCount_0f7a4 : ByteArray := prog_9_method_49_code
def yJ6_bitCount_0f7a4 : MethodName := ⟨RJ6, "bitCount", "(I)I"⟩
def RJ9 : String := "java/lang/Math"
def TJ9 : u_T := fun k => match k with
  | _ => ("", "", "", false)
def tyJ9 : Nat → FieldType := fun k => match k with
  | _ => .int
abbrev wsJ90 : List Cond := u_ws RJ9 TJ9 0
theorem nmJ9 : ∀ a, a < 0 → ∀ b, b < 0 → a ≠ b → (TJ9 a).2.1 ≠ (TJ9 b).2.1 := by decide +kernel
theorem tyJ9_ok : ∀ k, k < 0 → parseFieldDescriptor (TJ9 k).2.2.1 = some (tyJ9 k) := by decide +kernel
abbrev cJ9_max_7cf53 : ByteArray := prog_10_method_65_code
def yJ9_max_7cf53 : MethodName := ⟨RJ9, "max", "(II)I"⟩
abbrev cJ9_min_7cf53 : ByteArray := prog_10_method_69_code
def yJ9_min_7cf53 : MethodName := ⟨RJ9, "min", "(II)I"⟩
def RJ10 : String := "java/lang/System"
def TJ10 : u_T := fun k => match k with
  | _ => ("", "", "", false)
def tyJ10 : Nat → FieldType := fun k => match k with
  | _ => .int
abbrev wsJ100 : List Cond := u_ws RJ10 TJ10 0
theorem nmJ10 : ∀ a, a < 0 → ∀ b, b < 0 → a ≠ b → (TJ10 a).2.1 ≠ (TJ10 b).2.1 := by decide +kernel
theorem tyJ10_ok : ∀ k, k < 0 → parseFieldDescriptor (TJ10 k).2.2.1 = some (tyJ10 k) := by decide +kernel
def RL : String := "GridStartsLaw"
abbrev cL_law : ByteArray := code
def yL_law : MethodName := ⟨RL, "law", "([I)Z"⟩
abbrev vwCl : List vw_C := [(RX1, TX1, 11), (RX2, TX2, 2), (RX3, TX3, 2), (RX4, TX4, 5), (RX5, TX5, 6), (RX6, TX6, 12)]
end
section
def TW : List Cond := lw_tbl.filter goodWord
theorem tw_of {w : Cond} (h : w ∈ lw_tbl) (hg : goodWord w = true) : w ∈ TW := List.mem_filter.mpr ⟨h, hg⟩
theorem tw_p {i : Nat} {q : MethodName × Nat} (h : lw_privs[i]? = some q) : Cond.selects q.1.cls q.1 q.1 ∈ TW := tw_of (List.mem_append_left _ (List.mem_map.mpr ⟨q, List.mem_of_getElem? h, rfl⟩)) rfl
theorem tw_1 {w : Cond} (i : Nat) (h : tables_1_1[i]? = some w) (hg : goodWord w = true) : w ∈ TW := tw_of (List.mem_append_right _ (List.mem_append_left _ (List.mem_of_getElem? h))) hg
theorem tw_2 {w : Cond} (i : Nat) (h : tables_1_2[i]? = some w) (hg : goodWord w = true) : w ∈ TW := tw_of (List.mem_append_right _ (List.mem_append_right _ (List.mem_append_left _ (List.mem_of_getElem? h)))) hg
theorem tw_3 {w : Cond} (i : Nat) (h : tables_1_3[i]? = some w) (hg : goodWord w = true) : w ∈ TW := tw_of (List.mem_append_right _ (List.mem_append_right _ (List.mem_append_right _ (List.mem_of_getElem? h)))) hg
theorem tk_0 : Cond.selects RX2 yX2_join yX2_join ∈ TW := tw_p (i := 0) rfl
theorem tk_1 : Cond.selects RX3 yX3_spareOf yX3_spareOf ∈ TW := tw_p (i := 1) rfl
theorem tk_2 : Cond.selects RX3 yX3_canCrank yX3_canCrank ∈ TW := tw_p (i := 2) rfl
theorem tk_3 : Cond.selects RX3 yX3_canCarry yX3_canCarry ∈ TW := tw_p (i := 3) rfl
theorem tk_4 : Cond.selects RX5 yX5_openLost yX5_openLost ∈ TW := tw_p (i := 4) rfl
theorem tk_5 : Cond.selects RX5 yX5_isGoal yX5_isGoal ∈ TW := tw_p (i := 5) rfl
theorem tk_6 : Cond.selects RX4 yX4_explore yX4_explore ∈ TW := tw_p (i := 6) rfl
theorem tk_7 : Cond.selects RX4 yX4_forget yX4_forget ∈ TW := tw_p (i := 7) rfl
theorem tk_8 : Cond.selects RX4 yX4_add yX4_add ∈ TW := tw_p (i := 8) rfl
theorem tk_9 : Cond.selects RX6 yX6_isLine yX6_isLine ∈ TW := tw_p (i := 9) rfl
theorem tk_10 : Cond.selects RX6 yX6_isMachine yX6_isMachine ∈ TW := tw_p (i := 10) rfl
theorem tk_11 : Cond.selects RX6 yX6_layNow yX6_layNow ∈ TW := tw_p (i := 11) rfl
theorem tk_12 : Cond.selects RX6 yX6_layIslands yX6_layIslands ∈ TW := tw_p (i := 12) rfl
theorem tk_13 : Cond.selects RX6 yX6_joinOnce yX6_joinOnce ∈ TW := tw_p (i := 13) rfl
theorem tk_14 : Cond.selects RX6 yX6_islandSet yX6_islandSet ∈ TW := tw_p (i := 14) rfl
theorem tk_15 : Cond.selects RX6 yX6_isLive yX6_isLive ∈ TW := tw_p (i := 15) rfl
theorem tk_16 : Cond.selects RX6 yX6_canStep yX6_canStep ∈ TW := tw_p (i := 16) rfl
theorem tk_17 : Cond.selects RX6 yX6_canStart yX6_canStart ∈ TW := tw_p (i := 17) rfl
theorem tk_18 : Cond.selects RX6 yX6_canClose yX6_canClose ∈ TW := tw_p (i := 18) rfl
theorem tk_19 : Cond.selects RX6 yX6_numberBehind yX6_numberBehind ∈ TW := tw_p (i := 19) rfl
theorem tk_20 : Cond.selects RX6 yX6_ranOn yX6_ranOn ∈ TW := tw_p (i := 20) rfl
theorem tk_21 : Cond.selects RX6 yX6_become yX6_become ∈ TW := tw_p (i := 21) rfl
theorem tk_22 : Cond.selects RX6 yX6_openAll yX6_openAll ∈ TW := tw_p (i := 22) rfl
theorem tk_23 : Cond.selects RX6 yX6_areSets yX6_areSets ∈ TW := tw_p (i := 23) rfl
theorem tk_24 : Cond.selects RX6 yX6_layWay yX6_layWay ∈ TW := tw_p (i := 24) rfl
theorem tk_25 : Cond.selects RX6 yX6_layAll yX6_layAll ∈ TW := tw_p (i := 25) rfl
theorem tk_26 : Cond.selects RX6 yX6_numberNow yX6_numberNow ∈ TW := tw_p (i := 26) rfl
theorem tk_27 : Cond.selects RX6 yX6_goOn yX6_goOn ∈ TW := tw_p (i := 27) rfl
theorem tk_28 : Cond.selects RX6 yX6_layNumber yX6_layNumber ∈ TW := tw_p (i := 28) rfl
theorem tk_29 : Cond.selects RX6 yX6_reached yX6_reached ∈ TW := tw_p (i := 29) rfl
theorem tk_30 : Cond.selects RX6 yX6_isGoal yX6_isGoal ∈ TW := tw_p (i := 30) rfl
theorem tk_31 : Cond.selects RX6 yX6_readySet yX6_readySet ∈ TW := tw_p (i := 31) rfl
theorem tk_32 : Cond.selects RX6 yX6_liveSet yX6_liveSet ∈ TW := tw_p (i := 32) rfl
theorem tk_33 : Cond.selects RX6 yX6_layLeads yX6_layLeads ∈ TW := tw_p (i := 33) rfl
theorem tk_34 : Cond.selects RX6 yX6_stepOn yX6_stepOn ∈ TW := tw_p (i := 34) rfl
theorem tk_35 : Cond.selects RX6 yX6_canWithout yX6_canWithout ∈ TW := tw_p (i := 35) rfl
theorem tk_36 : Cond.selects RX6 yX6_neededLines yX6_neededLines ∈ TW := tw_p (i := 36) rfl
theorem tk_37 : Cond.selects RX6 yX6_neededMachines yX6_neededMachines ∈ TW := tw_p (i := 37) rfl
theorem tk_38 : Cond.selects RX6 yX6_sumOf yX6_sumOf ∈ TW := tw_p (i := 38) rfl
theorem tk_39 : Cond.selects RX6 yX6_liveIslands yX6_liveIslands ∈ TW := tw_p (i := 39) rfl
theorem tk_40 : Cond.initialized RL ∈ TW := tw_1 0 rfl rfl
theorem tk_41 : Cond.initialized RX5 ∈ TW := tw_1 1 rfl rfl
theorem tk_42 : Cond.initialized RX1 ∈ TW := tw_1 2 rfl rfl
theorem tk_43 : Cond.initialized RX2 ∈ TW := tw_1 3 rfl rfl
theorem tk_44 : Cond.initialized RX3 ∈ TW := tw_1 4 rfl rfl
theorem tk_45 : Cond.initialized RX4 ∈ TW := tw_1 5 rfl rfl
theorem tk_46 : Cond.initialized RX6 ∈ TW := tw_1 6 rfl rfl
theorem tk_47 : Cond.initialized RJ9 ∈ TW := tw_1 7 rfl rfl
theorem tk_48 : Cond.initialized RX0 ∈ TW := tw_1 8 rfl rfl
theorem tk_49 : Cond.initialized RJ6 ∈ TW := tw_1 9 rfl rfl
theorem tk_50 : Cond.initialized RJ10 ∈ TW := tw_1 10 rfl rfl
theorem tk_51 : Cond.classLink RL 7 "GridStarts" ∈ TW := tw_1 11 rfl rfl
theorem tk_52 : Cond.instantiable RX5 6 ∈ TW := tw_1 12 rfl rfl
theorem tk_53 : Cond.methodLink RL 9 yX5_init ∈ TW := tw_1 13 rfl rfl
theorem tk_54 : Cond.instanceMethod yX5_init ∈ TW := tw_1 14 rfl rfl
theorem tk_55 : Cond.code yX5_init cX5_init 2 none ∈ TW := tw_1 15 rfl rfl
theorem tk_56 : Cond.methodLink RX5 3 ⟨"java/lang/Object", "<init>", "()V"⟩ ∈ TW := tw_1 16 rfl rfl
theorem tk_57 : Cond.instanceMethod ⟨"java/lang/Object", "<init>", "()V"⟩ ∈ TW := tw_1 17 rfl rfl
theorem tk_58 : Cond.code ⟨"java/lang/Object", "<init>", "()V"⟩ object_method_1_code 1 none ∈ TW := tw_1 18 rfl rfl
theorem tk_59 : Cond.classLink RX5 9 "GridStarts$Grid" ∈ TW := tw_1 19 rfl rfl
theorem tk_60 : Cond.instantiable RX1 11 ∈ TW := tw_1 20 rfl rfl
theorem tk_62 : Cond.instanceMethod yX1_init ∈ TW := tw_1 22 rfl rfl
theorem tk_63 : Cond.code yX1_init cX1_init 1 none ∈ TW := tw_1 23 rfl rfl
theorem tk_64 : Cond.methodLink RX1 3 ⟨"java/lang/Object", "<init>", "()V"⟩ ∈ TW := tw_1 24 rfl rfl
theorem tk_65 : Cond.fieldLink RX1 39 "GridStarts$Grid" "lines" "I" ∈ TW := tw_1 25 rfl rfl
theorem tk_66 : Cond.fieldLink RX5 57 "GridStarts$Grid" "lines" "I" ∈ TW := tw_1 26 rfl rfl
theorem tk_67 : Cond.fieldLink RX3 81 "GridStarts$Grid" "lines" "I" ∈ TW := tw_1 27 rfl rfl
theorem tk_68 : Cond.fieldLink RX1 9 "GridStarts$Grid" "lesser" "[I" ∈ TW := tw_1 28 rfl rfl
theorem tk_69 : Cond.fieldLink RX2 22 "GridStarts$Grid" "lesser" "[I" ∈ TW := tw_1 29 rfl rfl
theorem tk_70 : Cond.fieldLink RX5 104 "GridStarts$Grid" "lesser" "[I" ∈ TW := tw_1 30 rfl rfl
theorem tk_71 : Cond.fieldLink RX3 90 "GridStarts$Grid" "lesser" "[I" ∈ TW := tw_1 31 rfl rfl
theorem tk_72 : Cond.fieldLink RX1 15 "GridStarts$Grid" "greater" "[I" ∈ TW := tw_1 32 rfl rfl
theorem tk_73 : Cond.fieldLink RX2 27 "GridStarts$Grid" "greater" "[I" ∈ TW := tw_1 33 rfl rfl
theorem tk_74 : Cond.fieldLink RX5 108 "GridStarts$Grid" "greater" "[I" ∈ TW := tw_1 34 rfl rfl
theorem tk_75 : Cond.fieldLink RX3 93 "GridStarts$Grid" "greater" "[I" ∈ TW := tw_1 35 rfl rfl
theorem tk_76 : Cond.fieldLink RX1 18 "GridStarts$Grid" "charge" "[I" ∈ TW := tw_1 36 rfl rfl
theorem tk_77 : Cond.fieldLink RX2 34 "GridStarts$Grid" "charge" "[I" ∈ TW := tw_1 37 rfl rfl
theorem tk_78 : Cond.fieldLink RX5 111 "GridStarts$Grid" "charge" "[I" ∈ TW := tw_1 38 rfl rfl
theorem tk_79 : Cond.fieldLink RX3 19 "GridStarts$Grid" "machines" "I" ∈ TW := tw_1 39 rfl rfl
theorem tk_80 : Cond.fieldLink RX1 42 "GridStarts$Grid" "machines" "I" ∈ TW := tw_1 40 rfl rfl
theorem tk_81 : Cond.fieldLink RX5 77 "GridStarts$Grid" "machines" "I" ∈ TW := tw_1 41 rfl rfl
theorem tk_82 : Cond.fieldLink RX1 21 "GridStarts$Grid" "home" "[I" ∈ TW := tw_1 42 rfl rfl
theorem tk_83 : Cond.fieldLink RX3 35 "GridStarts$Grid" "home" "[I" ∈ TW := tw_1 43 rfl rfl
theorem tk_84 : Cond.fieldLink RX5 123 "GridStarts$Grid" "home" "[I" ∈ TW := tw_1 44 rfl rfl
theorem tk_85 : Cond.fieldLink RX1 24 "GridStarts$Grid" "crank" "[I" ∈ TW := tw_1 45 rfl rfl
theorem tk_86 : Cond.fieldLink RX5 126 "GridStarts$Grid" "crank" "[I" ∈ TW := tw_1 46 rfl rfl
theorem tk_87 : Cond.fieldLink RX3 87 "GridStarts$Grid" "crank" "[I" ∈ TW := tw_1 47 rfl rfl
theorem tk_88 : Cond.fieldLink RX1 27 "GridStarts$Grid" "power" "[I" ∈ TW := tw_1 48 rfl rfl
theorem tk_89 : Cond.fieldLink RX3 64 "GridStarts$Grid" "power" "[I" ∈ TW := tw_1 49 rfl rfl
theorem tk_90 : Cond.fieldLink RX5 129 "GridStarts$Grid" "power" "[I" ∈ TW := tw_1 50 rfl rfl
theorem tk_91 : Cond.fieldLink RX1 30 "GridStarts$Grid" "ramp" "[I" ∈ TW := tw_1 51 rfl rfl
theorem tk_92 : Cond.fieldLink RX5 132 "GridStarts$Grid" "ramp" "[I" ∈ TW := tw_1 52 rfl rfl
theorem tk_93 : Cond.fieldLink RX3 99 "GridStarts$Grid" "ramp" "[I" ∈ TW := tw_1 53 rfl rfl
theorem tk_94 : Cond.fieldLink RX1 35 "GridStarts$Grid" "code" "I" ∈ TW := tw_1 54 rfl rfl
theorem tk_95 : Cond.fieldLink RX5 84 "GridStarts$Grid" "code" "I" ∈ TW := tw_1 55 rfl rfl
theorem tk_96 : Cond.fieldLink RX5 98 "GridStarts$Grid" "now" "I" ∈ TW := tw_1 56 rfl rfl
theorem tk_97 : Cond.fieldLink RX1 45 "GridStarts$Grid" "now" "I" ∈ TW := tw_1 57 rfl rfl
theorem tk_98 : Cond.lays "GridStarts$Grid" "GridStarts$Grid" "lines" "I" ∈ TW := tw_1 58 rfl rfl
theorem tk_100 : Cond.laysFinal "GridStarts$Grid" "GridStarts$Grid" "lesser" "[I" ∈ TW := tw_1 60 rfl rfl
theorem tk_102 : Cond.laysFinal "GridStarts$Grid" "GridStarts$Grid" "greater" "[I" ∈ TW := tw_1 62 rfl rfl
theorem tk_104 : Cond.laysFinal "GridStarts$Grid" "GridStarts$Grid" "charge" "[I" ∈ TW := tw_1 64 rfl rfl
theorem tk_106 : Cond.lays "GridStarts$Grid" "GridStarts$Grid" "machines" "I" ∈ TW := tw_1 66 rfl rfl
theorem tk_108 : Cond.laysFinal "GridStarts$Grid" "GridStarts$Grid" "home" "[I" ∈ TW := tw_1 68 rfl rfl
theorem tk_110 : Cond.laysFinal "GridStarts$Grid" "GridStarts$Grid" "crank" "[I" ∈ TW := tw_1 70 rfl rfl
theorem tk_112 : Cond.laysFinal "GridStarts$Grid" "GridStarts$Grid" "power" "[I" ∈ TW := tw_1 72 rfl rfl
theorem tk_114 : Cond.laysFinal "GridStarts$Grid" "GridStarts$Grid" "ramp" "[I" ∈ TW := tw_1 74 rfl rfl
theorem tk_116 : Cond.lays "GridStarts$Grid" "GridStarts$Grid" "code" "I" ∈ TW := tw_1 76 rfl rfl
theorem tk_118 : Cond.lays "GridStarts$Grid" "GridStarts$Grid" "now" "I" ∈ TW := tw_1 78 rfl rfl
theorem tk_121 : Cond.arrayClass FieldType.int ∈ TW := tw_1 81 rfl rfl
theorem tk_122 : Cond.classLink RX5 16 "GridStarts$Islands" ∈ TW := tw_1 82 rfl rfl
theorem tk_123 : Cond.instantiable RX2 2 ∈ TW := tw_1 83 rfl rfl
theorem tk_124 : Cond.methodLink RX5 18 yX2_init ∈ TW := tw_1 84 rfl rfl
theorem tk_125 : Cond.instanceMethod yX2_init ∈ TW := tw_1 85 rfl rfl
theorem tk_126 : Cond.code yX2_init cX2_init 2 none ∈ TW := tw_1 86 rfl rfl
theorem tk_127 : Cond.methodLink RX2 3 ⟨"java/lang/Object", "<init>", "()V"⟩ ∈ TW := tw_1 87 rfl rfl
theorem tk_128 : Cond.fieldLink RX2 9 "GridStarts$Islands" "sets" "[I" ∈ TW := tw_1 88 rfl rfl
theorem tk_129 : Cond.fieldLink RX2 15 "GridStarts$Islands" "draws" "[I" ∈ TW := tw_1 89 rfl rfl
theorem tk_130 : Cond.laysFinal "GridStarts$Islands" "GridStarts$Islands" "sets" "[I" ∈ TW := tw_1 90 rfl rfl
theorem tk_132 : Cond.laysFinal "GridStarts$Islands" "GridStarts$Islands" "draws" "[I" ∈ TW := tw_1 92 rfl rfl
theorem tk_135 : Cond.classLink RX5 23 "GridStarts$Rules" ∈ TW := tw_1 95 rfl rfl
theorem tk_136 : Cond.instantiable RX3 2 ∈ TW := tw_1 96 rfl rfl
theorem tk_137 : Cond.methodLink RX5 25 yX3_init ∈ TW := tw_1 97 rfl rfl
theorem tk_138 : Cond.instanceMethod yX3_init ∈ TW := tw_1 98 rfl rfl
theorem tk_139 : Cond.code yX3_init cX3_init 3 none ∈ TW := tw_1 99 rfl rfl
theorem tk_140 : Cond.methodLink RX3 3 ⟨"java/lang/Object", "<init>", "()V"⟩ ∈ TW := tw_1 100 rfl rfl
theorem tk_141 : Cond.fieldLink RX3 9 "GridStarts$Rules" "grid" "LGridStarts$Grid;" ∈ TW := tw_1 101 rfl rfl
theorem tk_142 : Cond.fieldLink RX3 15 "GridStarts$Rules" "islands" "LGridStarts$Islands;" ∈ TW := tw_1 102 rfl rfl
theorem tk_143 : Cond.laysFinal "GridStarts$Rules" "GridStarts$Rules" "grid" "LGridStarts$Grid;" ∈ TW := tw_1 103 rfl rfl
theorem tk_145 : Cond.laysFinal "GridStarts$Rules" "GridStarts$Rules" "islands" "LGridStarts$Islands;" ∈ TW := tw_1 105 rfl rfl
theorem tk_148 : Cond.classLink RX5 32 "GridStarts$Search" ∈ TW := tw_1 108 rfl rfl
theorem tk_149 : Cond.instantiable RX4 5 ∈ TW := tw_1 109 rfl rfl
theorem tk_150 : Cond.methodLink RX5 34 yX4_init ∈ TW := tw_1 110 rfl rfl
theorem tk_151 : Cond.instanceMethod yX4_init ∈ TW := tw_1 111 rfl rfl
theorem tk_152 : Cond.code yX4_init cX4_init 2 none ∈ TW := tw_1 112 rfl rfl
theorem tk_153 : Cond.methodLink RX4 3 ⟨"java/lang/Object", "<init>", "()V"⟩ ∈ TW := tw_1 113 rfl rfl
theorem tk_154 : Cond.fieldLink RX4 23 "GridStarts$Search" "rules" "LGridStarts$Rules;" ∈ TW := tw_1 114 rfl rfl
theorem tk_155 : Cond.fieldLink RX4 11 "GridStarts$Search" "codes" "[I" ∈ TW := tw_1 115 rfl rfl
theorem tk_156 : Cond.fieldLink RX4 15 "GridStarts$Search" "origins" "[I" ∈ TW := tw_1 116 rfl rfl
theorem tk_157 : Cond.fieldLink RX4 20 "GridStarts$Search" "seen" "[I" ∈ TW := tw_1 117 rfl rfl
theorem tk_158 : Cond.fieldLink RX4 53 "GridStarts$Search" "size" "I" ∈ TW := tw_1 118 rfl rfl
theorem tk_159 : Cond.laysFinal "GridStarts$Search" "GridStarts$Search" "rules" "LGridStarts$Rules;" ∈ TW := tw_1 119 rfl rfl
theorem tk_161 : Cond.laysFinal "GridStarts$Search" "GridStarts$Search" "codes" "[I" ∈ TW := tw_1 121 rfl rfl
theorem tk_163 : Cond.laysFinal "GridStarts$Search" "GridStarts$Search" "origins" "[I" ∈ TW := tw_1 123 rfl rfl
theorem tk_165 : Cond.laysFinal "GridStarts$Search" "GridStarts$Search" "seen" "[I" ∈ TW := tw_1 125 rfl rfl
theorem tk_167 : Cond.lays "GridStarts$Search" "GridStarts$Search" "size" "I" ∈ TW := tw_1 127 rfl rfl
theorem tk_171 : Cond.fieldLink RX5 12 "GridStarts" "grid" "LGridStarts$Grid;" ∈ TW := tw_1 131 rfl rfl
theorem tk_172 : Cond.fieldLink RX5 19 "GridStarts" "islands" "LGridStarts$Islands;" ∈ TW := tw_1 132 rfl rfl
theorem tk_173 : Cond.fieldLink RX5 28 "GridStarts" "rules" "LGridStarts$Rules;" ∈ TW := tw_1 133 rfl rfl
theorem tk_174 : Cond.fieldLink RX5 37 "GridStarts" "search" "LGridStarts$Search;" ∈ TW := tw_1 134 rfl rfl
theorem tk_175 : Cond.fieldLink RX5 41 "GridStarts" "images" "[LGridStarts$Grid;" ∈ TW := tw_1 135 rfl rfl
theorem tk_176 : Cond.fieldLink RX5 45 "GridStarts" "kept" "I" ∈ TW := tw_1 136 rfl rfl
theorem tk_177 : Cond.laysFinal "GridStarts" "GridStarts" "grid" "LGridStarts$Grid;" ∈ TW := tw_1 137 rfl rfl
theorem tk_179 : Cond.laysFinal "GridStarts" "GridStarts" "islands" "LGridStarts$Islands;" ∈ TW := tw_1 139 rfl rfl
theorem tk_181 : Cond.laysFinal "GridStarts" "GridStarts" "rules" "LGridStarts$Rules;" ∈ TW := tw_1 141 rfl rfl
theorem tk_183 : Cond.laysFinal "GridStarts" "GridStarts" "search" "LGridStarts$Search;" ∈ TW := tw_1 143 rfl rfl
theorem tk_185 : Cond.laysFinal "GridStarts" "GridStarts" "images" "[LGridStarts$Grid;" ∈ TW := tw_1 145 rfl rfl
theorem tk_187 : Cond.lays "GridStarts" "GridStarts" "kept" "I" ∈ TW := tw_1 147 rfl rfl
theorem tk_190 : Cond.methodLink RL 13 yX5_line ∈ TW := tw_1 150 rfl rfl
theorem tk_191 : Cond.instanceMethod yX5_line ∈ TW := tw_1 151 rfl rfl
theorem tk_192 : Cond.selects RX5 yX5_line yX5_line ∈ TW := tw_1 152 rfl rfl
theorem tk_193 : Cond.code yX5_line cX5_line 5 (some FieldType.int) ∈ TW := tw_1 153 rfl rfl
theorem tk_194 : Cond.methodLink RX5 49 yX5_isBus ∈ TW := tw_1 154 rfl rfl
theorem tk_195 : Cond.static yX5_isBus ∈ TW := tw_1 155 rfl rfl
theorem tk_196 : Cond.code yX5_isBus cX5_isBus 1 (some FieldType.boolean) ∈ TW := tw_1 156 rfl rfl
theorem tk_197 : Cond.methodLink RX5 53 yX5_isWithin ∈ TW := tw_1 157 rfl rfl
theorem tk_198 : Cond.static yX5_isWithin ∈ TW := tw_1 158 rfl rfl
theorem tk_199 : Cond.code yX5_isWithin cX5_isWithin 2 (some FieldType.boolean) ∈ TW := tw_1 159 rfl rfl
theorem tk_200 : Cond.methodLink RX5 60 yJ9_min_7cf53 ∈ TW := tw_1 160 rfl rfl
theorem tk_201 : Cond.static yJ9_min_7cf53 ∈ TW := tw_1 161 rfl rfl
theorem tk_202 : Cond.code yJ9_min_7cf53 cJ9_min_7cf53 2 (some FieldType.int) ∈ TW := tw_1 162 rfl rfl
theorem tk_203 : Cond.methodLink RX5 66 yJ9_max_7cf53 ∈ TW := tw_1 163 rfl rfl
theorem tk_204 : Cond.static yJ9_max_7cf53 ∈ TW := tw_1 164 rfl rfl
theorem tk_205 : Cond.code yJ9_max_7cf53 cJ9_max_7cf53 2 (some FieldType.int) ∈ TW := tw_1 165 rfl rfl
theorem tk_206 : Cond.methodLink RX5 69 yX1_addLine ∈ TW := tw_1 166 rfl rfl
theorem tk_207 : Cond.instanceMethod yX1_addLine ∈ TW := tw_1 167 rfl rfl
theorem tk_208 : Cond.selects RX1 yX1_addLine yX1_addLine ∈ TW := tw_1 168 rfl rfl
theorem tk_209 : Cond.code yX1_addLine cX1_addLine 5 (some FieldType.int) ∈ TW := tw_1 169 rfl rfl
theorem tk_210 : Cond.methodLink RX5 73 yX2_learnLine ∈ TW := tw_1 170 rfl rfl
theorem tk_211 : Cond.instanceMethod yX2_learnLine ∈ TW := tw_1 171 rfl rfl
theorem tk_212 : Cond.selects RX2 yX2_learnLine yX2_learnLine ∈ TW := tw_1 172 rfl rfl
theorem tk_213 : Cond.code yX2_learnLine cX2_learnLine 5 none ∈ TW := tw_1 173 rfl rfl
theorem tk_214 : Cond.methodLink RX2 18 yX2_join ∈ TW := tw_1 174 rfl rfl
theorem tk_216 : Cond.instanceMethod yX2_join ∈ TW := tw_1 176 rfl rfl
theorem tk_217 : Cond.code yX2_join cX2_join 11 none ∈ TW := tw_1 177 rfl rfl
theorem tk_218 : Cond.methodLink RX2 30 yX2_busesWith ∈ TW := tw_1 178 rfl rfl
theorem tk_219 : Cond.instanceMethod yX2_busesWith ∈ TW := tw_1 179 rfl rfl
theorem tk_220 : Cond.selects RX2 yX2_busesWith yX2_busesWith ∈ TW := tw_1 180 rfl rfl
theorem tk_221 : Cond.code yX2_busesWith cX2_busesWith 3 (some FieldType.int) ∈ TW := tw_1 181 rfl rfl
theorem tk_222 : Cond.methodLink RX2 37 yX2_drawAround ∈ TW := tw_1 182 rfl rfl
theorem tk_223 : Cond.instanceMethod yX2_drawAround ∈ TW := tw_1 183 rfl rfl
theorem tk_224 : Cond.selects RX2 yX2_drawAround yX2_drawAround ∈ TW := tw_1 184 rfl rfl
theorem tk_225 : Cond.code yX2_drawAround cX2_drawAround 3 (some FieldType.int) ∈ TW := tw_1 185 rfl rfl
theorem tk_227 : Cond.static yX5_bit ∈ TW := tw_1 187 rfl rfl
theorem tk_228 : Cond.code yX5_bit cX5_bit 2 (some FieldType.int) ∈ TW := tw_1 188 rfl rfl
theorem tk_229 : Cond.methodLink RL 18 yX5_machine ∈ TW := tw_1 189 rfl rfl
theorem tk_230 : Cond.instanceMethod yX5_machine ∈ TW := tw_1 190 rfl rfl
theorem tk_231 : Cond.selects RX5 yX5_machine yX5_machine ∈ TW := tw_1 191 rfl rfl
theorem tk_232 : Cond.code yX5_machine cX5_machine 5 (some FieldType.int) ∈ TW := tw_1 192 rfl rfl
theorem tk_233 : Cond.methodLink RX5 80 yX1_addMachine ∈ TW := tw_1 193 rfl rfl
theorem tk_234 : Cond.instanceMethod yX1_addMachine ∈ TW := tw_1 194 rfl rfl
theorem tk_235 : Cond.selects RX1 yX1_addMachine yX1_addMachine ∈ TW := tw_1 195 rfl rfl
theorem tk_236 : Cond.code yX1_addMachine cX1_addMachine 6 (some FieldType.int) ∈ TW := tw_1 196 rfl rfl
theorem tk_237 : Cond.methodLink RL 23 yX5_dark ∈ TW := tw_1 197 rfl rfl
theorem tk_238 : Cond.instanceMethod yX5_dark ∈ TW := tw_1 198 rfl rfl
theorem tk_239 : Cond.selects RX5 yX5_dark yX5_dark ∈ TW := tw_1 199 rfl rfl
theorem tk_240 : Cond.code yX5_dark cX5_dark 2 (some FieldType.int) ∈ TW := tw_1 200 rfl rfl
theorem tk_241 : Cond.methodLink RX5 87 yX0_running ∈ TW := tw_1 201 rfl rfl
theorem tk_242 : Cond.static yX0_running ∈ TW := tw_1 202 rfl rfl
theorem tk_243 : Cond.code yX0_running cX0_running 1 (some FieldType.int) ∈ TW := tw_1 203 rfl rfl
theorem tk_244 : Cond.methodLink RX5 93 yJ6_bitCount_0f7a4 ∈ TW := tw_1 204 rfl rfl
theorem tk_245 : Cond.static yJ6_bitCount_0f7a4 ∈ TW := tw_1 205 rfl rfl
theorem tk_246 : Cond.code yJ6_bitCount_0f7a4 cJ6_bitCount_0f7a4 1 (some FieldType.int) ∈ TW := tw_1 206 rfl rfl
theorem tk_247 : Cond.constant RJ6 265 1431655765 ∈ TW := tw_1 207 rfl rfl
theorem tk_248 : Cond.constant RJ6 266 858993459 ∈ TW := tw_1 208 rfl rfl
theorem tk_249 : Cond.constant RJ6 267 252645135 ∈ TW := tw_1 209 rfl rfl
theorem tk_250 : Cond.methodLink RL 28 yX5_of ∈ TW := tw_1 210 rfl rfl
theorem tk_251 : Cond.instanceMethod yX5_of ∈ TW := tw_1 211 rfl rfl
theorem tk_252 : Cond.selects RX5 yX5_of yX5_of ∈ TW := tw_1 212 rfl rfl
theorem tk_253 : Cond.code yX5_of cX5_of 3 (some FieldType.int) ∈ TW := tw_1 213 rfl rfl
theorem tk_254 : Cond.methodLink RX5 101 yX1_hasLine ∈ TW := tw_1 214 rfl rfl
theorem tk_255 : Cond.instanceMethod yX1_hasLine ∈ TW := tw_1 215 rfl rfl
theorem tk_256 : Cond.selects RX1 yX1_hasLine yX1_hasLine ∈ TW := tw_1 216 rfl rfl
theorem tk_257 : Cond.code yX1_hasLine cX1_hasLine 2 (some FieldType.boolean) ∈ TW := tw_1 217 rfl rfl
theorem tk_258 : Cond.methodLink RX5 114 yX0_closed ∈ TW := tw_1 218 rfl rfl
theorem tk_259 : Cond.static yX0_closed ∈ TW := tw_1 219 rfl rfl
theorem tk_260 : Cond.code yX0_closed cX0_closed 1 (some FieldType.int) ∈ TW := tw_1 220 rfl rfl
theorem tk_261 : Cond.methodLink RX5 117 yX5_bit ∈ TW := tw_1 221 rfl rfl
theorem tk_262 : Cond.methodLink RL 33 yX5_at ∈ TW := tw_1 222 rfl rfl
theorem tk_263 : Cond.instanceMethod yX5_at ∈ TW := tw_1 223 rfl rfl
theorem tk_264 : Cond.selects RX5 yX5_at yX5_at ∈ TW := tw_1 224 rfl rfl
theorem tk_265 : Cond.code yX5_at cX5_at 3 (some FieldType.int) ∈ TW := tw_1 225 rfl rfl
theorem tk_266 : Cond.methodLink RX5 120 yX1_hasMachine ∈ TW := tw_1 226 rfl rfl
theorem tk_267 : Cond.instanceMethod yX1_hasMachine ∈ TW := tw_1 227 rfl rfl
theorem tk_268 : Cond.selects RX1 yX1_hasMachine yX1_hasMachine ∈ TW := tw_1 228 rfl rfl
theorem tk_269 : Cond.code yX1_hasMachine cX1_hasMachine 2 (some FieldType.boolean) ∈ TW := tw_1 229 rfl rfl
theorem tk_270 : Cond.methodLink RX5 135 yX0_isRunning ∈ TW := tw_1 230 rfl rfl
theorem tk_271 : Cond.static yX0_isRunning ∈ TW := tw_1 231 rfl rfl
theorem tk_272 : Cond.code yX0_isRunning cX0_isRunning 2 (some FieldType.boolean) ∈ TW := tw_1 232 rfl rfl
theorem tk_273 : Cond.methodLink RX0 11 yX0_running ∈ TW := tw_1 233 rfl rfl
theorem tk_275 : Cond.methodLink RX5 138 yX0_left ∈ TW := tw_1 235 rfl rfl
theorem tk_276 : Cond.static yX0_left ∈ TW := tw_1 236 rfl rfl
theorem tk_277 : Cond.code yX0_left cX0_left 2 (some FieldType.int) ∈ TW := tw_1 237 rfl rfl
theorem tk_278 : Cond.methodLink RX0 19 yX0_leftAt ∈ TW := tw_1 238 rfl rfl
theorem tk_279 : Cond.static yX0_leftAt ∈ TW := tw_1 239 rfl rfl
theorem tk_280 : Cond.code yX0_leftAt cX0_leftAt 1 (some FieldType.int) ∈ TW := tw_2 0 rfl rfl
theorem tk_281 : Cond.methodLink RL 37 yX5_bus ∈ TW := tw_2 1 rfl rfl
theorem tk_282 : Cond.instanceMethod yX5_bus ∈ TW := tw_2 2 rfl rfl
theorem tk_283 : Cond.selects RX5 yX5_bus yX5_bus ∈ TW := tw_2 3 rfl rfl
theorem tk_284 : Cond.code yX5_bus cX5_bus 3 (some FieldType.int) ∈ TW := tw_2 4 rfl rfl
theorem tk_285 : Cond.methodLink RX5 141 yX2_busesWith ∈ TW := tw_2 5 rfl rfl
theorem tk_286 : Cond.methodLink RX5 144 yX3_liveBuses ∈ TW := tw_2 6 rfl rfl
theorem tk_287 : Cond.instanceMethod yX3_liveBuses ∈ TW := tw_2 7 rfl rfl
theorem tk_288 : Cond.selects RX3 yX3_liveBuses yX3_liveBuses ∈ TW := tw_2 8 rfl rfl
theorem tk_289 : Cond.code yX3_liveBuses cX3_liveBuses 4 (some FieldType.int) ∈ TW := tw_2 9 rfl rfl
theorem tk_290 : Cond.methodLink RX3 25 yX0_isRunning ∈ TW := tw_2 10 rfl rfl
theorem tk_291 : Cond.methodLink RX3 31 yX0_closed ∈ TW := tw_2 11 rfl rfl
theorem tk_292 : Cond.methodLink RX3 39 yX2_busesWith ∈ TW := tw_2 12 rfl rfl
theorem tk_293 : Cond.methodLink RX5 147 yX3_spare ∈ TW := tw_2 13 rfl rfl
theorem tk_294 : Cond.instanceMethod yX3_spare ∈ TW := tw_2 14 rfl rfl
theorem tk_295 : Cond.selects RX3 yX3_spare yX3_spare ∈ TW := tw_2 15 rfl rfl
theorem tk_296 : Cond.code yX3_spare cX3_spare 3 (some FieldType.int) ∈ TW := tw_2 16 rfl rfl
theorem tk_297 : Cond.methodLink RX3 54 yX0_ready ∈ TW := tw_2 17 rfl rfl
theorem tk_298 : Cond.static yX0_ready ∈ TW := tw_2 18 rfl rfl
theorem tk_299 : Cond.code yX0_ready cX0_ready 3 (some FieldType.int) ∈ TW := tw_2 19 rfl rfl
theorem tk_300 : Cond.methodLink RX0 22 yX0_left ∈ TW := tw_2 20 rfl rfl
theorem tk_301 : Cond.methodLink RX3 57 yX3_spareOf ∈ TW := tw_2 21 rfl rfl
theorem tk_303 : Cond.instanceMethod yX3_spareOf ∈ TW := tw_2 23 rfl rfl
theorem tk_304 : Cond.code yX3_spareOf cX3_spareOf 7 (some FieldType.int) ∈ TW := tw_2 24 rfl rfl
theorem tk_305 : Cond.methodLink RX3 61 yX2_drawAround ∈ TW := tw_2 25 rfl rfl
theorem tk_307 : Cond.methodLink RL 41 yX5_can ∈ TW := tw_2 27 rfl rfl
theorem tk_308 : Cond.instanceMethod yX5_can ∈ TW := tw_2 28 rfl rfl
theorem tk_309 : Cond.selects RX5 yX5_can yX5_can ∈ TW := tw_2 29 rfl rfl
theorem tk_310 : Cond.code yX5_can cX5_can 1 (some FieldType.int) ∈ TW := tw_2 30 rfl rfl
theorem tk_311 : Cond.methodLink RX5 150 yX3_stepsFrom ∈ TW := tw_2 31 rfl rfl
theorem tk_312 : Cond.instanceMethod yX3_stepsFrom ∈ TW := tw_2 32 rfl rfl
theorem tk_313 : Cond.selects RX3 yX3_stepsFrom yX3_stepsFrom ∈ TW := tw_2 33 rfl rfl
theorem tk_314 : Cond.code yX3_stepsFrom cX3_stepsFrom 8 (some FieldType.int) ∈ TW := tw_2 34 rfl rfl
theorem tk_315 : Cond.methodLink RX3 74 yX0_running ∈ TW := tw_2 35 rfl rfl
theorem tk_316 : Cond.methodLink RX3 45 yX3_liveBuses ∈ TW := tw_2 36 rfl rfl
theorem tk_317 : Cond.methodLink RX3 77 yX3_canCrank ∈ TW := tw_2 37 rfl rfl
theorem tk_319 : Cond.instanceMethod yX3_canCrank ∈ TW := tw_2 39 rfl rfl
theorem tk_320 : Cond.code yX3_canCrank cX3_canCrank 7 (some FieldType.boolean) ∈ TW := tw_2 40 rfl rfl
theorem tk_321 : Cond.methodLink RX3 84 yX3_canCarry ∈ TW := tw_2 41 rfl rfl
theorem tk_323 : Cond.instanceMethod yX3_canCarry ∈ TW := tw_2 43 rfl rfl
theorem tk_324 : Cond.code yX3_canCarry cX3_canCarry 7 (some FieldType.boolean) ∈ TW := tw_2 44 rfl rfl
theorem tk_325 : Cond.methodLink RL 45 yX5_tick ∈ TW := tw_2 45 rfl rfl
theorem tk_326 : Cond.instanceMethod yX5_tick ∈ TW := tw_2 46 rfl rfl
theorem tk_327 : Cond.selects RX5 yX5_tick yX5_tick ∈ TW := tw_2 47 rfl rfl
theorem tk_328 : Cond.code yX5_tick cX5_tick 2 (some FieldType.int) ∈ TW := tw_2 48 rfl rfl
theorem tk_329 : Cond.methodLink RX5 153 yX3_isTold ∈ TW := tw_2 49 rfl rfl
theorem tk_330 : Cond.instanceMethod yX3_isTold ∈ TW := tw_2 50 rfl rfl
theorem tk_331 : Cond.selects RX3 yX3_isTold yX3_isTold ∈ TW := tw_2 51 rfl rfl
theorem tk_332 : Cond.code yX3_isTold cX3_isTold 2 (some FieldType.boolean) ∈ TW := tw_2 52 rfl rfl
theorem tk_333 : Cond.methodLink RX3 67 yX1_hasLine ∈ TW := tw_2 53 rfl rfl
theorem tk_334 : Cond.methodLink RX3 71 yX1_hasMachine ∈ TW := tw_2 54 rfl rfl
theorem tk_335 : Cond.methodLink RX5 156 yX0_ticked ∈ TW := tw_2 55 rfl rfl
theorem tk_336 : Cond.static yX0_ticked ∈ TW := tw_2 56 rfl rfl
theorem tk_337 : Cond.code yX0_ticked cX0_ticked 3 (some FieldType.int) ∈ TW := tw_2 57 rfl rfl
theorem tk_338 : Cond.methodLink RX5 159 yX3_withStep ∈ TW := tw_2 58 rfl rfl
theorem tk_339 : Cond.instanceMethod yX3_withStep ∈ TW := tw_2 59 rfl rfl
theorem tk_340 : Cond.selects RX3 yX3_withStep yX3_withStep ∈ TW := tw_2 60 rfl rfl
theorem tk_341 : Cond.code yX3_withStep cX3_withStep 4 (some FieldType.int) ∈ TW := tw_2 61 rfl rfl
theorem tk_342 : Cond.methodLink RX3 96 yX0_withClosed ∈ TW := tw_2 62 rfl rfl
theorem tk_343 : Cond.static yX0_withClosed ∈ TW := tw_2 63 rfl rfl
theorem tk_344 : Cond.code yX0_withClosed cX0_withClosed 2 (some FieldType.int) ∈ TW := tw_2 64 rfl rfl
theorem tk_345 : Cond.methodLink RX3 102 yX0_withStarted ∈ TW := tw_2 65 rfl rfl
theorem tk_346 : Cond.static yX0_withStarted ∈ TW := tw_2 66 rfl rfl
theorem tk_347 : Cond.code yX0_withStarted cX0_withStarted 3 (some FieldType.int) ∈ TW := tw_2 67 rfl rfl
theorem tk_348 : Cond.methodLink RL 50 yX5_fail ∈ TW := tw_2 68 rfl rfl
theorem tk_349 : Cond.instanceMethod yX5_fail ∈ TW := tw_2 69 rfl rfl
theorem tk_350 : Cond.selects RX5 yX5_fail yX5_fail ∈ TW := tw_2 70 rfl rfl
theorem tk_351 : Cond.code yX5_fail cX5_fail 2 (some FieldType.int) ∈ TW := tw_2 71 rfl rfl
theorem tk_352 : Cond.methodLink RX5 162 yX0_withStopped ∈ TW := tw_2 72 rfl rfl
theorem tk_353 : Cond.static yX0_withStopped ∈ TW := tw_2 73 rfl rfl
theorem tk_354 : Cond.code yX0_withStopped cX0_withStopped 2 (some FieldType.int) ∈ TW := tw_2 74 rfl rfl
theorem tk_355 : Cond.methodLink RX5 165 yX5_openLost ∈ TW := tw_2 75 rfl rfl
theorem tk_357 : Cond.instanceMethod yX5_openLost ∈ TW := tw_2 77 rfl rfl
theorem tk_358 : Cond.code yX5_openLost cX5_openLost 2 (some FieldType.int) ∈ TW := tw_2 78 rfl rfl
theorem tk_359 : Cond.methodLink RX5 213 yX3_lostLines ∈ TW := tw_2 79 rfl rfl
theorem tk_360 : Cond.instanceMethod yX3_lostLines ∈ TW := tw_2 80 rfl rfl
theorem tk_361 : Cond.selects RX3 yX3_lostLines yX3_lostLines ∈ TW := tw_2 81 rfl rfl
theorem tk_362 : Cond.code yX3_lostLines cX3_lostLines 7 (some FieldType.int) ∈ TW := tw_2 82 rfl rfl
theorem tk_363 : Cond.methodLink RX3 105 yX3_spare ∈ TW := tw_2 83 rfl rfl
theorem tk_364 : Cond.methodLink RX5 169 yX0_withOpened ∈ TW := tw_2 84 rfl rfl
theorem tk_365 : Cond.static yX0_withOpened ∈ TW := tw_2 85 rfl rfl
theorem tk_366 : Cond.code yX0_withOpened cX0_withOpened 2 (some FieldType.int) ∈ TW := tw_2 86 rfl rfl
theorem tk_367 : Cond.methodLink RL 54 yX5_trip ∈ TW := tw_2 87 rfl rfl
theorem tk_368 : Cond.instanceMethod yX5_trip ∈ TW := tw_2 88 rfl rfl
theorem tk_369 : Cond.selects RX5 yX5_trip yX5_trip ∈ TW := tw_2 89 rfl rfl
theorem tk_370 : Cond.code yX5_trip cX5_trip 2 (some FieldType.int) ∈ TW := tw_2 90 rfl rfl
theorem tk_371 : Cond.methodLink RL 58 yX5_way ∈ TW := tw_2 91 rfl rfl
theorem tk_372 : Cond.instanceMethod yX5_way ∈ TW := tw_2 92 rfl rfl
theorem tk_373 : Cond.selects RX5 yX5_way yX5_way ∈ TW := tw_2 93 rfl rfl
theorem tk_374 : Cond.code yX5_way cX5_way 6 (some FieldType.int) ∈ TW := tw_2 94 rfl rfl
theorem tk_375 : Cond.methodLink RX5 172 yX5_isGoal ∈ TW := tw_2 95 rfl rfl
theorem tk_377 : Cond.instanceMethod yX5_isGoal ∈ TW := tw_2 97 rfl rfl
theorem tk_378 : Cond.code yX5_isGoal cX5_isGoal 3 (some FieldType.boolean) ∈ TW := tw_2 98 rfl rfl
theorem tk_379 : Cond.methodLink RX5 191 yX5_setOfFirst ∈ TW := tw_2 99 rfl rfl
theorem tk_380 : Cond.static yX5_setOfFirst ∈ TW := tw_2 100 rfl rfl
theorem tk_381 : Cond.code yX5_setOfFirst cX5_setOfFirst 1 (some FieldType.int) ∈ TW := tw_2 101 rfl rfl
theorem tk_382 : Cond.methodLink RX5 175 yX4_plan ∈ TW := tw_2 102 rfl rfl
theorem tk_383 : Cond.instanceMethod yX4_plan ∈ TW := tw_2 103 rfl rfl
theorem tk_384 : Cond.selects RX4 yX4_plan yX4_plan ∈ TW := tw_2 104 rfl rfl
theorem tk_385 : Cond.code yX4_plan cX4_plan 4 (some FieldType.int) ∈ TW := tw_2 105 rfl rfl
theorem tk_386 : Cond.methodLink RX4 27 yX4_explore ∈ TW := tw_2 106 rfl rfl
theorem tk_388 : Cond.instanceMethod yX4_explore ∈ TW := tw_2 108 rfl rfl
theorem tk_389 : Cond.code yX4_explore cX4_explore 12 (some FieldType.int) ∈ TW := tw_2 109 rfl rfl
theorem tk_390 : Cond.methodLink RX4 39 yX4_forget ∈ TW := tw_2 110 rfl rfl
theorem tk_392 : Cond.instanceMethod yX4_forget ∈ TW := tw_2 112 rfl rfl
theorem tk_393 : Cond.code yX4_forget cX4_forget 4 none ∈ TW := tw_2 113 rfl rfl
theorem tk_394 : Cond.methodLink RX4 43 yX4_add ∈ TW := tw_2 114 rfl rfl
theorem tk_396 : Cond.instanceMethod yX4_add ∈ TW := tw_2 116 rfl rfl
theorem tk_397 : Cond.code yX4_add cX4_add 5 (some FieldType.boolean) ∈ TW := tw_2 117 rfl rfl
theorem tk_399 : Cond.methodLink RX4 47 yX3_isReached ∈ TW := tw_2 119 rfl rfl
theorem tk_400 : Cond.instanceMethod yX3_isReached ∈ TW := tw_2 120 rfl rfl
theorem tk_401 : Cond.selects RX3 yX3_isReached yX3_isReached ∈ TW := tw_2 121 rfl rfl
theorem tk_402 : Cond.code yX3_isReached cX3_isReached 4 (some FieldType.boolean) ∈ TW := tw_2 122 rfl rfl
theorem tk_403 : Cond.methodLink RX4 57 yX3_stepsFrom ∈ TW := tw_2 123 rfl rfl
theorem tk_404 : Cond.methodLink RX4 60 yX0_ticked ∈ TW := tw_2 124 rfl rfl
theorem tk_406 : Cond.methodLink RX4 63 yX3_withStep ∈ TW := tw_2 126 rfl rfl
theorem tk_407 : Cond.methodLink RX5 178 yX4_ticksTo ∈ TW := tw_2 127 rfl rfl
theorem tk_408 : Cond.instanceMethod yX4_ticksTo ∈ TW := tw_2 128 rfl rfl
theorem tk_409 : Cond.selects RX4 yX4_ticksTo yX4_ticksTo ∈ TW := tw_2 129 rfl rfl
theorem tk_410 : Cond.code yX4_ticksTo cX4_ticksTo 4 (some FieldType.int) ∈ TW := tw_2 130 rfl rfl
theorem tk_411 : Cond.methodLink RX5 181 yX4_stepBefore ∈ TW := tw_2 131 rfl rfl
theorem tk_412 : Cond.instanceMethod yX4_stepBefore ∈ TW := tw_2 132 rfl rfl
theorem tk_413 : Cond.selects RX4 yX4_stepBefore yX4_stepBefore ∈ TW := tw_2 133 rfl rfl
theorem tk_414 : Cond.code yX4_stepBefore cX4_stepBefore 5 (some FieldType.int) ∈ TW := tw_2 134 rfl rfl
theorem tk_415 : Cond.methodLink RL 62 yX5_go ∈ TW := tw_2 135 rfl rfl
theorem tk_416 : Cond.instanceMethod yX5_go ∈ TW := tw_2 136 rfl rfl
theorem tk_417 : Cond.selects RX5 yX5_go yX5_go ∈ TW := tw_2 137 rfl rfl
theorem tk_418 : Cond.code yX5_go cX5_go 4 (some FieldType.int) ∈ TW := tw_2 138 rfl rfl
theorem tk_419 : Cond.methodLink RX5 184 yX4_codeAt ∈ TW := tw_2 139 rfl rfl
theorem tk_420 : Cond.instanceMethod yX4_codeAt ∈ TW := tw_2 140 rfl rfl
theorem tk_421 : Cond.selects RX4 yX4_codeAt yX4_codeAt ∈ TW := tw_2 141 rfl rfl
theorem tk_422 : Cond.code yX4_codeAt cX4_codeAt 2 (some FieldType.int) ∈ TW := tw_2 142 rfl rfl
theorem tk_423 : Cond.methodLink RL 66 yX5_needed ∈ TW := tw_2 143 rfl rfl
theorem tk_424 : Cond.instanceMethod yX5_needed ∈ TW := tw_2 144 rfl rfl
theorem tk_425 : Cond.selects RX5 yX5_needed yX5_needed ∈ TW := tw_2 145 rfl rfl
theorem tk_426 : Cond.code yX5_needed cX5_needed 5 (some FieldType.int) ∈ TW := tw_2 146 rfl rfl
theorem tk_427 : Cond.methodLink RX5 187 yX4_canReach ∈ TW := tw_2 147 rfl rfl
theorem tk_428 : Cond.instanceMethod yX4_canReach ∈ TW := tw_2 148 rfl rfl
theorem tk_429 : Cond.selects RX4 yX4_canReach yX4_canReach ∈ TW := tw_2 149 rfl rfl
theorem tk_430 : Cond.code yX4_canReach cX4_canReach 4 (some FieldType.boolean) ∈ TW := tw_2 150 rfl rfl
theorem tk_431 : Cond.methodLink RX5 194 yX4_neededAmong ∈ TW := tw_2 151 rfl rfl
theorem tk_432 : Cond.instanceMethod yX4_neededAmong ∈ TW := tw_2 152 rfl rfl
theorem tk_433 : Cond.selects RX4 yX4_neededAmong yX4_neededAmong ∈ TW := tw_2 153 rfl rfl
theorem tk_434 : Cond.code yX4_neededAmong cX4_neededAmong 8 (some FieldType.int) ∈ TW := tw_2 154 rfl rfl
theorem tk_435 : Cond.methodLink RL 70 yX5_ever ∈ TW := tw_2 155 rfl rfl
theorem tk_436 : Cond.instanceMethod yX5_ever ∈ TW := tw_2 156 rfl rfl
theorem tk_437 : Cond.selects RX5 yX5_ever yX5_ever ∈ TW := tw_2 157 rfl rfl
theorem tk_438 : Cond.code yX5_ever cX5_ever 2 (some FieldType.int) ∈ TW := tw_2 158 rfl rfl
theorem tk_439 : Cond.methodLink RX5 197 yX4_everReady ∈ TW := tw_2 159 rfl rfl
theorem tk_440 : Cond.instanceMethod yX4_everReady ∈ TW := tw_2 160 rfl rfl
theorem tk_441 : Cond.selects RX4 yX4_everReady yX4_everReady ∈ TW := tw_2 161 rfl rfl
theorem tk_442 : Cond.code yX4_everReady cX4_everReady 5 (some FieldType.int) ∈ TW := tw_2 162 rfl rfl
theorem tk_443 : Cond.methodLink RX5 200 yX4_everLive ∈ TW := tw_2 163 rfl rfl
theorem tk_444 : Cond.instanceMethod yX4_everLive ∈ TW := tw_2 164 rfl rfl
theorem tk_445 : Cond.selects RX4 yX4_everLive yX4_everLive ∈ TW := tw_2 165 rfl rfl
theorem tk_446 : Cond.code yX4_everLive cX4_everLive 4 (some FieldType.int) ∈ TW := tw_2 166 rfl rfl
theorem tk_447 : Cond.methodLink RL 74 yX5_image ∈ TW := tw_2 167 rfl rfl
theorem tk_448 : Cond.instanceMethod yX5_image ∈ TW := tw_2 168 rfl rfl
theorem tk_449 : Cond.selects RX5 yX5_image yX5_image ∈ TW := tw_2 169 rfl rfl
theorem tk_450 : Cond.code yX5_image cX5_image 2 (some FieldType.int) ∈ TW := tw_2 170 rfl rfl
theorem tk_451 : Cond.methodLink RX5 203 yX1_copyFrom ∈ TW := tw_2 171 rfl rfl
theorem tk_452 : Cond.instanceMethod yX1_copyFrom ∈ TW := tw_2 172 rfl rfl
theorem tk_453 : Cond.selects RX1 yX1_copyFrom yX1_copyFrom ∈ TW := tw_2 173 rfl rfl
theorem tk_454 : Cond.code yX1_copyFrom cX1_copyFrom 2 none ∈ TW := tw_2 174 rfl rfl
theorem tk_455 : Cond.methodLink RX1 48 ⟨"java/lang/System", "arraycopy", "(Ljava/lang/Object;ILjava/lang/Object;II)V"⟩ ∈ TW := tw_2 175 rfl rfl
theorem tk_456 : Cond.static ⟨"java/lang/System", "arraycopy", "(Ljava/lang/Object;ILjava/lang/Object;II)V"⟩ ∈ TW := tw_2 176 rfl rfl
theorem tk_457 : Cond.native ⟨"java/lang/System", "arraycopy", "(Ljava/lang/Object;ILjava/lang/Object;II)V"⟩ ∈ TW := tw_2 177 rfl rfl
theorem tk_458 : Cond.methodLink RL 78 yX5_restore ∈ TW := tw_2 178 rfl rfl
theorem tk_459 : Cond.instanceMethod yX5_restore ∈ TW := tw_2 179 rfl rfl
theorem tk_460 : Cond.selects RX5 yX5_restore yX5_restore ∈ TW := tw_2 180 rfl rfl
theorem tk_461 : Cond.code yX5_restore cX5_restore 3 (some FieldType.int) ∈ TW := tw_2 181 rfl rfl
theorem tk_462 : Cond.methodLink RL 82 yX5_count ∈ TW := tw_2 182 rfl rfl
theorem tk_463 : Cond.instanceMethod yX5_count ∈ TW := tw_2 183 rfl rfl
theorem tk_464 : Cond.selects RX5 yX5_count yX5_count ∈ TW := tw_2 184 rfl rfl
theorem tk_465 : Cond.code yX5_count cX5_count 2 (some FieldType.int) ∈ TW := tw_2 185 rfl rfl
theorem tk_466 : Cond.methodLink RX5 207 yX0_ready ∈ TW := tw_2 186 rfl rfl
theorem tk_467 : Cond.methodLink RX5 210 yX3_countLiveIslands ∈ TW := tw_2 187 rfl rfl
theorem tk_468 : Cond.instanceMethod yX3_countLiveIslands ∈ TW := tw_2 188 rfl rfl
theorem tk_469 : Cond.selects RX3 yX3_countLiveIslands yX3_countLiveIslands ∈ TW := tw_2 189 rfl rfl
theorem tk_470 : Cond.code yX3_countLiveIslands cX3_countLiveIslands 7 (some FieldType.int) ∈ TW := tw_2 190 rfl rfl
theorem tk_472 : Cond.classLink RL 10 "GridStartsModel" ∈ TW := tw_2 192 rfl rfl
theorem tk_473 : Cond.instantiable RX6 12 ∈ TW := tw_2 193 rfl rfl
theorem tk_474 : Cond.methodLink RL 12 yX6_init ∈ TW := tw_2 194 rfl rfl
theorem tk_475 : Cond.instanceMethod yX6_init ∈ TW := tw_2 195 rfl rfl
theorem tk_476 : Cond.code yX6_init cX6_init 1 none ∈ TW := tw_2 196 rfl rfl
theorem tk_477 : Cond.methodLink RX6 1 ⟨"java/lang/Object", "<init>", "()V"⟩ ∈ TW := tw_2 197 rfl rfl
theorem tk_478 : Cond.fieldLink RX6 7 "GridStartsModel" "state" "[I" ∈ TW := tw_2 198 rfl rfl
theorem tk_479 : Cond.fieldLink RX6 13 "GridStartsModel" "images" "[I" ∈ TW := tw_2 199 rfl rfl
theorem tk_480 : Cond.fieldLink RX6 16 "GridStartsModel" "isKept" "[Z" ∈ TW := tw_2 200 rfl rfl
theorem tk_481 : Cond.fieldLink RX6 20 "GridStartsModel" "closed" "[I" ∈ TW := tw_2 201 rfl rfl
theorem tk_482 : Cond.fieldLink RX6 23 "GridStartsModel" "run" "[I" ∈ TW := tw_2 202 rfl rfl
theorem tk_483 : Cond.fieldLink RX6 26 "GridStartsModel" "island" "[I" ∈ TW := tw_2 203 rfl rfl
theorem tk_484 : Cond.fieldLink RX6 29 "GridStartsModel" "spare" "[I" ∈ TW := tw_2 204 rfl rfl
theorem tk_485 : Cond.fieldLink RX6 32 "GridStartsModel" "live" "[Z" ∈ TW := tw_2 205 rfl rfl
theorem tk_486 : Cond.fieldLink RX6 35 "GridStartsModel" "first" "[I" ∈ TW := tw_2 206 rfl rfl
theorem tk_487 : Cond.fieldLink RX6 38 "GridStartsModel" "leads" "[Z" ∈ TW := tw_2 207 rfl rfl
theorem tk_488 : Cond.fieldLink RX6 41 "GridStartsModel" "steps" "[I" ∈ TW := tw_2 208 rfl rfl
theorem tk_489 : Cond.fieldLink RX6 131 "GridStartsModel" "atLast" "I" ∈ TW := tw_2 209 rfl rfl
theorem tk_490 : Cond.laysFinal "GridStartsModel" "GridStartsModel" "state" "[I" ∈ TW := tw_2 210 rfl rfl
theorem tk_492 : Cond.laysFinal "GridStartsModel" "GridStartsModel" "images" "[I" ∈ TW := tw_2 212 rfl rfl
theorem tk_494 : Cond.laysFinal "GridStartsModel" "GridStartsModel" "isKept" "[Z" ∈ TW := tw_2 214 rfl rfl
theorem tk_496 : Cond.laysFinal "GridStartsModel" "GridStartsModel" "closed" "[I" ∈ TW := tw_2 216 rfl rfl
theorem tk_498 : Cond.laysFinal "GridStartsModel" "GridStartsModel" "run" "[I" ∈ TW := tw_2 218 rfl rfl
theorem tk_500 : Cond.laysFinal "GridStartsModel" "GridStartsModel" "island" "[I" ∈ TW := tw_2 220 rfl rfl
theorem tk_502 : Cond.laysFinal "GridStartsModel" "GridStartsModel" "spare" "[I" ∈ TW := tw_2 222 rfl rfl
theorem tk_504 : Cond.laysFinal "GridStartsModel" "GridStartsModel" "live" "[Z" ∈ TW := tw_2 224 rfl rfl
theorem tk_506 : Cond.laysFinal "GridStartsModel" "GridStartsModel" "first" "[I" ∈ TW := tw_2 226 rfl rfl
theorem tk_508 : Cond.laysFinal "GridStartsModel" "GridStartsModel" "leads" "[Z" ∈ TW := tw_2 228 rfl rfl
theorem tk_510 : Cond.laysFinal "GridStartsModel" "GridStartsModel" "steps" "[I" ∈ TW := tw_2 230 rfl rfl
theorem tk_512 : Cond.lays "GridStartsModel" "GridStartsModel" "atLast" "I" ∈ TW := tw_2 232 rfl rfl
theorem tk_515 : Cond.arrayClass FieldType.boolean ∈ TW := tw_2 235 rfl rfl
theorem tk_516 : Cond.methodLink RL 17 yX6_line ∈ TW := tw_2 236 rfl rfl
theorem tk_517 : Cond.instanceMethod yX6_line ∈ TW := tw_2 237 rfl rfl
theorem tk_518 : Cond.selects RX6 yX6_line yX6_line ∈ TW := tw_2 238 rfl rfl
theorem tk_519 : Cond.code yX6_line cX6_line 5 (some FieldType.int) ∈ TW := tw_2 239 rfl rfl
theorem tk_520 : Cond.methodLink RX6 48 yX6_isBus ∈ TW := tw_3 0 rfl rfl
theorem tk_521 : Cond.static yX6_isBus ∈ TW := tw_3 1 rfl rfl
theorem tk_522 : Cond.code yX6_isBus cX6_isBus 1 (some FieldType.boolean) ∈ TW := tw_3 2 rfl rfl
theorem tk_523 : Cond.methodLink RX6 44 yX6_in ∈ TW := tw_3 3 rfl rfl
theorem tk_524 : Cond.static yX6_in ∈ TW := tw_3 4 rfl rfl
theorem tk_525 : Cond.code yX6_in cX6_in 3 (some FieldType.boolean) ∈ TW := tw_3 5 rfl rfl
theorem tk_526 : Cond.methodLink RL 22 yX6_machine ∈ TW := tw_3 6 rfl rfl
theorem tk_527 : Cond.instanceMethod yX6_machine ∈ TW := tw_3 7 rfl rfl
theorem tk_528 : Cond.selects RX6 yX6_machine yX6_machine ∈ TW := tw_3 8 rfl rfl
theorem tk_529 : Cond.code yX6_machine cX6_machine 6 (some FieldType.int) ∈ TW := tw_3 9 rfl rfl
theorem tk_530 : Cond.methodLink RL 27 yX6_dark ∈ TW := tw_3 10 rfl rfl
theorem tk_531 : Cond.instanceMethod yX6_dark ∈ TW := tw_3 11 rfl rfl
theorem tk_532 : Cond.selects RX6 yX6_dark yX6_dark ∈ TW := tw_3 12 rfl rfl
theorem tk_533 : Cond.code yX6_dark cX6_dark 3 (some FieldType.int) ∈ TW := tw_3 13 rfl rfl
theorem tk_534 : Cond.methodLink RL 32 yX6_of ∈ TW := tw_3 14 rfl rfl
theorem tk_535 : Cond.instanceMethod yX6_of ∈ TW := tw_3 15 rfl rfl
theorem tk_536 : Cond.selects RX6 yX6_of yX6_of ∈ TW := tw_3 16 rfl rfl
theorem tk_537 : Cond.code yX6_of cX6_of 3 (some FieldType.int) ∈ TW := tw_3 17 rfl rfl
theorem tk_538 : Cond.methodLink RX6 52 yX6_isLine ∈ TW := tw_3 18 rfl rfl
theorem tk_540 : Cond.instanceMethod yX6_isLine ∈ TW := tw_3 20 rfl rfl
theorem tk_541 : Cond.code yX6_isLine cX6_isLine 2 (some FieldType.boolean) ∈ TW := tw_3 21 rfl rfl
theorem tk_542 : Cond.methodLink RL 36 yX6_at ∈ TW := tw_3 22 rfl rfl
theorem tk_543 : Cond.instanceMethod yX6_at ∈ TW := tw_3 23 rfl rfl
theorem tk_544 : Cond.selects RX6 yX6_at yX6_at ∈ TW := tw_3 24 rfl rfl
theorem tk_545 : Cond.code yX6_at cX6_at 3 (some FieldType.int) ∈ TW := tw_3 25 rfl rfl
theorem tk_546 : Cond.methodLink RX6 55 yX6_isMachine ∈ TW := tw_3 26 rfl rfl
theorem tk_548 : Cond.instanceMethod yX6_isMachine ∈ TW := tw_3 28 rfl rfl
theorem tk_549 : Cond.code yX6_isMachine cX6_isMachine 2 (some FieldType.boolean) ∈ TW := tw_3 29 rfl rfl
theorem tk_550 : Cond.methodLink RL 40 yX6_bus ∈ TW := tw_3 30 rfl rfl
theorem tk_551 : Cond.instanceMethod yX6_bus ∈ TW := tw_3 31 rfl rfl
theorem tk_552 : Cond.selects RX6 yX6_bus yX6_bus ∈ TW := tw_3 32 rfl rfl
theorem tk_553 : Cond.code yX6_bus cX6_bus 3 (some FieldType.int) ∈ TW := tw_3 33 rfl rfl
theorem tk_554 : Cond.methodLink RX6 65 yX6_layNow ∈ TW := tw_3 34 rfl rfl
theorem tk_556 : Cond.instanceMethod yX6_layNow ∈ TW := tw_3 36 rfl rfl
theorem tk_557 : Cond.code yX6_layNow cX6_layNow 2 none ∈ TW := tw_3 37 rfl rfl
theorem tk_558 : Cond.methodLink RX6 62 yX6_layIslands ∈ TW := tw_3 38 rfl rfl
theorem tk_560 : Cond.instanceMethod yX6_layIslands ∈ TW := tw_3 40 rfl rfl
theorem tk_561 : Cond.code yX6_layIslands cX6_layIslands 4 none ∈ TW := tw_3 41 rfl rfl
theorem tk_562 : Cond.methodLink RX6 58 yX6_joinOnce ∈ TW := tw_3 42 rfl rfl
theorem tk_564 : Cond.instanceMethod yX6_joinOnce ∈ TW := tw_3 44 rfl rfl
theorem tk_565 : Cond.code yX6_joinOnce cX6_joinOnce 6 (some FieldType.boolean) ∈ TW := tw_3 45 rfl rfl
theorem tk_566 : Cond.methodLink RX6 68 yX6_islandSet ∈ TW := tw_3 46 rfl rfl
theorem tk_568 : Cond.instanceMethod yX6_islandSet ∈ TW := tw_3 48 rfl rfl
theorem tk_569 : Cond.code yX6_islandSet cX6_islandSet 4 (some FieldType.int) ∈ TW := tw_3 49 rfl rfl
theorem tk_570 : Cond.methodLink RX6 72 yX6_isLive ∈ TW := tw_3 50 rfl rfl
theorem tk_572 : Cond.instanceMethod yX6_isLive ∈ TW := tw_3 52 rfl rfl
theorem tk_573 : Cond.code yX6_isLive cX6_isLive 2 (some FieldType.boolean) ∈ TW := tw_3 53 rfl rfl
theorem tk_574 : Cond.methodLink RL 44 yX6_can ∈ TW := tw_3 54 rfl rfl
theorem tk_575 : Cond.instanceMethod yX6_can ∈ TW := tw_3 55 rfl rfl
theorem tk_576 : Cond.selects RX6 yX6_can yX6_can ∈ TW := tw_3 56 rfl rfl
theorem tk_577 : Cond.code yX6_can cX6_can 3 (some FieldType.int) ∈ TW := tw_3 57 rfl rfl
theorem tk_578 : Cond.methodLink RX6 81 yX6_canStep ∈ TW := tw_3 58 rfl rfl
theorem tk_580 : Cond.instanceMethod yX6_canStep ∈ TW := tw_3 60 rfl rfl
theorem tk_581 : Cond.code yX6_canStep cX6_canStep 2 (some FieldType.boolean) ∈ TW := tw_3 61 rfl rfl
theorem tk_582 : Cond.methodLink RX6 75 yX6_canStart ∈ TW := tw_3 62 rfl rfl
theorem tk_584 : Cond.instanceMethod yX6_canStart ∈ TW := tw_3 64 rfl rfl
theorem tk_585 : Cond.code yX6_canStart cX6_canStart 3 (some FieldType.boolean) ∈ TW := tw_3 65 rfl rfl
theorem tk_586 : Cond.methodLink RX6 78 yX6_canClose ∈ TW := tw_3 66 rfl rfl
theorem tk_588 : Cond.instanceMethod yX6_canClose ∈ TW := tw_3 68 rfl rfl
theorem tk_589 : Cond.code yX6_canClose cX6_canClose 5 (some FieldType.boolean) ∈ TW := tw_3 69 rfl rfl
theorem tk_590 : Cond.methodLink RL 49 yX6_tick ∈ TW := tw_3 70 rfl rfl
theorem tk_591 : Cond.instanceMethod yX6_tick ∈ TW := tw_3 71 rfl rfl
theorem tk_592 : Cond.selects RX6 yX6_tick yX6_tick ∈ TW := tw_3 72 rfl rfl
theorem tk_593 : Cond.code yX6_tick cX6_tick 2 (some FieldType.int) ∈ TW := tw_3 73 rfl rfl
theorem tk_594 : Cond.methodLink RX6 88 yX6_numberBehind ∈ TW := tw_3 74 rfl rfl
theorem tk_596 : Cond.instanceMethod yX6_numberBehind ∈ TW := tw_3 76 rfl rfl
theorem tk_597 : Cond.code yX6_numberBehind cX6_numberBehind 4 (some FieldType.int) ∈ TW := tw_3 77 rfl rfl
theorem tk_598 : Cond.methodLink RX6 84 yX6_ranOn ∈ TW := tw_3 78 rfl rfl
theorem tk_600 : Cond.instanceMethod yX6_ranOn ∈ TW := tw_3 80 rfl rfl
theorem tk_601 : Cond.code yX6_ranOn cX6_ranOn 3 (some FieldType.int) ∈ TW := tw_3 81 rfl rfl
theorem tk_602 : Cond.methodLink RX6 91 yX6_become ∈ TW := tw_3 82 rfl rfl
theorem tk_604 : Cond.instanceMethod yX6_become ∈ TW := tw_3 84 rfl rfl
theorem tk_605 : Cond.code yX6_become cX6_become 4 none ∈ TW := tw_3 85 rfl rfl
theorem tk_606 : Cond.methodLink RL 53 yX6_fail ∈ TW := tw_3 86 rfl rfl
theorem tk_607 : Cond.instanceMethod yX6_fail ∈ TW := tw_3 87 rfl rfl
theorem tk_608 : Cond.selects RX6 yX6_fail yX6_fail ∈ TW := tw_3 88 rfl rfl
theorem tk_609 : Cond.code yX6_fail cX6_fail 2 (some FieldType.int) ∈ TW := tw_3 89 rfl rfl
theorem tk_610 : Cond.methodLink RX6 95 yX6_openAll ∈ TW := tw_3 90 rfl rfl
theorem tk_612 : Cond.instanceMethod yX6_openAll ∈ TW := tw_3 92 rfl rfl
theorem tk_613 : Cond.code yX6_openAll cX6_openAll 4 (some FieldType.int) ∈ TW := tw_3 93 rfl rfl
theorem tk_614 : Cond.methodLink RL 57 yX6_trip ∈ TW := tw_3 94 rfl rfl
theorem tk_615 : Cond.instanceMethod yX6_trip ∈ TW := tw_3 95 rfl rfl
theorem tk_616 : Cond.selects RX6 yX6_trip yX6_trip ∈ TW := tw_3 96 rfl rfl
theorem tk_617 : Cond.code yX6_trip cX6_trip 2 (some FieldType.int) ∈ TW := tw_3 97 rfl rfl
theorem tk_618 : Cond.methodLink RL 61 yX6_way ∈ TW := tw_3 98 rfl rfl
theorem tk_619 : Cond.instanceMethod yX6_way ∈ TW := tw_3 99 rfl rfl
theorem tk_620 : Cond.selects RX6 yX6_way yX6_way ∈ TW := tw_3 100 rfl rfl
theorem tk_621 : Cond.code yX6_way cX6_way 5 (some FieldType.int) ∈ TW := tw_3 101 rfl rfl
theorem tk_622 : Cond.methodLink RX6 135 yX6_areSets ∈ TW := tw_3 102 rfl rfl
theorem tk_624 : Cond.instanceMethod yX6_areSets ∈ TW := tw_3 104 rfl rfl
theorem tk_625 : Cond.code yX6_areSets cX6_areSets 3 (some FieldType.boolean) ∈ TW := tw_3 105 rfl rfl
theorem tk_626 : Cond.methodLink RX6 138 yX6_layWay ∈ TW := tw_3 106 rfl rfl
theorem tk_628 : Cond.instanceMethod yX6_layWay ∈ TW := tw_3 108 rfl rfl
theorem tk_629 : Cond.code yX6_layWay cX6_layWay 6 (some FieldType.int) ∈ TW := tw_3 109 rfl rfl
theorem tk_630 : Cond.methodLink RX6 121 yX6_layAll ∈ TW := tw_3 110 rfl rfl
theorem tk_632 : Cond.instanceMethod yX6_layAll ∈ TW := tw_3 112 rfl rfl
theorem tk_633 : Cond.code yX6_layAll cX6_layAll 4 none ∈ TW := tw_3 113 rfl rfl
theorem tk_634 : Cond.methodLink RX6 102 yX6_numberNow ∈ TW := tw_3 114 rfl rfl
theorem tk_636 : Cond.instanceMethod yX6_numberNow ∈ TW := tw_3 116 rfl rfl
theorem tk_637 : Cond.code yX6_numberNow cX6_numberNow 3 (some FieldType.int) ∈ TW := tw_3 117 rfl rfl
theorem tk_638 : Cond.methodLink RX6 105 yX6_goOn ∈ TW := tw_3 118 rfl rfl
theorem tk_640 : Cond.instanceMethod yX6_goOn ∈ TW := tw_3 120 rfl rfl
theorem tk_641 : Cond.code yX6_goOn cX6_goOn 7 (some FieldType.boolean) ∈ TW := tw_3 121 rfl rfl
theorem tk_642 : Cond.methodLink RX6 99 yX6_layNumber ∈ TW := tw_3 122 rfl rfl
theorem tk_644 : Cond.instanceMethod yX6_layNumber ∈ TW := tw_3 124 rfl rfl
theorem tk_645 : Cond.code yX6_layNumber cX6_layNumber 4 none ∈ TW := tw_3 125 rfl rfl
theorem tk_646 : Cond.methodLink RX6 124 yX6_reached ∈ TW := tw_3 126 rfl rfl
theorem tk_648 : Cond.instanceMethod yX6_reached ∈ TW := tw_3 128 rfl rfl
theorem tk_649 : Cond.code yX6_reached cX6_reached 5 (some FieldType.int) ∈ TW := tw_3 129 rfl rfl
theorem tk_650 : Cond.methodLink RX6 115 yX6_isGoal ∈ TW := tw_3 130 rfl rfl
theorem tk_652 : Cond.instanceMethod yX6_isGoal ∈ TW := tw_3 132 rfl rfl
theorem tk_653 : Cond.code yX6_isGoal cX6_isGoal 4 (some FieldType.boolean) ∈ TW := tw_3 133 rfl rfl
theorem tk_654 : Cond.methodLink RX6 109 yX6_readySet ∈ TW := tw_3 134 rfl rfl
theorem tk_656 : Cond.instanceMethod yX6_readySet ∈ TW := tw_3 136 rfl rfl
theorem tk_657 : Cond.code yX6_readySet cX6_readySet 3 (some FieldType.int) ∈ TW := tw_3 137 rfl rfl
theorem tk_658 : Cond.methodLink RX6 112 yX6_liveSet ∈ TW := tw_3 138 rfl rfl
theorem tk_660 : Cond.instanceMethod yX6_liveSet ∈ TW := tw_3 140 rfl rfl
theorem tk_661 : Cond.code yX6_liveSet cX6_liveSet 3 (some FieldType.int) ∈ TW := tw_3 141 rfl rfl
theorem tk_662 : Cond.methodLink RX6 127 yX6_layLeads ∈ TW := tw_3 142 rfl rfl
theorem tk_664 : Cond.instanceMethod yX6_layLeads ∈ TW := tw_3 144 rfl rfl
theorem tk_665 : Cond.code yX6_layLeads cX6_layLeads 6 none ∈ TW := tw_3 145 rfl rfl
theorem tk_666 : Cond.methodLink RX6 118 yX6_stepOn ∈ TW := tw_3 146 rfl rfl
theorem tk_668 : Cond.instanceMethod yX6_stepOn ∈ TW := tw_3 148 rfl rfl
theorem tk_669 : Cond.code yX6_stepOn cX6_stepOn 4 (some FieldType.int) ∈ TW := tw_3 149 rfl rfl
theorem tk_670 : Cond.methodLink RL 65 yX6_go ∈ TW := tw_3 150 rfl rfl
theorem tk_671 : Cond.instanceMethod yX6_go ∈ TW := tw_3 151 rfl rfl
theorem tk_672 : Cond.selects RX6 yX6_go yX6_go ∈ TW := tw_3 152 rfl rfl
theorem tk_673 : Cond.code yX6_go cX6_go 4 (some FieldType.int) ∈ TW := tw_3 153 rfl rfl
theorem tk_674 : Cond.methodLink RL 69 yX6_needed ∈ TW := tw_3 154 rfl rfl
theorem tk_675 : Cond.instanceMethod yX6_needed ∈ TW := tw_3 155 rfl rfl
theorem tk_676 : Cond.selects RX6 yX6_needed yX6_needed ∈ TW := tw_3 156 rfl rfl
theorem tk_677 : Cond.code yX6_needed cX6_needed 4 (some FieldType.int) ∈ TW := tw_3 157 rfl rfl
theorem tk_678 : Cond.methodLink RX6 141 yX6_canWithout ∈ TW := tw_3 158 rfl rfl
theorem tk_680 : Cond.instanceMethod yX6_canWithout ∈ TW := tw_3 160 rfl rfl
theorem tk_681 : Cond.code yX6_canWithout cX6_canWithout 4 (some FieldType.boolean) ∈ TW := tw_3 161 rfl rfl
theorem tk_682 : Cond.methodLink RX6 144 yX6_neededLines ∈ TW := tw_3 162 rfl rfl
theorem tk_684 : Cond.instanceMethod yX6_neededLines ∈ TW := tw_3 164 rfl rfl
theorem tk_685 : Cond.code yX6_neededLines cX6_neededLines 5 (some FieldType.int) ∈ TW := tw_3 165 rfl rfl
theorem tk_686 : Cond.methodLink RX6 147 yX6_neededMachines ∈ TW := tw_3 166 rfl rfl
theorem tk_688 : Cond.instanceMethod yX6_neededMachines ∈ TW := tw_3 168 rfl rfl
theorem tk_689 : Cond.code yX6_neededMachines cX6_neededMachines 5 (some FieldType.int) ∈ TW := tw_3 169 rfl rfl
theorem tk_690 : Cond.methodLink RL 73 yX6_ever ∈ TW := tw_3 170 rfl rfl
theorem tk_691 : Cond.instanceMethod yX6_ever ∈ TW := tw_3 171 rfl rfl
theorem tk_692 : Cond.selects RX6 yX6_ever yX6_ever ∈ TW := tw_3 172 rfl rfl
theorem tk_693 : Cond.code yX6_ever cX6_ever 4 (some FieldType.int) ∈ TW := tw_3 173 rfl rfl
theorem tk_694 : Cond.methodLink RL 77 yX6_image ∈ TW := tw_3 174 rfl rfl
theorem tk_695 : Cond.instanceMethod yX6_image ∈ TW := tw_3 175 rfl rfl
theorem tk_696 : Cond.selects RX6 yX6_image yX6_image ∈ TW := tw_3 176 rfl rfl
theorem tk_697 : Cond.code yX6_image cX6_image 3 (some FieldType.int) ∈ TW := tw_3 177 rfl rfl
theorem tk_698 : Cond.methodLink RL 81 yX6_restore ∈ TW := tw_3 178 rfl rfl
theorem tk_699 : Cond.instanceMethod yX6_restore ∈ TW := tw_3 179 rfl rfl
theorem tk_700 : Cond.selects RX6 yX6_restore yX6_restore ∈ TW := tw_3 180 rfl rfl
theorem tk_701 : Cond.code yX6_restore cX6_restore 3 (some FieldType.int) ∈ TW := tw_3 181 rfl rfl
theorem tk_702 : Cond.methodLink RL 85 yX6_count ∈ TW := tw_3 182 rfl rfl
theorem tk_703 : Cond.instanceMethod yX6_count ∈ TW := tw_3 183 rfl rfl
theorem tk_704 : Cond.selects RX6 yX6_count yX6_count ∈ TW := tw_3 184 rfl rfl
theorem tk_705 : Cond.code yX6_count cX6_count 2 (some FieldType.int) ∈ TW := tw_3 185 rfl rfl
theorem tk_706 : Cond.methodLink RX6 150 yX6_sumOf ∈ TW := tw_3 186 rfl rfl
theorem tk_708 : Cond.instanceMethod yX6_sumOf ∈ TW := tw_3 188 rfl rfl
theorem tk_709 : Cond.code yX6_sumOf cX6_sumOf 5 (some FieldType.int) ∈ TW := tw_3 189 rfl rfl
theorem tk_710 : Cond.methodLink RX6 153 yX6_size ∈ TW := tw_3 190 rfl rfl
theorem tk_711 : Cond.static yX6_size ∈ TW := tw_3 191 rfl rfl
theorem tk_712 : Cond.code yX6_size cX6_size 3 (some FieldType.int) ∈ TW := tw_3 192 rfl rfl
theorem tk_713 : Cond.methodLink RX6 156 yX6_liveIslands ∈ TW := tw_3 193 rfl rfl
theorem tk_715 : Cond.instanceMethod yX6_liveIslands ∈ TW := tw_3 195 rfl rfl
theorem tk_716 : Cond.code yX6_liveIslands cX6_liveIslands 3 (some FieldType.int) ∈ TW := tw_3 196 rfl rfl
theorem tlX1 : ∀ w ∈ u_ws RX1 TX1 11, w ∈ TW := List.forall_mem_cons.mpr ⟨tk_98, List.forall_mem_cons.mpr ⟨tk_100, List.forall_mem_cons.mpr ⟨tk_102, List.forall_mem_cons.mpr ⟨tk_104, List.forall_mem_cons.mpr ⟨tk_106, List.forall_mem_cons.mpr ⟨tk_108, List.forall_mem_cons.mpr ⟨tk_110, List.forall_mem_cons.mpr ⟨tk_112, List.forall_mem_cons.mpr ⟨tk_114, List.forall_mem_cons.mpr ⟨tk_116, List.forall_mem_cons.mpr ⟨tk_118, fun _ h => absurd h List.not_mem_nil⟩⟩⟩⟩⟩⟩⟩⟩⟩⟩⟩
theorem tlX2 : ∀ w ∈ u_ws RX2 TX2 2, w ∈ TW := List.forall_mem_cons.mpr ⟨tk_130, List.forall_mem_cons.mpr ⟨tk_132, fun _ h => absurd h List.not_mem_nil⟩⟩
theorem tlX3 : ∀ w ∈ u_ws RX3 TX3 2, w ∈ TW := List.forall_mem_cons.mpr ⟨tk_143, List.forall_mem_cons.mpr ⟨tk_145, fun _ h => absurd h List.not_mem_nil⟩⟩
theorem tlX4 : ∀ w ∈ u_ws RX4 TX4 5, w ∈ TW := List.forall_mem_cons.mpr ⟨tk_159, List.forall_mem_cons.mpr ⟨tk_161, List.forall_mem_cons.mpr ⟨tk_163, List.forall_mem_cons.mpr ⟨tk_165, List.forall_mem_cons.mpr ⟨tk_167, fun _ h => absurd h List.not_mem_nil⟩⟩⟩⟩⟩
theorem tlX5 : ∀ w ∈ u_ws RX5 TX5 6, w ∈ TW := List.forall_mem_cons.mpr ⟨tk_177, List.forall_mem_cons.mpr ⟨tk_179, List.forall_mem_cons.mpr ⟨tk_181, List.forall_mem_cons.mpr ⟨tk_183, List.forall_mem_cons.mpr ⟨tk_185, List.forall_mem_cons.mpr ⟨tk_187, fun _ h => absurd h List.not_mem_nil⟩⟩⟩⟩⟩⟩
theorem tlX6 : ∀ w ∈ u_ws RX6 TX6 12, w ∈ TW := List.forall_mem_cons.mpr ⟨tk_490, List.forall_mem_cons.mpr ⟨tk_492, List.forall_mem_cons.mpr ⟨tk_494, List.forall_mem_cons.mpr ⟨tk_496, List.forall_mem_cons.mpr ⟨tk_498, List.forall_mem_cons.mpr ⟨tk_500, List.forall_mem_cons.mpr ⟨tk_502, List.forall_mem_cons.mpr ⟨tk_504, List.forall_mem_cons.mpr ⟨tk_506, List.forall_mem_cons.mpr ⟨tk_508, List.forall_mem_cons.mpr ⟨tk_510, List.forall_mem_cons.mpr ⟨tk_512, fun _ h => absurd h List.not_mem_nil⟩⟩⟩⟩⟩⟩⟩⟩⟩⟩⟩⟩
abbrev nestW : List Cond := [Cond.methodLinkNest RX5 11 yX1_init "GridStarts", Cond.methodLinkNest RX2 40 yX5_bit "GridStarts", Cond.methodLinkNest RX0 15 yX5_bit "GridStarts", Cond.methodLinkNest RX3 51 yX5_bit "GridStarts", Cond.methodLinkNest RX4 31 yX5_setOfFirst "GridStarts", Cond.methodLinkNest RX4 35 yX5_bit "GridStarts", Cond.methodLinkNest RX3 48 yX5_setOfFirst "GridStarts"]
theorem nestW_in : ∀ w ∈ nestW, w ∈ lw_tbl := List.forall_mem_cons.mpr ⟨List.mem_append_right _ (List.mem_append_left _ (List.mem_of_getElem? (i := 21) rfl)), List.forall_mem_cons.mpr ⟨List.mem_append_right _ (List.mem_append_left _ (List.mem_of_getElem? (i := 186) rfl)), List.forall_mem_cons.mpr ⟨List.mem_append_right _ (List.mem_append_left _ (List.mem_of_getElem? (i := 234) rfl)), List.forall_mem_cons.mpr ⟨List.mem_append_right _ (List.mem_append_right _ (List.mem_append_left _ (List.mem_of_getElem? (i := 26) rfl))), List.forall_mem_cons.mpr ⟨List.mem_append_right _ (List.mem_append_right _ (List.mem_append_left _ (List.mem_of_getElem? (i := 118) rfl))), List.forall_mem_cons.mpr ⟨List.mem_append_right _ (List.mem_append_right _ (List.mem_append_left _ (List.mem_of_getElem? (i := 125) rfl))), List.forall_mem_cons.mpr ⟨List.mem_append_right _ (List.mem_append_right _ (List.mem_append_left _ (List.mem_of_getElem? (i := 191) rfl))), fun _ h => absurd h List.not_mem_nil⟩⟩⟩⟩⟩⟩⟩
end
section
theorem dX0_closed_0 : decode cX0_closed 0 = .ok (.iload_n 0, 1) := by decide +kernel
theorem dX0_closed_1 : decode cX0_closed 1 = .ok (.bipush 63, 2) := by decide +kernel
theorem dX0_closed_3 : decode cX0_closed 3 = .ok (.iand, 1) := by decide +kernel
theorem dX0_closed_4 : decode cX0_closed 4 = .ok (.ireturn, 1) := by decide +kernel
theorem dX0_running_0 : decode cX0_running 0 = .ok (.iload_n 0, 1) := by decide +kernel
theorem dX0_running_1 : decode cX0_running 1 = .ok (.bipush 6, 2) := by decide +kernel
theorem dX0_running_3 : decode cX0_running 3 = .ok (.ishr, 1) := by decide +kernel
theorem dX0_running_4 : decode cX0_running 4 = .ok (.bipush 7, 2) := by decide +kernel
theorem dX0_running_6 : decode cX0_running 6 = .ok (.iand, 1) := by decide +kernel
theorem dX0_running_7 : decode cX0_running 7 = .ok (.ireturn, 1) := by decide +kernel
theorem dX0_isRunning_0 : decode cX0_isRunning 0 = .ok (.iload_n 0, 1) := by decide +kernel
theorem dX0_isRunning_1 : decode cX0_isRunning 1 = .ok (.invokestatic 11, 3) := by decide +kernel
theorem dX0_isRunning_4 : decode cX0_isRunning 4 = .ok (.iload_n 1, 1) := by decide +kernel
theorem dX0_isRunning_5 : decode cX0_isRunning 5 = .ok (.invokestatic 15, 3) := by decide +kernel
theorem dX0_isRunning_8 : decode cX0_isRunning 8 = .ok (.ifCond .eq 7, 3) := by decide +kernel
theorem dX0_isRunning_11 : decode cX0_isRunning 11 = .ok (.iconst 1, 1) := by decide +kernel
theorem dX0_isRunning_12 : decode cX0_isRunning 12 = .ok (.goto 4, 3) := by decide +kernel
theorem dX0_isRunning_15 : decode cX0_isRunning 15 = .ok (.iconst 0, 1) := by decide +kernel
theorem dX0_isRunning_16 : decode cX0_isRunning 16 = .ok (.ireturn, 1) := by decide +kernel
theorem dX0_left_0 : decode cX0_left 0 = .ok (.iload_n 0, 1) := by decide +kernel
theorem dX0_left_1 : decode cX0_left 1 = .ok (.iload_n 1, 1) := by decide +kernel
theorem dX0_left_2 : decode cX0_left 2 = .ok (.invokestatic 19, 3) := by decide +kernel
theorem dX0_left_5 : decode cX0_left 5 = .ok (.ishr, 1) := by decide +kernel
theorem dX0_left_6 : decode cX0_left 6 = .ok (.iconst 3, 1) := by decide +kernel
theorem dX0_left_7 : decode cX0_left 7 = .ok (.iand, 1) := by decide +kernel
theorem dX0_left_8 : decode cX0_left 8 = .ok (.ireturn, 1) := by decide +kernel
theorem dX0_ready_0 : decode cX0_ready 0 = .ok (.iload_n 0, 1) := by decide +kernel
theorem dX0_ready_1 : decode cX0_ready 1 = .ok (.invokestatic 11, 3) := by decide +kernel
theorem dX0_ready_4 : decode cX0_ready 4 = .ok (.istore_n 1, 1) := by decide +kernel
theorem dX0_ready_5 : decode cX0_ready 5 = .ok (.iconst 0, 1) := by decide +kernel
theorem dX0_ready_6 : decode cX0_ready 6 = .ok (.istore_n 2, 1) := by decide +kernel
theorem dX0_ready_7 : decode cX0_ready 7 = .ok (.iload_n 2, 1) := by decide +kernel
theorem dX0_ready_8 : decode cX0_ready 8 = .ok (.iconst 3, 1) := by decide +kernel
theorem dX0_ready_9 : decode cX0_ready 9 = .ok (.if_icmp .ge 25, 3) := by decide +kernel
theorem dX0_ready_12 : decode cX0_ready 12 = .ok (.iload_n 0, 1) := by decide +kernel
theorem dX0_ready_13 : decode cX0_ready 13 = .ok (.iload_n 2, 1) := by decide +kernel
theorem dX0_ready_14 : decode cX0_ready 14 = .ok (.invokestatic 22, 3) := by decide +kernel
theorem dX0_ready_17 : decode cX0_ready 17 = .ok (.ifCond .le 11, 3) := by decide +kernel
theorem dX0_ready_20 : decode cX0_ready 20 = .ok (.iload_n 1, 1) := by decide +kernel
theorem dX0_ready_21 : decode cX0_ready 21 = .ok (.iconst 1, 1) := by decide +kernel
theorem dX0_ready_22 : decode cX0_ready 22 = .ok (.iload_n 2, 1) := by decide +kernel
theorem dX0_ready_23 : decode cX0_ready 23 = .ok (.ishl, 1) := by decide +kernel
theorem dX0_ready_24 : decode cX0_ready 24 = .ok (.iconst (-1), 1) := by decide +kernel
theorem dX0_ready_25 : decode cX0_ready 25 = .ok (.ixor, 1) := by decide +kernel
theorem dX0_ready_26 : decode cX0_ready 26 = .ok (.iand, 1) := by decide +kernel
theorem dX0_ready_27 : decode cX0_ready 27 = .ok (.istore_n 1, 1) := by decide +kernel
theorem dX0_ready_28 : decode cX0_ready 28 = .ok (.iinc 2 1, 3) := by decide +kernel
theorem dX0_ready_31 : decode cX0_ready 31 = .ok (.goto (-24), 3) := by decide +kernel
theorem dX0_ready_34 : decode cX0_ready 34 = .ok (.iload_n 1, 1) := by decide +kernel
theorem dX0_ready_35 : decode cX0_ready 35 = .ok (.ireturn, 1) := by decide +kernel
theorem dX0_ticked_0 : decode cX0_ticked 0 = .ok (.iload_n 0, 1) := by decide +kernel
theorem dX0_ticked_1 : decode cX0_ticked 1 = .ok (.istore_n 1, 1) := by decide +kernel
theorem dX0_ticked_2 : decode cX0_ticked 2 = .ok (.iconst 0, 1) := by decide +kernel
theorem dX0_ticked_3 : decode cX0_ticked 3 = .ok (.istore_n 2, 1) := by decide +kernel
theorem dX0_ticked_4 : decode cX0_ticked 4 = .ok (.iload_n 2, 1) := by decide +kernel
theorem dX0_ticked_5 : decode cX0_ticked 5 = .ok (.iconst 3, 1) := by decide +kernel
theorem dX0_ticked_6 : decode cX0_ticked 6 = .ok (.if_icmp .ge 26, 3) := by decide +kernel
theorem dX0_ticked_9 : decode cX0_ticked 9 = .ok (.iload_n 0, 1) := by decide +kernel
theorem dX0_ticked_10 : decode cX0_ticked 10 = .ok (.iload_n 2, 1) := by decide +kernel
theorem dX0_ticked_11 : decode cX0_ticked 11 = .ok (.invokestatic 22, 3) := by decide +kernel
theorem dX0_ticked_14 : decode cX0_ticked 14 = .ok (.ifCond .le 12, 3) := by decide +kernel
theorem dX0_ticked_17 : decode cX0_ticked 17 = .ok (.iload_n 1, 1) := by decide +kernel
theorem dX0_ticked_18 : decode cX0_ticked 18 = .ok (.iconst 1, 1) := by decide +kernel
theorem dX0_ticked_19 : decode cX0_ticked 19 = .ok (.iload_n 2, 1) := by decide +kernel
theorem dX0_ticked_20 : decode cX0_ticked 20 = .ok (.invokestatic 19, 3) := by decide +kernel
theorem dX0_ticked_23 : decode cX0_ticked 23 = .ok (.ishl, 1) := by decide +kernel
theorem dX0_ticked_24 : decode cX0_ticked 24 = .ok (.isub, 1) := by decide +kernel
theorem dX0_ticked_25 : decode cX0_ticked 25 = .ok (.istore_n 1, 1) := by decide +kernel
theorem dX0_ticked_26 : decode cX0_ticked 26 = .ok (.iinc 2 1, 3) := by decide +kernel
theorem dX0_ticked_29 : decode cX0_ticked 29 = .ok (.goto (-25), 3) := by decide +kernel
theorem dX0_ticked_32 : decode cX0_ticked 32 = .ok (.iload_n 1, 1) := by decide +kernel
theorem dX0_ticked_33 : decode cX0_ticked 33 = .ok (.ireturn, 1) := by decide +kernel
theorem dX0_withStarted_0 : decode cX0_withStarted 0 = .ok (.iload_n 0, 1) := by decide +kernel
theorem dX0_withStarted_1 : decode cX0_withStarted 1 = .ok (.iconst 1, 1) := by decide +kernel
theorem dX0_withStarted_2 : decode cX0_withStarted 2 = .ok (.bipush 6, 2) := by decide +kernel
theorem dX0_withStarted_4 : decode cX0_withStarted 4 = .ok (.iload_n 1, 1) := by decide +kernel
theorem dX0_withStarted_5 : decode cX0_withStarted 5 = .ok (.iadd, 1) := by decide +kernel
theorem dX0_withStarted_6 : decode cX0_withStarted 6 = .ok (.ishl, 1) := by decide +kernel
theorem dX0_withStarted_7 : decode cX0_withStarted 7 = .ok (.ior, 1) := by decide +kernel
theorem dX0_withStarted_8 : decode cX0_withStarted 8 = .ok (.iload_n 2, 1) := by decide +kernel
theorem dX0_withStarted_9 : decode cX0_withStarted 9 = .ok (.iload_n 1, 1) := by decide +kernel
theorem dX0_withStarted_10 : decode cX0_withStarted 10 = .ok (.invokestatic 19, 3) := by decide +kernel
theorem dX0_withStarted_13 : decode cX0_withStarted 13 = .ok (.ishl, 1) := by decide +kernel
theorem dX0_withStarted_14 : decode cX0_withStarted 14 = .ok (.ior, 1) := by decide +kernel
theorem dX0_withStarted_15 : decode cX0_withStarted 15 = .ok (.ireturn, 1) := by decide +kernel
theorem dX0_withStopped_0 : decode cX0_withStopped 0 = .ok (.iload_n 0, 1) := by decide +kernel
theorem dX0_withStopped_1 : decode cX0_withStopped 1 = .ok (.iconst 1, 1) := by decide +kernel
theorem dX0_withStopped_2 : decode cX0_withStopped 2 = .ok (.bipush 6, 2) := by decide +kernel
theorem dX0_withStopped_4 : decode cX0_withStopped 4 = .ok (.iload_n 1, 1) := by decide +kernel
theorem dX0_withStopped_5 : decode cX0_withStopped 5 = .ok (.iadd, 1) := by decide +kernel
theorem dX0_withStopped_6 : decode cX0_withStopped 6 = .ok (.ishl, 1) := by decide +kernel
theorem dX0_withStopped_7 : decode cX0_withStopped 7 = .ok (.iconst (-1), 1) := by decide +kernel
theorem dX0_withStopped_8 : decode cX0_withStopped 8 = .ok (.ixor, 1) := by decide +kernel
theorem dX0_withStopped_9 : decode cX0_withStopped 9 = .ok (.iand, 1) := by decide +kernel
theorem dX0_withStopped_10 : decode cX0_withStopped 10 = .ok (.iconst 3, 1) := by decide +kernel
theorem dX0_withStopped_11 : decode cX0_withStopped 11 = .ok (.iload_n 1, 1) := by decide +kernel
theorem dX0_withStopped_12 : decode cX0_withStopped 12 = .ok (.invokestatic 19, 3) := by decide +kernel
theorem dX0_withStopped_15 : decode cX0_withStopped 15 = .ok (.ishl, 1) := by decide +kernel
theorem dX0_withStopped_16 : decode cX0_withStopped 16 = .ok (.iconst (-1), 1) := by decide +kernel
theorem dX0_withStopped_17 : decode cX0_withStopped 17 = .ok (.ixor, 1) := by decide +kernel
theorem dX0_withStopped_18 : decode cX0_withStopped 18 = .ok (.iand, 1) := by decide +kernel
theorem dX0_withStopped_19 : decode cX0_withStopped 19 = .ok (.ireturn, 1) := by decide +kernel
theorem dX0_withClosed_0 : decode cX0_withClosed 0 = .ok (.iload_n 0, 1) := by decide +kernel
theorem dX0_withClosed_1 : decode cX0_withClosed 1 = .ok (.iconst 1, 1) := by decide +kernel
theorem dX0_withClosed_2 : decode cX0_withClosed 2 = .ok (.iload_n 1, 1) := by decide +kernel
theorem dX0_withClosed_3 : decode cX0_withClosed 3 = .ok (.ishl, 1) := by decide +kernel
theorem dX0_withClosed_4 : decode cX0_withClosed 4 = .ok (.ior, 1) := by decide +kernel
theorem dX0_withClosed_5 : decode cX0_withClosed 5 = .ok (.ireturn, 1) := by decide +kernel
theorem dX0_withOpened_0 : decode cX0_withOpened 0 = .ok (.iload_n 0, 1) := by decide +kernel
theorem dX0_withOpened_1 : decode cX0_withOpened 1 = .ok (.iload_n 1, 1) := by decide +kernel
theorem dX0_withOpened_2 : decode cX0_withOpened 2 = .ok (.iconst (-1), 1) := by decide +kernel
theorem dX0_withOpened_3 : decode cX0_withOpened 3 = .ok (.ixor, 1) := by decide +kernel
theorem dX0_withOpened_4 : decode cX0_withOpened 4 = .ok (.iand, 1) := by decide +kernel
theorem dX0_withOpened_5 : decode cX0_withOpened 5 = .ok (.ireturn, 1) := by decide +kernel
theorem dX0_leftAt_0 : decode cX0_leftAt 0 = .ok (.bipush 9, 2) := by decide +kernel
theorem dX0_leftAt_2 : decode cX0_leftAt 2 = .ok (.iconst 2, 1) := by decide +kernel
theorem dX0_leftAt_3 : decode cX0_leftAt 3 = .ok (.iload_n 0, 1) := by decide +kernel
theorem dX0_leftAt_4 : decode cX0_leftAt 4 = .ok (.imul, 1) := by decide +kernel
theorem dX0_leftAt_5 : decode cX0_leftAt 5 = .ok (.iadd, 1) := by decide +kernel
theorem dX0_leftAt_6 : decode cX0_leftAt 6 = .ok (.ireturn, 1) := by decide +kernel
theorem dX1_init_0 : decode cX1_init 0 = .ok (.aload_n 0, 1) := by decide +kernel
theorem dX1_init_1 : decode cX1_init 1 = .ok (.invokespecial 3, 3) := by decide +kernel
theorem dX1_init_4 : decode cX1_init 4 = .ok (.aload_n 0, 1) := by decide +kernel
theorem dX1_init_5 : decode cX1_init 5 = .ok (.bipush 6, 2) := by decide +kernel
theorem dX1_init_7 : decode cX1_init 7 = .ok (.newarray .int, 2) := by decide +kernel
theorem dX1_init_9 : decode cX1_init 9 = .ok (.putfield 9, 3) := by decide +kernel
theorem dX1_init_12 : decode cX1_init 12 = .ok (.aload_n 0, 1) := by decide +kernel
theorem dX1_init_13 : decode cX1_init 13 = .ok (.bipush 6, 2) := by decide +kernel
theorem dX1_init_15 : decode cX1_init 15 = .ok (.newarray .int, 2) := by decide +kernel
theorem dX1_init_17 : decode cX1_init 17 = .ok (.putfield 15, 3) := by decide +kernel
theorem dX1_init_20 : decode cX1_init 20 = .ok (.aload_n 0, 1) := by decide +kernel
theorem dX1_init_21 : decode cX1_init 21 = .ok (.bipush 6, 2) := by decide +kernel
theorem dX1_init_23 : decode cX1_init 23 = .ok (.newarray .int, 2) := by decide +kernel
theorem dX1_init_25 : decode cX1_init 25 = .ok (.putfield 18, 3) := by decide +kernel
theorem dX1_init_28 : decode cX1_init 28 = .ok (.aload_n 0, 1) := by decide +kernel
theorem dX1_init_29 : decode cX1_init 29 = .ok (.iconst 3, 1) := by decide +kernel
theorem dX1_init_30 : decode cX1_init 30 = .ok (.newarray .int, 2) := by decide +kernel
theorem dX1_init_32 : decode cX1_init 32 = .ok (.putfield 21, 3) := by decide +kernel
theorem dX1_init_35 : decode cX1_init 35 = .ok (.aload_n 0, 1) := by decide +kernel
theorem dX1_init_36 : decode cX1_init 36 = .ok (.iconst 3, 1) := by decide +kernel
theorem dX1_init_37 : decode cX1_init 37 = .ok (.newarray .int, 2) := by decide +kernel
theorem dX1_init_39 : decode cX1_init 39 = .ok (.putfield 24, 3) := by decide +kernel
theorem dX1_init_42 : decode cX1_init 42 = .ok (.aload_n 0, 1) := by decide +kernel
theorem dX1_init_43 : decode cX1_init 43 = .ok (.iconst 3, 1) := by decide +kernel
theorem dX1_init_44 : decode cX1_init 44 = .ok (.newarray .int, 2) := by decide +kernel
theorem dX1_init_46 : decode cX1_init 46 = .ok (.putfield 27, 3) := by decide +kernel
theorem dX1_init_49 : decode cX1_init 49 = .ok (.aload_n 0, 1) := by decide +kernel
theorem dX1_init_50 : decode cX1_init 50 = .ok (.iconst 3, 1) := by decide +kernel
theorem dX1_init_51 : decode cX1_init 51 = .ok (.newarray .int, 2) := by decide +kernel
theorem dX1_init_53 : decode cX1_init 53 = .ok (.putfield 30, 3) := by decide +kernel
theorem dX1_init_56 : decode cX1_init 56 = .ok (.aload_n 0, 1) := by decide +kernel
theorem dX1_init_57 : decode cX1_init 57 = .ok (.iconst 0, 1) := by decide +kernel
theorem dX1_init_58 : decode cX1_init 58 = .ok (.putfield 35, 3) := by decide +kernel
theorem dX1_init_61 : decode cX1_init 61 = .ok (.return_, 1) := by decide +kernel
theorem dX1_hasLine_0 : decode cX1_hasLine 0 = .ok (.iload_n 1, 1) := by decide +kernel
theorem dX1_hasLine_1 : decode cX1_hasLine 1 = .ok (.ifCond .lt 15, 3) := by decide +kernel
theorem dX1_hasLine_4 : decode cX1_hasLine 4 = .ok (.iload_n 1, 1) := by decide +kernel
theorem dX1_hasLine_5 : decode cX1_hasLine 5 = .ok (.aload_n 0, 1) := by decide +kernel
theorem dX1_hasLine_6 : decode cX1_hasLine 6 = .ok (.getfield 39, 3) := by decide +kernel
theorem dX1_hasLine_9 : decode cX1_hasLine 9 = .ok (.if_icmp .ge 7, 3) := by decide +kernel
theorem dX1_hasLine_12 : decode cX1_hasLine 12 = .ok (.iconst 1, 1) := by decide +kernel
theorem dX1_hasLine_13 : decode cX1_hasLine 13 = .ok (.goto 4, 3) := by decide +kernel
theorem dX1_hasLine_16 : decode cX1_hasLine 16 = .ok (.iconst 0, 1) := by decide +kernel
theorem dX1_hasLine_17 : decode cX1_hasLine 17 = .ok (.ireturn, 1) := by decide +kernel
theorem dX1_hasMachine_0 : decode cX1_hasMachine 0 = .ok (.iload_n 1, 1) := by decide +kernel
theorem dX1_hasMachine_1 : decode cX1_hasMachine 1 = .ok (.ifCond .lt 15, 3) := by decide +kernel
theorem dX1_hasMachine_4 : decode cX1_hasMachine 4 = .ok (.iload_n 1, 1) := by decide +kernel
theorem dX1_hasMachine_5 : decode cX1_hasMachine 5 = .ok (.aload_n 0, 1) := by decide +kernel
theorem dX1_hasMachine_6 : decode cX1_hasMachine 6 = .ok (.getfield 42, 3) := by decide +kernel
theorem dX1_hasMachine_9 : decode cX1_hasMachine 9 = .ok (.if_icmp .ge 7, 3) := by decide +kernel
theorem dX1_hasMachine_12 : decode cX1_hasMachine 12 = .ok (.iconst 1, 1) := by decide +kernel
theorem dX1_hasMachine_13 : decode cX1_hasMachine 13 = .ok (.goto 4, 3) := by decide +kernel
theorem dX1_hasMachine_16 : decode cX1_hasMachine 16 = .ok (.iconst 0, 1) := by decide +kernel
theorem dX1_hasMachine_17 : decode cX1_hasMachine 17 = .ok (.ireturn, 1) := by decide +kernel
theorem dX1_addLine_0 : decode cX1_addLine 0 = .ok (.aload_n 0, 1) := by decide +kernel
theorem dX1_addLine_1 : decode cX1_addLine 1 = .ok (.getfield 39, 3) := by decide +kernel
theorem dX1_addLine_4 : decode cX1_addLine 4 = .ok (.istore 4, 2) := by decide +kernel
theorem dX1_addLine_6 : decode cX1_addLine 6 = .ok (.aload_n 0, 1) := by decide +kernel
theorem dX1_addLine_7 : decode cX1_addLine 7 = .ok (.getfield 9, 3) := by decide +kernel
theorem dX1_addLine_10 : decode cX1_addLine 10 = .ok (.iload 4, 2) := by decide +kernel
theorem dX1_addLine_12 : decode cX1_addLine 12 = .ok (.iload_n 1, 1) := by decide +kernel
theorem dX1_addLine_13 : decode cX1_addLine 13 = .ok (.iastore, 1) := by decide +kernel
theorem dX1_addLine_14 : decode cX1_addLine 14 = .ok (.aload_n 0, 1) := by decide +kernel
theorem dX1_addLine_15 : decode cX1_addLine 15 = .ok (.getfield 15, 3) := by decide +kernel
theorem dX1_addLine_18 : decode cX1_addLine 18 = .ok (.iload 4, 2) := by decide +kernel
theorem dX1_addLine_20 : decode cX1_addLine 20 = .ok (.iload_n 2, 1) := by decide +kernel
theorem dX1_addLine_21 : decode cX1_addLine 21 = .ok (.iastore, 1) := by decide +kernel
theorem dX1_addLine_22 : decode cX1_addLine 22 = .ok (.aload_n 0, 1) := by decide +kernel
theorem dX1_addLine_23 : decode cX1_addLine 23 = .ok (.getfield 18, 3) := by decide +kernel
theorem dX1_addLine_26 : decode cX1_addLine 26 = .ok (.iload 4, 2) := by decide +kernel
theorem dX1_addLine_28 : decode cX1_addLine 28 = .ok (.iload_n 3, 1) := by decide +kernel
theorem dX1_addLine_29 : decode cX1_addLine 29 = .ok (.iastore, 1) := by decide +kernel
theorem dX1_addLine_30 : decode cX1_addLine 30 = .ok (.aload_n 0, 1) := by decide +kernel
theorem dX1_addLine_31 : decode cX1_addLine 31 = .ok (.dup, 1) := by decide +kernel
theorem dX1_addLine_32 : decode cX1_addLine 32 = .ok (.getfield 39, 3) := by decide +kernel
theorem dX1_addLine_35 : decode cX1_addLine 35 = .ok (.iconst 1, 1) := by decide +kernel
theorem dX1_addLine_36 : decode cX1_addLine 36 = .ok (.iadd, 1) := by decide +kernel
theorem dX1_addLine_37 : decode cX1_addLine 37 = .ok (.putfield 39, 3) := by decide +kernel
theorem dX1_addLine_40 : decode cX1_addLine 40 = .ok (.iload 4, 2) := by decide +kernel
theorem dX1_addLine_42 : decode cX1_addLine 42 = .ok (.ireturn, 1) := by decide +kernel
theorem dX1_addMachine_0 : decode cX1_addMachine 0 = .ok (.aload_n 0, 1) := by decide +kernel
theorem dX1_addMachine_1 : decode cX1_addMachine 1 = .ok (.getfield 42, 3) := by decide +kernel
theorem dX1_addMachine_4 : decode cX1_addMachine 4 = .ok (.istore 5, 2) := by decide +kernel
theorem dX1_addMachine_6 : decode cX1_addMachine 6 = .ok (.aload_n 0, 1) := by decide +kernel
theorem dX1_addMachine_7 : decode cX1_addMachine 7 = .ok (.getfield 21, 3) := by decide +kernel
theorem dX1_addMachine_10 : decode cX1_addMachine 10 = .ok (.iload 5, 2) := by decide +kernel
theorem dX1_addMachine_12 : decode cX1_addMachine 12 = .ok (.iload_n 1, 1) := by decide +kernel
theorem dX1_addMachine_13 : decode cX1_addMachine 13 = .ok (.iastore, 1) := by decide +kernel
theorem dX1_addMachine_14 : decode cX1_addMachine 14 = .ok (.aload_n 0, 1) := by decide +kernel
theorem dX1_addMachine_15 : decode cX1_addMachine 15 = .ok (.getfield 24, 3) := by decide +kernel
theorem dX1_addMachine_18 : decode cX1_addMachine 18 = .ok (.iload 5, 2) := by decide +kernel
theorem dX1_addMachine_20 : decode cX1_addMachine 20 = .ok (.iload_n 2, 1) := by decide +kernel
theorem dX1_addMachine_21 : decode cX1_addMachine 21 = .ok (.iastore, 1) := by decide +kernel
theorem dX1_addMachine_22 : decode cX1_addMachine 22 = .ok (.aload_n 0, 1) := by decide +kernel
theorem dX1_addMachine_23 : decode cX1_addMachine 23 = .ok (.getfield 27, 3) := by decide +kernel
theorem dX1_addMachine_26 : decode cX1_addMachine 26 = .ok (.iload 5, 2) := by decide +kernel
theorem dX1_addMachine_28 : decode cX1_addMachine 28 = .ok (.iload_n 3, 1) := by decide +kernel
theorem dX1_addMachine_29 : decode cX1_addMachine 29 = .ok (.iastore, 1) := by decide +kernel
theorem dX1_addMachine_30 : decode cX1_addMachine 30 = .ok (.aload_n 0, 1) := by decide +kernel
theorem dX1_addMachine_31 : decode cX1_addMachine 31 = .ok (.getfield 30, 3) := by decide +kernel
theorem dX1_addMachine_34 : decode cX1_addMachine 34 = .ok (.iload 5, 2) := by decide +kernel
theorem dX1_addMachine_36 : decode cX1_addMachine 36 = .ok (.iload 4, 2) := by decide +kernel
theorem dX1_addMachine_38 : decode cX1_addMachine 38 = .ok (.iastore, 1) := by decide +kernel
theorem dX1_addMachine_39 : decode cX1_addMachine 39 = .ok (.aload_n 0, 1) := by decide +kernel
theorem dX1_addMachine_40 : decode cX1_addMachine 40 = .ok (.dup, 1) := by decide +kernel
theorem dX1_addMachine_41 : decode cX1_addMachine 41 = .ok (.getfield 42, 3) := by decide +kernel
theorem dX1_addMachine_44 : decode cX1_addMachine 44 = .ok (.iconst 1, 1) := by decide +kernel
theorem dX1_addMachine_45 : decode cX1_addMachine 45 = .ok (.iadd, 1) := by decide +kernel
theorem dX1_addMachine_46 : decode cX1_addMachine 46 = .ok (.putfield 42, 3) := by decide +kernel
theorem dX1_addMachine_49 : decode cX1_addMachine 49 = .ok (.iload 5, 2) := by decide +kernel
theorem dX1_addMachine_51 : decode cX1_addMachine 51 = .ok (.ireturn, 1) := by decide +kernel
theorem dX1_copyFrom_0 : decode cX1_copyFrom 0 = .ok (.aload_n 0, 1) := by decide +kernel
theorem dX1_copyFrom_1 : decode cX1_copyFrom 1 = .ok (.aload_n 1, 1) := by decide +kernel
theorem dX1_copyFrom_2 : decode cX1_copyFrom 2 = .ok (.getfield 39, 3) := by decide +kernel
theorem dX1_copyFrom_5 : decode cX1_copyFrom 5 = .ok (.putfield 39, 3) := by decide +kernel
theorem dX1_copyFrom_8 : decode cX1_copyFrom 8 = .ok (.aload_n 0, 1) := by decide +kernel
theorem dX1_copyFrom_9 : decode cX1_copyFrom 9 = .ok (.aload_n 1, 1) := by decide +kernel
theorem dX1_copyFrom_10 : decode cX1_copyFrom 10 = .ok (.getfield 42, 3) := by decide +kernel
theorem dX1_copyFrom_13 : decode cX1_copyFrom 13 = .ok (.putfield 42, 3) := by decide +kernel
theorem dX1_copyFrom_16 : decode cX1_copyFrom 16 = .ok (.aload_n 0, 1) := by decide +kernel
theorem dX1_copyFrom_17 : decode cX1_copyFrom 17 = .ok (.aload_n 1, 1) := by decide +kernel
theorem dX1_copyFrom_18 : decode cX1_copyFrom 18 = .ok (.getfield 35, 3) := by decide +kernel
theorem dX1_copyFrom_21 : decode cX1_copyFrom 21 = .ok (.putfield 35, 3) := by decide +kernel
theorem dX1_copyFrom_24 : decode cX1_copyFrom 24 = .ok (.aload_n 0, 1) := by decide +kernel
theorem dX1_copyFrom_25 : decode cX1_copyFrom 25 = .ok (.aload_n 1, 1) := by decide +kernel
theorem dX1_copyFrom_26 : decode cX1_copyFrom 26 = .ok (.getfield 45, 3) := by decide +kernel
theorem dX1_copyFrom_29 : decode cX1_copyFrom 29 = .ok (.putfield 45, 3) := by decide +kernel
theorem dX1_copyFrom_32 : decode cX1_copyFrom 32 = .ok (.aload_n 1, 1) := by decide +kernel
theorem dX1_copyFrom_33 : decode cX1_copyFrom 33 = .ok (.getfield 9, 3) := by decide +kernel
theorem dX1_copyFrom_36 : decode cX1_copyFrom 36 = .ok (.iconst 0, 1) := by decide +kernel
theorem dX1_copyFrom_37 : decode cX1_copyFrom 37 = .ok (.aload_n 0, 1) := by decide +kernel
theorem dX1_copyFrom_38 : decode cX1_copyFrom 38 = .ok (.getfield 9, 3) := by decide +kernel
theorem dX1_copyFrom_41 : decode cX1_copyFrom 41 = .ok (.iconst 0, 1) := by decide +kernel
theorem dX1_copyFrom_42 : decode cX1_copyFrom 42 = .ok (.bipush 6, 2) := by decide +kernel
theorem dX1_copyFrom_44 : decode cX1_copyFrom 44 = .ok (.invokestatic 48, 3) := by decide +kernel
theorem dX1_copyFrom_47 : decode cX1_copyFrom 47 = .ok (.aload_n 1, 1) := by decide +kernel
theorem dX1_copyFrom_48 : decode cX1_copyFrom 48 = .ok (.getfield 15, 3) := by decide +kernel
theorem dX1_copyFrom_51 : decode cX1_copyFrom 51 = .ok (.iconst 0, 1) := by decide +kernel
theorem dX1_copyFrom_52 : decode cX1_copyFrom 52 = .ok (.aload_n 0, 1) := by decide +kernel
theorem dX1_copyFrom_53 : decode cX1_copyFrom 53 = .ok (.getfield 15, 3) := by decide +kernel
theorem dX1_copyFrom_56 : decode cX1_copyFrom 56 = .ok (.iconst 0, 1) := by decide +kernel
theorem dX1_copyFrom_57 : decode cX1_copyFrom 57 = .ok (.bipush 6, 2) := by decide +kernel
theorem dX1_copyFrom_59 : decode cX1_copyFrom 59 = .ok (.invokestatic 48, 3) := by decide +kernel
theorem dX1_copyFrom_62 : decode cX1_copyFrom 62 = .ok (.aload_n 1, 1) := by decide +kernel
theorem dX1_copyFrom_63 : decode cX1_copyFrom 63 = .ok (.getfield 18, 3) := by decide +kernel
theorem dX1_copyFrom_66 : decode cX1_copyFrom 66 = .ok (.iconst 0, 1) := by decide +kernel
theorem dX1_copyFrom_67 : decode cX1_copyFrom 67 = .ok (.aload_n 0, 1) := by decide +kernel
theorem dX1_copyFrom_68 : decode cX1_copyFrom 68 = .ok (.getfield 18, 3) := by decide +kernel
theorem dX1_copyFrom_71 : decode cX1_copyFrom 71 = .ok (.iconst 0, 1) := by decide +kernel
theorem dX1_copyFrom_72 : decode cX1_copyFrom 72 = .ok (.bipush 6, 2) := by decide +kernel
theorem dX1_copyFrom_74 : decode cX1_copyFrom 74 = .ok (.invokestatic 48, 3) := by decide +kernel
theorem dX1_copyFrom_77 : decode cX1_copyFrom 77 = .ok (.aload_n 1, 1) := by decide +kernel
theorem dX1_copyFrom_78 : decode cX1_copyFrom 78 = .ok (.getfield 21, 3) := by decide +kernel
theorem dX1_copyFrom_81 : decode cX1_copyFrom 81 = .ok (.iconst 0, 1) := by decide +kernel
theorem dX1_copyFrom_82 : decode cX1_copyFrom 82 = .ok (.aload_n 0, 1) := by decide +kernel
theorem dX1_copyFrom_83 : decode cX1_copyFrom 83 = .ok (.getfield 21, 3) := by decide +kernel
theorem dX1_copyFrom_86 : decode cX1_copyFrom 86 = .ok (.iconst 0, 1) := by decide +kernel
theorem dX1_copyFrom_87 : decode cX1_copyFrom 87 = .ok (.iconst 3, 1) := by decide +kernel
theorem dX1_copyFrom_88 : decode cX1_copyFrom 88 = .ok (.invokestatic 48, 3) := by decide +kernel
theorem dX1_copyFrom_91 : decode cX1_copyFrom 91 = .ok (.aload_n 1, 1) := by decide +kernel
theorem dX1_copyFrom_92 : decode cX1_copyFrom 92 = .ok (.getfield 24, 3) := by decide +kernel
theorem dX1_copyFrom_95 : decode cX1_copyFrom 95 = .ok (.iconst 0, 1) := by decide +kernel
theorem dX1_copyFrom_96 : decode cX1_copyFrom 96 = .ok (.aload_n 0, 1) := by decide +kernel
theorem dX1_copyFrom_97 : decode cX1_copyFrom 97 = .ok (.getfield 24, 3) := by decide +kernel
theorem dX1_copyFrom_100 : decode cX1_copyFrom 100 = .ok (.iconst 0, 1) := by decide +kernel
theorem dX1_copyFrom_101 : decode cX1_copyFrom 101 = .ok (.iconst 3, 1) := by decide +kernel
theorem dX1_copyFrom_102 : decode cX1_copyFrom 102 = .ok (.invokestatic 48, 3) := by decide +kernel
theorem dX1_copyFrom_105 : decode cX1_copyFrom 105 = .ok (.aload_n 1, 1) := by decide +kernel
theorem dX1_copyFrom_106 : decode cX1_copyFrom 106 = .ok (.getfield 27, 3) := by decide +kernel
theorem dX1_copyFrom_109 : decode cX1_copyFrom 109 = .ok (.iconst 0, 1) := by decide +kernel
theorem dX1_copyFrom_110 : decode cX1_copyFrom 110 = .ok (.aload_n 0, 1) := by decide +kernel
theorem dX1_copyFrom_111 : decode cX1_copyFrom 111 = .ok (.getfield 27, 3) := by decide +kernel
theorem dX1_copyFrom_114 : decode cX1_copyFrom 114 = .ok (.iconst 0, 1) := by decide +kernel
theorem dX1_copyFrom_115 : decode cX1_copyFrom 115 = .ok (.iconst 3, 1) := by decide +kernel
theorem dX1_copyFrom_116 : decode cX1_copyFrom 116 = .ok (.invokestatic 48, 3) := by decide +kernel
theorem dX1_copyFrom_119 : decode cX1_copyFrom 119 = .ok (.aload_n 1, 1) := by decide +kernel
theorem dX1_copyFrom_120 : decode cX1_copyFrom 120 = .ok (.getfield 30, 3) := by decide +kernel
theorem dX1_copyFrom_123 : decode cX1_copyFrom 123 = .ok (.iconst 0, 1) := by decide +kernel
theorem dX1_copyFrom_124 : decode cX1_copyFrom 124 = .ok (.aload_n 0, 1) := by decide +kernel
theorem dX1_copyFrom_125 : decode cX1_copyFrom 125 = .ok (.getfield 30, 3) := by decide +kernel
theorem dX1_copyFrom_128 : decode cX1_copyFrom 128 = .ok (.iconst 0, 1) := by decide +kernel
theorem dX1_copyFrom_129 : decode cX1_copyFrom 129 = .ok (.iconst 3, 1) := by decide +kernel
theorem dX1_copyFrom_130 : decode cX1_copyFrom 130 = .ok (.invokestatic 48, 3) := by decide +kernel
theorem dX1_copyFrom_133 : decode cX1_copyFrom 133 = .ok (.return_, 1) := by decide +kernel
theorem dX2_init_0 : decode cX2_init 0 = .ok (.aload_n 0, 1) := by decide +kernel
theorem dX2_init_1 : decode cX2_init 1 = .ok (.invokespecial 3, 3) := by decide +kernel
theorem dX2_init_4 : decode cX2_init 4 = .ok (.aload_n 0, 1) := by decide +kernel
theorem dX2_init_5 : decode cX2_init 5 = .ok (.sipush 384, 3) := by decide +kernel
theorem dX2_init_8 : decode cX2_init 8 = .ok (.newarray .int, 2) := by decide +kernel
theorem dX2_init_10 : decode cX2_init 10 = .ok (.putfield 9, 3) := by decide +kernel
theorem dX2_init_13 : decode cX2_init 13 = .ok (.aload_n 0, 1) := by decide +kernel
theorem dX2_init_14 : decode cX2_init 14 = .ok (.sipush 384, 3) := by decide +kernel
theorem dX2_init_17 : decode cX2_init 17 = .ok (.newarray .int, 2) := by decide +kernel
theorem dX2_init_19 : decode cX2_init 19 = .ok (.putfield 15, 3) := by decide +kernel
theorem dX2_init_22 : decode cX2_init 22 = .ok (.iconst 0, 1) := by decide +kernel
theorem dX2_init_23 : decode cX2_init 23 = .ok (.istore_n 1, 1) := by decide +kernel
theorem dX2_init_24 : decode cX2_init 24 = .ok (.iload_n 1, 1) := by decide +kernel
theorem dX2_init_25 : decode cX2_init 25 = .ok (.bipush 6, 2) := by decide +kernel
theorem dX2_init_27 : decode cX2_init 27 = .ok (.if_icmp .ge 18, 3) := by decide +kernel
theorem dX2_init_30 : decode cX2_init 30 = .ok (.aload_n 0, 1) := by decide +kernel
theorem dX2_init_31 : decode cX2_init 31 = .ok (.getfield 9, 3) := by decide +kernel
theorem dX2_init_34 : decode cX2_init 34 = .ok (.iload_n 1, 1) := by decide +kernel
theorem dX2_init_35 : decode cX2_init 35 = .ok (.iconst 1, 1) := by decide +kernel
theorem dX2_init_36 : decode cX2_init 36 = .ok (.iload_n 1, 1) := by decide +kernel
theorem dX2_init_37 : decode cX2_init 37 = .ok (.ishl, 1) := by decide +kernel
theorem dX2_init_38 : decode cX2_init 38 = .ok (.iastore, 1) := by decide +kernel
theorem dX2_init_39 : decode cX2_init 39 = .ok (.iinc 1 1, 3) := by decide +kernel
theorem dX2_init_42 : decode cX2_init 42 = .ok (.goto (-18), 3) := by decide +kernel
theorem dX2_init_45 : decode cX2_init 45 = .ok (.return_, 1) := by decide +kernel
theorem dX2_busesWith_0 : decode cX2_busesWith 0 = .ok (.aload_n 0, 1) := by decide +kernel
theorem dX2_busesWith_1 : decode cX2_busesWith 1 = .ok (.getfield 9, 3) := by decide +kernel
theorem dX2_busesWith_4 : decode cX2_busesWith 4 = .ok (.iload_n 1, 1) := by decide +kernel
theorem dX2_busesWith_5 : decode cX2_busesWith 5 = .ok (.bipush 6, 2) := by decide +kernel
theorem dX2_busesWith_7 : decode cX2_busesWith 7 = .ok (.imul, 1) := by decide +kernel
theorem dX2_busesWith_8 : decode cX2_busesWith 8 = .ok (.iload_n 2, 1) := by decide +kernel
theorem dX2_busesWith_9 : decode cX2_busesWith 9 = .ok (.iadd, 1) := by decide +kernel
theorem dX2_busesWith_10 : decode cX2_busesWith 10 = .ok (.iaload, 1) := by decide +kernel
theorem dX2_busesWith_11 : decode cX2_busesWith 11 = .ok (.ireturn, 1) := by decide +kernel
theorem dX2_drawAround_0 : decode cX2_drawAround 0 = .ok (.aload_n 0, 1) := by decide +kernel
theorem dX2_drawAround_1 : decode cX2_drawAround 1 = .ok (.getfield 15, 3) := by decide +kernel
theorem dX2_drawAround_4 : decode cX2_drawAround 4 = .ok (.iload_n 1, 1) := by decide +kernel
theorem dX2_drawAround_5 : decode cX2_drawAround 5 = .ok (.bipush 6, 2) := by decide +kernel
theorem dX2_drawAround_7 : decode cX2_drawAround 7 = .ok (.imul, 1) := by decide +kernel
theorem dX2_drawAround_8 : decode cX2_drawAround 8 = .ok (.iload_n 2, 1) := by decide +kernel
theorem dX2_drawAround_9 : decode cX2_drawAround 9 = .ok (.iadd, 1) := by decide +kernel
theorem dX2_drawAround_10 : decode cX2_drawAround 10 = .ok (.iaload, 1) := by decide +kernel
theorem dX2_drawAround_11 : decode cX2_drawAround 11 = .ok (.ireturn, 1) := by decide +kernel
theorem dX2_learnLine_0 : decode cX2_learnLine 0 = .ok (.iconst 2, 1) := by decide +kernel
theorem dX2_learnLine_1 : decode cX2_learnLine 1 = .ok (.iload_n 2, 1) := by decide +kernel
theorem dX2_learnLine_2 : decode cX2_learnLine 2 = .ok (.ishl, 1) := by decide +kernel
theorem dX2_learnLine_3 : decode cX2_learnLine 3 = .ok (.istore_n 3, 1) := by decide +kernel
theorem dX2_learnLine_4 : decode cX2_learnLine 4 = .ok (.iconst 1, 1) := by decide +kernel
theorem dX2_learnLine_5 : decode cX2_learnLine 5 = .ok (.iload_n 2, 1) := by decide +kernel
theorem dX2_learnLine_6 : decode cX2_learnLine 6 = .ok (.ishl, 1) := by decide +kernel
theorem dX2_learnLine_7 : decode cX2_learnLine 7 = .ok (.istore 4, 2) := by decide +kernel
theorem dX2_learnLine_9 : decode cX2_learnLine 9 = .ok (.iload 4, 2) := by decide +kernel
theorem dX2_learnLine_11 : decode cX2_learnLine 11 = .ok (.iload_n 3, 1) := by decide +kernel
theorem dX2_learnLine_12 : decode cX2_learnLine 12 = .ok (.if_icmp .ge 23, 3) := by decide +kernel
theorem dX2_learnLine_15 : decode cX2_learnLine 15 = .ok (.aload_n 0, 1) := by decide +kernel
theorem dX2_learnLine_16 : decode cX2_learnLine 16 = .ok (.iload 4, 2) := by decide +kernel
theorem dX2_learnLine_18 : decode cX2_learnLine 18 = .ok (.iconst 1, 1) := by decide +kernel
theorem dX2_learnLine_19 : decode cX2_learnLine 19 = .ok (.iload_n 2, 1) := by decide +kernel
theorem dX2_learnLine_20 : decode cX2_learnLine 20 = .ok (.ishl, 1) := by decide +kernel
theorem dX2_learnLine_21 : decode cX2_learnLine 21 = .ok (.isub, 1) := by decide +kernel
theorem dX2_learnLine_22 : decode cX2_learnLine 22 = .ok (.iload 4, 2) := by decide +kernel
theorem dX2_learnLine_24 : decode cX2_learnLine 24 = .ok (.aload_n 1, 1) := by decide +kernel
theorem dX2_learnLine_25 : decode cX2_learnLine 25 = .ok (.iload_n 2, 1) := by decide +kernel
theorem dX2_learnLine_26 : decode cX2_learnLine 26 = .ok (.invokevirtual 18, 3) := by decide +kernel
theorem dX2_learnLine_29 : decode cX2_learnLine 29 = .ok (.iinc 4 1, 3) := by decide +kernel
theorem dX2_learnLine_32 : decode cX2_learnLine 32 = .ok (.goto (-23), 3) := by decide +kernel
theorem dX2_learnLine_35 : decode cX2_learnLine 35 = .ok (.return_, 1) := by decide +kernel
theorem dX2_join_0 : decode cX2_join 0 = .ok (.aload_n 3, 1) := by decide +kernel
theorem dX2_join_1 : decode cX2_join 1 = .ok (.getfield 22, 3) := by decide +kernel
theorem dX2_join_4 : decode cX2_join 4 = .ok (.iload 4, 2) := by decide +kernel
theorem dX2_join_6 : decode cX2_join 6 = .ok (.iaload, 1) := by decide +kernel
theorem dX2_join_7 : decode cX2_join 7 = .ok (.istore 5, 2) := by decide +kernel
theorem dX2_join_9 : decode cX2_join 9 = .ok (.aload_n 3, 1) := by decide +kernel
theorem dX2_join_10 : decode cX2_join 10 = .ok (.getfield 27, 3) := by decide +kernel
theorem dX2_join_13 : decode cX2_join 13 = .ok (.iload 4, 2) := by decide +kernel
theorem dX2_join_15 : decode cX2_join 15 = .ok (.iaload, 1) := by decide +kernel
theorem dX2_join_16 : decode cX2_join 16 = .ok (.istore 6, 2) := by decide +kernel
theorem dX2_join_18 : decode cX2_join 18 = .ok (.aload_n 0, 1) := by decide +kernel
theorem dX2_join_19 : decode cX2_join 19 = .ok (.iload_n 1, 1) := by decide +kernel
theorem dX2_join_20 : decode cX2_join 20 = .ok (.iload 5, 2) := by decide +kernel
theorem dX2_join_22 : decode cX2_join 22 = .ok (.invokevirtual 30, 3) := by decide +kernel
theorem dX2_join_25 : decode cX2_join 25 = .ok (.aload_n 0, 1) := by decide +kernel
theorem dX2_join_26 : decode cX2_join 26 = .ok (.iload_n 1, 1) := by decide +kernel
theorem dX2_join_27 : decode cX2_join 27 = .ok (.iload 6, 2) := by decide +kernel
theorem dX2_join_29 : decode cX2_join 29 = .ok (.invokevirtual 30, 3) := by decide +kernel
theorem dX2_join_32 : decode cX2_join 32 = .ok (.ior, 1) := by decide +kernel
theorem dX2_join_33 : decode cX2_join 33 = .ok (.istore 7, 2) := by decide +kernel
theorem dX2_join_35 : decode cX2_join 35 = .ok (.aload_n 3, 1) := by decide +kernel
theorem dX2_join_36 : decode cX2_join 36 = .ok (.getfield 34, 3) := by decide +kernel
theorem dX2_join_39 : decode cX2_join 39 = .ok (.iload 4, 2) := by decide +kernel
theorem dX2_join_41 : decode cX2_join 41 = .ok (.iaload, 1) := by decide +kernel
theorem dX2_join_42 : decode cX2_join 42 = .ok (.aload_n 0, 1) := by decide +kernel
theorem dX2_join_43 : decode cX2_join 43 = .ok (.iload_n 1, 1) := by decide +kernel
theorem dX2_join_44 : decode cX2_join 44 = .ok (.iload 5, 2) := by decide +kernel
theorem dX2_join_46 : decode cX2_join 46 = .ok (.invokevirtual 37, 3) := by decide +kernel
theorem dX2_join_49 : decode cX2_join 49 = .ok (.iadd, 1) := by decide +kernel
theorem dX2_join_50 : decode cX2_join 50 = .ok (.istore 8, 2) := by decide +kernel
theorem dX2_join_52 : decode cX2_join 52 = .ok (.aload_n 0, 1) := by decide +kernel
theorem dX2_join_53 : decode cX2_join 53 = .ok (.iload_n 1, 1) := by decide +kernel
theorem dX2_join_54 : decode cX2_join 54 = .ok (.iload 5, 2) := by decide +kernel
theorem dX2_join_56 : decode cX2_join 56 = .ok (.invokevirtual 30, 3) := by decide +kernel
theorem dX2_join_59 : decode cX2_join 59 = .ok (.iload 6, 2) := by decide +kernel
theorem dX2_join_61 : decode cX2_join 61 = .ok (.invokestatic 40, 3) := by decide +kernel
theorem dX2_join_64 : decode cX2_join 64 = .ok (.ifCond .ne 15, 3) := by decide +kernel
theorem dX2_join_67 : decode cX2_join 67 = .ok (.iload 8, 2) := by decide +kernel
theorem dX2_join_69 : decode cX2_join 69 = .ok (.aload_n 0, 1) := by decide +kernel
theorem dX2_join_70 : decode cX2_join 70 = .ok (.iload_n 1, 1) := by decide +kernel
theorem dX2_join_71 : decode cX2_join 71 = .ok (.iload 6, 2) := by decide +kernel
theorem dX2_join_73 : decode cX2_join 73 = .ok (.invokevirtual 37, 3) := by decide +kernel
theorem dX2_join_76 : decode cX2_join 76 = .ok (.iadd, 1) := by decide +kernel
theorem dX2_join_77 : decode cX2_join 77 = .ok (.istore 8, 2) := by decide +kernel
theorem dX2_join_79 : decode cX2_join 79 = .ok (.iconst 0, 1) := by decide +kernel
theorem dX2_join_80 : decode cX2_join 80 = .ok (.istore 9, 2) := by decide +kernel
theorem dX2_join_82 : decode cX2_join 82 = .ok (.iload 9, 2) := by decide +kernel
theorem dX2_join_84 : decode cX2_join 84 = .ok (.bipush 6, 2) := by decide +kernel
theorem dX2_join_86 : decode cX2_join 86 = .ok (.if_icmp .ge 84, 3) := by decide +kernel
theorem dX2_join_89 : decode cX2_join 89 = .ok (.iload 7, 2) := by decide +kernel
theorem dX2_join_91 : decode cX2_join 91 = .ok (.iload 9, 2) := by decide +kernel
theorem dX2_join_93 : decode cX2_join 93 = .ok (.invokestatic 40, 3) := by decide +kernel
theorem dX2_join_96 : decode cX2_join 96 = .ok (.ifCond .eq 7, 3) := by decide +kernel
theorem dX2_join_99 : decode cX2_join 99 = .ok (.iconst 1, 1) := by decide +kernel
theorem dX2_join_100 : decode cX2_join 100 = .ok (.goto 4, 3) := by decide +kernel
theorem dX2_join_103 : decode cX2_join 103 = .ok (.iconst 0, 1) := by decide +kernel
theorem dX2_join_104 : decode cX2_join 104 = .ok (.istore 10, 2) := by decide +kernel
theorem dX2_join_106 : decode cX2_join 106 = .ok (.aload_n 0, 1) := by decide +kernel
theorem dX2_join_107 : decode cX2_join 107 = .ok (.getfield 9, 3) := by decide +kernel
theorem dX2_join_110 : decode cX2_join 110 = .ok (.iload_n 2, 1) := by decide +kernel
theorem dX2_join_111 : decode cX2_join 111 = .ok (.bipush 6, 2) := by decide +kernel
theorem dX2_join_113 : decode cX2_join 113 = .ok (.imul, 1) := by decide +kernel
theorem dX2_join_114 : decode cX2_join 114 = .ok (.iload 9, 2) := by decide +kernel
theorem dX2_join_116 : decode cX2_join 116 = .ok (.iadd, 1) := by decide +kernel
theorem dX2_join_117 : decode cX2_join 117 = .ok (.iload 10, 2) := by decide +kernel
theorem dX2_join_119 : decode cX2_join 119 = .ok (.ifCond .eq 8, 3) := by decide +kernel
theorem dX2_join_122 : decode cX2_join 122 = .ok (.iload 7, 2) := by decide +kernel
theorem dX2_join_124 : decode cX2_join 124 = .ok (.goto 10, 3) := by decide +kernel
theorem dX2_join_127 : decode cX2_join 127 = .ok (.aload_n 0, 1) := by decide +kernel
theorem dX2_join_128 : decode cX2_join 128 = .ok (.iload_n 1, 1) := by decide +kernel
theorem dX2_join_129 : decode cX2_join 129 = .ok (.iload 9, 2) := by decide +kernel
theorem dX2_join_131 : decode cX2_join 131 = .ok (.invokevirtual 30, 3) := by decide +kernel
theorem dX2_join_134 : decode cX2_join 134 = .ok (.iastore, 1) := by decide +kernel
theorem dX2_join_135 : decode cX2_join 135 = .ok (.aload_n 0, 1) := by decide +kernel
theorem dX2_join_136 : decode cX2_join 136 = .ok (.getfield 15, 3) := by decide +kernel
theorem dX2_join_139 : decode cX2_join 139 = .ok (.iload_n 2, 1) := by decide +kernel
theorem dX2_join_140 : decode cX2_join 140 = .ok (.bipush 6, 2) := by decide +kernel
theorem dX2_join_142 : decode cX2_join 142 = .ok (.imul, 1) := by decide +kernel
theorem dX2_join_143 : decode cX2_join 143 = .ok (.iload 9, 2) := by decide +kernel
theorem dX2_join_145 : decode cX2_join 145 = .ok (.iadd, 1) := by decide +kernel
theorem dX2_join_146 : decode cX2_join 146 = .ok (.iload 10, 2) := by decide +kernel
theorem dX2_join_148 : decode cX2_join 148 = .ok (.ifCond .eq 8, 3) := by decide +kernel
theorem dX2_join_151 : decode cX2_join 151 = .ok (.iload 8, 2) := by decide +kernel
theorem dX2_join_153 : decode cX2_join 153 = .ok (.goto 10, 3) := by decide +kernel
theorem dX2_join_156 : decode cX2_join 156 = .ok (.aload_n 0, 1) := by decide +kernel
theorem dX2_join_157 : decode cX2_join 157 = .ok (.iload_n 1, 1) := by decide +kernel
theorem dX2_join_158 : decode cX2_join 158 = .ok (.iload 9, 2) := by decide +kernel
theorem dX2_join_160 : decode cX2_join 160 = .ok (.invokevirtual 37, 3) := by decide +kernel
theorem dX2_join_163 : decode cX2_join 163 = .ok (.iastore, 1) := by decide +kernel
theorem dX2_join_164 : decode cX2_join 164 = .ok (.iinc 9 1, 3) := by decide +kernel
theorem dX2_join_167 : decode cX2_join 167 = .ok (.goto (-85), 3) := by decide +kernel
theorem dX2_join_170 : decode cX2_join 170 = .ok (.return_, 1) := by decide +kernel
theorem dX3_init_0 : decode cX3_init 0 = .ok (.aload_n 0, 1) := by decide +kernel
theorem dX3_init_1 : decode cX3_init 1 = .ok (.invokespecial 3, 3) := by decide +kernel
theorem dX3_init_4 : decode cX3_init 4 = .ok (.aload_n 0, 1) := by decide +kernel
theorem dX3_init_5 : decode cX3_init 5 = .ok (.aload_n 1, 1) := by decide +kernel
theorem dX3_init_6 : decode cX3_init 6 = .ok (.putfield 9, 3) := by decide +kernel
theorem dX3_init_9 : decode cX3_init 9 = .ok (.aload_n 0, 1) := by decide +kernel
theorem dX3_init_10 : decode cX3_init 10 = .ok (.aload_n 2, 1) := by decide +kernel
theorem dX3_init_11 : decode cX3_init 11 = .ok (.putfield 15, 3) := by decide +kernel
theorem dX3_init_14 : decode cX3_init 14 = .ok (.return_, 1) := by decide +kernel
theorem dX3_liveBuses_0 : decode cX3_liveBuses 0 = .ok (.iconst 0, 1) := by decide +kernel
theorem dX3_liveBuses_1 : decode cX3_liveBuses 1 = .ok (.istore_n 2, 1) := by decide +kernel
theorem dX3_liveBuses_2 : decode cX3_liveBuses 2 = .ok (.iconst 0, 1) := by decide +kernel
theorem dX3_liveBuses_3 : decode cX3_liveBuses 3 = .ok (.istore_n 3, 1) := by decide +kernel
theorem dX3_liveBuses_4 : decode cX3_liveBuses 4 = .ok (.iload_n 3, 1) := by decide +kernel
theorem dX3_liveBuses_5 : decode cX3_liveBuses 5 = .ok (.aload_n 0, 1) := by decide +kernel
theorem dX3_liveBuses_6 : decode cX3_liveBuses 6 = .ok (.getfield 9, 3) := by decide +kernel
theorem dX3_liveBuses_9 : decode cX3_liveBuses 9 = .ok (.getfield 19, 3) := by decide +kernel
theorem dX3_liveBuses_12 : decode cX3_liveBuses 12 = .ok (.if_icmp .ge 40, 3) := by decide +kernel
theorem dX3_liveBuses_15 : decode cX3_liveBuses 15 = .ok (.iload_n 1, 1) := by decide +kernel
theorem dX3_liveBuses_16 : decode cX3_liveBuses 16 = .ok (.iload_n 3, 1) := by decide +kernel
theorem dX3_liveBuses_17 : decode cX3_liveBuses 17 = .ok (.invokestatic 25, 3) := by decide +kernel
theorem dX3_liveBuses_20 : decode cX3_liveBuses 20 = .ok (.ifCond .eq 26, 3) := by decide +kernel
theorem dX3_liveBuses_23 : decode cX3_liveBuses 23 = .ok (.iload_n 2, 1) := by decide +kernel
theorem dX3_liveBuses_24 : decode cX3_liveBuses 24 = .ok (.aload_n 0, 1) := by decide +kernel
theorem dX3_liveBuses_25 : decode cX3_liveBuses 25 = .ok (.getfield 15, 3) := by decide +kernel
theorem dX3_liveBuses_28 : decode cX3_liveBuses 28 = .ok (.iload_n 1, 1) := by decide +kernel
theorem dX3_liveBuses_29 : decode cX3_liveBuses 29 = .ok (.invokestatic 31, 3) := by decide +kernel
theorem dX3_liveBuses_32 : decode cX3_liveBuses 32 = .ok (.aload_n 0, 1) := by decide +kernel
theorem dX3_liveBuses_33 : decode cX3_liveBuses 33 = .ok (.getfield 9, 3) := by decide +kernel
theorem dX3_liveBuses_36 : decode cX3_liveBuses 36 = .ok (.getfield 35, 3) := by decide +kernel
theorem dX3_liveBuses_39 : decode cX3_liveBuses 39 = .ok (.iload_n 3, 1) := by decide +kernel
theorem dX3_liveBuses_40 : decode cX3_liveBuses 40 = .ok (.iaload, 1) := by decide +kernel
theorem dX3_liveBuses_41 : decode cX3_liveBuses 41 = .ok (.invokevirtual 39, 3) := by decide +kernel
theorem dX3_liveBuses_44 : decode cX3_liveBuses 44 = .ok (.ior, 1) := by decide +kernel
theorem dX3_liveBuses_45 : decode cX3_liveBuses 45 = .ok (.istore_n 2, 1) := by decide +kernel
theorem dX3_liveBuses_46 : decode cX3_liveBuses 46 = .ok (.iinc 3 1, 3) := by decide +kernel
theorem dX3_liveBuses_49 : decode cX3_liveBuses 49 = .ok (.goto (-45), 3) := by decide +kernel
theorem dX3_liveBuses_52 : decode cX3_liveBuses 52 = .ok (.iload_n 2, 1) := by decide +kernel
theorem dX3_liveBuses_53 : decode cX3_liveBuses 53 = .ok (.ireturn, 1) := by decide +kernel
theorem dX3_countLiveIslands_0 : decode cX3_countLiveIslands 0 = .ok (.aload_n 0, 1) := by decide +kernel
theorem dX3_countLiveIslands_1 : decode cX3_countLiveIslands 1 = .ok (.iload_n 1, 1) := by decide +kernel
theorem dX3_countLiveIslands_2 : decode cX3_countLiveIslands 2 = .ok (.invokevirtual 45, 3) := by decide +kernel
theorem dX3_countLiveIslands_5 : decode cX3_countLiveIslands 5 = .ok (.istore_n 2, 1) := by decide +kernel
theorem dX3_countLiveIslands_6 : decode cX3_countLiveIslands 6 = .ok (.iconst 0, 1) := by decide +kernel
theorem dX3_countLiveIslands_7 : decode cX3_countLiveIslands 7 = .ok (.istore_n 3, 1) := by decide +kernel
theorem dX3_countLiveIslands_8 : decode cX3_countLiveIslands 8 = .ok (.iconst 0, 1) := by decide +kernel
theorem dX3_countLiveIslands_9 : decode cX3_countLiveIslands 9 = .ok (.istore 4, 2) := by decide +kernel
theorem dX3_countLiveIslands_11 : decode cX3_countLiveIslands 11 = .ok (.iload 4, 2) := by decide +kernel
theorem dX3_countLiveIslands_13 : decode cX3_countLiveIslands 13 = .ok (.bipush 6, 2) := by decide +kernel
theorem dX3_countLiveIslands_15 : decode cX3_countLiveIslands 15 = .ok (.if_icmp .ge 59, 3) := by decide +kernel
theorem dX3_countLiveIslands_18 : decode cX3_countLiveIslands 18 = .ok (.aload_n 0, 1) := by decide +kernel
theorem dX3_countLiveIslands_19 : decode cX3_countLiveIslands 19 = .ok (.getfield 15, 3) := by decide +kernel
theorem dX3_countLiveIslands_22 : decode cX3_countLiveIslands 22 = .ok (.iload_n 1, 1) := by decide +kernel
theorem dX3_countLiveIslands_23 : decode cX3_countLiveIslands 23 = .ok (.invokestatic 31, 3) := by decide +kernel
theorem dX3_countLiveIslands_26 : decode cX3_countLiveIslands 26 = .ok (.iload 4, 2) := by decide +kernel
theorem dX3_countLiveIslands_28 : decode cX3_countLiveIslands 28 = .ok (.invokevirtual 39, 3) := by decide +kernel
theorem dX3_countLiveIslands_31 : decode cX3_countLiveIslands 31 = .ok (.istore 5, 2) := by decide +kernel
theorem dX3_countLiveIslands_33 : decode cX3_countLiveIslands 33 = .ok (.iload 5, 2) := by decide +kernel
theorem dX3_countLiveIslands_35 : decode cX3_countLiveIslands 35 = .ok (.iload 4, 2) := by decide +kernel
theorem dX3_countLiveIslands_37 : decode cX3_countLiveIslands 37 = .ok (.invokestatic 48, 3) := by decide +kernel
theorem dX3_countLiveIslands_40 : decode cX3_countLiveIslands 40 = .ok (.iand, 1) := by decide +kernel
theorem dX3_countLiveIslands_41 : decode cX3_countLiveIslands 41 = .ok (.ifCond .ne 7, 3) := by decide +kernel
theorem dX3_countLiveIslands_44 : decode cX3_countLiveIslands 44 = .ok (.iconst 1, 1) := by decide +kernel
theorem dX3_countLiveIslands_45 : decode cX3_countLiveIslands 45 = .ok (.goto 4, 3) := by decide +kernel
theorem dX3_countLiveIslands_48 : decode cX3_countLiveIslands 48 = .ok (.iconst 0, 1) := by decide +kernel
theorem dX3_countLiveIslands_49 : decode cX3_countLiveIslands 49 = .ok (.istore 6, 2) := by decide +kernel
theorem dX3_countLiveIslands_51 : decode cX3_countLiveIslands 51 = .ok (.iload 6, 2) := by decide +kernel
theorem dX3_countLiveIslands_53 : decode cX3_countLiveIslands 53 = .ok (.ifCond .eq 15, 3) := by decide +kernel
theorem dX3_countLiveIslands_56 : decode cX3_countLiveIslands 56 = .ok (.iload_n 2, 1) := by decide +kernel
theorem dX3_countLiveIslands_57 : decode cX3_countLiveIslands 57 = .ok (.iload 4, 2) := by decide +kernel
theorem dX3_countLiveIslands_59 : decode cX3_countLiveIslands 59 = .ok (.invokestatic 51, 3) := by decide +kernel
theorem dX3_countLiveIslands_62 : decode cX3_countLiveIslands 62 = .ok (.ifCond .eq 6, 3) := by decide +kernel
theorem dX3_countLiveIslands_65 : decode cX3_countLiveIslands 65 = .ok (.iinc 3 1, 3) := by decide +kernel
theorem dX3_countLiveIslands_68 : decode cX3_countLiveIslands 68 = .ok (.iinc 4 1, 3) := by decide +kernel
theorem dX3_countLiveIslands_71 : decode cX3_countLiveIslands 71 = .ok (.goto (-60), 3) := by decide +kernel
theorem dX3_countLiveIslands_74 : decode cX3_countLiveIslands 74 = .ok (.iload_n 3, 1) := by decide +kernel
theorem dX3_countLiveIslands_75 : decode cX3_countLiveIslands 75 = .ok (.ireturn, 1) := by decide +kernel
theorem dX3_spare_0 : decode cX3_spare 0 = .ok (.aload_n 0, 1) := by decide +kernel
theorem dX3_spare_1 : decode cX3_spare 1 = .ok (.iload_n 1, 1) := by decide +kernel
theorem dX3_spare_2 : decode cX3_spare 2 = .ok (.invokestatic 31, 3) := by decide +kernel
theorem dX3_spare_5 : decode cX3_spare 5 = .ok (.iload_n 1, 1) := by decide +kernel
theorem dX3_spare_6 : decode cX3_spare 6 = .ok (.invokestatic 54, 3) := by decide +kernel
theorem dX3_spare_9 : decode cX3_spare 9 = .ok (.iload_n 2, 1) := by decide +kernel
theorem dX3_spare_10 : decode cX3_spare 10 = .ok (.invokevirtual 57, 3) := by decide +kernel
theorem dX3_spare_13 : decode cX3_spare 13 = .ok (.ireturn, 1) := by decide +kernel
theorem dX3_spareOf_0 : decode cX3_spareOf 0 = .ok (.aload_n 0, 1) := by decide +kernel
theorem dX3_spareOf_1 : decode cX3_spareOf 1 = .ok (.getfield 15, 3) := by decide +kernel
theorem dX3_spareOf_4 : decode cX3_spareOf 4 = .ok (.iload_n 1, 1) := by decide +kernel
theorem dX3_spareOf_5 : decode cX3_spareOf 5 = .ok (.iload_n 3, 1) := by decide +kernel
theorem dX3_spareOf_6 : decode cX3_spareOf 6 = .ok (.invokevirtual 39, 3) := by decide +kernel
theorem dX3_spareOf_9 : decode cX3_spareOf 9 = .ok (.istore 4, 2) := by decide +kernel
theorem dX3_spareOf_11 : decode cX3_spareOf 11 = .ok (.aload_n 0, 1) := by decide +kernel
theorem dX3_spareOf_12 : decode cX3_spareOf 12 = .ok (.getfield 15, 3) := by decide +kernel
theorem dX3_spareOf_15 : decode cX3_spareOf 15 = .ok (.iload_n 1, 1) := by decide +kernel
theorem dX3_spareOf_16 : decode cX3_spareOf 16 = .ok (.iload_n 3, 1) := by decide +kernel
theorem dX3_spareOf_17 : decode cX3_spareOf 17 = .ok (.invokevirtual 61, 3) := by decide +kernel
theorem dX3_spareOf_20 : decode cX3_spareOf 20 = .ok (.ineg, 1) := by decide +kernel
theorem dX3_spareOf_21 : decode cX3_spareOf 21 = .ok (.istore 5, 2) := by decide +kernel
theorem dX3_spareOf_23 : decode cX3_spareOf 23 = .ok (.iconst 0, 1) := by decide +kernel
theorem dX3_spareOf_24 : decode cX3_spareOf 24 = .ok (.istore 6, 2) := by decide +kernel
theorem dX3_spareOf_26 : decode cX3_spareOf 26 = .ok (.iload 6, 2) := by decide +kernel
theorem dX3_spareOf_28 : decode cX3_spareOf 28 = .ok (.aload_n 0, 1) := by decide +kernel
theorem dX3_spareOf_29 : decode cX3_spareOf 29 = .ok (.getfield 9, 3) := by decide +kernel
theorem dX3_spareOf_32 : decode cX3_spareOf 32 = .ok (.getfield 19, 3) := by decide +kernel
theorem dX3_spareOf_35 : decode cX3_spareOf 35 = .ok (.if_icmp .ge 51, 3) := by decide +kernel
theorem dX3_spareOf_38 : decode cX3_spareOf 38 = .ok (.iload_n 2, 1) := by decide +kernel
theorem dX3_spareOf_39 : decode cX3_spareOf 39 = .ok (.iload 6, 2) := by decide +kernel
theorem dX3_spareOf_41 : decode cX3_spareOf 41 = .ok (.invokestatic 51, 3) := by decide +kernel
theorem dX3_spareOf_44 : decode cX3_spareOf 44 = .ok (.ifCond .eq 36, 3) := by decide +kernel
theorem dX3_spareOf_47 : decode cX3_spareOf 47 = .ok (.iload 4, 2) := by decide +kernel
theorem dX3_spareOf_49 : decode cX3_spareOf 49 = .ok (.aload_n 0, 1) := by decide +kernel
theorem dX3_spareOf_50 : decode cX3_spareOf 50 = .ok (.getfield 9, 3) := by decide +kernel
theorem dX3_spareOf_53 : decode cX3_spareOf 53 = .ok (.getfield 35, 3) := by decide +kernel
theorem dX3_spareOf_56 : decode cX3_spareOf 56 = .ok (.iload 6, 2) := by decide +kernel
theorem dX3_spareOf_58 : decode cX3_spareOf 58 = .ok (.iaload, 1) := by decide +kernel
theorem dX3_spareOf_59 : decode cX3_spareOf 59 = .ok (.invokestatic 51, 3) := by decide +kernel
theorem dX3_spareOf_62 : decode cX3_spareOf 62 = .ok (.ifCond .eq 18, 3) := by decide +kernel
theorem dX3_spareOf_65 : decode cX3_spareOf 65 = .ok (.iload 5, 2) := by decide +kernel
theorem dX3_spareOf_67 : decode cX3_spareOf 67 = .ok (.aload_n 0, 1) := by decide +kernel
theorem dX3_spareOf_68 : decode cX3_spareOf 68 = .ok (.getfield 9, 3) := by decide +kernel
theorem dX3_spareOf_71 : decode cX3_spareOf 71 = .ok (.getfield 64, 3) := by decide +kernel
theorem dX3_spareOf_74 : decode cX3_spareOf 74 = .ok (.iload 6, 2) := by decide +kernel
theorem dX3_spareOf_76 : decode cX3_spareOf 76 = .ok (.iaload, 1) := by decide +kernel
theorem dX3_spareOf_77 : decode cX3_spareOf 77 = .ok (.iadd, 1) := by decide +kernel
theorem dX3_spareOf_78 : decode cX3_spareOf 78 = .ok (.istore 5, 2) := by decide +kernel
theorem dX3_spareOf_80 : decode cX3_spareOf 80 = .ok (.iinc 6 1, 3) := by decide +kernel
theorem dX3_spareOf_83 : decode cX3_spareOf 83 = .ok (.goto (-57), 3) := by decide +kernel
theorem dX3_spareOf_86 : decode cX3_spareOf 86 = .ok (.iload 5, 2) := by decide +kernel
theorem dX3_spareOf_88 : decode cX3_spareOf 88 = .ok (.ireturn, 1) := by decide +kernel
theorem dX3_isTold_0 : decode cX3_isTold 0 = .ok (.iload_n 1, 1) := by decide +kernel
theorem dX3_isTold_1 : decode cX3_isTold 1 = .ok (.iconst 4, 1) := by decide +kernel
theorem dX3_isTold_2 : decode cX3_isTold 2 = .ok (.if_icmp .lt 14, 3) := by decide +kernel
theorem dX3_isTold_5 : decode cX3_isTold 5 = .ok (.aload_n 0, 1) := by decide +kernel
theorem dX3_isTold_6 : decode cX3_isTold 6 = .ok (.getfield 9, 3) := by decide +kernel
theorem dX3_isTold_9 : decode cX3_isTold 9 = .ok (.iload_n 1, 1) := by decide +kernel
theorem dX3_isTold_10 : decode cX3_isTold 10 = .ok (.iconst 4, 1) := by decide +kernel
theorem dX3_isTold_11 : decode cX3_isTold 11 = .ok (.isub, 1) := by decide +kernel
end
section
theorem dX3_isTold_12 : decode cX3_isTold 12 = .ok (.invokevirtual 67, 3) := by decide +kernel
theorem dX3_isTold_15 : decode cX3_isTold 15 = .ok (.ireturn, 1) := by decide +kernel
theorem dX3_isTold_16 : decode cX3_isTold 16 = .ok (.iload_n 1, 1) := by decide +kernel
theorem dX3_isTold_17 : decode cX3_isTold 17 = .ok (.iconst 1, 1) := by decide +kernel
theorem dX3_isTold_18 : decode cX3_isTold 18 = .ok (.if_icmp .lt 16, 3) := by decide +kernel
theorem dX3_isTold_21 : decode cX3_isTold 21 = .ok (.aload_n 0, 1) := by decide +kernel
theorem dX3_isTold_22 : decode cX3_isTold 22 = .ok (.getfield 9, 3) := by decide +kernel
theorem dX3_isTold_25 : decode cX3_isTold 25 = .ok (.iload_n 1, 1) := by decide +kernel
theorem dX3_isTold_26 : decode cX3_isTold 26 = .ok (.iconst 1, 1) := by decide +kernel
theorem dX3_isTold_27 : decode cX3_isTold 27 = .ok (.isub, 1) := by decide +kernel
theorem dX3_isTold_28 : decode cX3_isTold 28 = .ok (.invokevirtual 71, 3) := by decide +kernel
theorem dX3_isTold_31 : decode cX3_isTold 31 = .ok (.ifCond .eq 7, 3) := by decide +kernel
theorem dX3_isTold_34 : decode cX3_isTold 34 = .ok (.iconst 1, 1) := by decide +kernel
theorem dX3_isTold_35 : decode cX3_isTold 35 = .ok (.goto 4, 3) := by decide +kernel
theorem dX3_isTold_38 : decode cX3_isTold 38 = .ok (.iconst 0, 1) := by decide +kernel
theorem dX3_isTold_39 : decode cX3_isTold 39 = .ok (.ireturn, 1) := by decide +kernel
theorem dX3_stepsFrom_0 : decode cX3_stepsFrom 0 = .ok (.iload_n 1, 1) := by decide +kernel
theorem dX3_stepsFrom_1 : decode cX3_stepsFrom 1 = .ok (.invokestatic 31, 3) := by decide +kernel
theorem dX3_stepsFrom_4 : decode cX3_stepsFrom 4 = .ok (.istore_n 2, 1) := by decide +kernel
theorem dX3_stepsFrom_5 : decode cX3_stepsFrom 5 = .ok (.iload_n 1, 1) := by decide +kernel
theorem dX3_stepsFrom_6 : decode cX3_stepsFrom 6 = .ok (.invokestatic 74, 3) := by decide +kernel
theorem dX3_stepsFrom_9 : decode cX3_stepsFrom 9 = .ok (.istore_n 3, 1) := by decide +kernel
theorem dX3_stepsFrom_10 : decode cX3_stepsFrom 10 = .ok (.iload_n 1, 1) := by decide +kernel
theorem dX3_stepsFrom_11 : decode cX3_stepsFrom 11 = .ok (.invokestatic 54, 3) := by decide +kernel
theorem dX3_stepsFrom_14 : decode cX3_stepsFrom 14 = .ok (.istore 4, 2) := by decide +kernel
theorem dX3_stepsFrom_16 : decode cX3_stepsFrom 16 = .ok (.aload_n 0, 1) := by decide +kernel
theorem dX3_stepsFrom_17 : decode cX3_stepsFrom 17 = .ok (.iload_n 1, 1) := by decide +kernel
theorem dX3_stepsFrom_18 : decode cX3_stepsFrom 18 = .ok (.invokevirtual 45, 3) := by decide +kernel
theorem dX3_stepsFrom_21 : decode cX3_stepsFrom 21 = .ok (.istore 5, 2) := by decide +kernel
theorem dX3_stepsFrom_23 : decode cX3_stepsFrom 23 = .ok (.iconst 1, 1) := by decide +kernel
theorem dX3_stepsFrom_24 : decode cX3_stepsFrom 24 = .ok (.istore 6, 2) := by decide +kernel
theorem dX3_stepsFrom_26 : decode cX3_stepsFrom 26 = .ok (.iconst 0, 1) := by decide +kernel
theorem dX3_stepsFrom_27 : decode cX3_stepsFrom 27 = .ok (.istore 7, 2) := by decide +kernel
theorem dX3_stepsFrom_29 : decode cX3_stepsFrom 29 = .ok (.iload 7, 2) := by decide +kernel
theorem dX3_stepsFrom_31 : decode cX3_stepsFrom 31 = .ok (.aload_n 0, 1) := by decide +kernel
theorem dX3_stepsFrom_32 : decode cX3_stepsFrom 32 = .ok (.getfield 9, 3) := by decide +kernel
theorem dX3_stepsFrom_35 : decode cX3_stepsFrom 35 = .ok (.getfield 19, 3) := by decide +kernel
theorem dX3_stepsFrom_38 : decode cX3_stepsFrom 38 = .ok (.if_icmp .ge 43, 3) := by decide +kernel
theorem dX3_stepsFrom_41 : decode cX3_stepsFrom 41 = .ok (.iload_n 3, 1) := by decide +kernel
theorem dX3_stepsFrom_42 : decode cX3_stepsFrom 42 = .ok (.iload 7, 2) := by decide +kernel
theorem dX3_stepsFrom_44 : decode cX3_stepsFrom 44 = .ok (.invokestatic 51, 3) := by decide +kernel
theorem dX3_stepsFrom_47 : decode cX3_stepsFrom 47 = .ok (.ifCond .ne 28, 3) := by decide +kernel
theorem dX3_stepsFrom_50 : decode cX3_stepsFrom 50 = .ok (.aload_n 0, 1) := by decide +kernel
theorem dX3_stepsFrom_51 : decode cX3_stepsFrom 51 = .ok (.iload_n 2, 1) := by decide +kernel
theorem dX3_stepsFrom_52 : decode cX3_stepsFrom 52 = .ok (.iload 4, 2) := by decide +kernel
theorem dX3_stepsFrom_54 : decode cX3_stepsFrom 54 = .ok (.iload 5, 2) := by decide +kernel
theorem dX3_stepsFrom_56 : decode cX3_stepsFrom 56 = .ok (.iload 7, 2) := by decide +kernel
theorem dX3_stepsFrom_58 : decode cX3_stepsFrom 58 = .ok (.invokevirtual 77, 3) := by decide +kernel
theorem dX3_stepsFrom_61 : decode cX3_stepsFrom 61 = .ok (.ifCond .eq 14, 3) := by decide +kernel
theorem dX3_stepsFrom_64 : decode cX3_stepsFrom 64 = .ok (.iload 6, 2) := by decide +kernel
theorem dX3_stepsFrom_66 : decode cX3_stepsFrom 66 = .ok (.iconst 1, 1) := by decide +kernel
theorem dX3_stepsFrom_67 : decode cX3_stepsFrom 67 = .ok (.iconst 1, 1) := by decide +kernel
theorem dX3_stepsFrom_68 : decode cX3_stepsFrom 68 = .ok (.iload 7, 2) := by decide +kernel
theorem dX3_stepsFrom_70 : decode cX3_stepsFrom 70 = .ok (.iadd, 1) := by decide +kernel
theorem dX3_stepsFrom_71 : decode cX3_stepsFrom 71 = .ok (.ishl, 1) := by decide +kernel
theorem dX3_stepsFrom_72 : decode cX3_stepsFrom 72 = .ok (.ior, 1) := by decide +kernel
theorem dX3_stepsFrom_73 : decode cX3_stepsFrom 73 = .ok (.istore 6, 2) := by decide +kernel
theorem dX3_stepsFrom_75 : decode cX3_stepsFrom 75 = .ok (.iinc 7 1, 3) := by decide +kernel
theorem dX3_stepsFrom_78 : decode cX3_stepsFrom 78 = .ok (.goto (-49), 3) := by decide +kernel
theorem dX3_stepsFrom_81 : decode cX3_stepsFrom 81 = .ok (.iconst 0, 1) := by decide +kernel
theorem dX3_stepsFrom_82 : decode cX3_stepsFrom 82 = .ok (.istore 7, 2) := by decide +kernel
theorem dX3_stepsFrom_84 : decode cX3_stepsFrom 84 = .ok (.iload 7, 2) := by decide +kernel
theorem dX3_stepsFrom_86 : decode cX3_stepsFrom 86 = .ok (.aload_n 0, 1) := by decide +kernel
theorem dX3_stepsFrom_87 : decode cX3_stepsFrom 87 = .ok (.getfield 9, 3) := by decide +kernel
theorem dX3_stepsFrom_90 : decode cX3_stepsFrom 90 = .ok (.getfield 81, 3) := by decide +kernel
theorem dX3_stepsFrom_93 : decode cX3_stepsFrom 93 = .ok (.if_icmp .ge 43, 3) := by decide +kernel
theorem dX3_stepsFrom_96 : decode cX3_stepsFrom 96 = .ok (.iload_n 2, 1) := by decide +kernel
theorem dX3_stepsFrom_97 : decode cX3_stepsFrom 97 = .ok (.iload 7, 2) := by decide +kernel
theorem dX3_stepsFrom_99 : decode cX3_stepsFrom 99 = .ok (.invokestatic 51, 3) := by decide +kernel
theorem dX3_stepsFrom_102 : decode cX3_stepsFrom 102 = .ok (.ifCond .ne 28, 3) := by decide +kernel
theorem dX3_stepsFrom_105 : decode cX3_stepsFrom 105 = .ok (.aload_n 0, 1) := by decide +kernel
theorem dX3_stepsFrom_106 : decode cX3_stepsFrom 106 = .ok (.iload_n 2, 1) := by decide +kernel
theorem dX3_stepsFrom_107 : decode cX3_stepsFrom 107 = .ok (.iload 4, 2) := by decide +kernel
theorem dX3_stepsFrom_109 : decode cX3_stepsFrom 109 = .ok (.iload 5, 2) := by decide +kernel
theorem dX3_stepsFrom_111 : decode cX3_stepsFrom 111 = .ok (.iload 7, 2) := by decide +kernel
theorem dX3_stepsFrom_113 : decode cX3_stepsFrom 113 = .ok (.invokevirtual 84, 3) := by decide +kernel
theorem dX3_stepsFrom_116 : decode cX3_stepsFrom 116 = .ok (.ifCond .eq 14, 3) := by decide +kernel
theorem dX3_stepsFrom_119 : decode cX3_stepsFrom 119 = .ok (.iload 6, 2) := by decide +kernel
theorem dX3_stepsFrom_121 : decode cX3_stepsFrom 121 = .ok (.iconst 1, 1) := by decide +kernel
theorem dX3_stepsFrom_122 : decode cX3_stepsFrom 122 = .ok (.iconst 4, 1) := by decide +kernel
theorem dX3_stepsFrom_123 : decode cX3_stepsFrom 123 = .ok (.iload 7, 2) := by decide +kernel
theorem dX3_stepsFrom_125 : decode cX3_stepsFrom 125 = .ok (.iadd, 1) := by decide +kernel
theorem dX3_stepsFrom_126 : decode cX3_stepsFrom 126 = .ok (.ishl, 1) := by decide +kernel
theorem dX3_stepsFrom_127 : decode cX3_stepsFrom 127 = .ok (.ior, 1) := by decide +kernel
theorem dX3_stepsFrom_128 : decode cX3_stepsFrom 128 = .ok (.istore 6, 2) := by decide +kernel
theorem dX3_stepsFrom_130 : decode cX3_stepsFrom 130 = .ok (.iinc 7 1, 3) := by decide +kernel
theorem dX3_stepsFrom_133 : decode cX3_stepsFrom 133 = .ok (.goto (-49), 3) := by decide +kernel
theorem dX3_stepsFrom_136 : decode cX3_stepsFrom 136 = .ok (.iload 6, 2) := by decide +kernel
theorem dX3_stepsFrom_138 : decode cX3_stepsFrom 138 = .ok (.ireturn, 1) := by decide +kernel
theorem dX3_canCrank_0 : decode cX3_canCrank 0 = .ok (.aload_n 0, 1) := by decide +kernel
theorem dX3_canCrank_1 : decode cX3_canCrank 1 = .ok (.getfield 9, 3) := by decide +kernel
theorem dX3_canCrank_4 : decode cX3_canCrank 4 = .ok (.getfield 87, 3) := by decide +kernel
theorem dX3_canCrank_7 : decode cX3_canCrank 7 = .ok (.iload 4, 2) := by decide +kernel
theorem dX3_canCrank_9 : decode cX3_canCrank 9 = .ok (.iaload, 1) := by decide +kernel
theorem dX3_canCrank_10 : decode cX3_canCrank 10 = .ok (.istore 5, 2) := by decide +kernel
theorem dX3_canCrank_12 : decode cX3_canCrank 12 = .ok (.aload_n 0, 1) := by decide +kernel
theorem dX3_canCrank_13 : decode cX3_canCrank 13 = .ok (.getfield 9, 3) := by decide +kernel
theorem dX3_canCrank_16 : decode cX3_canCrank 16 = .ok (.getfield 35, 3) := by decide +kernel
theorem dX3_canCrank_19 : decode cX3_canCrank 19 = .ok (.iload 4, 2) := by decide +kernel
theorem dX3_canCrank_21 : decode cX3_canCrank 21 = .ok (.iaload, 1) := by decide +kernel
theorem dX3_canCrank_22 : decode cX3_canCrank 22 = .ok (.istore 6, 2) := by decide +kernel
theorem dX3_canCrank_24 : decode cX3_canCrank 24 = .ok (.iload 5, 2) := by decide +kernel
theorem dX3_canCrank_26 : decode cX3_canCrank 26 = .ok (.ifCond .eq 25, 3) := by decide +kernel
theorem dX3_canCrank_29 : decode cX3_canCrank 29 = .ok (.iload_n 3, 1) := by decide +kernel
theorem dX3_canCrank_30 : decode cX3_canCrank 30 = .ok (.iload 6, 2) := by decide +kernel
theorem dX3_canCrank_32 : decode cX3_canCrank 32 = .ok (.invokestatic 51, 3) := by decide +kernel
theorem dX3_canCrank_35 : decode cX3_canCrank 35 = .ok (.ifCond .eq 20, 3) := by decide +kernel
theorem dX3_canCrank_38 : decode cX3_canCrank 38 = .ok (.aload_n 0, 1) := by decide +kernel
theorem dX3_canCrank_39 : decode cX3_canCrank 39 = .ok (.iload_n 1, 1) := by decide +kernel
theorem dX3_canCrank_40 : decode cX3_canCrank 40 = .ok (.iload_n 2, 1) := by decide +kernel
theorem dX3_canCrank_41 : decode cX3_canCrank 41 = .ok (.iload 6, 2) := by decide +kernel
theorem dX3_canCrank_43 : decode cX3_canCrank 43 = .ok (.invokevirtual 57, 3) := by decide +kernel
theorem dX3_canCrank_46 : decode cX3_canCrank 46 = .ok (.iload 5, 2) := by decide +kernel
theorem dX3_canCrank_48 : decode cX3_canCrank 48 = .ok (.if_icmp .lt 7, 3) := by decide +kernel
theorem dX3_canCrank_51 : decode cX3_canCrank 51 = .ok (.iconst 1, 1) := by decide +kernel
theorem dX3_canCrank_52 : decode cX3_canCrank 52 = .ok (.goto 4, 3) := by decide +kernel
theorem dX3_canCrank_55 : decode cX3_canCrank 55 = .ok (.iconst 0, 1) := by decide +kernel
theorem dX3_canCrank_56 : decode cX3_canCrank 56 = .ok (.ireturn, 1) := by decide +kernel
theorem dX3_canCarry_0 : decode cX3_canCarry 0 = .ok (.aload_n 0, 1) := by decide +kernel
theorem dX3_canCarry_1 : decode cX3_canCarry 1 = .ok (.getfield 9, 3) := by decide +kernel
theorem dX3_canCarry_4 : decode cX3_canCarry 4 = .ok (.getfield 90, 3) := by decide +kernel
theorem dX3_canCarry_7 : decode cX3_canCarry 7 = .ok (.iload 4, 2) := by decide +kernel
theorem dX3_canCarry_9 : decode cX3_canCarry 9 = .ok (.iaload, 1) := by decide +kernel
theorem dX3_canCarry_10 : decode cX3_canCarry 10 = .ok (.istore 5, 2) := by decide +kernel
theorem dX3_canCarry_12 : decode cX3_canCarry 12 = .ok (.iload_n 3, 1) := by decide +kernel
theorem dX3_canCarry_13 : decode cX3_canCarry 13 = .ok (.iload 5, 2) := by decide +kernel
theorem dX3_canCarry_15 : decode cX3_canCarry 15 = .ok (.invokestatic 51, 3) := by decide +kernel
theorem dX3_canCarry_18 : decode cX3_canCarry 18 = .ok (.ifCond .ne 20, 3) := by decide +kernel
theorem dX3_canCarry_21 : decode cX3_canCarry 21 = .ok (.iload_n 3, 1) := by decide +kernel
theorem dX3_canCarry_22 : decode cX3_canCarry 22 = .ok (.aload_n 0, 1) := by decide +kernel
theorem dX3_canCarry_23 : decode cX3_canCarry 23 = .ok (.getfield 9, 3) := by decide +kernel
theorem dX3_canCarry_26 : decode cX3_canCarry 26 = .ok (.getfield 93, 3) := by decide +kernel
theorem dX3_canCarry_29 : decode cX3_canCarry 29 = .ok (.iload 4, 2) := by decide +kernel
theorem dX3_canCarry_31 : decode cX3_canCarry 31 = .ok (.iaload, 1) := by decide +kernel
theorem dX3_canCarry_32 : decode cX3_canCarry 32 = .ok (.invokestatic 51, 3) := by decide +kernel
theorem dX3_canCarry_35 : decode cX3_canCarry 35 = .ok (.ifCond .eq 7, 3) := by decide +kernel
theorem dX3_canCarry_38 : decode cX3_canCarry 38 = .ok (.iconst 1, 1) := by decide +kernel
theorem dX3_canCarry_39 : decode cX3_canCarry 39 = .ok (.goto 4, 3) := by decide +kernel
theorem dX3_canCarry_42 : decode cX3_canCarry 42 = .ok (.iconst 0, 1) := by decide +kernel
theorem dX3_canCarry_43 : decode cX3_canCarry 43 = .ok (.istore 6, 2) := by decide +kernel
theorem dX3_canCarry_45 : decode cX3_canCarry 45 = .ok (.iload 6, 2) := by decide +kernel
theorem dX3_canCarry_47 : decode cX3_canCarry 47 = .ok (.ifCond .eq 23, 3) := by decide +kernel
theorem dX3_canCarry_50 : decode cX3_canCarry 50 = .ok (.aload_n 0, 1) := by decide +kernel
theorem dX3_canCarry_51 : decode cX3_canCarry 51 = .ok (.iload_n 1, 1) := by decide +kernel
theorem dX3_canCarry_52 : decode cX3_canCarry 52 = .ok (.iconst 1, 1) := by decide +kernel
theorem dX3_canCarry_53 : decode cX3_canCarry 53 = .ok (.iload 4, 2) := by decide +kernel
theorem dX3_canCarry_55 : decode cX3_canCarry 55 = .ok (.ishl, 1) := by decide +kernel
theorem dX3_canCarry_56 : decode cX3_canCarry 56 = .ok (.ior, 1) := by decide +kernel
theorem dX3_canCarry_57 : decode cX3_canCarry 57 = .ok (.iload_n 2, 1) := by decide +kernel
theorem dX3_canCarry_58 : decode cX3_canCarry 58 = .ok (.iload 5, 2) := by decide +kernel
theorem dX3_canCarry_60 : decode cX3_canCarry 60 = .ok (.invokevirtual 57, 3) := by decide +kernel
theorem dX3_canCarry_63 : decode cX3_canCarry 63 = .ok (.ifCond .lt 7, 3) := by decide +kernel
theorem dX3_canCarry_66 : decode cX3_canCarry 66 = .ok (.iconst 1, 1) := by decide +kernel
theorem dX3_canCarry_67 : decode cX3_canCarry 67 = .ok (.goto 4, 3) := by decide +kernel
theorem dX3_canCarry_70 : decode cX3_canCarry 70 = .ok (.iconst 0, 1) := by decide +kernel
theorem dX3_canCarry_71 : decode cX3_canCarry 71 = .ok (.ireturn, 1) := by decide +kernel
theorem dX3_withStep_0 : decode cX3_withStep 0 = .ok (.iload_n 2, 1) := by decide +kernel
theorem dX3_withStep_1 : decode cX3_withStep 1 = .ok (.iconst 4, 1) := by decide +kernel
theorem dX3_withStep_2 : decode cX3_withStep 2 = .ok (.if_icmp .lt 11, 3) := by decide +kernel
theorem dX3_withStep_5 : decode cX3_withStep 5 = .ok (.iload_n 1, 1) := by decide +kernel
theorem dX3_withStep_6 : decode cX3_withStep 6 = .ok (.iload_n 2, 1) := by decide +kernel
theorem dX3_withStep_7 : decode cX3_withStep 7 = .ok (.iconst 4, 1) := by decide +kernel
theorem dX3_withStep_8 : decode cX3_withStep 8 = .ok (.isub, 1) := by decide +kernel
theorem dX3_withStep_9 : decode cX3_withStep 9 = .ok (.invokestatic 96, 3) := by decide +kernel
theorem dX3_withStep_12 : decode cX3_withStep 12 = .ok (.ireturn, 1) := by decide +kernel
theorem dX3_withStep_13 : decode cX3_withStep 13 = .ok (.iload_n 2, 1) := by decide +kernel
theorem dX3_withStep_14 : decode cX3_withStep 14 = .ok (.iconst 1, 1) := by decide +kernel
theorem dX3_withStep_15 : decode cX3_withStep 15 = .ok (.if_icmp .lt 22, 3) := by decide +kernel
theorem dX3_withStep_18 : decode cX3_withStep 18 = .ok (.iload_n 2, 1) := by decide +kernel
theorem dX3_withStep_19 : decode cX3_withStep 19 = .ok (.iconst 1, 1) := by decide +kernel
theorem dX3_withStep_20 : decode cX3_withStep 20 = .ok (.isub, 1) := by decide +kernel
theorem dX3_withStep_21 : decode cX3_withStep 21 = .ok (.istore_n 3, 1) := by decide +kernel
theorem dX3_withStep_22 : decode cX3_withStep 22 = .ok (.iload_n 1, 1) := by decide +kernel
theorem dX3_withStep_23 : decode cX3_withStep 23 = .ok (.iload_n 3, 1) := by decide +kernel
theorem dX3_withStep_24 : decode cX3_withStep 24 = .ok (.aload_n 0, 1) := by decide +kernel
theorem dX3_withStep_25 : decode cX3_withStep 25 = .ok (.getfield 9, 3) := by decide +kernel
theorem dX3_withStep_28 : decode cX3_withStep 28 = .ok (.getfield 99, 3) := by decide +kernel
theorem dX3_withStep_31 : decode cX3_withStep 31 = .ok (.iload_n 3, 1) := by decide +kernel
theorem dX3_withStep_32 : decode cX3_withStep 32 = .ok (.iaload, 1) := by decide +kernel
theorem dX3_withStep_33 : decode cX3_withStep 33 = .ok (.invokestatic 102, 3) := by decide +kernel
theorem dX3_withStep_36 : decode cX3_withStep 36 = .ok (.ireturn, 1) := by decide +kernel
theorem dX3_withStep_37 : decode cX3_withStep 37 = .ok (.iload_n 1, 1) := by decide +kernel
theorem dX3_withStep_38 : decode cX3_withStep 38 = .ok (.ireturn, 1) := by decide +kernel
theorem dX3_isReached_0 : decode cX3_isReached 0 = .ok (.iload_n 2, 1) := by decide +kernel
theorem dX3_isReached_1 : decode cX3_isReached 1 = .ok (.iload_n 1, 1) := by decide +kernel
theorem dX3_isReached_2 : decode cX3_isReached 2 = .ok (.invokestatic 54, 3) := by decide +kernel
theorem dX3_isReached_5 : decode cX3_isReached 5 = .ok (.iconst (-1), 1) := by decide +kernel
theorem dX3_isReached_6 : decode cX3_isReached 6 = .ok (.ixor, 1) := by decide +kernel
theorem dX3_isReached_7 : decode cX3_isReached 7 = .ok (.iand, 1) := by decide +kernel
theorem dX3_isReached_8 : decode cX3_isReached 8 = .ok (.ifCond .ne 19, 3) := by decide +kernel
theorem dX3_isReached_11 : decode cX3_isReached 11 = .ok (.iload_n 3, 1) := by decide +kernel
theorem dX3_isReached_12 : decode cX3_isReached 12 = .ok (.aload_n 0, 1) := by decide +kernel
theorem dX3_isReached_13 : decode cX3_isReached 13 = .ok (.iload_n 1, 1) := by decide +kernel
theorem dX3_isReached_14 : decode cX3_isReached 14 = .ok (.invokevirtual 45, 3) := by decide +kernel
theorem dX3_isReached_17 : decode cX3_isReached 17 = .ok (.iconst (-1), 1) := by decide +kernel
theorem dX3_isReached_18 : decode cX3_isReached 18 = .ok (.ixor, 1) := by decide +kernel
theorem dX3_isReached_19 : decode cX3_isReached 19 = .ok (.iand, 1) := by decide +kernel
theorem dX3_isReached_20 : decode cX3_isReached 20 = .ok (.ifCond .ne 7, 3) := by decide +kernel
theorem dX3_isReached_23 : decode cX3_isReached 23 = .ok (.iconst 1, 1) := by decide +kernel
theorem dX3_isReached_24 : decode cX3_isReached 24 = .ok (.goto 4, 3) := by decide +kernel
theorem dX3_isReached_27 : decode cX3_isReached 27 = .ok (.iconst 0, 1) := by decide +kernel
theorem dX3_isReached_28 : decode cX3_isReached 28 = .ok (.ireturn, 1) := by decide +kernel
theorem dX3_lostLines_0 : decode cX3_lostLines 0 = .ok (.iload_n 1, 1) := by decide +kernel
theorem dX3_lostLines_1 : decode cX3_lostLines 1 = .ok (.invokestatic 31, 3) := by decide +kernel
theorem dX3_lostLines_4 : decode cX3_lostLines 4 = .ok (.istore_n 2, 1) := by decide +kernel
theorem dX3_lostLines_5 : decode cX3_lostLines 5 = .ok (.aload_n 0, 1) := by decide +kernel
theorem dX3_lostLines_6 : decode cX3_lostLines 6 = .ok (.iload_n 1, 1) := by decide +kernel
theorem dX3_lostLines_7 : decode cX3_lostLines 7 = .ok (.invokevirtual 45, 3) := by decide +kernel
theorem dX3_lostLines_10 : decode cX3_lostLines 10 = .ok (.istore_n 3, 1) := by decide +kernel
theorem dX3_lostLines_11 : decode cX3_lostLines 11 = .ok (.iconst 0, 1) := by decide +kernel
theorem dX3_lostLines_12 : decode cX3_lostLines 12 = .ok (.istore 4, 2) := by decide +kernel
theorem dX3_lostLines_14 : decode cX3_lostLines 14 = .ok (.iconst 0, 1) := by decide +kernel
theorem dX3_lostLines_15 : decode cX3_lostLines 15 = .ok (.istore 5, 2) := by decide +kernel
theorem dX3_lostLines_17 : decode cX3_lostLines 17 = .ok (.iload 5, 2) := by decide +kernel
theorem dX3_lostLines_19 : decode cX3_lostLines 19 = .ok (.aload_n 0, 1) := by decide +kernel
theorem dX3_lostLines_20 : decode cX3_lostLines 20 = .ok (.getfield 9, 3) := by decide +kernel
theorem dX3_lostLines_23 : decode cX3_lostLines 23 = .ok (.getfield 81, 3) := by decide +kernel
theorem dX3_lostLines_26 : decode cX3_lostLines 26 = .ok (.if_icmp .ge 58, 3) := by decide +kernel
theorem dX3_lostLines_29 : decode cX3_lostLines 29 = .ok (.aload_n 0, 1) := by decide +kernel
theorem dX3_lostLines_30 : decode cX3_lostLines 30 = .ok (.getfield 9, 3) := by decide +kernel
theorem dX3_lostLines_33 : decode cX3_lostLines 33 = .ok (.getfield 90, 3) := by decide +kernel
theorem dX3_lostLines_36 : decode cX3_lostLines 36 = .ok (.iload 5, 2) := by decide +kernel
theorem dX3_lostLines_38 : decode cX3_lostLines 38 = .ok (.iaload, 1) := by decide +kernel
theorem dX3_lostLines_39 : decode cX3_lostLines 39 = .ok (.istore 6, 2) := by decide +kernel
theorem dX3_lostLines_41 : decode cX3_lostLines 41 = .ok (.iload_n 2, 1) := by decide +kernel
theorem dX3_lostLines_42 : decode cX3_lostLines 42 = .ok (.iload 5, 2) := by decide +kernel
theorem dX3_lostLines_44 : decode cX3_lostLines 44 = .ok (.invokestatic 51, 3) := by decide +kernel
theorem dX3_lostLines_47 : decode cX3_lostLines 47 = .ok (.ifCond .eq 31, 3) := by decide +kernel
theorem dX3_lostLines_50 : decode cX3_lostLines 50 = .ok (.iload_n 3, 1) := by decide +kernel
theorem dX3_lostLines_51 : decode cX3_lostLines 51 = .ok (.iload 6, 2) := by decide +kernel
theorem dX3_lostLines_53 : decode cX3_lostLines 53 = .ok (.invokestatic 51, 3) := by decide +kernel
theorem dX3_lostLines_56 : decode cX3_lostLines 56 = .ok (.ifCond .eq 13, 3) := by decide +kernel
theorem dX3_lostLines_59 : decode cX3_lostLines 59 = .ok (.aload_n 0, 1) := by decide +kernel
theorem dX3_lostLines_60 : decode cX3_lostLines 60 = .ok (.iload_n 1, 1) := by decide +kernel
theorem dX3_lostLines_61 : decode cX3_lostLines 61 = .ok (.iload 6, 2) := by decide +kernel
theorem dX3_lostLines_63 : decode cX3_lostLines 63 = .ok (.invokevirtual 105, 3) := by decide +kernel
theorem dX3_lostLines_66 : decode cX3_lostLines 66 = .ok (.ifCond .ge 12, 3) := by decide +kernel
theorem dX3_lostLines_69 : decode cX3_lostLines 69 = .ok (.iload 4, 2) := by decide +kernel
theorem dX3_lostLines_71 : decode cX3_lostLines 71 = .ok (.iconst 1, 1) := by decide +kernel
theorem dX3_lostLines_72 : decode cX3_lostLines 72 = .ok (.iload 5, 2) := by decide +kernel
theorem dX3_lostLines_74 : decode cX3_lostLines 74 = .ok (.ishl, 1) := by decide +kernel
theorem dX3_lostLines_75 : decode cX3_lostLines 75 = .ok (.ior, 1) := by decide +kernel
theorem dX3_lostLines_76 : decode cX3_lostLines 76 = .ok (.istore 4, 2) := by decide +kernel
theorem dX3_lostLines_78 : decode cX3_lostLines 78 = .ok (.iinc 5 1, 3) := by decide +kernel
theorem dX3_lostLines_81 : decode cX3_lostLines 81 = .ok (.goto (-64), 3) := by decide +kernel
theorem dX3_lostLines_84 : decode cX3_lostLines 84 = .ok (.iload 4, 2) := by decide +kernel
theorem dX3_lostLines_86 : decode cX3_lostLines 86 = .ok (.ireturn, 1) := by decide +kernel
theorem dX4_init_0 : decode cX4_init 0 = .ok (.aload_n 0, 1) := by decide +kernel
theorem dX4_init_1 : decode cX4_init 1 = .ok (.invokespecial 3, 3) := by decide +kernel
theorem dX4_init_4 : decode cX4_init 4 = .ok (.aload_n 0, 1) := by decide +kernel
theorem dX4_init_5 : decode cX4_init 5 = .ok (.sipush 8000, 3) := by decide +kernel
theorem dX4_init_8 : decode cX4_init 8 = .ok (.newarray .int, 2) := by decide +kernel
theorem dX4_init_10 : decode cX4_init 10 = .ok (.putfield 11, 3) := by decide +kernel
theorem dX4_init_13 : decode cX4_init 13 = .ok (.aload_n 0, 1) := by decide +kernel
theorem dX4_init_14 : decode cX4_init 14 = .ok (.sipush 8000, 3) := by decide +kernel
theorem dX4_init_17 : decode cX4_init 17 = .ok (.newarray .int, 2) := by decide +kernel
theorem dX4_init_19 : decode cX4_init 19 = .ok (.putfield 15, 3) := by decide +kernel
theorem dX4_init_22 : decode cX4_init 22 = .ok (.aload_n 0, 1) := by decide +kernel
theorem dX4_init_23 : decode cX4_init 23 = .ok (.sipush 1024, 3) := by decide +kernel
theorem dX4_init_26 : decode cX4_init 26 = .ok (.newarray .int, 2) := by decide +kernel
theorem dX4_init_28 : decode cX4_init 28 = .ok (.putfield 20, 3) := by decide +kernel
theorem dX4_init_31 : decode cX4_init 31 = .ok (.aload_n 0, 1) := by decide +kernel
theorem dX4_init_32 : decode cX4_init 32 = .ok (.aload_n 1, 1) := by decide +kernel
theorem dX4_init_33 : decode cX4_init 33 = .ok (.putfield 23, 3) := by decide +kernel
theorem dX4_init_36 : decode cX4_init 36 = .ok (.return_, 1) := by decide +kernel
theorem dX4_plan_0 : decode cX4_plan 0 = .ok (.aload_n 0, 1) := by decide +kernel
theorem dX4_plan_1 : decode cX4_plan 1 = .ok (.iload_n 1, 1) := by decide +kernel
theorem dX4_plan_2 : decode cX4_plan 2 = .ok (.sipush 511, 3) := by decide +kernel
theorem dX4_plan_5 : decode cX4_plan 5 = .ok (.sipush 1023, 3) := by decide +kernel
theorem dX4_plan_8 : decode cX4_plan 8 = .ok (.iload_n 2, 1) := by decide +kernel
theorem dX4_plan_9 : decode cX4_plan 9 = .ok (.iload_n 3, 1) := by decide +kernel
theorem dX4_plan_10 : decode cX4_plan 10 = .ok (.invokevirtual 27, 3) := by decide +kernel
theorem dX4_plan_13 : decode cX4_plan 13 = .ok (.iconst (-1), 1) := by decide +kernel
theorem dX4_plan_14 : decode cX4_plan 14 = .ok (.if_icmp .ne 5, 3) := by decide +kernel
theorem dX4_plan_17 : decode cX4_plan 17 = .ok (.iconst (-1), 1) := by decide +kernel
theorem dX4_plan_18 : decode cX4_plan 18 = .ok (.ireturn, 1) := by decide +kernel
theorem dX4_plan_19 : decode cX4_plan 19 = .ok (.aload_n 0, 1) := by decide +kernel
theorem dX4_plan_20 : decode cX4_plan 20 = .ok (.iload_n 1, 1) := by decide +kernel
theorem dX4_plan_21 : decode cX4_plan 21 = .ok (.sipush 32767, 3) := by decide +kernel
theorem dX4_plan_24 : decode cX4_plan 24 = .ok (.sipush 1023, 3) := by decide +kernel
theorem dX4_plan_27 : decode cX4_plan 27 = .ok (.iload_n 2, 1) := by decide +kernel
theorem dX4_plan_28 : decode cX4_plan 28 = .ok (.iload_n 3, 1) := by decide +kernel
theorem dX4_plan_29 : decode cX4_plan 29 = .ok (.invokevirtual 27, 3) := by decide +kernel
theorem dX4_plan_32 : decode cX4_plan 32 = .ok (.ireturn, 1) := by decide +kernel
theorem dX4_codeAt_0 : decode cX4_codeAt 0 = .ok (.aload_n 0, 1) := by decide +kernel
theorem dX4_codeAt_1 : decode cX4_codeAt 1 = .ok (.getfield 11, 3) := by decide +kernel
theorem dX4_codeAt_4 : decode cX4_codeAt 4 = .ok (.iload_n 1, 1) := by decide +kernel
theorem dX4_codeAt_5 : decode cX4_codeAt 5 = .ok (.iaload, 1) := by decide +kernel
theorem dX4_codeAt_6 : decode cX4_codeAt 6 = .ok (.ireturn, 1) := by decide +kernel
theorem dX4_ticksTo_0 : decode cX4_ticksTo 0 = .ok (.iconst 0, 1) := by decide +kernel
theorem dX4_ticksTo_1 : decode cX4_ticksTo 1 = .ok (.istore_n 2, 1) := by decide +kernel
theorem dX4_ticksTo_2 : decode cX4_ticksTo 2 = .ok (.iload_n 1, 1) := by decide +kernel
theorem dX4_ticksTo_3 : decode cX4_ticksTo 3 = .ok (.istore_n 3, 1) := by decide +kernel
theorem dX4_ticksTo_4 : decode cX4_ticksTo 4 = .ok (.iload_n 3, 1) := by decide +kernel
theorem dX4_ticksTo_5 : decode cX4_ticksTo 5 = .ok (.ifCond .le 25, 3) := by decide +kernel
theorem dX4_ticksTo_8 : decode cX4_ticksTo 8 = .ok (.iload_n 2, 1) := by decide +kernel
theorem dX4_ticksTo_9 : decode cX4_ticksTo 9 = .ok (.sipush 8000, 3) := by decide +kernel
theorem dX4_ticksTo_12 : decode cX4_ticksTo 12 = .ok (.if_icmp .ge 18, 3) := by decide +kernel
theorem dX4_ticksTo_15 : decode cX4_ticksTo 15 = .ok (.iinc 2 1, 3) := by decide +kernel
theorem dX4_ticksTo_18 : decode cX4_ticksTo 18 = .ok (.aload_n 0, 1) := by decide +kernel
theorem dX4_ticksTo_19 : decode cX4_ticksTo 19 = .ok (.getfield 15, 3) := by decide +kernel
theorem dX4_ticksTo_22 : decode cX4_ticksTo 22 = .ok (.iload_n 3, 1) := by decide +kernel
theorem dX4_ticksTo_23 : decode cX4_ticksTo 23 = .ok (.iaload, 1) := by decide +kernel
theorem dX4_ticksTo_24 : decode cX4_ticksTo 24 = .ok (.iconst 4, 1) := by decide +kernel
theorem dX4_ticksTo_25 : decode cX4_ticksTo 25 = .ok (.ishr, 1) := by decide +kernel
theorem dX4_ticksTo_26 : decode cX4_ticksTo 26 = .ok (.istore_n 3, 1) := by decide +kernel
theorem dX4_ticksTo_27 : decode cX4_ticksTo 27 = .ok (.goto (-23), 3) := by decide +kernel
theorem dX4_ticksTo_30 : decode cX4_ticksTo 30 = .ok (.iload_n 2, 1) := by decide +kernel
theorem dX4_ticksTo_31 : decode cX4_ticksTo 31 = .ok (.ireturn, 1) := by decide +kernel
theorem dX4_stepBefore_0 : decode cX4_stepBefore 0 = .ok (.iload_n 1, 1) := by decide +kernel
theorem dX4_stepBefore_1 : decode cX4_stepBefore 1 = .ok (.istore_n 3, 1) := by decide +kernel
theorem dX4_stepBefore_2 : decode cX4_stepBefore 2 = .ok (.iconst 0, 1) := by decide +kernel
theorem dX4_stepBefore_3 : decode cX4_stepBefore 3 = .ok (.istore 4, 2) := by decide +kernel
theorem dX4_stepBefore_5 : decode cX4_stepBefore 5 = .ok (.iload 4, 2) := by decide +kernel
theorem dX4_stepBefore_7 : decode cX4_stepBefore 7 = .ok (.iload_n 2, 1) := by decide +kernel
theorem dX4_stepBefore_8 : decode cX4_stepBefore 8 = .ok (.if_icmp .ge 18, 3) := by decide +kernel
theorem dX4_stepBefore_11 : decode cX4_stepBefore 11 = .ok (.aload_n 0, 1) := by decide +kernel
theorem dX4_stepBefore_12 : decode cX4_stepBefore 12 = .ok (.getfield 15, 3) := by decide +kernel
theorem dX4_stepBefore_15 : decode cX4_stepBefore 15 = .ok (.iload_n 3, 1) := by decide +kernel
theorem dX4_stepBefore_16 : decode cX4_stepBefore 16 = .ok (.iaload, 1) := by decide +kernel
theorem dX4_stepBefore_17 : decode cX4_stepBefore 17 = .ok (.iconst 4, 1) := by decide +kernel
theorem dX4_stepBefore_18 : decode cX4_stepBefore 18 = .ok (.ishr, 1) := by decide +kernel
theorem dX4_stepBefore_19 : decode cX4_stepBefore 19 = .ok (.istore_n 3, 1) := by decide +kernel
theorem dX4_stepBefore_20 : decode cX4_stepBefore 20 = .ok (.iinc 4 1, 3) := by decide +kernel
theorem dX4_stepBefore_23 : decode cX4_stepBefore 23 = .ok (.goto (-18), 3) := by decide +kernel
theorem dX4_stepBefore_26 : decode cX4_stepBefore 26 = .ok (.aload_n 0, 1) := by decide +kernel
theorem dX4_stepBefore_27 : decode cX4_stepBefore 27 = .ok (.getfield 15, 3) := by decide +kernel
theorem dX4_stepBefore_30 : decode cX4_stepBefore 30 = .ok (.iload_n 3, 1) := by decide +kernel
theorem dX4_stepBefore_31 : decode cX4_stepBefore 31 = .ok (.iaload, 1) := by decide +kernel
theorem dX4_stepBefore_32 : decode cX4_stepBefore 32 = .ok (.iconst 4, 1) := by decide +kernel
theorem dX4_stepBefore_33 : decode cX4_stepBefore 33 = .ok (.invokestatic 31, 3) := by decide +kernel
theorem dX4_stepBefore_36 : decode cX4_stepBefore 36 = .ok (.iand, 1) := by decide +kernel
theorem dX4_stepBefore_37 : decode cX4_stepBefore 37 = .ok (.ireturn, 1) := by decide +kernel
theorem dX4_canReach_0 : decode cX4_canReach 0 = .ok (.aload_n 0, 1) := by decide +kernel
theorem dX4_canReach_1 : decode cX4_canReach 1 = .ok (.iload_n 1, 1) := by decide +kernel
theorem dX4_canReach_2 : decode cX4_canReach 2 = .ok (.sipush 511, 3) := by decide +kernel
theorem dX4_canReach_5 : decode cX4_canReach 5 = .ok (.sipush 1023, 3) := by decide +kernel
theorem dX4_canReach_8 : decode cX4_canReach 8 = .ok (.iload_n 2, 1) := by decide +kernel
theorem dX4_canReach_9 : decode cX4_canReach 9 = .ok (.iload_n 3, 1) := by decide +kernel
theorem dX4_canReach_10 : decode cX4_canReach 10 = .ok (.invokevirtual 27, 3) := by decide +kernel
theorem dX4_canReach_13 : decode cX4_canReach 13 = .ok (.iconst (-1), 1) := by decide +kernel
theorem dX4_canReach_14 : decode cX4_canReach 14 = .ok (.if_icmp .eq 7, 3) := by decide +kernel
theorem dX4_canReach_17 : decode cX4_canReach 17 = .ok (.iconst 1, 1) := by decide +kernel
theorem dX4_canReach_18 : decode cX4_canReach 18 = .ok (.goto 4, 3) := by decide +kernel
theorem dX4_canReach_21 : decode cX4_canReach 21 = .ok (.iconst 0, 1) := by decide +kernel
theorem dX4_canReach_22 : decode cX4_canReach 22 = .ok (.ireturn, 1) := by decide +kernel
theorem dX4_neededAmong_0 : decode cX4_neededAmong 0 = .ok (.iconst 0, 1) := by decide +kernel
theorem dX4_neededAmong_1 : decode cX4_neededAmong 1 = .ok (.istore 5, 2) := by decide +kernel
theorem dX4_neededAmong_3 : decode cX4_neededAmong 3 = .ok (.iconst 0, 1) := by decide +kernel
theorem dX4_neededAmong_4 : decode cX4_neededAmong 4 = .ok (.istore 6, 2) := by decide +kernel
theorem dX4_neededAmong_6 : decode cX4_neededAmong 6 = .ok (.iload 6, 2) := by decide +kernel
theorem dX4_neededAmong_8 : decode cX4_neededAmong 8 = .ok (.bipush 10, 2) := by decide +kernel
theorem dX4_neededAmong_10 : decode cX4_neededAmong 10 = .ok (.if_icmp .ge 56, 3) := by decide +kernel
theorem dX4_neededAmong_13 : decode cX4_neededAmong 13 = .ok (.sipush 1023, 3) := by decide +kernel
theorem dX4_neededAmong_16 : decode cX4_neededAmong 16 = .ok (.iconst 1, 1) := by decide +kernel
theorem dX4_neededAmong_17 : decode cX4_neededAmong 17 = .ok (.iload 6, 2) := by decide +kernel
theorem dX4_neededAmong_19 : decode cX4_neededAmong 19 = .ok (.ishl, 1) := by decide +kernel
theorem dX4_neededAmong_20 : decode cX4_neededAmong 20 = .ok (.iconst (-1), 1) := by decide +kernel
theorem dX4_neededAmong_21 : decode cX4_neededAmong 21 = .ok (.ixor, 1) := by decide +kernel
theorem dX4_neededAmong_22 : decode cX4_neededAmong 22 = .ok (.iand, 1) := by decide +kernel
theorem dX4_neededAmong_23 : decode cX4_neededAmong 23 = .ok (.istore 7, 2) := by decide +kernel
theorem dX4_neededAmong_25 : decode cX4_neededAmong 25 = .ok (.iload_n 1, 1) := by decide +kernel
theorem dX4_neededAmong_26 : decode cX4_neededAmong 26 = .ok (.iload 6, 2) := by decide +kernel
theorem dX4_neededAmong_28 : decode cX4_neededAmong 28 = .ok (.invokestatic 35, 3) := by decide +kernel
theorem dX4_neededAmong_31 : decode cX4_neededAmong 31 = .ok (.ifCond .eq 29, 3) := by decide +kernel
theorem dX4_neededAmong_34 : decode cX4_neededAmong 34 = .ok (.aload_n 0, 1) := by decide +kernel
theorem dX4_neededAmong_35 : decode cX4_neededAmong 35 = .ok (.iload_n 2, 1) := by decide +kernel
theorem dX4_neededAmong_36 : decode cX4_neededAmong 36 = .ok (.sipush 511, 3) := by decide +kernel
theorem dX4_neededAmong_39 : decode cX4_neededAmong 39 = .ok (.iload 7, 2) := by decide +kernel
theorem dX4_neededAmong_41 : decode cX4_neededAmong 41 = .ok (.iload_n 3, 1) := by decide +kernel
theorem dX4_neededAmong_42 : decode cX4_neededAmong 42 = .ok (.iload 4, 2) := by decide +kernel
theorem dX4_neededAmong_44 : decode cX4_neededAmong 44 = .ok (.invokevirtual 27, 3) := by decide +kernel
theorem dX4_neededAmong_47 : decode cX4_neededAmong 47 = .ok (.iconst (-1), 1) := by decide +kernel
theorem dX4_neededAmong_48 : decode cX4_neededAmong 48 = .ok (.if_icmp .ne 12, 3) := by decide +kernel
theorem dX4_neededAmong_51 : decode cX4_neededAmong 51 = .ok (.iload 5, 2) := by decide +kernel
theorem dX4_neededAmong_53 : decode cX4_neededAmong 53 = .ok (.iconst 1, 1) := by decide +kernel
theorem dX4_neededAmong_54 : decode cX4_neededAmong 54 = .ok (.iload 6, 2) := by decide +kernel
theorem dX4_neededAmong_56 : decode cX4_neededAmong 56 = .ok (.ishl, 1) := by decide +kernel
theorem dX4_neededAmong_57 : decode cX4_neededAmong 57 = .ok (.ior, 1) := by decide +kernel
theorem dX4_neededAmong_58 : decode cX4_neededAmong 58 = .ok (.istore 5, 2) := by decide +kernel
theorem dX4_neededAmong_60 : decode cX4_neededAmong 60 = .ok (.iinc 6 1, 3) := by decide +kernel
theorem dX4_neededAmong_63 : decode cX4_neededAmong 63 = .ok (.goto (-57), 3) := by decide +kernel
theorem dX4_neededAmong_66 : decode cX4_neededAmong 66 = .ok (.iload 5, 2) := by decide +kernel
theorem dX4_neededAmong_68 : decode cX4_neededAmong 68 = .ok (.ireturn, 1) := by decide +kernel
theorem dX4_everReady_0 : decode cX4_everReady 0 = .ok (.iconst 0, 1) := by decide +kernel
theorem dX4_everReady_1 : decode cX4_everReady 1 = .ok (.istore_n 3, 1) := by decide +kernel
theorem dX4_everReady_2 : decode cX4_everReady 2 = .ok (.iconst 0, 1) := by decide +kernel
theorem dX4_everReady_3 : decode cX4_everReady 3 = .ok (.istore 4, 2) := by decide +kernel
theorem dX4_everReady_5 : decode cX4_everReady 5 = .ok (.iload 4, 2) := by decide +kernel
theorem dX4_everReady_7 : decode cX4_everReady 7 = .ok (.iload_n 2, 1) := by decide +kernel
theorem dX4_everReady_8 : decode cX4_everReady 8 = .ok (.if_icmp .ge 36, 3) := by decide +kernel
theorem dX4_everReady_11 : decode cX4_everReady 11 = .ok (.aload_n 0, 1) := by decide +kernel
theorem dX4_everReady_12 : decode cX4_everReady 12 = .ok (.iload_n 1, 1) := by decide +kernel
theorem dX4_everReady_13 : decode cX4_everReady 13 = .ok (.sipush 511, 3) := by decide +kernel
theorem dX4_everReady_16 : decode cX4_everReady 16 = .ok (.sipush 1023, 3) := by decide +kernel
theorem dX4_everReady_19 : decode cX4_everReady 19 = .ok (.iconst 1, 1) := by decide +kernel
theorem dX4_everReady_20 : decode cX4_everReady 20 = .ok (.iload 4, 2) := by decide +kernel
theorem dX4_everReady_22 : decode cX4_everReady 22 = .ok (.ishl, 1) := by decide +kernel
theorem dX4_everReady_23 : decode cX4_everReady 23 = .ok (.iconst 0, 1) := by decide +kernel
theorem dX4_everReady_24 : decode cX4_everReady 24 = .ok (.invokevirtual 27, 3) := by decide +kernel
theorem dX4_everReady_27 : decode cX4_everReady 27 = .ok (.iconst (-1), 1) := by decide +kernel
theorem dX4_everReady_28 : decode cX4_everReady 28 = .ok (.if_icmp .eq 10, 3) := by decide +kernel
theorem dX4_everReady_31 : decode cX4_everReady 31 = .ok (.iload_n 3, 1) := by decide +kernel
theorem dX4_everReady_32 : decode cX4_everReady 32 = .ok (.iconst 1, 1) := by decide +kernel
theorem dX4_everReady_33 : decode cX4_everReady 33 = .ok (.iload 4, 2) := by decide +kernel
theorem dX4_everReady_35 : decode cX4_everReady 35 = .ok (.ishl, 1) := by decide +kernel
theorem dX4_everReady_36 : decode cX4_everReady 36 = .ok (.ior, 1) := by decide +kernel
theorem dX4_everReady_37 : decode cX4_everReady 37 = .ok (.istore_n 3, 1) := by decide +kernel
theorem dX4_everReady_38 : decode cX4_everReady 38 = .ok (.iinc 4 1, 3) := by decide +kernel
theorem dX4_everReady_41 : decode cX4_everReady 41 = .ok (.goto (-36), 3) := by decide +kernel
theorem dX4_everReady_44 : decode cX4_everReady 44 = .ok (.iload_n 3, 1) := by decide +kernel
theorem dX4_everReady_45 : decode cX4_everReady 45 = .ok (.ireturn, 1) := by decide +kernel
theorem dX4_everLive_0 : decode cX4_everLive 0 = .ok (.iconst 0, 1) := by decide +kernel
theorem dX4_everLive_1 : decode cX4_everLive 1 = .ok (.istore_n 2, 1) := by decide +kernel
theorem dX4_everLive_2 : decode cX4_everLive 2 = .ok (.iconst 0, 1) := by decide +kernel
theorem dX4_everLive_3 : decode cX4_everLive 3 = .ok (.istore_n 3, 1) := by decide +kernel
theorem dX4_everLive_4 : decode cX4_everLive 4 = .ok (.iload_n 3, 1) := by decide +kernel
theorem dX4_everLive_5 : decode cX4_everLive 5 = .ok (.bipush 6, 2) := by decide +kernel
theorem dX4_everLive_7 : decode cX4_everLive 7 = .ok (.if_icmp .ge 34, 3) := by decide +kernel
theorem dX4_everLive_10 : decode cX4_everLive 10 = .ok (.aload_n 0, 1) := by decide +kernel
theorem dX4_everLive_11 : decode cX4_everLive 11 = .ok (.iload_n 1, 1) := by decide +kernel
theorem dX4_everLive_12 : decode cX4_everLive 12 = .ok (.sipush 511, 3) := by decide +kernel
theorem dX4_everLive_15 : decode cX4_everLive 15 = .ok (.sipush 1023, 3) := by decide +kernel
theorem dX4_everLive_18 : decode cX4_everLive 18 = .ok (.iconst 0, 1) := by decide +kernel
theorem dX4_everLive_19 : decode cX4_everLive 19 = .ok (.iconst 1, 1) := by decide +kernel
theorem dX4_everLive_20 : decode cX4_everLive 20 = .ok (.iload_n 3, 1) := by decide +kernel
theorem dX4_everLive_21 : decode cX4_everLive 21 = .ok (.ishl, 1) := by decide +kernel
theorem dX4_everLive_22 : decode cX4_everLive 22 = .ok (.invokevirtual 27, 3) := by decide +kernel
theorem dX4_everLive_25 : decode cX4_everLive 25 = .ok (.iconst (-1), 1) := by decide +kernel
theorem dX4_everLive_26 : decode cX4_everLive 26 = .ok (.if_icmp .eq 9, 3) := by decide +kernel
theorem dX4_everLive_29 : decode cX4_everLive 29 = .ok (.iload_n 2, 1) := by decide +kernel
theorem dX4_everLive_30 : decode cX4_everLive 30 = .ok (.iconst 1, 1) := by decide +kernel
theorem dX4_everLive_31 : decode cX4_everLive 31 = .ok (.iload_n 3, 1) := by decide +kernel
theorem dX4_everLive_32 : decode cX4_everLive 32 = .ok (.ishl, 1) := by decide +kernel
theorem dX4_everLive_33 : decode cX4_everLive 33 = .ok (.ior, 1) := by decide +kernel
theorem dX4_everLive_34 : decode cX4_everLive 34 = .ok (.istore_n 2, 1) := by decide +kernel
theorem dX4_everLive_35 : decode cX4_everLive 35 = .ok (.iinc 3 1, 3) := by decide +kernel
theorem dX4_everLive_38 : decode cX4_everLive 38 = .ok (.goto (-34), 3) := by decide +kernel
theorem dX4_everLive_41 : decode cX4_everLive 41 = .ok (.iload_n 2, 1) := by decide +kernel
theorem dX4_everLive_42 : decode cX4_everLive 42 = .ok (.ireturn, 1) := by decide +kernel
theorem dX4_explore_0 : decode cX4_explore 0 = .ok (.iload_n 1, 1) := by decide +kernel
theorem dX4_explore_1 : decode cX4_explore 1 = .ok (.iload_n 2, 1) := by decide +kernel
theorem dX4_explore_2 : decode cX4_explore 2 = .ok (.iand, 1) := by decide +kernel
theorem dX4_explore_3 : decode cX4_explore 3 = .ok (.istore 6, 2) := by decide +kernel
theorem dX4_explore_5 : decode cX4_explore 5 = .ok (.aload_n 0, 1) := by decide +kernel
theorem dX4_explore_6 : decode cX4_explore 6 = .ok (.iload_n 2, 1) := by decide +kernel
theorem dX4_explore_7 : decode cX4_explore 7 = .ok (.invokevirtual 39, 3) := by decide +kernel
theorem dX4_explore_10 : decode cX4_explore 10 = .ok (.aload_n 0, 1) := by decide +kernel
theorem dX4_explore_11 : decode cX4_explore 11 = .ok (.iload 6, 2) := by decide +kernel
theorem dX4_explore_13 : decode cX4_explore 13 = .ok (.iconst 0, 1) := by decide +kernel
theorem dX4_explore_14 : decode cX4_explore 14 = .ok (.invokevirtual 43, 3) := by decide +kernel
theorem dX4_explore_17 : decode cX4_explore 17 = .ok (.pop, 1) := by decide +kernel
theorem dX4_explore_18 : decode cX4_explore 18 = .ok (.aload_n 0, 1) := by decide +kernel
theorem dX4_explore_19 : decode cX4_explore 19 = .ok (.getfield 23, 3) := by decide +kernel
theorem dX4_explore_22 : decode cX4_explore 22 = .ok (.iload 6, 2) := by decide +kernel
theorem dX4_explore_24 : decode cX4_explore 24 = .ok (.iload 4, 2) := by decide +kernel
theorem dX4_explore_26 : decode cX4_explore 26 = .ok (.iload 5, 2) := by decide +kernel
theorem dX4_explore_28 : decode cX4_explore 28 = .ok (.invokevirtual 47, 3) := by decide +kernel
theorem dX4_explore_31 : decode cX4_explore 31 = .ok (.ifCond .eq 5, 3) := by decide +kernel
theorem dX4_explore_34 : decode cX4_explore 34 = .ok (.iconst 0, 1) := by decide +kernel
theorem dX4_explore_35 : decode cX4_explore 35 = .ok (.ireturn, 1) := by decide +kernel
theorem dX4_explore_36 : decode cX4_explore 36 = .ok (.iconst 0, 1) := by decide +kernel
theorem dX4_explore_37 : decode cX4_explore 37 = .ok (.istore 7, 2) := by decide +kernel
theorem dX4_explore_39 : decode cX4_explore 39 = .ok (.iload 7, 2) := by decide +kernel
theorem dX4_explore_41 : decode cX4_explore 41 = .ok (.aload_n 0, 1) := by decide +kernel
theorem dX4_explore_42 : decode cX4_explore 42 = .ok (.getfield 53, 3) := by decide +kernel
theorem dX4_explore_45 : decode cX4_explore 45 = .ok (.if_icmp .ge 130, 3) := by decide +kernel
theorem dX4_explore_48 : decode cX4_explore 48 = .ok (.iload 7, 2) := by decide +kernel
theorem dX4_explore_50 : decode cX4_explore 50 = .ok (.sipush 8000, 3) := by decide +kernel
theorem dX4_explore_53 : decode cX4_explore 53 = .ok (.if_icmp .ge 122, 3) := by decide +kernel
theorem dX4_explore_56 : decode cX4_explore 56 = .ok (.aload_n 0, 1) := by decide +kernel
theorem dX4_explore_57 : decode cX4_explore 57 = .ok (.getfield 23, 3) := by decide +kernel
theorem dX4_explore_60 : decode cX4_explore 60 = .ok (.aload_n 0, 1) := by decide +kernel
theorem dX4_explore_61 : decode cX4_explore 61 = .ok (.getfield 11, 3) := by decide +kernel
theorem dX4_explore_64 : decode cX4_explore 64 = .ok (.iload 7, 2) := by decide +kernel
theorem dX4_explore_66 : decode cX4_explore 66 = .ok (.iaload, 1) := by decide +kernel
theorem dX4_explore_67 : decode cX4_explore 67 = .ok (.invokevirtual 57, 3) := by decide +kernel
theorem dX4_explore_70 : decode cX4_explore 70 = .ok (.iload_n 3, 1) := by decide +kernel
theorem dX4_explore_71 : decode cX4_explore 71 = .ok (.iand, 1) := by decide +kernel
theorem dX4_explore_72 : decode cX4_explore 72 = .ok (.istore 8, 2) := by decide +kernel
theorem dX4_explore_74 : decode cX4_explore 74 = .ok (.aload_n 0, 1) := by decide +kernel
theorem dX4_explore_75 : decode cX4_explore 75 = .ok (.getfield 11, 3) := by decide +kernel
theorem dX4_explore_78 : decode cX4_explore 78 = .ok (.iload 7, 2) := by decide +kernel
theorem dX4_explore_80 : decode cX4_explore 80 = .ok (.iaload, 1) := by decide +kernel
theorem dX4_explore_81 : decode cX4_explore 81 = .ok (.invokestatic 60, 3) := by decide +kernel
theorem dX4_explore_84 : decode cX4_explore 84 = .ok (.istore 9, 2) := by decide +kernel
theorem dX4_explore_86 : decode cX4_explore 86 = .ok (.iconst 0, 1) := by decide +kernel
theorem dX4_explore_87 : decode cX4_explore 87 = .ok (.istore 10, 2) := by decide +kernel
theorem dX4_explore_89 : decode cX4_explore 89 = .ok (.iload 10, 2) := by decide +kernel
theorem dX4_explore_91 : decode cX4_explore 91 = .ok (.bipush 10, 2) := by decide +kernel
theorem dX4_explore_93 : decode cX4_explore 93 = .ok (.if_icmp .ge 76, 3) := by decide +kernel
theorem dX4_explore_96 : decode cX4_explore 96 = .ok (.iload 8, 2) := by decide +kernel
theorem dX4_explore_98 : decode cX4_explore 98 = .ok (.iload 10, 2) := by decide +kernel
theorem dX4_explore_100 : decode cX4_explore 100 = .ok (.invokestatic 35, 3) := by decide +kernel
theorem dX4_explore_103 : decode cX4_explore 103 = .ok (.ifCond .ne 6, 3) := by decide +kernel
theorem dX4_explore_106 : decode cX4_explore 106 = .ok (.goto 57, 3) := by decide +kernel
theorem dX4_explore_109 : decode cX4_explore 109 = .ok (.aload_n 0, 1) := by decide +kernel
theorem dX4_explore_110 : decode cX4_explore 110 = .ok (.getfield 23, 3) := by decide +kernel
theorem dX4_explore_113 : decode cX4_explore 113 = .ok (.iload 9, 2) := by decide +kernel
theorem dX4_explore_115 : decode cX4_explore 115 = .ok (.iload 10, 2) := by decide +kernel
theorem dX4_explore_117 : decode cX4_explore 117 = .ok (.invokevirtual 63, 3) := by decide +kernel
theorem dX4_explore_120 : decode cX4_explore 120 = .ok (.iload_n 2, 1) := by decide +kernel
theorem dX4_explore_121 : decode cX4_explore 121 = .ok (.iand, 1) := by decide +kernel
theorem dX4_explore_122 : decode cX4_explore 122 = .ok (.istore 11, 2) := by decide +kernel
theorem dX4_explore_124 : decode cX4_explore 124 = .ok (.aload_n 0, 1) := by decide +kernel
theorem dX4_explore_125 : decode cX4_explore 125 = .ok (.iload 11, 2) := by decide +kernel
theorem dX4_explore_127 : decode cX4_explore 127 = .ok (.iload 7, 2) := by decide +kernel
theorem dX4_explore_129 : decode cX4_explore 129 = .ok (.iconst 4, 1) := by decide +kernel
theorem dX4_explore_130 : decode cX4_explore 130 = .ok (.ishl, 1) := by decide +kernel
theorem dX4_explore_131 : decode cX4_explore 131 = .ok (.iload 10, 2) := by decide +kernel
theorem dX4_explore_133 : decode cX4_explore 133 = .ok (.ior, 1) := by decide +kernel
theorem dX4_explore_134 : decode cX4_explore 134 = .ok (.invokevirtual 43, 3) := by decide +kernel
theorem dX4_explore_137 : decode cX4_explore 137 = .ok (.ifCond .eq 26, 3) := by decide +kernel
theorem dX4_explore_140 : decode cX4_explore 140 = .ok (.aload_n 0, 1) := by decide +kernel
theorem dX4_explore_141 : decode cX4_explore 141 = .ok (.getfield 23, 3) := by decide +kernel
theorem dX4_explore_144 : decode cX4_explore 144 = .ok (.iload 11, 2) := by decide +kernel
theorem dX4_explore_146 : decode cX4_explore 146 = .ok (.iload 4, 2) := by decide +kernel
theorem dX4_explore_148 : decode cX4_explore 148 = .ok (.iload 5, 2) := by decide +kernel
theorem dX4_explore_150 : decode cX4_explore 150 = .ok (.invokevirtual 47, 3) := by decide +kernel
theorem dX4_explore_153 : decode cX4_explore 153 = .ok (.ifCond .eq 10, 3) := by decide +kernel
theorem dX4_explore_156 : decode cX4_explore 156 = .ok (.aload_n 0, 1) := by decide +kernel
theorem dX4_explore_157 : decode cX4_explore 157 = .ok (.getfield 53, 3) := by decide +kernel
theorem dX4_explore_160 : decode cX4_explore 160 = .ok (.iconst 1, 1) := by decide +kernel
theorem dX4_explore_161 : decode cX4_explore 161 = .ok (.isub, 1) := by decide +kernel
theorem dX4_explore_162 : decode cX4_explore 162 = .ok (.ireturn, 1) := by decide +kernel
theorem dX4_explore_163 : decode cX4_explore 163 = .ok (.iinc 10 1, 3) := by decide +kernel
theorem dX4_explore_166 : decode cX4_explore 166 = .ok (.goto (-77), 3) := by decide +kernel
theorem dX4_explore_169 : decode cX4_explore 169 = .ok (.iinc 7 1, 3) := by decide +kernel
theorem dX4_explore_172 : decode cX4_explore 172 = .ok (.goto (-133), 3) := by decide +kernel
theorem dX4_explore_175 : decode cX4_explore 175 = .ok (.iconst (-1), 1) := by decide +kernel
theorem dX4_explore_176 : decode cX4_explore 176 = .ok (.ireturn, 1) := by decide +kernel
theorem dX4_forget_0 : decode cX4_forget 0 = .ok (.iload_n 1, 1) := by decide +kernel
theorem dX4_forget_1 : decode cX4_forget 1 = .ok (.iconst 5, 1) := by decide +kernel
theorem dX4_forget_2 : decode cX4_forget 2 = .ok (.ishr, 1) := by decide +kernel
theorem dX4_forget_3 : decode cX4_forget 3 = .ok (.istore_n 2, 1) := by decide +kernel
theorem dX4_forget_4 : decode cX4_forget 4 = .ok (.iconst 0, 1) := by decide +kernel
theorem dX4_forget_5 : decode cX4_forget 5 = .ok (.istore_n 3, 1) := by decide +kernel
theorem dX4_forget_6 : decode cX4_forget 6 = .ok (.iload_n 3, 1) := by decide +kernel
theorem dX4_forget_7 : decode cX4_forget 7 = .ok (.iload_n 2, 1) := by decide +kernel
theorem dX4_forget_8 : decode cX4_forget 8 = .ok (.if_icmp .gt 16, 3) := by decide +kernel
theorem dX4_forget_11 : decode cX4_forget 11 = .ok (.aload_n 0, 1) := by decide +kernel
theorem dX4_forget_12 : decode cX4_forget 12 = .ok (.getfield 20, 3) := by decide +kernel
theorem dX4_forget_15 : decode cX4_forget 15 = .ok (.iload_n 3, 1) := by decide +kernel
theorem dX4_forget_16 : decode cX4_forget 16 = .ok (.iconst 0, 1) := by decide +kernel
theorem dX4_forget_17 : decode cX4_forget 17 = .ok (.iastore, 1) := by decide +kernel
theorem dX4_forget_18 : decode cX4_forget 18 = .ok (.iinc 3 1, 3) := by decide +kernel
theorem dX4_forget_21 : decode cX4_forget 21 = .ok (.goto (-15), 3) := by decide +kernel
theorem dX4_forget_24 : decode cX4_forget 24 = .ok (.aload_n 0, 1) := by decide +kernel
theorem dX4_forget_25 : decode cX4_forget 25 = .ok (.iconst 0, 1) := by decide +kernel
theorem dX4_forget_26 : decode cX4_forget 26 = .ok (.putfield 53, 3) := by decide +kernel
theorem dX4_forget_29 : decode cX4_forget 29 = .ok (.return_, 1) := by decide +kernel
theorem dX4_add_0 : decode cX4_add 0 = .ok (.iload_n 1, 1) := by decide +kernel
theorem dX4_add_1 : decode cX4_add 1 = .ok (.iconst 5, 1) := by decide +kernel
theorem dX4_add_2 : decode cX4_add 2 = .ok (.ishr, 1) := by decide +kernel
theorem dX4_add_3 : decode cX4_add 3 = .ok (.istore_n 3, 1) := by decide +kernel
theorem dX4_add_4 : decode cX4_add 4 = .ok (.iconst 1, 1) := by decide +kernel
theorem dX4_add_5 : decode cX4_add 5 = .ok (.iload_n 1, 1) := by decide +kernel
theorem dX4_add_6 : decode cX4_add 6 = .ok (.iconst 5, 1) := by decide +kernel
theorem dX4_add_7 : decode cX4_add 7 = .ok (.invokestatic 31, 3) := by decide +kernel
theorem dX4_add_10 : decode cX4_add 10 = .ok (.iand, 1) := by decide +kernel
theorem dX4_add_11 : decode cX4_add 11 = .ok (.ishl, 1) := by decide +kernel
theorem dX4_add_12 : decode cX4_add 12 = .ok (.istore 4, 2) := by decide +kernel
theorem dX4_add_14 : decode cX4_add 14 = .ok (.aload_n 0, 1) := by decide +kernel
theorem dX4_add_15 : decode cX4_add 15 = .ok (.getfield 20, 3) := by decide +kernel
theorem dX4_add_18 : decode cX4_add 18 = .ok (.iload_n 3, 1) := by decide +kernel
theorem dX4_add_19 : decode cX4_add 19 = .ok (.iaload, 1) := by decide +kernel
theorem dX4_add_20 : decode cX4_add 20 = .ok (.iload 4, 2) := by decide +kernel
theorem dX4_add_22 : decode cX4_add 22 = .ok (.iand, 1) := by decide +kernel
theorem dX4_add_23 : decode cX4_add 23 = .ok (.ifCond .ne 13, 3) := by decide +kernel
theorem dX4_add_26 : decode cX4_add 26 = .ok (.aload_n 0, 1) := by decide +kernel
theorem dX4_add_27 : decode cX4_add 27 = .ok (.getfield 53, 3) := by decide +kernel
theorem dX4_add_30 : decode cX4_add 30 = .ok (.sipush 8000, 3) := by decide +kernel
theorem dX4_add_33 : decode cX4_add 33 = .ok (.if_icmp .lt 5, 3) := by decide +kernel
theorem dX4_add_36 : decode cX4_add 36 = .ok (.iconst 0, 1) := by decide +kernel
theorem dX4_add_37 : decode cX4_add 37 = .ok (.ireturn, 1) := by decide +kernel
theorem dX4_add_38 : decode cX4_add 38 = .ok (.aload_n 0, 1) := by decide +kernel
theorem dX4_add_39 : decode cX4_add 39 = .ok (.getfield 20, 3) := by decide +kernel
theorem dX4_add_42 : decode cX4_add 42 = .ok (.iload_n 3, 1) := by decide +kernel
theorem dX4_add_43 : decode cX4_add 43 = .ok (.dup2, 1) := by decide +kernel
theorem dX4_add_44 : decode cX4_add 44 = .ok (.iaload, 1) := by decide +kernel
theorem dX4_add_45 : decode cX4_add 45 = .ok (.iload 4, 2) := by decide +kernel
theorem dX4_add_47 : decode cX4_add 47 = .ok (.ior, 1) := by decide +kernel
theorem dX4_add_48 : decode cX4_add 48 = .ok (.iastore, 1) := by decide +kernel
theorem dX4_add_49 : decode cX4_add 49 = .ok (.aload_n 0, 1) := by decide +kernel
theorem dX4_add_50 : decode cX4_add 50 = .ok (.getfield 11, 3) := by decide +kernel
theorem dX4_add_53 : decode cX4_add 53 = .ok (.aload_n 0, 1) := by decide +kernel
theorem dX4_add_54 : decode cX4_add 54 = .ok (.getfield 53, 3) := by decide +kernel
theorem dX4_add_57 : decode cX4_add 57 = .ok (.iload_n 1, 1) := by decide +kernel
theorem dX4_add_58 : decode cX4_add 58 = .ok (.iastore, 1) := by decide +kernel
theorem dX4_add_59 : decode cX4_add 59 = .ok (.aload_n 0, 1) := by decide +kernel
theorem dX4_add_60 : decode cX4_add 60 = .ok (.getfield 15, 3) := by decide +kernel
theorem dX4_add_63 : decode cX4_add 63 = .ok (.aload_n 0, 1) := by decide +kernel
theorem dX4_add_64 : decode cX4_add 64 = .ok (.getfield 53, 3) := by decide +kernel
theorem dX4_add_67 : decode cX4_add 67 = .ok (.iload_n 2, 1) := by decide +kernel
theorem dX4_add_68 : decode cX4_add 68 = .ok (.iastore, 1) := by decide +kernel
theorem dX4_add_69 : decode cX4_add 69 = .ok (.aload_n 0, 1) := by decide +kernel
theorem dX4_add_70 : decode cX4_add 70 = .ok (.dup, 1) := by decide +kernel
theorem dX4_add_71 : decode cX4_add 71 = .ok (.getfield 53, 3) := by decide +kernel
theorem dX4_add_74 : decode cX4_add 74 = .ok (.iconst 1, 1) := by decide +kernel
theorem dX4_add_75 : decode cX4_add 75 = .ok (.iadd, 1) := by decide +kernel
end
section
theorem dX4_add_76 : decode cX4_add 76 = .ok (.putfield 53, 3) := by decide +kernel
theorem dX4_add_79 : decode cX4_add 79 = .ok (.iconst 1, 1) := by decide +kernel
theorem dX4_add_80 : decode cX4_add 80 = .ok (.ireturn, 1) := by decide +kernel
theorem dX5_init_0 : decode cX5_init 0 = .ok (.aload_n 0, 1) := by decide +kernel
theorem dX5_init_1 : decode cX5_init 1 = .ok (.invokespecial 3, 3) := by decide +kernel
theorem dX5_init_4 : decode cX5_init 4 = .ok (.aload_n 0, 1) := by decide +kernel
theorem dX5_init_5 : decode cX5_init 5 = .ok (.new 9, 3) := by decide +kernel
theorem dX5_init_8 : decode cX5_init 8 = .ok (.dup, 1) := by decide +kernel
theorem dX5_init_9 : decode cX5_init 9 = .ok (.invokespecial 11, 3) := by decide +kernel
theorem dX5_init_12 : decode cX5_init 12 = .ok (.putfield 12, 3) := by decide +kernel
theorem dX5_init_15 : decode cX5_init 15 = .ok (.aload_n 0, 1) := by decide +kernel
theorem dX5_init_16 : decode cX5_init 16 = .ok (.new 16, 3) := by decide +kernel
theorem dX5_init_19 : decode cX5_init 19 = .ok (.dup, 1) := by decide +kernel
theorem dX5_init_20 : decode cX5_init 20 = .ok (.invokespecial 18, 3) := by decide +kernel
theorem dX5_init_23 : decode cX5_init 23 = .ok (.putfield 19, 3) := by decide +kernel
theorem dX5_init_26 : decode cX5_init 26 = .ok (.aload_n 0, 1) := by decide +kernel
theorem dX5_init_27 : decode cX5_init 27 = .ok (.new 23, 3) := by decide +kernel
theorem dX5_init_30 : decode cX5_init 30 = .ok (.dup, 1) := by decide +kernel
theorem dX5_init_31 : decode cX5_init 31 = .ok (.aload_n 0, 1) := by decide +kernel
theorem dX5_init_32 : decode cX5_init 32 = .ok (.getfield 12, 3) := by decide +kernel
theorem dX5_init_35 : decode cX5_init 35 = .ok (.aload_n 0, 1) := by decide +kernel
theorem dX5_init_36 : decode cX5_init 36 = .ok (.getfield 19, 3) := by decide +kernel
theorem dX5_init_39 : decode cX5_init 39 = .ok (.invokespecial 25, 3) := by decide +kernel
theorem dX5_init_42 : decode cX5_init 42 = .ok (.putfield 28, 3) := by decide +kernel
theorem dX5_init_45 : decode cX5_init 45 = .ok (.aload_n 0, 1) := by decide +kernel
theorem dX5_init_46 : decode cX5_init 46 = .ok (.new 32, 3) := by decide +kernel
theorem dX5_init_49 : decode cX5_init 49 = .ok (.dup, 1) := by decide +kernel
theorem dX5_init_50 : decode cX5_init 50 = .ok (.aload_n 0, 1) := by decide +kernel
theorem dX5_init_51 : decode cX5_init 51 = .ok (.getfield 28, 3) := by decide +kernel
theorem dX5_init_54 : decode cX5_init 54 = .ok (.invokespecial 34, 3) := by decide +kernel
theorem dX5_init_57 : decode cX5_init 57 = .ok (.putfield 37, 3) := by decide +kernel
theorem dX5_init_60 : decode cX5_init 60 = .ok (.aload_n 0, 1) := by decide +kernel
theorem dX5_init_61 : decode cX5_init 61 = .ok (.iconst 2, 1) := by decide +kernel
theorem dX5_init_62 : decode cX5_init 62 = .ok (.anewarray 9, 3) := by decide +kernel
theorem dX5_init_65 : decode cX5_init 65 = .ok (.putfield 41, 3) := by decide +kernel
theorem dX5_init_68 : decode cX5_init 68 = .ok (.iconst 0, 1) := by decide +kernel
theorem dX5_init_69 : decode cX5_init 69 = .ok (.istore_n 1, 1) := by decide +kernel
theorem dX5_init_70 : decode cX5_init 70 = .ok (.iload_n 1, 1) := by decide +kernel
theorem dX5_init_71 : decode cX5_init 71 = .ok (.iconst 2, 1) := by decide +kernel
theorem dX5_init_72 : decode cX5_init 72 = .ok (.if_icmp .ge 22, 3) := by decide +kernel
theorem dX5_init_75 : decode cX5_init 75 = .ok (.aload_n 0, 1) := by decide +kernel
theorem dX5_init_76 : decode cX5_init 76 = .ok (.getfield 41, 3) := by decide +kernel
theorem dX5_init_79 : decode cX5_init 79 = .ok (.iload_n 1, 1) := by decide +kernel
theorem dX5_init_80 : decode cX5_init 80 = .ok (.new 9, 3) := by decide +kernel
theorem dX5_init_83 : decode cX5_init 83 = .ok (.dup, 1) := by decide +kernel
theorem dX5_init_84 : decode cX5_init 84 = .ok (.invokespecial 11, 3) := by decide +kernel
theorem dX5_init_87 : decode cX5_init 87 = .ok (.aastore, 1) := by decide +kernel
theorem dX5_init_88 : decode cX5_init 88 = .ok (.iinc 1 1, 3) := by decide +kernel
theorem dX5_init_91 : decode cX5_init 91 = .ok (.goto (-21), 3) := by decide +kernel
theorem dX5_init_94 : decode cX5_init 94 = .ok (.aload_n 0, 1) := by decide +kernel
theorem dX5_init_95 : decode cX5_init 95 = .ok (.iconst 0, 1) := by decide +kernel
theorem dX5_init_96 : decode cX5_init 96 = .ok (.putfield 45, 3) := by decide +kernel
theorem dX5_init_99 : decode cX5_init 99 = .ok (.return_, 1) := by decide +kernel
theorem dX5_line_0 : decode cX5_line 0 = .ok (.iload_n 1, 1) := by decide +kernel
theorem dX5_line_1 : decode cX5_line 1 = .ok (.invokestatic 49, 3) := by decide +kernel
theorem dX5_line_4 : decode cX5_line 4 = .ok (.ifCond .eq 15, 3) := by decide +kernel
theorem dX5_line_7 : decode cX5_line 7 = .ok (.iload_n 2, 1) := by decide +kernel
theorem dX5_line_8 : decode cX5_line 8 = .ok (.invokestatic 49, 3) := by decide +kernel
theorem dX5_line_11 : decode cX5_line 11 = .ok (.ifCond .eq 8, 3) := by decide +kernel
theorem dX5_line_14 : decode cX5_line 14 = .ok (.iload_n 1, 1) := by decide +kernel
theorem dX5_line_15 : decode cX5_line 15 = .ok (.iload_n 2, 1) := by decide +kernel
theorem dX5_line_16 : decode cX5_line 16 = .ok (.if_icmp .ne 5, 3) := by decide +kernel
theorem dX5_line_19 : decode cX5_line 19 = .ok (.iconst (-1), 1) := by decide +kernel
theorem dX5_line_20 : decode cX5_line 20 = .ok (.ireturn, 1) := by decide +kernel
theorem dX5_line_21 : decode cX5_line 21 = .ok (.iload_n 3, 1) := by decide +kernel
theorem dX5_line_22 : decode cX5_line 22 = .ok (.bipush 9, 2) := by decide +kernel
theorem dX5_line_24 : decode cX5_line 24 = .ok (.invokestatic 53, 3) := by decide +kernel
theorem dX5_line_27 : decode cX5_line 27 = .ok (.ifCond .ne 6, 3) := by decide +kernel
theorem dX5_line_30 : decode cX5_line 30 = .ok (.bipush (-2), 2) := by decide +kernel
theorem dX5_line_32 : decode cX5_line 32 = .ok (.ireturn, 1) := by decide +kernel
theorem dX5_line_33 : decode cX5_line 33 = .ok (.aload_n 0, 1) := by decide +kernel
theorem dX5_line_34 : decode cX5_line 34 = .ok (.getfield 12, 3) := by decide +kernel
theorem dX5_line_37 : decode cX5_line 37 = .ok (.getfield 57, 3) := by decide +kernel
theorem dX5_line_40 : decode cX5_line 40 = .ok (.bipush 6, 2) := by decide +kernel
theorem dX5_line_42 : decode cX5_line 42 = .ok (.if_icmp .lt 6, 3) := by decide +kernel
theorem dX5_line_45 : decode cX5_line 45 = .ok (.bipush (-4), 2) := by decide +kernel
theorem dX5_line_47 : decode cX5_line 47 = .ok (.ireturn, 1) := by decide +kernel
theorem dX5_line_48 : decode cX5_line 48 = .ok (.aload_n 0, 1) := by decide +kernel
theorem dX5_line_49 : decode cX5_line 49 = .ok (.getfield 12, 3) := by decide +kernel
theorem dX5_line_52 : decode cX5_line 52 = .ok (.iload_n 1, 1) := by decide +kernel
theorem dX5_line_53 : decode cX5_line 53 = .ok (.iload_n 2, 1) := by decide +kernel
theorem dX5_line_54 : decode cX5_line 54 = .ok (.invokestatic 60, 3) := by decide +kernel
theorem dX5_line_57 : decode cX5_line 57 = .ok (.iload_n 1, 1) := by decide +kernel
theorem dX5_line_58 : decode cX5_line 58 = .ok (.iload_n 2, 1) := by decide +kernel
theorem dX5_line_59 : decode cX5_line 59 = .ok (.invokestatic 66, 3) := by decide +kernel
theorem dX5_line_62 : decode cX5_line 62 = .ok (.iload_n 3, 1) := by decide +kernel
theorem dX5_line_63 : decode cX5_line 63 = .ok (.invokevirtual 69, 3) := by decide +kernel
theorem dX5_line_66 : decode cX5_line 66 = .ok (.istore 4, 2) := by decide +kernel
theorem dX5_line_68 : decode cX5_line 68 = .ok (.aload_n 0, 1) := by decide +kernel
theorem dX5_line_69 : decode cX5_line 69 = .ok (.getfield 19, 3) := by decide +kernel
theorem dX5_line_72 : decode cX5_line 72 = .ok (.aload_n 0, 1) := by decide +kernel
theorem dX5_line_73 : decode cX5_line 73 = .ok (.getfield 12, 3) := by decide +kernel
theorem dX5_line_76 : decode cX5_line 76 = .ok (.iload 4, 2) := by decide +kernel
theorem dX5_line_78 : decode cX5_line 78 = .ok (.invokevirtual 73, 3) := by decide +kernel
theorem dX5_line_81 : decode cX5_line 81 = .ok (.iload 4, 2) := by decide +kernel
theorem dX5_line_83 : decode cX5_line 83 = .ok (.ireturn, 1) := by decide +kernel
theorem dX5_machine_0 : decode cX5_machine 0 = .ok (.iload_n 1, 1) := by decide +kernel
theorem dX5_machine_1 : decode cX5_machine 1 = .ok (.invokestatic 49, 3) := by decide +kernel
theorem dX5_machine_4 : decode cX5_machine 4 = .ok (.ifCond .ne 5, 3) := by decide +kernel
theorem dX5_machine_7 : decode cX5_machine 7 = .ok (.iconst (-1), 1) := by decide +kernel
theorem dX5_machine_8 : decode cX5_machine 8 = .ok (.ireturn, 1) := by decide +kernel
theorem dX5_machine_9 : decode cX5_machine 9 = .ok (.iload_n 2, 1) := by decide +kernel
theorem dX5_machine_10 : decode cX5_machine 10 = .ok (.bipush 20, 2) := by decide +kernel
theorem dX5_machine_12 : decode cX5_machine 12 = .ok (.invokestatic 53, 3) := by decide +kernel
theorem dX5_machine_15 : decode cX5_machine 15 = .ok (.ifCond .eq 21, 3) := by decide +kernel
theorem dX5_machine_18 : decode cX5_machine 18 = .ok (.iload_n 3, 1) := by decide +kernel
theorem dX5_machine_19 : decode cX5_machine 19 = .ok (.bipush 40, 2) := by decide +kernel
theorem dX5_machine_21 : decode cX5_machine 21 = .ok (.invokestatic 53, 3) := by decide +kernel
theorem dX5_machine_24 : decode cX5_machine 24 = .ok (.ifCond .eq 12, 3) := by decide +kernel
theorem dX5_machine_27 : decode cX5_machine 27 = .ok (.iload 4, 2) := by decide +kernel
theorem dX5_machine_29 : decode cX5_machine 29 = .ok (.iconst 3, 1) := by decide +kernel
theorem dX5_machine_30 : decode cX5_machine 30 = .ok (.invokestatic 53, 3) := by decide +kernel
theorem dX5_machine_33 : decode cX5_machine 33 = .ok (.ifCond .ne 6, 3) := by decide +kernel
theorem dX5_machine_36 : decode cX5_machine 36 = .ok (.bipush (-2), 2) := by decide +kernel
theorem dX5_machine_38 : decode cX5_machine 38 = .ok (.ireturn, 1) := by decide +kernel
theorem dX5_machine_39 : decode cX5_machine 39 = .ok (.aload_n 0, 1) := by decide +kernel
theorem dX5_machine_40 : decode cX5_machine 40 = .ok (.getfield 12, 3) := by decide +kernel
theorem dX5_machine_43 : decode cX5_machine 43 = .ok (.getfield 77, 3) := by decide +kernel
theorem dX5_machine_46 : decode cX5_machine 46 = .ok (.iconst 3, 1) := by decide +kernel
theorem dX5_machine_47 : decode cX5_machine 47 = .ok (.if_icmp .lt 6, 3) := by decide +kernel
theorem dX5_machine_50 : decode cX5_machine 50 = .ok (.bipush (-4), 2) := by decide +kernel
theorem dX5_machine_52 : decode cX5_machine 52 = .ok (.ireturn, 1) := by decide +kernel
theorem dX5_machine_53 : decode cX5_machine 53 = .ok (.aload_n 0, 1) := by decide +kernel
theorem dX5_machine_54 : decode cX5_machine 54 = .ok (.getfield 12, 3) := by decide +kernel
theorem dX5_machine_57 : decode cX5_machine 57 = .ok (.iload_n 1, 1) := by decide +kernel
theorem dX5_machine_58 : decode cX5_machine 58 = .ok (.iload_n 2, 1) := by decide +kernel
theorem dX5_machine_59 : decode cX5_machine 59 = .ok (.iload_n 3, 1) := by decide +kernel
theorem dX5_machine_60 : decode cX5_machine 60 = .ok (.iload 4, 2) := by decide +kernel
theorem dX5_machine_62 : decode cX5_machine 62 = .ok (.invokevirtual 80, 3) := by decide +kernel
theorem dX5_machine_65 : decode cX5_machine 65 = .ok (.ireturn, 1) := by decide +kernel
theorem dX5_dark_0 : decode cX5_dark 0 = .ok (.aload_n 0, 1) := by decide +kernel
theorem dX5_dark_1 : decode cX5_dark 1 = .ok (.getfield 12, 3) := by decide +kernel
theorem dX5_dark_4 : decode cX5_dark 4 = .ok (.getfield 84, 3) := by decide +kernel
theorem dX5_dark_7 : decode cX5_dark 7 = .ok (.invokestatic 87, 3) := by decide +kernel
theorem dX5_dark_10 : decode cX5_dark 10 = .ok (.invokestatic 93, 3) := by decide +kernel
theorem dX5_dark_13 : decode cX5_dark 13 = .ok (.istore_n 1, 1) := by decide +kernel
theorem dX5_dark_14 : decode cX5_dark 14 = .ok (.aload_n 0, 1) := by decide +kernel
theorem dX5_dark_15 : decode cX5_dark 15 = .ok (.getfield 12, 3) := by decide +kernel
theorem dX5_dark_18 : decode cX5_dark 18 = .ok (.iconst 0, 1) := by decide +kernel
theorem dX5_dark_19 : decode cX5_dark 19 = .ok (.putfield 84, 3) := by decide +kernel
theorem dX5_dark_22 : decode cX5_dark 22 = .ok (.aload_n 0, 1) := by decide +kernel
theorem dX5_dark_23 : decode cX5_dark 23 = .ok (.getfield 12, 3) := by decide +kernel
theorem dX5_dark_26 : decode cX5_dark 26 = .ok (.iconst 0, 1) := by decide +kernel
theorem dX5_dark_27 : decode cX5_dark 27 = .ok (.putfield 98, 3) := by decide +kernel
theorem dX5_dark_30 : decode cX5_dark 30 = .ok (.iload_n 1, 1) := by decide +kernel
theorem dX5_dark_31 : decode cX5_dark 31 = .ok (.ireturn, 1) := by decide +kernel
theorem dX5_of_0 : decode cX5_of 0 = .ok (.aload_n 0, 1) := by decide +kernel
theorem dX5_of_1 : decode cX5_of 1 = .ok (.getfield 12, 3) := by decide +kernel
theorem dX5_of_4 : decode cX5_of 4 = .ok (.iload_n 1, 1) := by decide +kernel
theorem dX5_of_5 : decode cX5_of 5 = .ok (.invokevirtual 101, 3) := by decide +kernel
theorem dX5_of_8 : decode cX5_of 8 = .ok (.ifCond .ne 5, 3) := by decide +kernel
theorem dX5_of_11 : decode cX5_of 11 = .ok (.iconst (-1), 1) := by decide +kernel
theorem dX5_of_12 : decode cX5_of 12 = .ok (.ireturn, 1) := by decide +kernel
theorem dX5_of_13 : decode cX5_of 13 = .ok (.iload_n 2, 1) := by decide +kernel
theorem dX5_of_14 : decode cX5_of 14 = .ok (.tableswitch 75 0 3 #[30, 40, 50, 60], 30) := by decide +kernel
theorem dX5_of_44 : decode cX5_of 44 = .ok (.aload_n 0, 1) := by decide +kernel
theorem dX5_of_45 : decode cX5_of 45 = .ok (.getfield 12, 3) := by decide +kernel
theorem dX5_of_48 : decode cX5_of 48 = .ok (.getfield 104, 3) := by decide +kernel
theorem dX5_of_51 : decode cX5_of 51 = .ok (.iload_n 1, 1) := by decide +kernel
theorem dX5_of_52 : decode cX5_of 52 = .ok (.iaload, 1) := by decide +kernel
theorem dX5_of_53 : decode cX5_of 53 = .ok (.ireturn, 1) := by decide +kernel
theorem dX5_of_54 : decode cX5_of 54 = .ok (.aload_n 0, 1) := by decide +kernel
theorem dX5_of_55 : decode cX5_of 55 = .ok (.getfield 12, 3) := by decide +kernel
theorem dX5_of_58 : decode cX5_of 58 = .ok (.getfield 108, 3) := by decide +kernel
theorem dX5_of_61 : decode cX5_of 61 = .ok (.iload_n 1, 1) := by decide +kernel
theorem dX5_of_62 : decode cX5_of 62 = .ok (.iaload, 1) := by decide +kernel
theorem dX5_of_63 : decode cX5_of 63 = .ok (.ireturn, 1) := by decide +kernel
theorem dX5_of_64 : decode cX5_of 64 = .ok (.aload_n 0, 1) := by decide +kernel
theorem dX5_of_65 : decode cX5_of 65 = .ok (.getfield 12, 3) := by decide +kernel
theorem dX5_of_68 : decode cX5_of 68 = .ok (.getfield 111, 3) := by decide +kernel
theorem dX5_of_71 : decode cX5_of 71 = .ok (.iload_n 1, 1) := by decide +kernel
theorem dX5_of_72 : decode cX5_of 72 = .ok (.iaload, 1) := by decide +kernel
theorem dX5_of_73 : decode cX5_of 73 = .ok (.ireturn, 1) := by decide +kernel
theorem dX5_of_74 : decode cX5_of 74 = .ok (.aload_n 0, 1) := by decide +kernel
theorem dX5_of_75 : decode cX5_of 75 = .ok (.getfield 12, 3) := by decide +kernel
theorem dX5_of_78 : decode cX5_of 78 = .ok (.getfield 84, 3) := by decide +kernel
theorem dX5_of_81 : decode cX5_of 81 = .ok (.invokestatic 114, 3) := by decide +kernel
theorem dX5_of_84 : decode cX5_of 84 = .ok (.iload_n 1, 1) := by decide +kernel
theorem dX5_of_85 : decode cX5_of 85 = .ok (.invokestatic 117, 3) := by decide +kernel
theorem dX5_of_88 : decode cX5_of 88 = .ok (.ireturn, 1) := by decide +kernel
theorem dX5_of_89 : decode cX5_of 89 = .ok (.bipush (-2), 2) := by decide +kernel
theorem dX5_of_91 : decode cX5_of 91 = .ok (.ireturn, 1) := by decide +kernel
theorem dX5_at_0 : decode cX5_at 0 = .ok (.aload_n 0, 1) := by decide +kernel
theorem dX5_at_1 : decode cX5_at 1 = .ok (.getfield 12, 3) := by decide +kernel
theorem dX5_at_4 : decode cX5_at 4 = .ok (.iload_n 1, 1) := by decide +kernel
theorem dX5_at_5 : decode cX5_at 5 = .ok (.invokevirtual 120, 3) := by decide +kernel
theorem dX5_at_8 : decode cX5_at 8 = .ok (.ifCond .ne 5, 3) := by decide +kernel
theorem dX5_at_11 : decode cX5_at 11 = .ok (.iconst (-1), 1) := by decide +kernel
theorem dX5_at_12 : decode cX5_at 12 = .ok (.ireturn, 1) := by decide +kernel
theorem dX5_at_13 : decode cX5_at 13 = .ok (.iload_n 2, 1) := by decide +kernel
theorem dX5_at_14 : decode cX5_at 14 = .ok (.tableswitch 105 0 4 #[34, 44, 54, 64, 74], 34) := by decide +kernel
theorem dX5_at_48 : decode cX5_at 48 = .ok (.aload_n 0, 1) := by decide +kernel
theorem dX5_at_49 : decode cX5_at 49 = .ok (.getfield 12, 3) := by decide +kernel
theorem dX5_at_52 : decode cX5_at 52 = .ok (.getfield 123, 3) := by decide +kernel
theorem dX5_at_55 : decode cX5_at 55 = .ok (.iload_n 1, 1) := by decide +kernel
theorem dX5_at_56 : decode cX5_at 56 = .ok (.iaload, 1) := by decide +kernel
theorem dX5_at_57 : decode cX5_at 57 = .ok (.ireturn, 1) := by decide +kernel
theorem dX5_at_58 : decode cX5_at 58 = .ok (.aload_n 0, 1) := by decide +kernel
theorem dX5_at_59 : decode cX5_at 59 = .ok (.getfield 12, 3) := by decide +kernel
theorem dX5_at_62 : decode cX5_at 62 = .ok (.getfield 126, 3) := by decide +kernel
theorem dX5_at_65 : decode cX5_at 65 = .ok (.iload_n 1, 1) := by decide +kernel
theorem dX5_at_66 : decode cX5_at 66 = .ok (.iaload, 1) := by decide +kernel
theorem dX5_at_67 : decode cX5_at 67 = .ok (.ireturn, 1) := by decide +kernel
theorem dX5_at_68 : decode cX5_at 68 = .ok (.aload_n 0, 1) := by decide +kernel
theorem dX5_at_69 : decode cX5_at 69 = .ok (.getfield 12, 3) := by decide +kernel
theorem dX5_at_72 : decode cX5_at 72 = .ok (.getfield 129, 3) := by decide +kernel
theorem dX5_at_75 : decode cX5_at 75 = .ok (.iload_n 1, 1) := by decide +kernel
theorem dX5_at_76 : decode cX5_at 76 = .ok (.iaload, 1) := by decide +kernel
theorem dX5_at_77 : decode cX5_at 77 = .ok (.ireturn, 1) := by decide +kernel
theorem dX5_at_78 : decode cX5_at 78 = .ok (.aload_n 0, 1) := by decide +kernel
theorem dX5_at_79 : decode cX5_at 79 = .ok (.getfield 12, 3) := by decide +kernel
theorem dX5_at_82 : decode cX5_at 82 = .ok (.getfield 132, 3) := by decide +kernel
theorem dX5_at_85 : decode cX5_at 85 = .ok (.iload_n 1, 1) := by decide +kernel
theorem dX5_at_86 : decode cX5_at 86 = .ok (.iaload, 1) := by decide +kernel
theorem dX5_at_87 : decode cX5_at 87 = .ok (.ireturn, 1) := by decide +kernel
theorem dX5_at_88 : decode cX5_at 88 = .ok (.aload_n 0, 1) := by decide +kernel
theorem dX5_at_89 : decode cX5_at 89 = .ok (.getfield 12, 3) := by decide +kernel
theorem dX5_at_92 : decode cX5_at 92 = .ok (.getfield 84, 3) := by decide +kernel
theorem dX5_at_95 : decode cX5_at 95 = .ok (.iload_n 1, 1) := by decide +kernel
theorem dX5_at_96 : decode cX5_at 96 = .ok (.invokestatic 135, 3) := by decide +kernel
theorem dX5_at_99 : decode cX5_at 99 = .ok (.ifCond .eq 17, 3) := by decide +kernel
theorem dX5_at_102 : decode cX5_at 102 = .ok (.aload_n 0, 1) := by decide +kernel
theorem dX5_at_103 : decode cX5_at 103 = .ok (.getfield 12, 3) := by decide +kernel
theorem dX5_at_106 : decode cX5_at 106 = .ok (.getfield 84, 3) := by decide +kernel
theorem dX5_at_109 : decode cX5_at 109 = .ok (.iload_n 1, 1) := by decide +kernel
theorem dX5_at_110 : decode cX5_at 110 = .ok (.invokestatic 138, 3) := by decide +kernel
theorem dX5_at_113 : decode cX5_at 113 = .ok (.goto 5, 3) := by decide +kernel
theorem dX5_at_116 : decode cX5_at 116 = .ok (.bipush (-6), 2) := by decide +kernel
theorem dX5_at_118 : decode cX5_at 118 = .ok (.ireturn, 1) := by decide +kernel
theorem dX5_at_119 : decode cX5_at 119 = .ok (.bipush (-2), 2) := by decide +kernel
theorem dX5_at_121 : decode cX5_at 121 = .ok (.ireturn, 1) := by decide +kernel
theorem dX5_bus_0 : decode cX5_bus 0 = .ok (.iload_n 1, 1) := by decide +kernel
theorem dX5_bus_1 : decode cX5_bus 1 = .ok (.invokestatic 49, 3) := by decide +kernel
theorem dX5_bus_4 : decode cX5_bus 4 = .ok (.ifCond .ne 5, 3) := by decide +kernel
theorem dX5_bus_7 : decode cX5_bus 7 = .ok (.iconst (-1), 1) := by decide +kernel
theorem dX5_bus_8 : decode cX5_bus 8 = .ok (.ireturn, 1) := by decide +kernel
theorem dX5_bus_9 : decode cX5_bus 9 = .ok (.iload_n 2, 1) := by decide +kernel
theorem dX5_bus_10 : decode cX5_bus 10 = .ok (.tableswitch 83 0 2 #[26, 45, 64], 26) := by decide +kernel
theorem dX5_bus_36 : decode cX5_bus 36 = .ok (.aload_n 0, 1) := by decide +kernel
theorem dX5_bus_37 : decode cX5_bus 37 = .ok (.getfield 19, 3) := by decide +kernel
theorem dX5_bus_40 : decode cX5_bus 40 = .ok (.aload_n 0, 1) := by decide +kernel
theorem dX5_bus_41 : decode cX5_bus 41 = .ok (.getfield 12, 3) := by decide +kernel
theorem dX5_bus_44 : decode cX5_bus 44 = .ok (.getfield 84, 3) := by decide +kernel
theorem dX5_bus_47 : decode cX5_bus 47 = .ok (.invokestatic 114, 3) := by decide +kernel
theorem dX5_bus_50 : decode cX5_bus 50 = .ok (.iload_n 1, 1) := by decide +kernel
theorem dX5_bus_51 : decode cX5_bus 51 = .ok (.invokevirtual 141, 3) := by decide +kernel
theorem dX5_bus_54 : decode cX5_bus 54 = .ok (.ireturn, 1) := by decide +kernel
theorem dX5_bus_55 : decode cX5_bus 55 = .ok (.aload_n 0, 1) := by decide +kernel
theorem dX5_bus_56 : decode cX5_bus 56 = .ok (.getfield 28, 3) := by decide +kernel
theorem dX5_bus_59 : decode cX5_bus 59 = .ok (.aload_n 0, 1) := by decide +kernel
theorem dX5_bus_60 : decode cX5_bus 60 = .ok (.getfield 12, 3) := by decide +kernel
theorem dX5_bus_63 : decode cX5_bus 63 = .ok (.getfield 84, 3) := by decide +kernel
theorem dX5_bus_66 : decode cX5_bus 66 = .ok (.invokevirtual 144, 3) := by decide +kernel
theorem dX5_bus_69 : decode cX5_bus 69 = .ok (.iload_n 1, 1) := by decide +kernel
theorem dX5_bus_70 : decode cX5_bus 70 = .ok (.invokestatic 117, 3) := by decide +kernel
theorem dX5_bus_73 : decode cX5_bus 73 = .ok (.ireturn, 1) := by decide +kernel
theorem dX5_bus_74 : decode cX5_bus 74 = .ok (.aload_n 0, 1) := by decide +kernel
theorem dX5_bus_75 : decode cX5_bus 75 = .ok (.getfield 28, 3) := by decide +kernel
theorem dX5_bus_78 : decode cX5_bus 78 = .ok (.aload_n 0, 1) := by decide +kernel
theorem dX5_bus_79 : decode cX5_bus 79 = .ok (.getfield 12, 3) := by decide +kernel
theorem dX5_bus_82 : decode cX5_bus 82 = .ok (.getfield 84, 3) := by decide +kernel
theorem dX5_bus_85 : decode cX5_bus 85 = .ok (.iload_n 1, 1) := by decide +kernel
theorem dX5_bus_86 : decode cX5_bus 86 = .ok (.invokevirtual 147, 3) := by decide +kernel
theorem dX5_bus_89 : decode cX5_bus 89 = .ok (.bipush 100, 2) := by decide +kernel
theorem dX5_bus_91 : decode cX5_bus 91 = .ok (.iadd, 1) := by decide +kernel
theorem dX5_bus_92 : decode cX5_bus 92 = .ok (.ireturn, 1) := by decide +kernel
theorem dX5_bus_93 : decode cX5_bus 93 = .ok (.bipush (-2), 2) := by decide +kernel
theorem dX5_bus_95 : decode cX5_bus 95 = .ok (.ireturn, 1) := by decide +kernel
theorem dX5_can_0 : decode cX5_can 0 = .ok (.aload_n 0, 1) := by decide +kernel
theorem dX5_can_1 : decode cX5_can 1 = .ok (.getfield 28, 3) := by decide +kernel
theorem dX5_can_4 : decode cX5_can 4 = .ok (.aload_n 0, 1) := by decide +kernel
theorem dX5_can_5 : decode cX5_can 5 = .ok (.getfield 12, 3) := by decide +kernel
theorem dX5_can_8 : decode cX5_can 8 = .ok (.getfield 84, 3) := by decide +kernel
theorem dX5_can_11 : decode cX5_can 11 = .ok (.invokevirtual 150, 3) := by decide +kernel
theorem dX5_can_14 : decode cX5_can 14 = .ok (.ireturn, 1) := by decide +kernel
theorem dX5_tick_0 : decode cX5_tick 0 = .ok (.iload_n 1, 1) := by decide +kernel
theorem dX5_tick_1 : decode cX5_tick 1 = .ok (.bipush 9, 2) := by decide +kernel
theorem dX5_tick_3 : decode cX5_tick 3 = .ok (.invokestatic 53, 3) := by decide +kernel
theorem dX5_tick_6 : decode cX5_tick 6 = .ok (.ifCond .ne 6, 3) := by decide +kernel
theorem dX5_tick_9 : decode cX5_tick 9 = .ok (.bipush (-2), 2) := by decide +kernel
theorem dX5_tick_11 : decode cX5_tick 11 = .ok (.ireturn, 1) := by decide +kernel
theorem dX5_tick_12 : decode cX5_tick 12 = .ok (.aload_n 0, 1) := by decide +kernel
theorem dX5_tick_13 : decode cX5_tick 13 = .ok (.getfield 28, 3) := by decide +kernel
theorem dX5_tick_16 : decode cX5_tick 16 = .ok (.iload_n 1, 1) := by decide +kernel
theorem dX5_tick_17 : decode cX5_tick 17 = .ok (.invokevirtual 153, 3) := by decide +kernel
theorem dX5_tick_20 : decode cX5_tick 20 = .ok (.ifCond .ne 5, 3) := by decide +kernel
theorem dX5_tick_23 : decode cX5_tick 23 = .ok (.iconst (-1), 1) := by decide +kernel
theorem dX5_tick_24 : decode cX5_tick 24 = .ok (.ireturn, 1) := by decide +kernel
theorem dX5_tick_25 : decode cX5_tick 25 = .ok (.aload_n 0, 1) := by decide +kernel
theorem dX5_tick_26 : decode cX5_tick 26 = .ok (.getfield 28, 3) := by decide +kernel
theorem dX5_tick_29 : decode cX5_tick 29 = .ok (.aload_n 0, 1) := by decide +kernel
theorem dX5_tick_30 : decode cX5_tick 30 = .ok (.getfield 12, 3) := by decide +kernel
theorem dX5_tick_33 : decode cX5_tick 33 = .ok (.getfield 84, 3) := by decide +kernel
theorem dX5_tick_36 : decode cX5_tick 36 = .ok (.invokevirtual 150, 3) := by decide +kernel
theorem dX5_tick_39 : decode cX5_tick 39 = .ok (.iload_n 1, 1) := by decide +kernel
theorem dX5_tick_40 : decode cX5_tick 40 = .ok (.invokestatic 117, 3) := by decide +kernel
theorem dX5_tick_43 : decode cX5_tick 43 = .ok (.ifCond .ne 6, 3) := by decide +kernel
theorem dX5_tick_46 : decode cX5_tick 46 = .ok (.bipush (-5), 2) := by decide +kernel
theorem dX5_tick_48 : decode cX5_tick 48 = .ok (.ireturn, 1) := by decide +kernel
theorem dX5_tick_49 : decode cX5_tick 49 = .ok (.aload_n 0, 1) := by decide +kernel
theorem dX5_tick_50 : decode cX5_tick 50 = .ok (.getfield 12, 3) := by decide +kernel
theorem dX5_tick_53 : decode cX5_tick 53 = .ok (.aload_n 0, 1) := by decide +kernel
theorem dX5_tick_54 : decode cX5_tick 54 = .ok (.getfield 28, 3) := by decide +kernel
theorem dX5_tick_57 : decode cX5_tick 57 = .ok (.aload_n 0, 1) := by decide +kernel
theorem dX5_tick_58 : decode cX5_tick 58 = .ok (.getfield 12, 3) := by decide +kernel
theorem dX5_tick_61 : decode cX5_tick 61 = .ok (.getfield 84, 3) := by decide +kernel
theorem dX5_tick_64 : decode cX5_tick 64 = .ok (.invokestatic 156, 3) := by decide +kernel
theorem dX5_tick_67 : decode cX5_tick 67 = .ok (.iload_n 1, 1) := by decide +kernel
theorem dX5_tick_68 : decode cX5_tick 68 = .ok (.invokevirtual 159, 3) := by decide +kernel
theorem dX5_tick_71 : decode cX5_tick 71 = .ok (.putfield 84, 3) := by decide +kernel
theorem dX5_tick_74 : decode cX5_tick 74 = .ok (.aload_n 0, 1) := by decide +kernel
theorem dX5_tick_75 : decode cX5_tick 75 = .ok (.getfield 12, 3) := by decide +kernel
theorem dX5_tick_78 : decode cX5_tick 78 = .ok (.dup, 1) := by decide +kernel
theorem dX5_tick_79 : decode cX5_tick 79 = .ok (.getfield 98, 3) := by decide +kernel
theorem dX5_tick_82 : decode cX5_tick 82 = .ok (.iconst 1, 1) := by decide +kernel
theorem dX5_tick_83 : decode cX5_tick 83 = .ok (.iadd, 1) := by decide +kernel
theorem dX5_tick_84 : decode cX5_tick 84 = .ok (.putfield 98, 3) := by decide +kernel
theorem dX5_tick_87 : decode cX5_tick 87 = .ok (.aload_n 0, 1) := by decide +kernel
theorem dX5_tick_88 : decode cX5_tick 88 = .ok (.getfield 12, 3) := by decide +kernel
theorem dX5_tick_91 : decode cX5_tick 91 = .ok (.getfield 98, 3) := by decide +kernel
theorem dX5_tick_94 : decode cX5_tick 94 = .ok (.ireturn, 1) := by decide +kernel
theorem dX5_fail_0 : decode cX5_fail 0 = .ok (.aload_n 0, 1) := by decide +kernel
theorem dX5_fail_1 : decode cX5_fail 1 = .ok (.getfield 12, 3) := by decide +kernel
theorem dX5_fail_4 : decode cX5_fail 4 = .ok (.iload_n 1, 1) := by decide +kernel
theorem dX5_fail_5 : decode cX5_fail 5 = .ok (.invokevirtual 120, 3) := by decide +kernel
theorem dX5_fail_8 : decode cX5_fail 8 = .ok (.ifCond .ne 5, 3) := by decide +kernel
theorem dX5_fail_11 : decode cX5_fail 11 = .ok (.iconst (-1), 1) := by decide +kernel
theorem dX5_fail_12 : decode cX5_fail 12 = .ok (.ireturn, 1) := by decide +kernel
theorem dX5_fail_13 : decode cX5_fail 13 = .ok (.aload_n 0, 1) := by decide +kernel
theorem dX5_fail_14 : decode cX5_fail 14 = .ok (.getfield 12, 3) := by decide +kernel
theorem dX5_fail_17 : decode cX5_fail 17 = .ok (.getfield 84, 3) := by decide +kernel
theorem dX5_fail_20 : decode cX5_fail 20 = .ok (.iload_n 1, 1) := by decide +kernel
theorem dX5_fail_21 : decode cX5_fail 21 = .ok (.invokestatic 135, 3) := by decide +kernel
theorem dX5_fail_24 : decode cX5_fail 24 = .ok (.ifCond .ne 6, 3) := by decide +kernel
theorem dX5_fail_27 : decode cX5_fail 27 = .ok (.bipush (-3), 2) := by decide +kernel
theorem dX5_fail_29 : decode cX5_fail 29 = .ok (.ireturn, 1) := by decide +kernel
theorem dX5_fail_30 : decode cX5_fail 30 = .ok (.aload_n 0, 1) := by decide +kernel
theorem dX5_fail_31 : decode cX5_fail 31 = .ok (.getfield 12, 3) := by decide +kernel
theorem dX5_fail_34 : decode cX5_fail 34 = .ok (.aload_n 0, 1) := by decide +kernel
theorem dX5_fail_35 : decode cX5_fail 35 = .ok (.getfield 12, 3) := by decide +kernel
theorem dX5_fail_38 : decode cX5_fail 38 = .ok (.getfield 84, 3) := by decide +kernel
theorem dX5_fail_41 : decode cX5_fail 41 = .ok (.iload_n 1, 1) := by decide +kernel
theorem dX5_fail_42 : decode cX5_fail 42 = .ok (.invokestatic 162, 3) := by decide +kernel
theorem dX5_fail_45 : decode cX5_fail 45 = .ok (.putfield 84, 3) := by decide +kernel
theorem dX5_fail_48 : decode cX5_fail 48 = .ok (.aload_n 0, 1) := by decide +kernel
theorem dX5_fail_49 : decode cX5_fail 49 = .ok (.invokevirtual 165, 3) := by decide +kernel
theorem dX5_fail_52 : decode cX5_fail 52 = .ok (.ireturn, 1) := by decide +kernel
theorem dX5_trip_0 : decode cX5_trip 0 = .ok (.aload_n 0, 1) := by decide +kernel
theorem dX5_trip_1 : decode cX5_trip 1 = .ok (.getfield 12, 3) := by decide +kernel
theorem dX5_trip_4 : decode cX5_trip 4 = .ok (.iload_n 1, 1) := by decide +kernel
theorem dX5_trip_5 : decode cX5_trip 5 = .ok (.invokevirtual 101, 3) := by decide +kernel
theorem dX5_trip_8 : decode cX5_trip 8 = .ok (.ifCond .ne 5, 3) := by decide +kernel
theorem dX5_trip_11 : decode cX5_trip 11 = .ok (.iconst (-1), 1) := by decide +kernel
theorem dX5_trip_12 : decode cX5_trip 12 = .ok (.ireturn, 1) := by decide +kernel
theorem dX5_trip_13 : decode cX5_trip 13 = .ok (.aload_n 0, 1) := by decide +kernel
theorem dX5_trip_14 : decode cX5_trip 14 = .ok (.getfield 12, 3) := by decide +kernel
theorem dX5_trip_17 : decode cX5_trip 17 = .ok (.getfield 84, 3) := by decide +kernel
theorem dX5_trip_20 : decode cX5_trip 20 = .ok (.invokestatic 114, 3) := by decide +kernel
theorem dX5_trip_23 : decode cX5_trip 23 = .ok (.iload_n 1, 1) := by decide +kernel
theorem dX5_trip_24 : decode cX5_trip 24 = .ok (.invokestatic 117, 3) := by decide +kernel
theorem dX5_trip_27 : decode cX5_trip 27 = .ok (.ifCond .ne 6, 3) := by decide +kernel
theorem dX5_trip_30 : decode cX5_trip 30 = .ok (.bipush (-3), 2) := by decide +kernel
theorem dX5_trip_32 : decode cX5_trip 32 = .ok (.ireturn, 1) := by decide +kernel
theorem dX5_trip_33 : decode cX5_trip 33 = .ok (.aload_n 0, 1) := by decide +kernel
theorem dX5_trip_34 : decode cX5_trip 34 = .ok (.getfield 12, 3) := by decide +kernel
theorem dX5_trip_37 : decode cX5_trip 37 = .ok (.aload_n 0, 1) := by decide +kernel
theorem dX5_trip_38 : decode cX5_trip 38 = .ok (.getfield 12, 3) := by decide +kernel
theorem dX5_trip_41 : decode cX5_trip 41 = .ok (.getfield 84, 3) := by decide +kernel
theorem dX5_trip_44 : decode cX5_trip 44 = .ok (.iconst 1, 1) := by decide +kernel
theorem dX5_trip_45 : decode cX5_trip 45 = .ok (.iload_n 1, 1) := by decide +kernel
theorem dX5_trip_46 : decode cX5_trip 46 = .ok (.ishl, 1) := by decide +kernel
theorem dX5_trip_47 : decode cX5_trip 47 = .ok (.invokestatic 169, 3) := by decide +kernel
theorem dX5_trip_50 : decode cX5_trip 50 = .ok (.putfield 84, 3) := by decide +kernel
theorem dX5_trip_53 : decode cX5_trip 53 = .ok (.iconst 1, 1) := by decide +kernel
theorem dX5_trip_54 : decode cX5_trip 54 = .ok (.aload_n 0, 1) := by decide +kernel
theorem dX5_trip_55 : decode cX5_trip 55 = .ok (.invokevirtual 165, 3) := by decide +kernel
theorem dX5_trip_58 : decode cX5_trip 58 = .ok (.iadd, 1) := by decide +kernel
theorem dX5_trip_59 : decode cX5_trip 59 = .ok (.ireturn, 1) := by decide +kernel
theorem dX5_way_0 : decode cX5_way 0 = .ok (.aload_n 0, 1) := by decide +kernel
theorem dX5_way_1 : decode cX5_way 1 = .ok (.iload_n 1, 1) := by decide +kernel
theorem dX5_way_2 : decode cX5_way 2 = .ok (.iload_n 2, 1) := by decide +kernel
theorem dX5_way_3 : decode cX5_way 3 = .ok (.invokevirtual 172, 3) := by decide +kernel
theorem dX5_way_6 : decode cX5_way 6 = .ok (.ifCond .eq 8, 3) := by decide +kernel
theorem dX5_way_9 : decode cX5_way 9 = .ok (.iload_n 3, 1) := by decide +kernel
theorem dX5_way_10 : decode cX5_way 10 = .ok (.iconst (-1), 1) := by decide +kernel
theorem dX5_way_11 : decode cX5_way 11 = .ok (.if_icmp .ge 6, 3) := by decide +kernel
theorem dX5_way_14 : decode cX5_way 14 = .ok (.bipush (-2), 2) := by decide +kernel
theorem dX5_way_16 : decode cX5_way 16 = .ok (.ireturn, 1) := by decide +kernel
theorem dX5_way_17 : decode cX5_way 17 = .ok (.aload_n 0, 1) := by decide +kernel
theorem dX5_way_18 : decode cX5_way 18 = .ok (.getfield 37, 3) := by decide +kernel
theorem dX5_way_21 : decode cX5_way 21 = .ok (.aload_n 0, 1) := by decide +kernel
theorem dX5_way_22 : decode cX5_way 22 = .ok (.getfield 12, 3) := by decide +kernel
theorem dX5_way_25 : decode cX5_way 25 = .ok (.getfield 84, 3) := by decide +kernel
theorem dX5_way_28 : decode cX5_way 28 = .ok (.iload_n 1, 1) := by decide +kernel
theorem dX5_way_29 : decode cX5_way 29 = .ok (.iload_n 2, 1) := by decide +kernel
theorem dX5_way_30 : decode cX5_way 30 = .ok (.invokevirtual 175, 3) := by decide +kernel
theorem dX5_way_33 : decode cX5_way 33 = .ok (.istore 4, 2) := by decide +kernel
theorem dX5_way_35 : decode cX5_way 35 = .ok (.iload 4, 2) := by decide +kernel
theorem dX5_way_37 : decode cX5_way 37 = .ok (.iconst (-1), 1) := by decide +kernel
theorem dX5_way_38 : decode cX5_way 38 = .ok (.if_icmp .ne 6, 3) := by decide +kernel
theorem dX5_way_41 : decode cX5_way 41 = .ok (.bipush (-6), 2) := by decide +kernel
theorem dX5_way_43 : decode cX5_way 43 = .ok (.ireturn, 1) := by decide +kernel
theorem dX5_way_44 : decode cX5_way 44 = .ok (.aload_n 0, 1) := by decide +kernel
theorem dX5_way_45 : decode cX5_way 45 = .ok (.getfield 37, 3) := by decide +kernel
theorem dX5_way_48 : decode cX5_way 48 = .ok (.iload 4, 2) := by decide +kernel
theorem dX5_way_50 : decode cX5_way 50 = .ok (.invokevirtual 178, 3) := by decide +kernel
theorem dX5_way_53 : decode cX5_way 53 = .ok (.istore 5, 2) := by decide +kernel
theorem dX5_way_55 : decode cX5_way 55 = .ok (.iload_n 3, 1) := by decide +kernel
theorem dX5_way_56 : decode cX5_way 56 = .ok (.iconst (-1), 1) := by decide +kernel
theorem dX5_way_57 : decode cX5_way 57 = .ok (.if_icmp .ne 6, 3) := by decide +kernel
theorem dX5_way_60 : decode cX5_way 60 = .ok (.iload 5, 2) := by decide +kernel
theorem dX5_way_62 : decode cX5_way 62 = .ok (.ireturn, 1) := by decide +kernel
theorem dX5_way_63 : decode cX5_way 63 = .ok (.iload_n 3, 1) := by decide +kernel
theorem dX5_way_64 : decode cX5_way 64 = .ok (.iload 5, 2) := by decide +kernel
theorem dX5_way_66 : decode cX5_way 66 = .ok (.if_icmp .ge 21, 3) := by decide +kernel
theorem dX5_way_69 : decode cX5_way 69 = .ok (.aload_n 0, 1) := by decide +kernel
theorem dX5_way_70 : decode cX5_way 70 = .ok (.getfield 37, 3) := by decide +kernel
theorem dX5_way_73 : decode cX5_way 73 = .ok (.iload 4, 2) := by decide +kernel
theorem dX5_way_75 : decode cX5_way 75 = .ok (.iload 5, 2) := by decide +kernel
theorem dX5_way_77 : decode cX5_way 77 = .ok (.iconst 1, 1) := by decide +kernel
theorem dX5_way_78 : decode cX5_way 78 = .ok (.isub, 1) := by decide +kernel
theorem dX5_way_79 : decode cX5_way 79 = .ok (.iload_n 3, 1) := by decide +kernel
theorem dX5_way_80 : decode cX5_way 80 = .ok (.isub, 1) := by decide +kernel
theorem dX5_way_81 : decode cX5_way 81 = .ok (.invokevirtual 181, 3) := by decide +kernel
theorem dX5_way_84 : decode cX5_way 84 = .ok (.goto 5, 3) := by decide +kernel
theorem dX5_way_87 : decode cX5_way 87 = .ok (.bipush (-6), 2) := by decide +kernel
theorem dX5_way_89 : decode cX5_way 89 = .ok (.ireturn, 1) := by decide +kernel
theorem dX5_go_0 : decode cX5_go 0 = .ok (.aload_n 0, 1) := by decide +kernel
theorem dX5_go_1 : decode cX5_go 1 = .ok (.iload_n 1, 1) := by decide +kernel
theorem dX5_go_2 : decode cX5_go 2 = .ok (.iload_n 2, 1) := by decide +kernel
theorem dX5_go_3 : decode cX5_go 3 = .ok (.invokevirtual 172, 3) := by decide +kernel
theorem dX5_go_6 : decode cX5_go 6 = .ok (.ifCond .ne 6, 3) := by decide +kernel
theorem dX5_go_9 : decode cX5_go 9 = .ok (.bipush (-2), 2) := by decide +kernel
theorem dX5_go_11 : decode cX5_go 11 = .ok (.ireturn, 1) := by decide +kernel
theorem dX5_go_12 : decode cX5_go 12 = .ok (.aload_n 0, 1) := by decide +kernel
theorem dX5_go_13 : decode cX5_go 13 = .ok (.getfield 37, 3) := by decide +kernel
theorem dX5_go_16 : decode cX5_go 16 = .ok (.aload_n 0, 1) := by decide +kernel
theorem dX5_go_17 : decode cX5_go 17 = .ok (.getfield 12, 3) := by decide +kernel
theorem dX5_go_20 : decode cX5_go 20 = .ok (.getfield 84, 3) := by decide +kernel
theorem dX5_go_23 : decode cX5_go 23 = .ok (.iload_n 1, 1) := by decide +kernel
theorem dX5_go_24 : decode cX5_go 24 = .ok (.iload_n 2, 1) := by decide +kernel
theorem dX5_go_25 : decode cX5_go 25 = .ok (.invokevirtual 175, 3) := by decide +kernel
theorem dX5_go_28 : decode cX5_go 28 = .ok (.istore_n 3, 1) := by decide +kernel
theorem dX5_go_29 : decode cX5_go 29 = .ok (.iload_n 3, 1) := by decide +kernel
theorem dX5_go_30 : decode cX5_go 30 = .ok (.iconst (-1), 1) := by decide +kernel
theorem dX5_go_31 : decode cX5_go 31 = .ok (.if_icmp .ne 6, 3) := by decide +kernel
theorem dX5_go_34 : decode cX5_go 34 = .ok (.bipush (-5), 2) := by decide +kernel
theorem dX5_go_36 : decode cX5_go 36 = .ok (.ireturn, 1) := by decide +kernel
theorem dX5_go_37 : decode cX5_go 37 = .ok (.aload_n 0, 1) := by decide +kernel
theorem dX5_go_38 : decode cX5_go 38 = .ok (.getfield 12, 3) := by decide +kernel
theorem dX5_go_41 : decode cX5_go 41 = .ok (.aload_n 0, 1) := by decide +kernel
theorem dX5_go_42 : decode cX5_go 42 = .ok (.getfield 37, 3) := by decide +kernel
theorem dX5_go_45 : decode cX5_go 45 = .ok (.iload_n 3, 1) := by decide +kernel
theorem dX5_go_46 : decode cX5_go 46 = .ok (.invokevirtual 184, 3) := by decide +kernel
theorem dX5_go_49 : decode cX5_go 49 = .ok (.putfield 84, 3) := by decide +kernel
theorem dX5_go_52 : decode cX5_go 52 = .ok (.aload_n 0, 1) := by decide +kernel
theorem dX5_go_53 : decode cX5_go 53 = .ok (.getfield 12, 3) := by decide +kernel
theorem dX5_go_56 : decode cX5_go 56 = .ok (.dup, 1) := by decide +kernel
theorem dX5_go_57 : decode cX5_go 57 = .ok (.getfield 98, 3) := by decide +kernel
theorem dX5_go_60 : decode cX5_go 60 = .ok (.aload_n 0, 1) := by decide +kernel
theorem dX5_go_61 : decode cX5_go 61 = .ok (.getfield 37, 3) := by decide +kernel
theorem dX5_go_64 : decode cX5_go 64 = .ok (.iload_n 3, 1) := by decide +kernel
theorem dX5_go_65 : decode cX5_go 65 = .ok (.invokevirtual 178, 3) := by decide +kernel
theorem dX5_go_68 : decode cX5_go 68 = .ok (.iadd, 1) := by decide +kernel
theorem dX5_go_69 : decode cX5_go 69 = .ok (.putfield 98, 3) := by decide +kernel
theorem dX5_go_72 : decode cX5_go 72 = .ok (.aload_n 0, 1) := by decide +kernel
theorem dX5_go_73 : decode cX5_go 73 = .ok (.getfield 12, 3) := by decide +kernel
theorem dX5_go_76 : decode cX5_go 76 = .ok (.getfield 98, 3) := by decide +kernel
theorem dX5_go_79 : decode cX5_go 79 = .ok (.ireturn, 1) := by decide +kernel
theorem dX5_needed_0 : decode cX5_needed 0 = .ok (.aload_n 0, 1) := by decide +kernel
theorem dX5_needed_1 : decode cX5_needed 1 = .ok (.iload_n 1, 1) := by decide +kernel
theorem dX5_needed_2 : decode cX5_needed 2 = .ok (.iload_n 2, 1) := by decide +kernel
theorem dX5_needed_3 : decode cX5_needed 3 = .ok (.invokevirtual 172, 3) := by decide +kernel
theorem dX5_needed_6 : decode cX5_needed 6 = .ok (.ifCond .eq 11, 3) := by decide +kernel
theorem dX5_needed_9 : decode cX5_needed 9 = .ok (.iload_n 3, 1) := by decide +kernel
theorem dX5_needed_10 : decode cX5_needed 10 = .ok (.iconst 1, 1) := by decide +kernel
theorem dX5_needed_11 : decode cX5_needed 11 = .ok (.invokestatic 53, 3) := by decide +kernel
theorem dX5_needed_14 : decode cX5_needed 14 = .ok (.ifCond .ne 6, 3) := by decide +kernel
theorem dX5_needed_17 : decode cX5_needed 17 = .ok (.bipush (-2), 2) := by decide +kernel
theorem dX5_needed_19 : decode cX5_needed 19 = .ok (.ireturn, 1) := by decide +kernel
theorem dX5_needed_20 : decode cX5_needed 20 = .ok (.aload_n 0, 1) := by decide +kernel
theorem dX5_needed_21 : decode cX5_needed 21 = .ok (.getfield 37, 3) := by decide +kernel
theorem dX5_needed_24 : decode cX5_needed 24 = .ok (.aload_n 0, 1) := by decide +kernel
theorem dX5_needed_25 : decode cX5_needed 25 = .ok (.getfield 12, 3) := by decide +kernel
theorem dX5_needed_28 : decode cX5_needed 28 = .ok (.getfield 84, 3) := by decide +kernel
theorem dX5_needed_31 : decode cX5_needed 31 = .ok (.iload_n 1, 1) := by decide +kernel
theorem dX5_needed_32 : decode cX5_needed 32 = .ok (.iload_n 2, 1) := by decide +kernel
theorem dX5_needed_33 : decode cX5_needed 33 = .ok (.invokevirtual 187, 3) := by decide +kernel
theorem dX5_needed_36 : decode cX5_needed 36 = .ok (.ifCond .ne 6, 3) := by decide +kernel
theorem dX5_needed_39 : decode cX5_needed 39 = .ok (.bipush (-6), 2) := by decide +kernel
theorem dX5_needed_41 : decode cX5_needed 41 = .ok (.ireturn, 1) := by decide +kernel
theorem dX5_needed_42 : decode cX5_needed 42 = .ok (.iload_n 3, 1) := by decide +kernel
theorem dX5_needed_43 : decode cX5_needed 43 = .ok (.ifCond .ne 51, 3) := by decide +kernel
theorem dX5_needed_46 : decode cX5_needed 46 = .ok (.aload_n 0, 1) := by decide +kernel
theorem dX5_needed_47 : decode cX5_needed 47 = .ok (.getfield 12, 3) := by decide +kernel
theorem dX5_needed_50 : decode cX5_needed 50 = .ok (.getfield 57, 3) := by decide +kernel
theorem dX5_needed_53 : decode cX5_needed 53 = .ok (.invokestatic 191, 3) := by decide +kernel
theorem dX5_needed_56 : decode cX5_needed 56 = .ok (.aload_n 0, 1) := by decide +kernel
theorem dX5_needed_57 : decode cX5_needed 57 = .ok (.getfield 12, 3) := by decide +kernel
theorem dX5_needed_60 : decode cX5_needed 60 = .ok (.getfield 84, 3) := by decide +kernel
theorem dX5_needed_63 : decode cX5_needed 63 = .ok (.invokestatic 114, 3) := by decide +kernel
theorem dX5_needed_66 : decode cX5_needed 66 = .ok (.iconst (-1), 1) := by decide +kernel
theorem dX5_needed_67 : decode cX5_needed 67 = .ok (.ixor, 1) := by decide +kernel
theorem dX5_needed_68 : decode cX5_needed 68 = .ok (.iand, 1) := by decide +kernel
theorem dX5_needed_69 : decode cX5_needed 69 = .ok (.istore 4, 2) := by decide +kernel
theorem dX5_needed_71 : decode cX5_needed 71 = .ok (.aload_n 0, 1) := by decide +kernel
theorem dX5_needed_72 : decode cX5_needed 72 = .ok (.getfield 37, 3) := by decide +kernel
theorem dX5_needed_75 : decode cX5_needed 75 = .ok (.iload 4, 2) := by decide +kernel
theorem dX5_needed_77 : decode cX5_needed 77 = .ok (.iconst 4, 1) := by decide +kernel
theorem dX5_needed_78 : decode cX5_needed 78 = .ok (.ishl, 1) := by decide +kernel
theorem dX5_needed_79 : decode cX5_needed 79 = .ok (.aload_n 0, 1) := by decide +kernel
theorem dX5_needed_80 : decode cX5_needed 80 = .ok (.getfield 12, 3) := by decide +kernel
theorem dX5_needed_83 : decode cX5_needed 83 = .ok (.getfield 84, 3) := by decide +kernel
theorem dX5_needed_86 : decode cX5_needed 86 = .ok (.iload_n 1, 1) := by decide +kernel
theorem dX5_needed_87 : decode cX5_needed 87 = .ok (.iload_n 2, 1) := by decide +kernel
theorem dX5_needed_88 : decode cX5_needed 88 = .ok (.invokevirtual 194, 3) := by decide +kernel
theorem dX5_needed_91 : decode cX5_needed 91 = .ok (.iconst 4, 1) := by decide +kernel
theorem dX5_needed_92 : decode cX5_needed 92 = .ok (.ishr, 1) := by decide +kernel
theorem dX5_needed_93 : decode cX5_needed 93 = .ok (.ireturn, 1) := by decide +kernel
theorem dX5_needed_94 : decode cX5_needed 94 = .ok (.aload_n 0, 1) := by decide +kernel
theorem dX5_needed_95 : decode cX5_needed 95 = .ok (.getfield 12, 3) := by decide +kernel
theorem dX5_needed_98 : decode cX5_needed 98 = .ok (.getfield 77, 3) := by decide +kernel
theorem dX5_needed_101 : decode cX5_needed 101 = .ok (.invokestatic 191, 3) := by decide +kernel
theorem dX5_needed_104 : decode cX5_needed 104 = .ok (.aload_n 0, 1) := by decide +kernel
theorem dX5_needed_105 : decode cX5_needed 105 = .ok (.getfield 12, 3) := by decide +kernel
theorem dX5_needed_108 : decode cX5_needed 108 = .ok (.getfield 84, 3) := by decide +kernel
theorem dX5_needed_111 : decode cX5_needed 111 = .ok (.invokestatic 87, 3) := by decide +kernel
theorem dX5_needed_114 : decode cX5_needed 114 = .ok (.iconst (-1), 1) := by decide +kernel
theorem dX5_needed_115 : decode cX5_needed 115 = .ok (.ixor, 1) := by decide +kernel
theorem dX5_needed_116 : decode cX5_needed 116 = .ok (.iand, 1) := by decide +kernel
theorem dX5_needed_117 : decode cX5_needed 117 = .ok (.istore 4, 2) := by decide +kernel
theorem dX5_needed_119 : decode cX5_needed 119 = .ok (.aload_n 0, 1) := by decide +kernel
theorem dX5_needed_120 : decode cX5_needed 120 = .ok (.getfield 37, 3) := by decide +kernel
theorem dX5_needed_123 : decode cX5_needed 123 = .ok (.iload 4, 2) := by decide +kernel
theorem dX5_needed_125 : decode cX5_needed 125 = .ok (.iconst 1, 1) := by decide +kernel
theorem dX5_needed_126 : decode cX5_needed 126 = .ok (.ishl, 1) := by decide +kernel
theorem dX5_needed_127 : decode cX5_needed 127 = .ok (.aload_n 0, 1) := by decide +kernel
theorem dX5_needed_128 : decode cX5_needed 128 = .ok (.getfield 12, 3) := by decide +kernel
theorem dX5_needed_131 : decode cX5_needed 131 = .ok (.getfield 84, 3) := by decide +kernel
theorem dX5_needed_134 : decode cX5_needed 134 = .ok (.iload_n 1, 1) := by decide +kernel
theorem dX5_needed_135 : decode cX5_needed 135 = .ok (.iload_n 2, 1) := by decide +kernel
theorem dX5_needed_136 : decode cX5_needed 136 = .ok (.invokevirtual 194, 3) := by decide +kernel
theorem dX5_needed_139 : decode cX5_needed 139 = .ok (.iconst 1, 1) := by decide +kernel
theorem dX5_needed_140 : decode cX5_needed 140 = .ok (.ishr, 1) := by decide +kernel
theorem dX5_needed_141 : decode cX5_needed 141 = .ok (.ireturn, 1) := by decide +kernel
theorem dX5_ever_0 : decode cX5_ever 0 = .ok (.iload_n 1, 1) := by decide +kernel
theorem dX5_ever_1 : decode cX5_ever 1 = .ok (.lookupswitch 64 #[(0, 27), (1, 49)], 27) := by decide +kernel
theorem dX5_ever_28 : decode cX5_ever 28 = .ok (.aload_n 0, 1) := by decide +kernel
theorem dX5_ever_29 : decode cX5_ever 29 = .ok (.getfield 37, 3) := by decide +kernel
theorem dX5_ever_32 : decode cX5_ever 32 = .ok (.aload_n 0, 1) := by decide +kernel
theorem dX5_ever_33 : decode cX5_ever 33 = .ok (.getfield 12, 3) := by decide +kernel
theorem dX5_ever_36 : decode cX5_ever 36 = .ok (.getfield 84, 3) := by decide +kernel
theorem dX5_ever_39 : decode cX5_ever 39 = .ok (.aload_n 0, 1) := by decide +kernel
theorem dX5_ever_40 : decode cX5_ever 40 = .ok (.getfield 12, 3) := by decide +kernel
theorem dX5_ever_43 : decode cX5_ever 43 = .ok (.getfield 77, 3) := by decide +kernel
theorem dX5_ever_46 : decode cX5_ever 46 = .ok (.invokevirtual 197, 3) := by decide +kernel
theorem dX5_ever_49 : decode cX5_ever 49 = .ok (.ireturn, 1) := by decide +kernel
theorem dX5_ever_50 : decode cX5_ever 50 = .ok (.aload_n 0, 1) := by decide +kernel
theorem dX5_ever_51 : decode cX5_ever 51 = .ok (.getfield 37, 3) := by decide +kernel
theorem dX5_ever_54 : decode cX5_ever 54 = .ok (.aload_n 0, 1) := by decide +kernel
theorem dX5_ever_55 : decode cX5_ever 55 = .ok (.getfield 12, 3) := by decide +kernel
theorem dX5_ever_58 : decode cX5_ever 58 = .ok (.getfield 84, 3) := by decide +kernel
theorem dX5_ever_61 : decode cX5_ever 61 = .ok (.invokevirtual 200, 3) := by decide +kernel
theorem dX5_ever_64 : decode cX5_ever 64 = .ok (.ireturn, 1) := by decide +kernel
theorem dX5_ever_65 : decode cX5_ever 65 = .ok (.bipush (-2), 2) := by decide +kernel
theorem dX5_ever_67 : decode cX5_ever 67 = .ok (.ireturn, 1) := by decide +kernel
theorem dX5_image_0 : decode cX5_image 0 = .ok (.iload_n 1, 1) := by decide +kernel
theorem dX5_image_1 : decode cX5_image 1 = .ok (.iconst 1, 1) := by decide +kernel
theorem dX5_image_2 : decode cX5_image 2 = .ok (.invokestatic 53, 3) := by decide +kernel
theorem dX5_image_5 : decode cX5_image 5 = .ok (.ifCond .ne 6, 3) := by decide +kernel
theorem dX5_image_8 : decode cX5_image 8 = .ok (.bipush (-2), 2) := by decide +kernel
theorem dX5_image_10 : decode cX5_image 10 = .ok (.ireturn, 1) := by decide +kernel
theorem dX5_image_11 : decode cX5_image 11 = .ok (.aload_n 0, 1) := by decide +kernel
theorem dX5_image_12 : decode cX5_image 12 = .ok (.getfield 41, 3) := by decide +kernel
theorem dX5_image_15 : decode cX5_image 15 = .ok (.iload_n 1, 1) := by decide +kernel
theorem dX5_image_16 : decode cX5_image 16 = .ok (.aaload, 1) := by decide +kernel
theorem dX5_image_17 : decode cX5_image 17 = .ok (.aload_n 0, 1) := by decide +kernel
theorem dX5_image_18 : decode cX5_image 18 = .ok (.getfield 12, 3) := by decide +kernel
theorem dX5_image_21 : decode cX5_image 21 = .ok (.invokevirtual 203, 3) := by decide +kernel
theorem dX5_image_24 : decode cX5_image 24 = .ok (.aload_n 0, 1) := by decide +kernel
theorem dX5_image_25 : decode cX5_image 25 = .ok (.dup, 1) := by decide +kernel
theorem dX5_image_26 : decode cX5_image 26 = .ok (.getfield 45, 3) := by decide +kernel
theorem dX5_image_29 : decode cX5_image 29 = .ok (.iconst 1, 1) := by decide +kernel
theorem dX5_image_30 : decode cX5_image 30 = .ok (.iload_n 1, 1) := by decide +kernel
theorem dX5_image_31 : decode cX5_image 31 = .ok (.ishl, 1) := by decide +kernel
theorem dX5_image_32 : decode cX5_image 32 = .ok (.ior, 1) := by decide +kernel
theorem dX5_image_33 : decode cX5_image 33 = .ok (.putfield 45, 3) := by decide +kernel
theorem dX5_image_36 : decode cX5_image 36 = .ok (.iconst 1, 1) := by decide +kernel
theorem dX5_image_37 : decode cX5_image 37 = .ok (.ireturn, 1) := by decide +kernel
theorem dX5_restore_0 : decode cX5_restore 0 = .ok (.iload_n 1, 1) := by decide +kernel
theorem dX5_restore_1 : decode cX5_restore 1 = .ok (.iconst 1, 1) := by decide +kernel
theorem dX5_restore_2 : decode cX5_restore 2 = .ok (.invokestatic 53, 3) := by decide +kernel
theorem dX5_restore_5 : decode cX5_restore 5 = .ok (.ifCond .ne 6, 3) := by decide +kernel
theorem dX5_restore_8 : decode cX5_restore 8 = .ok (.bipush (-2), 2) := by decide +kernel
theorem dX5_restore_10 : decode cX5_restore 10 = .ok (.ireturn, 1) := by decide +kernel
theorem dX5_restore_11 : decode cX5_restore 11 = .ok (.aload_n 0, 1) := by decide +kernel
theorem dX5_restore_12 : decode cX5_restore 12 = .ok (.getfield 45, 3) := by decide +kernel
theorem dX5_restore_15 : decode cX5_restore 15 = .ok (.iload_n 1, 1) := by decide +kernel
theorem dX5_restore_16 : decode cX5_restore 16 = .ok (.invokestatic 117, 3) := by decide +kernel
theorem dX5_restore_19 : decode cX5_restore 19 = .ok (.ifCond .ne 6, 3) := by decide +kernel
end
section
theorem dX5_restore_22 : decode cX5_restore 22 = .ok (.bipush (-3), 2) := by decide +kernel
theorem dX5_restore_24 : decode cX5_restore 24 = .ok (.ireturn, 1) := by decide +kernel
theorem dX5_restore_25 : decode cX5_restore 25 = .ok (.aload_n 0, 1) := by decide +kernel
theorem dX5_restore_26 : decode cX5_restore 26 = .ok (.getfield 12, 3) := by decide +kernel
theorem dX5_restore_29 : decode cX5_restore 29 = .ok (.aload_n 0, 1) := by decide +kernel
theorem dX5_restore_30 : decode cX5_restore 30 = .ok (.getfield 41, 3) := by decide +kernel
theorem dX5_restore_33 : decode cX5_restore 33 = .ok (.iload_n 1, 1) := by decide +kernel
theorem dX5_restore_34 : decode cX5_restore 34 = .ok (.aaload, 1) := by decide +kernel
theorem dX5_restore_35 : decode cX5_restore 35 = .ok (.invokevirtual 203, 3) := by decide +kernel
theorem dX5_restore_38 : decode cX5_restore 38 = .ok (.iconst 0, 1) := by decide +kernel
theorem dX5_restore_39 : decode cX5_restore 39 = .ok (.istore_n 2, 1) := by decide +kernel
theorem dX5_restore_40 : decode cX5_restore 40 = .ok (.iload_n 2, 1) := by decide +kernel
theorem dX5_restore_41 : decode cX5_restore 41 = .ok (.aload_n 0, 1) := by decide +kernel
theorem dX5_restore_42 : decode cX5_restore 42 = .ok (.getfield 12, 3) := by decide +kernel
theorem dX5_restore_45 : decode cX5_restore 45 = .ok (.getfield 57, 3) := by decide +kernel
theorem dX5_restore_48 : decode cX5_restore 48 = .ok (.if_icmp .ge 21, 3) := by decide +kernel
theorem dX5_restore_51 : decode cX5_restore 51 = .ok (.aload_n 0, 1) := by decide +kernel
theorem dX5_restore_52 : decode cX5_restore 52 = .ok (.getfield 19, 3) := by decide +kernel
theorem dX5_restore_55 : decode cX5_restore 55 = .ok (.aload_n 0, 1) := by decide +kernel
theorem dX5_restore_56 : decode cX5_restore 56 = .ok (.getfield 12, 3) := by decide +kernel
theorem dX5_restore_59 : decode cX5_restore 59 = .ok (.iload_n 2, 1) := by decide +kernel
theorem dX5_restore_60 : decode cX5_restore 60 = .ok (.invokevirtual 73, 3) := by decide +kernel
theorem dX5_restore_63 : decode cX5_restore 63 = .ok (.iinc 2 1, 3) := by decide +kernel
theorem dX5_restore_66 : decode cX5_restore 66 = .ok (.goto (-26), 3) := by decide +kernel
theorem dX5_restore_69 : decode cX5_restore 69 = .ok (.iconst 1, 1) := by decide +kernel
theorem dX5_restore_70 : decode cX5_restore 70 = .ok (.ireturn, 1) := by decide +kernel
theorem dX5_count_0 : decode cX5_count 0 = .ok (.iload_n 1, 1) := by decide +kernel
theorem dX5_count_1 : decode cX5_count 1 = .ok (.tableswitch 155 0 8 #[51, 59, 67, 81, 95, 109, 127, 142, 150], 51) := by decide +kernel
theorem dX5_count_52 : decode cX5_count 52 = .ok (.aload_n 0, 1) := by decide +kernel
theorem dX5_count_53 : decode cX5_count 53 = .ok (.getfield 12, 3) := by decide +kernel
theorem dX5_count_56 : decode cX5_count 56 = .ok (.getfield 57, 3) := by decide +kernel
theorem dX5_count_59 : decode cX5_count 59 = .ok (.ireturn, 1) := by decide +kernel
theorem dX5_count_60 : decode cX5_count 60 = .ok (.aload_n 0, 1) := by decide +kernel
theorem dX5_count_61 : decode cX5_count 61 = .ok (.getfield 12, 3) := by decide +kernel
theorem dX5_count_64 : decode cX5_count 64 = .ok (.getfield 77, 3) := by decide +kernel
theorem dX5_count_67 : decode cX5_count 67 = .ok (.ireturn, 1) := by decide +kernel
theorem dX5_count_68 : decode cX5_count 68 = .ok (.aload_n 0, 1) := by decide +kernel
theorem dX5_count_69 : decode cX5_count 69 = .ok (.getfield 12, 3) := by decide +kernel
theorem dX5_count_72 : decode cX5_count 72 = .ok (.getfield 84, 3) := by decide +kernel
theorem dX5_count_75 : decode cX5_count 75 = .ok (.invokestatic 114, 3) := by decide +kernel
theorem dX5_count_78 : decode cX5_count 78 = .ok (.invokestatic 93, 3) := by decide +kernel
theorem dX5_count_81 : decode cX5_count 81 = .ok (.ireturn, 1) := by decide +kernel
theorem dX5_count_82 : decode cX5_count 82 = .ok (.aload_n 0, 1) := by decide +kernel
theorem dX5_count_83 : decode cX5_count 83 = .ok (.getfield 12, 3) := by decide +kernel
theorem dX5_count_86 : decode cX5_count 86 = .ok (.getfield 84, 3) := by decide +kernel
theorem dX5_count_89 : decode cX5_count 89 = .ok (.invokestatic 87, 3) := by decide +kernel
theorem dX5_count_92 : decode cX5_count 92 = .ok (.invokestatic 93, 3) := by decide +kernel
theorem dX5_count_95 : decode cX5_count 95 = .ok (.ireturn, 1) := by decide +kernel
theorem dX5_count_96 : decode cX5_count 96 = .ok (.aload_n 0, 1) := by decide +kernel
theorem dX5_count_97 : decode cX5_count 97 = .ok (.getfield 12, 3) := by decide +kernel
theorem dX5_count_100 : decode cX5_count 100 = .ok (.getfield 84, 3) := by decide +kernel
theorem dX5_count_103 : decode cX5_count 103 = .ok (.invokestatic 207, 3) := by decide +kernel
theorem dX5_count_106 : decode cX5_count 106 = .ok (.invokestatic 93, 3) := by decide +kernel
theorem dX5_count_109 : decode cX5_count 109 = .ok (.ireturn, 1) := by decide +kernel
theorem dX5_count_110 : decode cX5_count 110 = .ok (.aload_n 0, 1) := by decide +kernel
theorem dX5_count_111 : decode cX5_count 111 = .ok (.getfield 28, 3) := by decide +kernel
theorem dX5_count_114 : decode cX5_count 114 = .ok (.aload_n 0, 1) := by decide +kernel
theorem dX5_count_115 : decode cX5_count 115 = .ok (.getfield 12, 3) := by decide +kernel
theorem dX5_count_118 : decode cX5_count 118 = .ok (.getfield 84, 3) := by decide +kernel
theorem dX5_count_121 : decode cX5_count 121 = .ok (.invokevirtual 144, 3) := by decide +kernel
theorem dX5_count_124 : decode cX5_count 124 = .ok (.invokestatic 93, 3) := by decide +kernel
theorem dX5_count_127 : decode cX5_count 127 = .ok (.ireturn, 1) := by decide +kernel
theorem dX5_count_128 : decode cX5_count 128 = .ok (.aload_n 0, 1) := by decide +kernel
theorem dX5_count_129 : decode cX5_count 129 = .ok (.getfield 28, 3) := by decide +kernel
theorem dX5_count_132 : decode cX5_count 132 = .ok (.aload_n 0, 1) := by decide +kernel
theorem dX5_count_133 : decode cX5_count 133 = .ok (.getfield 12, 3) := by decide +kernel
theorem dX5_count_136 : decode cX5_count 136 = .ok (.getfield 84, 3) := by decide +kernel
theorem dX5_count_139 : decode cX5_count 139 = .ok (.invokevirtual 210, 3) := by decide +kernel
theorem dX5_count_142 : decode cX5_count 142 = .ok (.ireturn, 1) := by decide +kernel
theorem dX5_count_143 : decode cX5_count 143 = .ok (.aload_n 0, 1) := by decide +kernel
theorem dX5_count_144 : decode cX5_count 144 = .ok (.getfield 12, 3) := by decide +kernel
theorem dX5_count_147 : decode cX5_count 147 = .ok (.getfield 98, 3) := by decide +kernel
theorem dX5_count_150 : decode cX5_count 150 = .ok (.ireturn, 1) := by decide +kernel
theorem dX5_count_151 : decode cX5_count 151 = .ok (.aload_n 0, 1) := by decide +kernel
theorem dX5_count_152 : decode cX5_count 152 = .ok (.getfield 45, 3) := by decide +kernel
theorem dX5_count_155 : decode cX5_count 155 = .ok (.ireturn, 1) := by decide +kernel
theorem dX5_count_156 : decode cX5_count 156 = .ok (.bipush (-2), 2) := by decide +kernel
theorem dX5_count_158 : decode cX5_count 158 = .ok (.ireturn, 1) := by decide +kernel
theorem dX5_openLost_0 : decode cX5_openLost 0 = .ok (.aload_n 0, 1) := by decide +kernel
theorem dX5_openLost_1 : decode cX5_openLost 1 = .ok (.getfield 28, 3) := by decide +kernel
theorem dX5_openLost_4 : decode cX5_openLost 4 = .ok (.aload_n 0, 1) := by decide +kernel
theorem dX5_openLost_5 : decode cX5_openLost 5 = .ok (.getfield 12, 3) := by decide +kernel
theorem dX5_openLost_8 : decode cX5_openLost 8 = .ok (.getfield 84, 3) := by decide +kernel
theorem dX5_openLost_11 : decode cX5_openLost 11 = .ok (.invokevirtual 213, 3) := by decide +kernel
theorem dX5_openLost_14 : decode cX5_openLost 14 = .ok (.istore_n 1, 1) := by decide +kernel
theorem dX5_openLost_15 : decode cX5_openLost 15 = .ok (.aload_n 0, 1) := by decide +kernel
theorem dX5_openLost_16 : decode cX5_openLost 16 = .ok (.getfield 12, 3) := by decide +kernel
theorem dX5_openLost_19 : decode cX5_openLost 19 = .ok (.aload_n 0, 1) := by decide +kernel
theorem dX5_openLost_20 : decode cX5_openLost 20 = .ok (.getfield 12, 3) := by decide +kernel
theorem dX5_openLost_23 : decode cX5_openLost 23 = .ok (.getfield 84, 3) := by decide +kernel
theorem dX5_openLost_26 : decode cX5_openLost 26 = .ok (.iload_n 1, 1) := by decide +kernel
theorem dX5_openLost_27 : decode cX5_openLost 27 = .ok (.invokestatic 169, 3) := by decide +kernel
theorem dX5_openLost_30 : decode cX5_openLost 30 = .ok (.putfield 84, 3) := by decide +kernel
theorem dX5_openLost_33 : decode cX5_openLost 33 = .ok (.iload_n 1, 1) := by decide +kernel
theorem dX5_openLost_34 : decode cX5_openLost 34 = .ok (.invokestatic 93, 3) := by decide +kernel
theorem dX5_openLost_37 : decode cX5_openLost 37 = .ok (.ireturn, 1) := by decide +kernel
theorem dX5_isGoal_0 : decode cX5_isGoal 0 = .ok (.iload_n 1, 1) := by decide +kernel
theorem dX5_isGoal_1 : decode cX5_isGoal 1 = .ok (.aload_n 0, 1) := by decide +kernel
theorem dX5_isGoal_2 : decode cX5_isGoal 2 = .ok (.getfield 12, 3) := by decide +kernel
theorem dX5_isGoal_5 : decode cX5_isGoal 5 = .ok (.getfield 77, 3) := by decide +kernel
theorem dX5_isGoal_8 : decode cX5_isGoal 8 = .ok (.invokestatic 191, 3) := by decide +kernel
theorem dX5_isGoal_11 : decode cX5_isGoal 11 = .ok (.invokestatic 53, 3) := by decide +kernel
theorem dX5_isGoal_14 : decode cX5_isGoal 14 = .ok (.ifCond .eq 19, 3) := by decide +kernel
theorem dX5_isGoal_17 : decode cX5_isGoal 17 = .ok (.iload_n 2, 1) := by decide +kernel
theorem dX5_isGoal_18 : decode cX5_isGoal 18 = .ok (.bipush 6, 2) := by decide +kernel
theorem dX5_isGoal_20 : decode cX5_isGoal 20 = .ok (.invokestatic 191, 3) := by decide +kernel
theorem dX5_isGoal_23 : decode cX5_isGoal 23 = .ok (.invokestatic 53, 3) := by decide +kernel
theorem dX5_isGoal_26 : decode cX5_isGoal 26 = .ok (.ifCond .eq 7, 3) := by decide +kernel
theorem dX5_isGoal_29 : decode cX5_isGoal 29 = .ok (.iconst 1, 1) := by decide +kernel
theorem dX5_isGoal_30 : decode cX5_isGoal 30 = .ok (.goto 4, 3) := by decide +kernel
theorem dX5_isGoal_33 : decode cX5_isGoal 33 = .ok (.iconst 0, 1) := by decide +kernel
theorem dX5_isGoal_34 : decode cX5_isGoal 34 = .ok (.ireturn, 1) := by decide +kernel
theorem dX5_isBus_0 : decode cX5_isBus 0 = .ok (.iload_n 0, 1) := by decide +kernel
theorem dX5_isBus_1 : decode cX5_isBus 1 = .ok (.iconst 5, 1) := by decide +kernel
theorem dX5_isBus_2 : decode cX5_isBus 2 = .ok (.invokestatic 53, 3) := by decide +kernel
theorem dX5_isBus_5 : decode cX5_isBus 5 = .ok (.ireturn, 1) := by decide +kernel
theorem dX5_isWithin_0 : decode cX5_isWithin 0 = .ok (.iload_n 0, 1) := by decide +kernel
theorem dX5_isWithin_1 : decode cX5_isWithin 1 = .ok (.ifCond .lt 12, 3) := by decide +kernel
theorem dX5_isWithin_4 : decode cX5_isWithin 4 = .ok (.iload_n 0, 1) := by decide +kernel
theorem dX5_isWithin_5 : decode cX5_isWithin 5 = .ok (.iload_n 1, 1) := by decide +kernel
theorem dX5_isWithin_6 : decode cX5_isWithin 6 = .ok (.if_icmp .gt 7, 3) := by decide +kernel
theorem dX5_isWithin_9 : decode cX5_isWithin 9 = .ok (.iconst 1, 1) := by decide +kernel
theorem dX5_isWithin_10 : decode cX5_isWithin 10 = .ok (.goto 4, 3) := by decide +kernel
theorem dX5_isWithin_13 : decode cX5_isWithin 13 = .ok (.iconst 0, 1) := by decide +kernel
theorem dX5_isWithin_14 : decode cX5_isWithin 14 = .ok (.ireturn, 1) := by decide +kernel
theorem dX5_setOfFirst_0 : decode cX5_setOfFirst 0 = .ok (.iconst 1, 1) := by decide +kernel
theorem dX5_setOfFirst_1 : decode cX5_setOfFirst 1 = .ok (.iload_n 0, 1) := by decide +kernel
theorem dX5_setOfFirst_2 : decode cX5_setOfFirst 2 = .ok (.ishl, 1) := by decide +kernel
theorem dX5_setOfFirst_3 : decode cX5_setOfFirst 3 = .ok (.iconst 1, 1) := by decide +kernel
theorem dX5_setOfFirst_4 : decode cX5_setOfFirst 4 = .ok (.isub, 1) := by decide +kernel
theorem dX5_setOfFirst_5 : decode cX5_setOfFirst 5 = .ok (.ireturn, 1) := by decide +kernel
theorem dX5_bit_0 : decode cX5_bit 0 = .ok (.iload_n 0, 1) := by decide +kernel
theorem dX5_bit_1 : decode cX5_bit 1 = .ok (.iload_n 1, 1) := by decide +kernel
theorem dX5_bit_2 : decode cX5_bit 2 = .ok (.ishr, 1) := by decide +kernel
theorem dX5_bit_3 : decode cX5_bit 3 = .ok (.iconst 1, 1) := by decide +kernel
theorem dX5_bit_4 : decode cX5_bit 4 = .ok (.iand, 1) := by decide +kernel
theorem dX5_bit_5 : decode cX5_bit 5 = .ok (.ireturn, 1) := by decide +kernel
theorem dX6_init_0 : decode cX6_init 0 = .ok (.aload_n 0, 1) := by decide +kernel
theorem dX6_init_1 : decode cX6_init 1 = .ok (.invokespecial 1, 3) := by decide +kernel
theorem dX6_init_4 : decode cX6_init 4 = .ok (.aload_n 0, 1) := by decide +kernel
theorem dX6_init_5 : decode cX6_init 5 = .ok (.bipush 42, 2) := by decide +kernel
theorem dX6_init_7 : decode cX6_init 7 = .ok (.newarray .int, 2) := by decide +kernel
theorem dX6_init_9 : decode cX6_init 9 = .ok (.putfield 7, 3) := by decide +kernel
theorem dX6_init_12 : decode cX6_init 12 = .ok (.aload_n 0, 1) := by decide +kernel
theorem dX6_init_13 : decode cX6_init 13 = .ok (.bipush 84, 2) := by decide +kernel
theorem dX6_init_15 : decode cX6_init 15 = .ok (.newarray .int, 2) := by decide +kernel
theorem dX6_init_17 : decode cX6_init 17 = .ok (.putfield 13, 3) := by decide +kernel
theorem dX6_init_20 : decode cX6_init 20 = .ok (.aload_n 0, 1) := by decide +kernel
theorem dX6_init_21 : decode cX6_init 21 = .ok (.iconst 2, 1) := by decide +kernel
theorem dX6_init_22 : decode cX6_init 22 = .ok (.newarray .boolean, 2) := by decide +kernel
theorem dX6_init_24 : decode cX6_init 24 = .ok (.putfield 16, 3) := by decide +kernel
theorem dX6_init_27 : decode cX6_init 27 = .ok (.aload_n 0, 1) := by decide +kernel
theorem dX6_init_28 : decode cX6_init 28 = .ok (.bipush 6, 2) := by decide +kernel
theorem dX6_init_30 : decode cX6_init 30 = .ok (.newarray .int, 2) := by decide +kernel
theorem dX6_init_32 : decode cX6_init 32 = .ok (.putfield 20, 3) := by decide +kernel
theorem dX6_init_35 : decode cX6_init 35 = .ok (.aload_n 0, 1) := by decide +kernel
theorem dX6_init_36 : decode cX6_init 36 = .ok (.iconst 3, 1) := by decide +kernel
theorem dX6_init_37 : decode cX6_init 37 = .ok (.newarray .int, 2) := by decide +kernel
theorem dX6_init_39 : decode cX6_init 39 = .ok (.putfield 23, 3) := by decide +kernel
theorem dX6_init_42 : decode cX6_init 42 = .ok (.aload_n 0, 1) := by decide +kernel
theorem dX6_init_43 : decode cX6_init 43 = .ok (.bipush 6, 2) := by decide +kernel
theorem dX6_init_45 : decode cX6_init 45 = .ok (.newarray .int, 2) := by decide +kernel
theorem dX6_init_47 : decode cX6_init 47 = .ok (.putfield 26, 3) := by decide +kernel
theorem dX6_init_50 : decode cX6_init 50 = .ok (.aload_n 0, 1) := by decide +kernel
theorem dX6_init_51 : decode cX6_init 51 = .ok (.bipush 6, 2) := by decide +kernel
theorem dX6_init_53 : decode cX6_init 53 = .ok (.newarray .int, 2) := by decide +kernel
theorem dX6_init_55 : decode cX6_init 55 = .ok (.putfield 29, 3) := by decide +kernel
theorem dX6_init_58 : decode cX6_init 58 = .ok (.aload_n 0, 1) := by decide +kernel
theorem dX6_init_59 : decode cX6_init 59 = .ok (.bipush 6, 2) := by decide +kernel
theorem dX6_init_61 : decode cX6_init 61 = .ok (.newarray .boolean, 2) := by decide +kernel
theorem dX6_init_63 : decode cX6_init 63 = .ok (.putfield 32, 3) := by decide +kernel
theorem dX6_init_66 : decode cX6_init 66 = .ok (.aload_n 0, 1) := by decide +kernel
theorem dX6_init_67 : decode cX6_init 67 = .ok (.sipush 8000, 3) := by decide +kernel
theorem dX6_init_70 : decode cX6_init 70 = .ok (.newarray .int, 2) := by decide +kernel
theorem dX6_init_72 : decode cX6_init 72 = .ok (.putfield 35, 3) := by decide +kernel
theorem dX6_init_75 : decode cX6_init 75 = .ok (.aload_n 0, 1) := by decide +kernel
theorem dX6_init_76 : decode cX6_init 76 = .ok (.sipush 8000, 3) := by decide +kernel
theorem dX6_init_79 : decode cX6_init 79 = .ok (.newarray .boolean, 2) := by decide +kernel
theorem dX6_init_81 : decode cX6_init 81 = .ok (.putfield 38, 3) := by decide +kernel
theorem dX6_init_84 : decode cX6_init 84 = .ok (.aload_n 0, 1) := by decide +kernel
theorem dX6_init_85 : decode cX6_init 85 = .ok (.sipush 8000, 3) := by decide +kernel
theorem dX6_init_88 : decode cX6_init 88 = .ok (.newarray .int, 2) := by decide +kernel
theorem dX6_init_90 : decode cX6_init 90 = .ok (.putfield 41, 3) := by decide +kernel
theorem dX6_init_93 : decode cX6_init 93 = .ok (.return_, 1) := by decide +kernel
theorem dX6_in_0 : decode cX6_in 0 = .ok (.iload_n 0, 1) := by decide +kernel
theorem dX6_in_1 : decode cX6_in 1 = .ok (.iload_n 1, 1) := by decide +kernel
theorem dX6_in_2 : decode cX6_in 2 = .ok (.if_icmp .lt 12, 3) := by decide +kernel
theorem dX6_in_5 : decode cX6_in 5 = .ok (.iload_n 0, 1) := by decide +kernel
theorem dX6_in_6 : decode cX6_in 6 = .ok (.iload_n 2, 1) := by decide +kernel
theorem dX6_in_7 : decode cX6_in 7 = .ok (.if_icmp .gt 7, 3) := by decide +kernel
theorem dX6_in_10 : decode cX6_in 10 = .ok (.iconst 1, 1) := by decide +kernel
theorem dX6_in_11 : decode cX6_in 11 = .ok (.goto 4, 3) := by decide +kernel
theorem dX6_in_14 : decode cX6_in 14 = .ok (.iconst 0, 1) := by decide +kernel
theorem dX6_in_15 : decode cX6_in 15 = .ok (.ireturn, 1) := by decide +kernel
theorem dX6_isBus_0 : decode cX6_isBus 0 = .ok (.iload_n 0, 1) := by decide +kernel
theorem dX6_isBus_1 : decode cX6_isBus 1 = .ok (.iconst 0, 1) := by decide +kernel
theorem dX6_isBus_2 : decode cX6_isBus 2 = .ok (.iconst 5, 1) := by decide +kernel
theorem dX6_isBus_3 : decode cX6_isBus 3 = .ok (.invokestatic 44, 3) := by decide +kernel
theorem dX6_isBus_6 : decode cX6_isBus 6 = .ok (.ireturn, 1) := by decide +kernel
theorem dX6_isLine_0 : decode cX6_isLine 0 = .ok (.iload_n 1, 1) := by decide +kernel
theorem dX6_isLine_1 : decode cX6_isLine 1 = .ok (.iconst 0, 1) := by decide +kernel
theorem dX6_isLine_2 : decode cX6_isLine 2 = .ok (.aload_n 0, 1) := by decide +kernel
theorem dX6_isLine_3 : decode cX6_isLine 3 = .ok (.getfield 7, 3) := by decide +kernel
theorem dX6_isLine_6 : decode cX6_isLine 6 = .ok (.bipush 39, 2) := by decide +kernel
theorem dX6_isLine_8 : decode cX6_isLine 8 = .ok (.iaload, 1) := by decide +kernel
theorem dX6_isLine_9 : decode cX6_isLine 9 = .ok (.iconst 1, 1) := by decide +kernel
theorem dX6_isLine_10 : decode cX6_isLine 10 = .ok (.isub, 1) := by decide +kernel
theorem dX6_isLine_11 : decode cX6_isLine 11 = .ok (.invokestatic 44, 3) := by decide +kernel
theorem dX6_isLine_14 : decode cX6_isLine 14 = .ok (.ireturn, 1) := by decide +kernel
theorem dX6_isMachine_0 : decode cX6_isMachine 0 = .ok (.iload_n 1, 1) := by decide +kernel
theorem dX6_isMachine_1 : decode cX6_isMachine 1 = .ok (.iconst 0, 1) := by decide +kernel
theorem dX6_isMachine_2 : decode cX6_isMachine 2 = .ok (.aload_n 0, 1) := by decide +kernel
theorem dX6_isMachine_3 : decode cX6_isMachine 3 = .ok (.getfield 7, 3) := by decide +kernel
theorem dX6_isMachine_6 : decode cX6_isMachine 6 = .ok (.bipush 40, 2) := by decide +kernel
theorem dX6_isMachine_8 : decode cX6_isMachine 8 = .ok (.iaload, 1) := by decide +kernel
theorem dX6_isMachine_9 : decode cX6_isMachine 9 = .ok (.iconst 1, 1) := by decide +kernel
theorem dX6_isMachine_10 : decode cX6_isMachine 10 = .ok (.isub, 1) := by decide +kernel
theorem dX6_isMachine_11 : decode cX6_isMachine 11 = .ok (.invokestatic 44, 3) := by decide +kernel
theorem dX6_isMachine_14 : decode cX6_isMachine 14 = .ok (.ireturn, 1) := by decide +kernel
theorem dX6_line_0 : decode cX6_line 0 = .ok (.iload_n 1, 1) := by decide +kernel
theorem dX6_line_1 : decode cX6_line 1 = .ok (.invokestatic 48, 3) := by decide +kernel
theorem dX6_line_4 : decode cX6_line 4 = .ok (.ifCond .eq 15, 3) := by decide +kernel
theorem dX6_line_7 : decode cX6_line 7 = .ok (.iload_n 2, 1) := by decide +kernel
theorem dX6_line_8 : decode cX6_line 8 = .ok (.invokestatic 48, 3) := by decide +kernel
theorem dX6_line_11 : decode cX6_line 11 = .ok (.ifCond .eq 8, 3) := by decide +kernel
theorem dX6_line_14 : decode cX6_line 14 = .ok (.iload_n 1, 1) := by decide +kernel
theorem dX6_line_15 : decode cX6_line 15 = .ok (.iload_n 2, 1) := by decide +kernel
theorem dX6_line_16 : decode cX6_line 16 = .ok (.if_icmp .ne 5, 3) := by decide +kernel
theorem dX6_line_19 : decode cX6_line 19 = .ok (.iconst (-1), 1) := by decide +kernel
theorem dX6_line_20 : decode cX6_line 20 = .ok (.ireturn, 1) := by decide +kernel
theorem dX6_line_21 : decode cX6_line 21 = .ok (.iload_n 3, 1) := by decide +kernel
theorem dX6_line_22 : decode cX6_line 22 = .ok (.iconst 0, 1) := by decide +kernel
theorem dX6_line_23 : decode cX6_line 23 = .ok (.bipush 9, 2) := by decide +kernel
theorem dX6_line_25 : decode cX6_line 25 = .ok (.invokestatic 44, 3) := by decide +kernel
theorem dX6_line_28 : decode cX6_line 28 = .ok (.ifCond .ne 6, 3) := by decide +kernel
theorem dX6_line_31 : decode cX6_line 31 = .ok (.bipush (-2), 2) := by decide +kernel
theorem dX6_line_33 : decode cX6_line 33 = .ok (.ireturn, 1) := by decide +kernel
theorem dX6_line_34 : decode cX6_line 34 = .ok (.aload_n 0, 1) := by decide +kernel
theorem dX6_line_35 : decode cX6_line 35 = .ok (.getfield 7, 3) := by decide +kernel
theorem dX6_line_38 : decode cX6_line 38 = .ok (.bipush 39, 2) := by decide +kernel
theorem dX6_line_40 : decode cX6_line 40 = .ok (.iaload, 1) := by decide +kernel
theorem dX6_line_41 : decode cX6_line 41 = .ok (.istore 4, 2) := by decide +kernel
theorem dX6_line_43 : decode cX6_line 43 = .ok (.iload 4, 2) := by decide +kernel
theorem dX6_line_45 : decode cX6_line 45 = .ok (.bipush 6, 2) := by decide +kernel
theorem dX6_line_47 : decode cX6_line 47 = .ok (.if_icmp .ne 6, 3) := by decide +kernel
theorem dX6_line_50 : decode cX6_line 50 = .ok (.bipush (-4), 2) := by decide +kernel
theorem dX6_line_52 : decode cX6_line 52 = .ok (.ireturn, 1) := by decide +kernel
theorem dX6_line_53 : decode cX6_line 53 = .ok (.aload_n 0, 1) := by decide +kernel
theorem dX6_line_54 : decode cX6_line 54 = .ok (.getfield 7, 3) := by decide +kernel
theorem dX6_line_57 : decode cX6_line 57 = .ok (.iconst 0, 1) := by decide +kernel
theorem dX6_line_58 : decode cX6_line 58 = .ok (.iload 4, 2) := by decide +kernel
theorem dX6_line_60 : decode cX6_line 60 = .ok (.iadd, 1) := by decide +kernel
theorem dX6_line_61 : decode cX6_line 61 = .ok (.iload_n 1, 1) := by decide +kernel
theorem dX6_line_62 : decode cX6_line 62 = .ok (.iload_n 2, 1) := by decide +kernel
theorem dX6_line_63 : decode cX6_line 63 = .ok (.if_icmp .ge 7, 3) := by decide +kernel
theorem dX6_line_66 : decode cX6_line 66 = .ok (.iload_n 1, 1) := by decide +kernel
theorem dX6_line_67 : decode cX6_line 67 = .ok (.goto 4, 3) := by decide +kernel
theorem dX6_line_70 : decode cX6_line 70 = .ok (.iload_n 2, 1) := by decide +kernel
theorem dX6_line_71 : decode cX6_line 71 = .ok (.iastore, 1) := by decide +kernel
theorem dX6_line_72 : decode cX6_line 72 = .ok (.aload_n 0, 1) := by decide +kernel
theorem dX6_line_73 : decode cX6_line 73 = .ok (.getfield 7, 3) := by decide +kernel
theorem dX6_line_76 : decode cX6_line 76 = .ok (.bipush 6, 2) := by decide +kernel
theorem dX6_line_78 : decode cX6_line 78 = .ok (.iload 4, 2) := by decide +kernel
theorem dX6_line_80 : decode cX6_line 80 = .ok (.iadd, 1) := by decide +kernel
theorem dX6_line_81 : decode cX6_line 81 = .ok (.iload_n 1, 1) := by decide +kernel
theorem dX6_line_82 : decode cX6_line 82 = .ok (.iload_n 2, 1) := by decide +kernel
theorem dX6_line_83 : decode cX6_line 83 = .ok (.if_icmp .ge 7, 3) := by decide +kernel
theorem dX6_line_86 : decode cX6_line 86 = .ok (.iload_n 2, 1) := by decide +kernel
theorem dX6_line_87 : decode cX6_line 87 = .ok (.goto 4, 3) := by decide +kernel
theorem dX6_line_90 : decode cX6_line 90 = .ok (.iload_n 1, 1) := by decide +kernel
theorem dX6_line_91 : decode cX6_line 91 = .ok (.iastore, 1) := by decide +kernel
theorem dX6_line_92 : decode cX6_line 92 = .ok (.aload_n 0, 1) := by decide +kernel
theorem dX6_line_93 : decode cX6_line 93 = .ok (.getfield 7, 3) := by decide +kernel
theorem dX6_line_96 : decode cX6_line 96 = .ok (.bipush 12, 2) := by decide +kernel
theorem dX6_line_98 : decode cX6_line 98 = .ok (.iload 4, 2) := by decide +kernel
theorem dX6_line_100 : decode cX6_line 100 = .ok (.iadd, 1) := by decide +kernel
theorem dX6_line_101 : decode cX6_line 101 = .ok (.iload_n 3, 1) := by decide +kernel
theorem dX6_line_102 : decode cX6_line 102 = .ok (.iastore, 1) := by decide +kernel
theorem dX6_line_103 : decode cX6_line 103 = .ok (.aload_n 0, 1) := by decide +kernel
theorem dX6_line_104 : decode cX6_line 104 = .ok (.getfield 7, 3) := by decide +kernel
theorem dX6_line_107 : decode cX6_line 107 = .ok (.bipush 18, 2) := by decide +kernel
theorem dX6_line_109 : decode cX6_line 109 = .ok (.iload 4, 2) := by decide +kernel
theorem dX6_line_111 : decode cX6_line 111 = .ok (.iadd, 1) := by decide +kernel
theorem dX6_line_112 : decode cX6_line 112 = .ok (.iconst 0, 1) := by decide +kernel
theorem dX6_line_113 : decode cX6_line 113 = .ok (.iastore, 1) := by decide +kernel
theorem dX6_line_114 : decode cX6_line 114 = .ok (.aload_n 0, 1) := by decide +kernel
theorem dX6_line_115 : decode cX6_line 115 = .ok (.getfield 7, 3) := by decide +kernel
theorem dX6_line_118 : decode cX6_line 118 = .ok (.bipush 39, 2) := by decide +kernel
theorem dX6_line_120 : decode cX6_line 120 = .ok (.dup2, 1) := by decide +kernel
theorem dX6_line_121 : decode cX6_line 121 = .ok (.iaload, 1) := by decide +kernel
theorem dX6_line_122 : decode cX6_line 122 = .ok (.iconst 1, 1) := by decide +kernel
theorem dX6_line_123 : decode cX6_line 123 = .ok (.iadd, 1) := by decide +kernel
theorem dX6_line_124 : decode cX6_line 124 = .ok (.iastore, 1) := by decide +kernel
theorem dX6_line_125 : decode cX6_line 125 = .ok (.iload 4, 2) := by decide +kernel
theorem dX6_line_127 : decode cX6_line 127 = .ok (.ireturn, 1) := by decide +kernel
theorem dX6_machine_0 : decode cX6_machine 0 = .ok (.iload_n 1, 1) := by decide +kernel
theorem dX6_machine_1 : decode cX6_machine 1 = .ok (.invokestatic 48, 3) := by decide +kernel
theorem dX6_machine_4 : decode cX6_machine 4 = .ok (.ifCond .ne 5, 3) := by decide +kernel
theorem dX6_machine_7 : decode cX6_machine 7 = .ok (.iconst (-1), 1) := by decide +kernel
theorem dX6_machine_8 : decode cX6_machine 8 = .ok (.ireturn, 1) := by decide +kernel
theorem dX6_machine_9 : decode cX6_machine 9 = .ok (.iload_n 2, 1) := by decide +kernel
theorem dX6_machine_10 : decode cX6_machine 10 = .ok (.iconst 0, 1) := by decide +kernel
theorem dX6_machine_11 : decode cX6_machine 11 = .ok (.bipush 20, 2) := by decide +kernel
theorem dX6_machine_13 : decode cX6_machine 13 = .ok (.invokestatic 44, 3) := by decide +kernel
theorem dX6_machine_16 : decode cX6_machine 16 = .ok (.ifCond .eq 23, 3) := by decide +kernel
theorem dX6_machine_19 : decode cX6_machine 19 = .ok (.iload_n 3, 1) := by decide +kernel
theorem dX6_machine_20 : decode cX6_machine 20 = .ok (.iconst 0, 1) := by decide +kernel
theorem dX6_machine_21 : decode cX6_machine 21 = .ok (.bipush 40, 2) := by decide +kernel
theorem dX6_machine_23 : decode cX6_machine 23 = .ok (.invokestatic 44, 3) := by decide +kernel
theorem dX6_machine_26 : decode cX6_machine 26 = .ok (.ifCond .eq 13, 3) := by decide +kernel
theorem dX6_machine_29 : decode cX6_machine 29 = .ok (.iload 4, 2) := by decide +kernel
theorem dX6_machine_31 : decode cX6_machine 31 = .ok (.iconst 0, 1) := by decide +kernel
theorem dX6_machine_32 : decode cX6_machine 32 = .ok (.iconst 3, 1) := by decide +kernel
theorem dX6_machine_33 : decode cX6_machine 33 = .ok (.invokestatic 44, 3) := by decide +kernel
theorem dX6_machine_36 : decode cX6_machine 36 = .ok (.ifCond .ne 6, 3) := by decide +kernel
theorem dX6_machine_39 : decode cX6_machine 39 = .ok (.bipush (-2), 2) := by decide +kernel
theorem dX6_machine_41 : decode cX6_machine 41 = .ok (.ireturn, 1) := by decide +kernel
theorem dX6_machine_42 : decode cX6_machine 42 = .ok (.aload_n 0, 1) := by decide +kernel
theorem dX6_machine_43 : decode cX6_machine 43 = .ok (.getfield 7, 3) := by decide +kernel
theorem dX6_machine_46 : decode cX6_machine 46 = .ok (.bipush 40, 2) := by decide +kernel
theorem dX6_machine_48 : decode cX6_machine 48 = .ok (.iaload, 1) := by decide +kernel
theorem dX6_machine_49 : decode cX6_machine 49 = .ok (.istore 5, 2) := by decide +kernel
theorem dX6_machine_51 : decode cX6_machine 51 = .ok (.iload 5, 2) := by decide +kernel
theorem dX6_machine_53 : decode cX6_machine 53 = .ok (.iconst 3, 1) := by decide +kernel
theorem dX6_machine_54 : decode cX6_machine 54 = .ok (.if_icmp .ne 6, 3) := by decide +kernel
theorem dX6_machine_57 : decode cX6_machine 57 = .ok (.bipush (-4), 2) := by decide +kernel
theorem dX6_machine_59 : decode cX6_machine 59 = .ok (.ireturn, 1) := by decide +kernel
theorem dX6_machine_60 : decode cX6_machine 60 = .ok (.aload_n 0, 1) := by decide +kernel
theorem dX6_machine_61 : decode cX6_machine 61 = .ok (.getfield 7, 3) := by decide +kernel
theorem dX6_machine_64 : decode cX6_machine 64 = .ok (.bipush 24, 2) := by decide +kernel
theorem dX6_machine_66 : decode cX6_machine 66 = .ok (.iload 5, 2) := by decide +kernel
theorem dX6_machine_68 : decode cX6_machine 68 = .ok (.iadd, 1) := by decide +kernel
theorem dX6_machine_69 : decode cX6_machine 69 = .ok (.iload_n 1, 1) := by decide +kernel
theorem dX6_machine_70 : decode cX6_machine 70 = .ok (.iastore, 1) := by decide +kernel
theorem dX6_machine_71 : decode cX6_machine 71 = .ok (.aload_n 0, 1) := by decide +kernel
theorem dX6_machine_72 : decode cX6_machine 72 = .ok (.getfield 7, 3) := by decide +kernel
theorem dX6_machine_75 : decode cX6_machine 75 = .ok (.bipush 27, 2) := by decide +kernel
theorem dX6_machine_77 : decode cX6_machine 77 = .ok (.iload 5, 2) := by decide +kernel
theorem dX6_machine_79 : decode cX6_machine 79 = .ok (.iadd, 1) := by decide +kernel
theorem dX6_machine_80 : decode cX6_machine 80 = .ok (.iload_n 2, 1) := by decide +kernel
theorem dX6_machine_81 : decode cX6_machine 81 = .ok (.iastore, 1) := by decide +kernel
theorem dX6_machine_82 : decode cX6_machine 82 = .ok (.aload_n 0, 1) := by decide +kernel
theorem dX6_machine_83 : decode cX6_machine 83 = .ok (.getfield 7, 3) := by decide +kernel
theorem dX6_machine_86 : decode cX6_machine 86 = .ok (.bipush 30, 2) := by decide +kernel
theorem dX6_machine_88 : decode cX6_machine 88 = .ok (.iload 5, 2) := by decide +kernel
theorem dX6_machine_90 : decode cX6_machine 90 = .ok (.iadd, 1) := by decide +kernel
theorem dX6_machine_91 : decode cX6_machine 91 = .ok (.iload_n 3, 1) := by decide +kernel
theorem dX6_machine_92 : decode cX6_machine 92 = .ok (.iastore, 1) := by decide +kernel
theorem dX6_machine_93 : decode cX6_machine 93 = .ok (.aload_n 0, 1) := by decide +kernel
theorem dX6_machine_94 : decode cX6_machine 94 = .ok (.getfield 7, 3) := by decide +kernel
theorem dX6_machine_97 : decode cX6_machine 97 = .ok (.bipush 33, 2) := by decide +kernel
theorem dX6_machine_99 : decode cX6_machine 99 = .ok (.iload 5, 2) := by decide +kernel
theorem dX6_machine_101 : decode cX6_machine 101 = .ok (.iadd, 1) := by decide +kernel
theorem dX6_machine_102 : decode cX6_machine 102 = .ok (.iload 4, 2) := by decide +kernel
theorem dX6_machine_104 : decode cX6_machine 104 = .ok (.iastore, 1) := by decide +kernel
theorem dX6_machine_105 : decode cX6_machine 105 = .ok (.aload_n 0, 1) := by decide +kernel
theorem dX6_machine_106 : decode cX6_machine 106 = .ok (.getfield 7, 3) := by decide +kernel
theorem dX6_machine_109 : decode cX6_machine 109 = .ok (.bipush 36, 2) := by decide +kernel
theorem dX6_machine_111 : decode cX6_machine 111 = .ok (.iload 5, 2) := by decide +kernel
theorem dX6_machine_113 : decode cX6_machine 113 = .ok (.iadd, 1) := by decide +kernel
theorem dX6_machine_114 : decode cX6_machine 114 = .ok (.iconst 0, 1) := by decide +kernel
theorem dX6_machine_115 : decode cX6_machine 115 = .ok (.iastore, 1) := by decide +kernel
theorem dX6_machine_116 : decode cX6_machine 116 = .ok (.aload_n 0, 1) := by decide +kernel
theorem dX6_machine_117 : decode cX6_machine 117 = .ok (.getfield 7, 3) := by decide +kernel
theorem dX6_machine_120 : decode cX6_machine 120 = .ok (.bipush 40, 2) := by decide +kernel
theorem dX6_machine_122 : decode cX6_machine 122 = .ok (.dup2, 1) := by decide +kernel
theorem dX6_machine_123 : decode cX6_machine 123 = .ok (.iaload, 1) := by decide +kernel
theorem dX6_machine_124 : decode cX6_machine 124 = .ok (.iconst 1, 1) := by decide +kernel
theorem dX6_machine_125 : decode cX6_machine 125 = .ok (.iadd, 1) := by decide +kernel
theorem dX6_machine_126 : decode cX6_machine 126 = .ok (.iastore, 1) := by decide +kernel
theorem dX6_machine_127 : decode cX6_machine 127 = .ok (.iload 5, 2) := by decide +kernel
theorem dX6_machine_129 : decode cX6_machine 129 = .ok (.ireturn, 1) := by decide +kernel
theorem dX6_dark_0 : decode cX6_dark 0 = .ok (.iconst 0, 1) := by decide +kernel
theorem dX6_dark_1 : decode cX6_dark 1 = .ok (.istore_n 1, 1) := by decide +kernel
theorem dX6_dark_2 : decode cX6_dark 2 = .ok (.iconst 0, 1) := by decide +kernel
theorem dX6_dark_3 : decode cX6_dark 3 = .ok (.istore_n 2, 1) := by decide +kernel
theorem dX6_dark_4 : decode cX6_dark 4 = .ok (.iload_n 2, 1) := by decide +kernel
theorem dX6_dark_5 : decode cX6_dark 5 = .ok (.aload_n 0, 1) := by decide +kernel
theorem dX6_dark_6 : decode cX6_dark 6 = .ok (.getfield 7, 3) := by decide +kernel
theorem dX6_dark_9 : decode cX6_dark 9 = .ok (.bipush 40, 2) := by decide +kernel
theorem dX6_dark_11 : decode cX6_dark 11 = .ok (.iaload, 1) := by decide +kernel
theorem dX6_dark_12 : decode cX6_dark 12 = .ok (.if_icmp .ge 39, 3) := by decide +kernel
theorem dX6_dark_15 : decode cX6_dark 15 = .ok (.iload_n 1, 1) := by decide +kernel
theorem dX6_dark_16 : decode cX6_dark 16 = .ok (.aload_n 0, 1) := by decide +kernel
theorem dX6_dark_17 : decode cX6_dark 17 = .ok (.getfield 7, 3) := by decide +kernel
theorem dX6_dark_20 : decode cX6_dark 20 = .ok (.bipush 36, 2) := by decide +kernel
theorem dX6_dark_22 : decode cX6_dark 22 = .ok (.iload_n 2, 1) := by decide +kernel
theorem dX6_dark_23 : decode cX6_dark 23 = .ok (.iadd, 1) := by decide +kernel
theorem dX6_dark_24 : decode cX6_dark 24 = .ok (.iaload, 1) := by decide +kernel
theorem dX6_dark_25 : decode cX6_dark 25 = .ok (.ifCond .le 7, 3) := by decide +kernel
theorem dX6_dark_28 : decode cX6_dark 28 = .ok (.iconst 1, 1) := by decide +kernel
theorem dX6_dark_29 : decode cX6_dark 29 = .ok (.goto 4, 3) := by decide +kernel
theorem dX6_dark_32 : decode cX6_dark 32 = .ok (.iconst 0, 1) := by decide +kernel
theorem dX6_dark_33 : decode cX6_dark 33 = .ok (.iadd, 1) := by decide +kernel
theorem dX6_dark_34 : decode cX6_dark 34 = .ok (.istore_n 1, 1) := by decide +kernel
theorem dX6_dark_35 : decode cX6_dark 35 = .ok (.aload_n 0, 1) := by decide +kernel
theorem dX6_dark_36 : decode cX6_dark 36 = .ok (.getfield 7, 3) := by decide +kernel
theorem dX6_dark_39 : decode cX6_dark 39 = .ok (.bipush 36, 2) := by decide +kernel
theorem dX6_dark_41 : decode cX6_dark 41 = .ok (.iload_n 2, 1) := by decide +kernel
theorem dX6_dark_42 : decode cX6_dark 42 = .ok (.iadd, 1) := by decide +kernel
theorem dX6_dark_43 : decode cX6_dark 43 = .ok (.iconst 0, 1) := by decide +kernel
theorem dX6_dark_44 : decode cX6_dark 44 = .ok (.iastore, 1) := by decide +kernel
theorem dX6_dark_45 : decode cX6_dark 45 = .ok (.iinc 2 1, 3) := by decide +kernel
theorem dX6_dark_48 : decode cX6_dark 48 = .ok (.goto (-44), 3) := by decide +kernel
theorem dX6_dark_51 : decode cX6_dark 51 = .ok (.iconst 0, 1) := by decide +kernel
theorem dX6_dark_52 : decode cX6_dark 52 = .ok (.istore_n 2, 1) := by decide +kernel
theorem dX6_dark_53 : decode cX6_dark 53 = .ok (.iload_n 2, 1) := by decide +kernel
theorem dX6_dark_54 : decode cX6_dark 54 = .ok (.aload_n 0, 1) := by decide +kernel
theorem dX6_dark_55 : decode cX6_dark 55 = .ok (.getfield 7, 3) := by decide +kernel
theorem dX6_dark_58 : decode cX6_dark 58 = .ok (.bipush 39, 2) := by decide +kernel
theorem dX6_dark_60 : decode cX6_dark 60 = .ok (.iaload, 1) := by decide +kernel
theorem dX6_dark_61 : decode cX6_dark 61 = .ok (.if_icmp .ge 19, 3) := by decide +kernel
theorem dX6_dark_64 : decode cX6_dark 64 = .ok (.aload_n 0, 1) := by decide +kernel
theorem dX6_dark_65 : decode cX6_dark 65 = .ok (.getfield 7, 3) := by decide +kernel
theorem dX6_dark_68 : decode cX6_dark 68 = .ok (.bipush 18, 2) := by decide +kernel
theorem dX6_dark_70 : decode cX6_dark 70 = .ok (.iload_n 2, 1) := by decide +kernel
theorem dX6_dark_71 : decode cX6_dark 71 = .ok (.iadd, 1) := by decide +kernel
theorem dX6_dark_72 : decode cX6_dark 72 = .ok (.iconst 0, 1) := by decide +kernel
theorem dX6_dark_73 : decode cX6_dark 73 = .ok (.iastore, 1) := by decide +kernel
theorem dX6_dark_74 : decode cX6_dark 74 = .ok (.iinc 2 1, 3) := by decide +kernel
theorem dX6_dark_77 : decode cX6_dark 77 = .ok (.goto (-24), 3) := by decide +kernel
theorem dX6_dark_80 : decode cX6_dark 80 = .ok (.aload_n 0, 1) := by decide +kernel
theorem dX6_dark_81 : decode cX6_dark 81 = .ok (.getfield 7, 3) := by decide +kernel
theorem dX6_dark_84 : decode cX6_dark 84 = .ok (.bipush 41, 2) := by decide +kernel
theorem dX6_dark_86 : decode cX6_dark 86 = .ok (.iconst 0, 1) := by decide +kernel
theorem dX6_dark_87 : decode cX6_dark 87 = .ok (.iastore, 1) := by decide +kernel
theorem dX6_dark_88 : decode cX6_dark 88 = .ok (.iload_n 1, 1) := by decide +kernel
theorem dX6_dark_89 : decode cX6_dark 89 = .ok (.ireturn, 1) := by decide +kernel
theorem dX6_of_0 : decode cX6_of 0 = .ok (.aload_n 0, 1) := by decide +kernel
theorem dX6_of_1 : decode cX6_of 1 = .ok (.iload_n 1, 1) := by decide +kernel
theorem dX6_of_2 : decode cX6_of 2 = .ok (.invokevirtual 52, 3) := by decide +kernel
theorem dX6_of_5 : decode cX6_of 5 = .ok (.ifCond .ne 5, 3) := by decide +kernel
theorem dX6_of_8 : decode cX6_of 8 = .ok (.iconst (-1), 1) := by decide +kernel
theorem dX6_of_9 : decode cX6_of 9 = .ok (.ireturn, 1) := by decide +kernel
theorem dX6_of_10 : decode cX6_of 10 = .ok (.iload_n 2, 1) := by decide +kernel
theorem dX6_of_11 : decode cX6_of 11 = .ok (.iconst 0, 1) := by decide +kernel
theorem dX6_of_12 : decode cX6_of 12 = .ok (.iconst 3, 1) := by decide +kernel
theorem dX6_of_13 : decode cX6_of 13 = .ok (.invokestatic 44, 3) := by decide +kernel
theorem dX6_of_16 : decode cX6_of 16 = .ok (.ifCond .eq 17, 3) := by decide +kernel
theorem dX6_of_19 : decode cX6_of 19 = .ok (.aload_n 0, 1) := by decide +kernel
theorem dX6_of_20 : decode cX6_of 20 = .ok (.getfield 7, 3) := by decide +kernel
theorem dX6_of_23 : decode cX6_of 23 = .ok (.bipush 6, 2) := by decide +kernel
theorem dX6_of_25 : decode cX6_of 25 = .ok (.iload_n 2, 1) := by decide +kernel
theorem dX6_of_26 : decode cX6_of 26 = .ok (.imul, 1) := by decide +kernel
theorem dX6_of_27 : decode cX6_of 27 = .ok (.iload_n 1, 1) := by decide +kernel
theorem dX6_of_28 : decode cX6_of 28 = .ok (.iadd, 1) := by decide +kernel
theorem dX6_of_29 : decode cX6_of 29 = .ok (.iaload, 1) := by decide +kernel
theorem dX6_of_30 : decode cX6_of 30 = .ok (.goto 5, 3) := by decide +kernel
theorem dX6_of_33 : decode cX6_of 33 = .ok (.bipush (-2), 2) := by decide +kernel
theorem dX6_of_35 : decode cX6_of 35 = .ok (.ireturn, 1) := by decide +kernel
theorem dX6_at_0 : decode cX6_at 0 = .ok (.aload_n 0, 1) := by decide +kernel
theorem dX6_at_1 : decode cX6_at 1 = .ok (.iload_n 1, 1) := by decide +kernel
theorem dX6_at_2 : decode cX6_at 2 = .ok (.invokevirtual 55, 3) := by decide +kernel
theorem dX6_at_5 : decode cX6_at 5 = .ok (.ifCond .ne 5, 3) := by decide +kernel
theorem dX6_at_8 : decode cX6_at 8 = .ok (.iconst (-1), 1) := by decide +kernel
theorem dX6_at_9 : decode cX6_at 9 = .ok (.ireturn, 1) := by decide +kernel
theorem dX6_at_10 : decode cX6_at 10 = .ok (.iload_n 2, 1) := by decide +kernel
theorem dX6_at_11 : decode cX6_at 11 = .ok (.iconst 0, 1) := by decide +kernel
theorem dX6_at_12 : decode cX6_at 12 = .ok (.iconst 4, 1) := by decide +kernel
theorem dX6_at_13 : decode cX6_at 13 = .ok (.invokestatic 44, 3) := by decide +kernel
theorem dX6_at_16 : decode cX6_at 16 = .ok (.ifCond .ne 6, 3) := by decide +kernel
theorem dX6_at_19 : decode cX6_at 19 = .ok (.bipush (-2), 2) := by decide +kernel
theorem dX6_at_21 : decode cX6_at 21 = .ok (.ireturn, 1) := by decide +kernel
theorem dX6_at_22 : decode cX6_at 22 = .ok (.iload_n 2, 1) := by decide +kernel
theorem dX6_at_23 : decode cX6_at 23 = .ok (.iconst 4, 1) := by decide +kernel
theorem dX6_at_24 : decode cX6_at 24 = .ok (.if_icmp .ge 19, 3) := by decide +kernel
theorem dX6_at_27 : decode cX6_at 27 = .ok (.aload_n 0, 1) := by decide +kernel
theorem dX6_at_28 : decode cX6_at 28 = .ok (.getfield 7, 3) := by decide +kernel
theorem dX6_at_31 : decode cX6_at 31 = .ok (.bipush 24, 2) := by decide +kernel
theorem dX6_at_33 : decode cX6_at 33 = .ok (.iconst 3, 1) := by decide +kernel
theorem dX6_at_34 : decode cX6_at 34 = .ok (.iload_n 2, 1) := by decide +kernel
theorem dX6_at_35 : decode cX6_at 35 = .ok (.imul, 1) := by decide +kernel
theorem dX6_at_36 : decode cX6_at 36 = .ok (.iadd, 1) := by decide +kernel
theorem dX6_at_37 : decode cX6_at 37 = .ok (.iload_n 1, 1) := by decide +kernel
theorem dX6_at_38 : decode cX6_at 38 = .ok (.iadd, 1) := by decide +kernel
theorem dX6_at_39 : decode cX6_at 39 = .ok (.iaload, 1) := by decide +kernel
theorem dX6_at_40 : decode cX6_at 40 = .ok (.goto 31, 3) := by decide +kernel
theorem dX6_at_43 : decode cX6_at 43 = .ok (.aload_n 0, 1) := by decide +kernel
theorem dX6_at_44 : decode cX6_at 44 = .ok (.getfield 7, 3) := by decide +kernel
theorem dX6_at_47 : decode cX6_at 47 = .ok (.bipush 36, 2) := by decide +kernel
theorem dX6_at_49 : decode cX6_at 49 = .ok (.iload_n 1, 1) := by decide +kernel
theorem dX6_at_50 : decode cX6_at 50 = .ok (.iadd, 1) := by decide +kernel
theorem dX6_at_51 : decode cX6_at 51 = .ok (.iaload, 1) := by decide +kernel
theorem dX6_at_52 : decode cX6_at 52 = .ok (.ifCond .ne 8, 3) := by decide +kernel
theorem dX6_at_55 : decode cX6_at 55 = .ok (.bipush (-6), 2) := by decide +kernel
theorem dX6_at_57 : decode cX6_at 57 = .ok (.goto 14, 3) := by decide +kernel
theorem dX6_at_60 : decode cX6_at 60 = .ok (.aload_n 0, 1) := by decide +kernel
theorem dX6_at_61 : decode cX6_at 61 = .ok (.getfield 7, 3) := by decide +kernel
theorem dX6_at_64 : decode cX6_at 64 = .ok (.bipush 36, 2) := by decide +kernel
theorem dX6_at_66 : decode cX6_at 66 = .ok (.iload_n 1, 1) := by decide +kernel
theorem dX6_at_67 : decode cX6_at 67 = .ok (.iadd, 1) := by decide +kernel
theorem dX6_at_68 : decode cX6_at 68 = .ok (.iaload, 1) := by decide +kernel
theorem dX6_at_69 : decode cX6_at 69 = .ok (.iconst 1, 1) := by decide +kernel
theorem dX6_at_70 : decode cX6_at 70 = .ok (.isub, 1) := by decide +kernel
theorem dX6_at_71 : decode cX6_at 71 = .ok (.ireturn, 1) := by decide +kernel
theorem dX6_joinOnce_0 : decode cX6_joinOnce 0 = .ok (.iconst 0, 1) := by decide +kernel
theorem dX6_joinOnce_1 : decode cX6_joinOnce 1 = .ok (.istore_n 1, 1) := by decide +kernel
theorem dX6_joinOnce_2 : decode cX6_joinOnce 2 = .ok (.iconst 0, 1) := by decide +kernel
theorem dX6_joinOnce_3 : decode cX6_joinOnce 3 = .ok (.istore_n 2, 1) := by decide +kernel
theorem dX6_joinOnce_4 : decode cX6_joinOnce 4 = .ok (.iload_n 2, 1) := by decide +kernel
theorem dX6_joinOnce_5 : decode cX6_joinOnce 5 = .ok (.aload_n 0, 1) := by decide +kernel
theorem dX6_joinOnce_6 : decode cX6_joinOnce 6 = .ok (.getfield 7, 3) := by decide +kernel
theorem dX6_joinOnce_9 : decode cX6_joinOnce 9 = .ok (.bipush 39, 2) := by decide +kernel
theorem dX6_joinOnce_11 : decode cX6_joinOnce 11 = .ok (.iaload, 1) := by decide +kernel
theorem dX6_joinOnce_12 : decode cX6_joinOnce 12 = .ok (.if_icmp .ge 110, 3) := by decide +kernel
theorem dX6_joinOnce_15 : decode cX6_joinOnce 15 = .ok (.aload_n 0, 1) := by decide +kernel
theorem dX6_joinOnce_16 : decode cX6_joinOnce 16 = .ok (.getfield 20, 3) := by decide +kernel
theorem dX6_joinOnce_19 : decode cX6_joinOnce 19 = .ok (.iload_n 2, 1) := by decide +kernel
theorem dX6_joinOnce_20 : decode cX6_joinOnce 20 = .ok (.iaload, 1) := by decide +kernel
theorem dX6_joinOnce_21 : decode cX6_joinOnce 21 = .ok (.iconst 1, 1) := by decide +kernel
theorem dX6_joinOnce_22 : decode cX6_joinOnce 22 = .ok (.if_icmp .ne 94, 3) := by decide +kernel
theorem dX6_joinOnce_25 : decode cX6_joinOnce 25 = .ok (.aload_n 0, 1) := by decide +kernel
theorem dX6_joinOnce_26 : decode cX6_joinOnce 26 = .ok (.getfield 26, 3) := by decide +kernel
theorem dX6_joinOnce_29 : decode cX6_joinOnce 29 = .ok (.aload_n 0, 1) := by decide +kernel
theorem dX6_joinOnce_30 : decode cX6_joinOnce 30 = .ok (.getfield 7, 3) := by decide +kernel
theorem dX6_joinOnce_33 : decode cX6_joinOnce 33 = .ok (.iconst 0, 1) := by decide +kernel
theorem dX6_joinOnce_34 : decode cX6_joinOnce 34 = .ok (.iload_n 2, 1) := by decide +kernel
theorem dX6_joinOnce_35 : decode cX6_joinOnce 35 = .ok (.iadd, 1) := by decide +kernel
theorem dX6_joinOnce_36 : decode cX6_joinOnce 36 = .ok (.iaload, 1) := by decide +kernel
theorem dX6_joinOnce_37 : decode cX6_joinOnce 37 = .ok (.iaload, 1) := by decide +kernel
theorem dX6_joinOnce_38 : decode cX6_joinOnce 38 = .ok (.istore_n 3, 1) := by decide +kernel
theorem dX6_joinOnce_39 : decode cX6_joinOnce 39 = .ok (.aload_n 0, 1) := by decide +kernel
theorem dX6_joinOnce_40 : decode cX6_joinOnce 40 = .ok (.getfield 26, 3) := by decide +kernel
theorem dX6_joinOnce_43 : decode cX6_joinOnce 43 = .ok (.aload_n 0, 1) := by decide +kernel
theorem dX6_joinOnce_44 : decode cX6_joinOnce 44 = .ok (.getfield 7, 3) := by decide +kernel
theorem dX6_joinOnce_47 : decode cX6_joinOnce 47 = .ok (.bipush 6, 2) := by decide +kernel
theorem dX6_joinOnce_49 : decode cX6_joinOnce 49 = .ok (.iload_n 2, 1) := by decide +kernel
theorem dX6_joinOnce_50 : decode cX6_joinOnce 50 = .ok (.iadd, 1) := by decide +kernel
theorem dX6_joinOnce_51 : decode cX6_joinOnce 51 = .ok (.iaload, 1) := by decide +kernel
theorem dX6_joinOnce_52 : decode cX6_joinOnce 52 = .ok (.iaload, 1) := by decide +kernel
theorem dX6_joinOnce_53 : decode cX6_joinOnce 53 = .ok (.istore 4, 2) := by decide +kernel
theorem dX6_joinOnce_55 : decode cX6_joinOnce 55 = .ok (.iload_n 3, 1) := by decide +kernel
theorem dX6_joinOnce_56 : decode cX6_joinOnce 56 = .ok (.iload 4, 2) := by decide +kernel
theorem dX6_joinOnce_58 : decode cX6_joinOnce 58 = .ok (.if_icmp .ge 7, 3) := by decide +kernel
theorem dX6_joinOnce_61 : decode cX6_joinOnce 61 = .ok (.iload_n 3, 1) := by decide +kernel
theorem dX6_joinOnce_62 : decode cX6_joinOnce 62 = .ok (.goto 5, 3) := by decide +kernel
theorem dX6_joinOnce_65 : decode cX6_joinOnce 65 = .ok (.iload 4, 2) := by decide +kernel
theorem dX6_joinOnce_67 : decode cX6_joinOnce 67 = .ok (.istore 5, 2) := by decide +kernel
theorem dX6_joinOnce_69 : decode cX6_joinOnce 69 = .ok (.iload_n 1, 1) := by decide +kernel
theorem dX6_joinOnce_70 : decode cX6_joinOnce 70 = .ok (.ifCond .ne 9, 3) := by decide +kernel
theorem dX6_joinOnce_73 : decode cX6_joinOnce 73 = .ok (.iload_n 3, 1) := by decide +kernel
theorem dX6_joinOnce_74 : decode cX6_joinOnce 74 = .ok (.iload 4, 2) := by decide +kernel
theorem dX6_joinOnce_76 : decode cX6_joinOnce 76 = .ok (.if_icmp .eq 7, 3) := by decide +kernel
theorem dX6_joinOnce_79 : decode cX6_joinOnce 79 = .ok (.iconst 1, 1) := by decide +kernel
theorem dX6_joinOnce_80 : decode cX6_joinOnce 80 = .ok (.goto 4, 3) := by decide +kernel
theorem dX6_joinOnce_83 : decode cX6_joinOnce 83 = .ok (.iconst 0, 1) := by decide +kernel
theorem dX6_joinOnce_84 : decode cX6_joinOnce 84 = .ok (.istore_n 1, 1) := by decide +kernel
theorem dX6_joinOnce_85 : decode cX6_joinOnce 85 = .ok (.aload_n 0, 1) := by decide +kernel
theorem dX6_joinOnce_86 : decode cX6_joinOnce 86 = .ok (.getfield 26, 3) := by decide +kernel
theorem dX6_joinOnce_89 : decode cX6_joinOnce 89 = .ok (.aload_n 0, 1) := by decide +kernel
theorem dX6_joinOnce_90 : decode cX6_joinOnce 90 = .ok (.getfield 7, 3) := by decide +kernel
theorem dX6_joinOnce_93 : decode cX6_joinOnce 93 = .ok (.iconst 0, 1) := by decide +kernel
theorem dX6_joinOnce_94 : decode cX6_joinOnce 94 = .ok (.iload_n 2, 1) := by decide +kernel
theorem dX6_joinOnce_95 : decode cX6_joinOnce 95 = .ok (.iadd, 1) := by decide +kernel
theorem dX6_joinOnce_96 : decode cX6_joinOnce 96 = .ok (.iaload, 1) := by decide +kernel
theorem dX6_joinOnce_97 : decode cX6_joinOnce 97 = .ok (.iload 5, 2) := by decide +kernel
theorem dX6_joinOnce_99 : decode cX6_joinOnce 99 = .ok (.iastore, 1) := by decide +kernel
theorem dX6_joinOnce_100 : decode cX6_joinOnce 100 = .ok (.aload_n 0, 1) := by decide +kernel
theorem dX6_joinOnce_101 : decode cX6_joinOnce 101 = .ok (.getfield 26, 3) := by decide +kernel
theorem dX6_joinOnce_104 : decode cX6_joinOnce 104 = .ok (.aload_n 0, 1) := by decide +kernel
theorem dX6_joinOnce_105 : decode cX6_joinOnce 105 = .ok (.getfield 7, 3) := by decide +kernel
theorem dX6_joinOnce_108 : decode cX6_joinOnce 108 = .ok (.bipush 6, 2) := by decide +kernel
theorem dX6_joinOnce_110 : decode cX6_joinOnce 110 = .ok (.iload_n 2, 1) := by decide +kernel
theorem dX6_joinOnce_111 : decode cX6_joinOnce 111 = .ok (.iadd, 1) := by decide +kernel
theorem dX6_joinOnce_112 : decode cX6_joinOnce 112 = .ok (.iaload, 1) := by decide +kernel
theorem dX6_joinOnce_113 : decode cX6_joinOnce 113 = .ok (.iload 5, 2) := by decide +kernel
theorem dX6_joinOnce_115 : decode cX6_joinOnce 115 = .ok (.iastore, 1) := by decide +kernel
theorem dX6_joinOnce_116 : decode cX6_joinOnce 116 = .ok (.iinc 2 1, 3) := by decide +kernel
theorem dX6_joinOnce_119 : decode cX6_joinOnce 119 = .ok (.goto (-115), 3) := by decide +kernel
theorem dX6_joinOnce_122 : decode cX6_joinOnce 122 = .ok (.iload_n 1, 1) := by decide +kernel
theorem dX6_joinOnce_123 : decode cX6_joinOnce 123 = .ok (.ireturn, 1) := by decide +kernel
theorem dX6_layIslands_0 : decode cX6_layIslands 0 = .ok (.iconst 0, 1) := by decide +kernel
theorem dX6_layIslands_1 : decode cX6_layIslands 1 = .ok (.istore_n 1, 1) := by decide +kernel
theorem dX6_layIslands_2 : decode cX6_layIslands 2 = .ok (.iload_n 1, 1) := by decide +kernel
theorem dX6_layIslands_3 : decode cX6_layIslands 3 = .ok (.bipush 6, 2) := by decide +kernel
theorem dX6_layIslands_5 : decode cX6_layIslands 5 = .ok (.if_icmp .ge 30, 3) := by decide +kernel
theorem dX6_layIslands_8 : decode cX6_layIslands 8 = .ok (.aload_n 0, 1) := by decide +kernel
theorem dX6_layIslands_9 : decode cX6_layIslands 9 = .ok (.getfield 26, 3) := by decide +kernel
theorem dX6_layIslands_12 : decode cX6_layIslands 12 = .ok (.iload_n 1, 1) := by decide +kernel
theorem dX6_layIslands_13 : decode cX6_layIslands 13 = .ok (.iload_n 1, 1) := by decide +kernel
theorem dX6_layIslands_14 : decode cX6_layIslands 14 = .ok (.iastore, 1) := by decide +kernel
theorem dX6_layIslands_15 : decode cX6_layIslands 15 = .ok (.aload_n 0, 1) := by decide +kernel
theorem dX6_layIslands_16 : decode cX6_layIslands 16 = .ok (.getfield 29, 3) := by decide +kernel
theorem dX6_layIslands_19 : decode cX6_layIslands 19 = .ok (.iload_n 1, 1) := by decide +kernel
theorem dX6_layIslands_20 : decode cX6_layIslands 20 = .ok (.iconst 0, 1) := by decide +kernel
theorem dX6_layIslands_21 : decode cX6_layIslands 21 = .ok (.iastore, 1) := by decide +kernel
theorem dX6_layIslands_22 : decode cX6_layIslands 22 = .ok (.aload_n 0, 1) := by decide +kernel
theorem dX6_layIslands_23 : decode cX6_layIslands 23 = .ok (.getfield 32, 3) := by decide +kernel
theorem dX6_layIslands_26 : decode cX6_layIslands 26 = .ok (.iload_n 1, 1) := by decide +kernel
theorem dX6_layIslands_27 : decode cX6_layIslands 27 = .ok (.iconst 0, 1) := by decide +kernel
theorem dX6_layIslands_28 : decode cX6_layIslands 28 = .ok (.bastore, 1) := by decide +kernel
theorem dX6_layIslands_29 : decode cX6_layIslands 29 = .ok (.iinc 1 1, 3) := by decide +kernel
theorem dX6_layIslands_32 : decode cX6_layIslands 32 = .ok (.goto (-30), 3) := by decide +kernel
theorem dX6_layIslands_35 : decode cX6_layIslands 35 = .ok (.iconst 1, 1) := by decide +kernel
theorem dX6_layIslands_36 : decode cX6_layIslands 36 = .ok (.istore_n 1, 1) := by decide +kernel
theorem dX6_layIslands_37 : decode cX6_layIslands 37 = .ok (.iload_n 1, 1) := by decide +kernel
theorem dX6_layIslands_38 : decode cX6_layIslands 38 = .ok (.ifCond .eq 11, 3) := by decide +kernel
theorem dX6_layIslands_41 : decode cX6_layIslands 41 = .ok (.aload_n 0, 1) := by decide +kernel
theorem dX6_layIslands_42 : decode cX6_layIslands 42 = .ok (.invokevirtual 58, 3) := by decide +kernel
theorem dX6_layIslands_45 : decode cX6_layIslands 45 = .ok (.istore_n 1, 1) := by decide +kernel
end
section
theorem dX6_layIslands_46 : decode cX6_layIslands 46 = .ok (.goto (-9), 3) := by decide +kernel
theorem dX6_layIslands_49 : decode cX6_layIslands 49 = .ok (.iconst 0, 1) := by decide +kernel
theorem dX6_layIslands_50 : decode cX6_layIslands 50 = .ok (.istore_n 2, 1) := by decide +kernel
theorem dX6_layIslands_51 : decode cX6_layIslands 51 = .ok (.iload_n 2, 1) := by decide +kernel
theorem dX6_layIslands_52 : decode cX6_layIslands 52 = .ok (.aload_n 0, 1) := by decide +kernel
theorem dX6_layIslands_53 : decode cX6_layIslands 53 = .ok (.getfield 7, 3) := by decide +kernel
theorem dX6_layIslands_56 : decode cX6_layIslands 56 = .ok (.bipush 39, 2) := by decide +kernel
theorem dX6_layIslands_58 : decode cX6_layIslands 58 = .ok (.iaload, 1) := by decide +kernel
theorem dX6_layIslands_59 : decode cX6_layIslands 59 = .ok (.if_icmp .ge 53, 3) := by decide +kernel
theorem dX6_layIslands_62 : decode cX6_layIslands 62 = .ok (.aload_n 0, 1) := by decide +kernel
theorem dX6_layIslands_63 : decode cX6_layIslands 63 = .ok (.getfield 29, 3) := by decide +kernel
theorem dX6_layIslands_66 : decode cX6_layIslands 66 = .ok (.aload_n 0, 1) := by decide +kernel
theorem dX6_layIslands_67 : decode cX6_layIslands 67 = .ok (.getfield 26, 3) := by decide +kernel
theorem dX6_layIslands_70 : decode cX6_layIslands 70 = .ok (.aload_n 0, 1) := by decide +kernel
theorem dX6_layIslands_71 : decode cX6_layIslands 71 = .ok (.getfield 7, 3) := by decide +kernel
theorem dX6_layIslands_74 : decode cX6_layIslands 74 = .ok (.iconst 0, 1) := by decide +kernel
theorem dX6_layIslands_75 : decode cX6_layIslands 75 = .ok (.iload_n 2, 1) := by decide +kernel
theorem dX6_layIslands_76 : decode cX6_layIslands 76 = .ok (.iadd, 1) := by decide +kernel
theorem dX6_layIslands_77 : decode cX6_layIslands 77 = .ok (.iaload, 1) := by decide +kernel
theorem dX6_layIslands_78 : decode cX6_layIslands 78 = .ok (.iaload, 1) := by decide +kernel
theorem dX6_layIslands_79 : decode cX6_layIslands 79 = .ok (.dup2, 1) := by decide +kernel
theorem dX6_layIslands_80 : decode cX6_layIslands 80 = .ok (.iaload, 1) := by decide +kernel
theorem dX6_layIslands_81 : decode cX6_layIslands 81 = .ok (.aload_n 0, 1) := by decide +kernel
theorem dX6_layIslands_82 : decode cX6_layIslands 82 = .ok (.getfield 20, 3) := by decide +kernel
theorem dX6_layIslands_85 : decode cX6_layIslands 85 = .ok (.iload_n 2, 1) := by decide +kernel
theorem dX6_layIslands_86 : decode cX6_layIslands 86 = .ok (.iaload, 1) := by decide +kernel
theorem dX6_layIslands_87 : decode cX6_layIslands 87 = .ok (.iconst 1, 1) := by decide +kernel
theorem dX6_layIslands_88 : decode cX6_layIslands 88 = .ok (.if_icmp .ne 15, 3) := by decide +kernel
theorem dX6_layIslands_91 : decode cX6_layIslands 91 = .ok (.aload_n 0, 1) := by decide +kernel
theorem dX6_layIslands_92 : decode cX6_layIslands 92 = .ok (.getfield 7, 3) := by decide +kernel
theorem dX6_layIslands_95 : decode cX6_layIslands 95 = .ok (.bipush 12, 2) := by decide +kernel
theorem dX6_layIslands_97 : decode cX6_layIslands 97 = .ok (.iload_n 2, 1) := by decide +kernel
theorem dX6_layIslands_98 : decode cX6_layIslands 98 = .ok (.iadd, 1) := by decide +kernel
theorem dX6_layIslands_99 : decode cX6_layIslands 99 = .ok (.iaload, 1) := by decide +kernel
theorem dX6_layIslands_100 : decode cX6_layIslands 100 = .ok (.goto 4, 3) := by decide +kernel
theorem dX6_layIslands_103 : decode cX6_layIslands 103 = .ok (.iconst 0, 1) := by decide +kernel
theorem dX6_layIslands_104 : decode cX6_layIslands 104 = .ok (.isub, 1) := by decide +kernel
theorem dX6_layIslands_105 : decode cX6_layIslands 105 = .ok (.iastore, 1) := by decide +kernel
theorem dX6_layIslands_106 : decode cX6_layIslands 106 = .ok (.iinc 2 1, 3) := by decide +kernel
theorem dX6_layIslands_109 : decode cX6_layIslands 109 = .ok (.goto (-58), 3) := by decide +kernel
theorem dX6_layIslands_112 : decode cX6_layIslands 112 = .ok (.iconst 0, 1) := by decide +kernel
theorem dX6_layIslands_113 : decode cX6_layIslands 113 = .ok (.istore_n 2, 1) := by decide +kernel
theorem dX6_layIslands_114 : decode cX6_layIslands 114 = .ok (.iload_n 2, 1) := by decide +kernel
theorem dX6_layIslands_115 : decode cX6_layIslands 115 = .ok (.aload_n 0, 1) := by decide +kernel
theorem dX6_layIslands_116 : decode cX6_layIslands 116 = .ok (.getfield 7, 3) := by decide +kernel
theorem dX6_layIslands_119 : decode cX6_layIslands 119 = .ok (.bipush 40, 2) := by decide +kernel
theorem dX6_layIslands_121 : decode cX6_layIslands 121 = .ok (.iaload, 1) := by decide +kernel
theorem dX6_layIslands_122 : decode cX6_layIslands 122 = .ok (.if_icmp .ge 85, 3) := by decide +kernel
theorem dX6_layIslands_125 : decode cX6_layIslands 125 = .ok (.aload_n 0, 1) := by decide +kernel
theorem dX6_layIslands_126 : decode cX6_layIslands 126 = .ok (.getfield 26, 3) := by decide +kernel
theorem dX6_layIslands_129 : decode cX6_layIslands 129 = .ok (.aload_n 0, 1) := by decide +kernel
theorem dX6_layIslands_130 : decode cX6_layIslands 130 = .ok (.getfield 7, 3) := by decide +kernel
theorem dX6_layIslands_133 : decode cX6_layIslands 133 = .ok (.bipush 24, 2) := by decide +kernel
theorem dX6_layIslands_135 : decode cX6_layIslands 135 = .ok (.iload_n 2, 1) := by decide +kernel
theorem dX6_layIslands_136 : decode cX6_layIslands 136 = .ok (.iadd, 1) := by decide +kernel
theorem dX6_layIslands_137 : decode cX6_layIslands 137 = .ok (.iaload, 1) := by decide +kernel
theorem dX6_layIslands_138 : decode cX6_layIslands 138 = .ok (.iaload, 1) := by decide +kernel
theorem dX6_layIslands_139 : decode cX6_layIslands 139 = .ok (.istore_n 3, 1) := by decide +kernel
theorem dX6_layIslands_140 : decode cX6_layIslands 140 = .ok (.aload_n 0, 1) := by decide +kernel
theorem dX6_layIslands_141 : decode cX6_layIslands 141 = .ok (.getfield 29, 3) := by decide +kernel
theorem dX6_layIslands_144 : decode cX6_layIslands 144 = .ok (.iload_n 3, 1) := by decide +kernel
theorem dX6_layIslands_145 : decode cX6_layIslands 145 = .ok (.dup2, 1) := by decide +kernel
theorem dX6_layIslands_146 : decode cX6_layIslands 146 = .ok (.iaload, 1) := by decide +kernel
theorem dX6_layIslands_147 : decode cX6_layIslands 147 = .ok (.aload_n 0, 1) := by decide +kernel
theorem dX6_layIslands_148 : decode cX6_layIslands 148 = .ok (.getfield 23, 3) := by decide +kernel
theorem dX6_layIslands_151 : decode cX6_layIslands 151 = .ok (.iload_n 2, 1) := by decide +kernel
theorem dX6_layIslands_152 : decode cX6_layIslands 152 = .ok (.iaload, 1) := by decide +kernel
theorem dX6_layIslands_153 : decode cX6_layIslands 153 = .ok (.iconst 1, 1) := by decide +kernel
theorem dX6_layIslands_154 : decode cX6_layIslands 154 = .ok (.if_icmp .ne 15, 3) := by decide +kernel
theorem dX6_layIslands_157 : decode cX6_layIslands 157 = .ok (.aload_n 0, 1) := by decide +kernel
theorem dX6_layIslands_158 : decode cX6_layIslands 158 = .ok (.getfield 7, 3) := by decide +kernel
theorem dX6_layIslands_161 : decode cX6_layIslands 161 = .ok (.bipush 30, 2) := by decide +kernel
theorem dX6_layIslands_163 : decode cX6_layIslands 163 = .ok (.iload_n 2, 1) := by decide +kernel
theorem dX6_layIslands_164 : decode cX6_layIslands 164 = .ok (.iadd, 1) := by decide +kernel
theorem dX6_layIslands_165 : decode cX6_layIslands 165 = .ok (.iaload, 1) := by decide +kernel
theorem dX6_layIslands_166 : decode cX6_layIslands 166 = .ok (.goto 4, 3) := by decide +kernel
theorem dX6_layIslands_169 : decode cX6_layIslands 169 = .ok (.iconst 0, 1) := by decide +kernel
theorem dX6_layIslands_170 : decode cX6_layIslands 170 = .ok (.iadd, 1) := by decide +kernel
theorem dX6_layIslands_171 : decode cX6_layIslands 171 = .ok (.iastore, 1) := by decide +kernel
theorem dX6_layIslands_172 : decode cX6_layIslands 172 = .ok (.aload_n 0, 1) := by decide +kernel
theorem dX6_layIslands_173 : decode cX6_layIslands 173 = .ok (.getfield 32, 3) := by decide +kernel
theorem dX6_layIslands_176 : decode cX6_layIslands 176 = .ok (.iload_n 3, 1) := by decide +kernel
theorem dX6_layIslands_177 : decode cX6_layIslands 177 = .ok (.aload_n 0, 1) := by decide +kernel
theorem dX6_layIslands_178 : decode cX6_layIslands 178 = .ok (.getfield 32, 3) := by decide +kernel
theorem dX6_layIslands_181 : decode cX6_layIslands 181 = .ok (.iload_n 3, 1) := by decide +kernel
theorem dX6_layIslands_182 : decode cX6_layIslands 182 = .ok (.baload, 1) := by decide +kernel
theorem dX6_layIslands_183 : decode cX6_layIslands 183 = .ok (.ifCond .ne 12, 3) := by decide +kernel
theorem dX6_layIslands_186 : decode cX6_layIslands 186 = .ok (.aload_n 0, 1) := by decide +kernel
theorem dX6_layIslands_187 : decode cX6_layIslands 187 = .ok (.getfield 23, 3) := by decide +kernel
theorem dX6_layIslands_190 : decode cX6_layIslands 190 = .ok (.iload_n 2, 1) := by decide +kernel
theorem dX6_layIslands_191 : decode cX6_layIslands 191 = .ok (.iaload, 1) := by decide +kernel
theorem dX6_layIslands_192 : decode cX6_layIslands 192 = .ok (.ifCond .le 7, 3) := by decide +kernel
theorem dX6_layIslands_195 : decode cX6_layIslands 195 = .ok (.iconst 1, 1) := by decide +kernel
theorem dX6_layIslands_196 : decode cX6_layIslands 196 = .ok (.goto 4, 3) := by decide +kernel
theorem dX6_layIslands_199 : decode cX6_layIslands 199 = .ok (.iconst 0, 1) := by decide +kernel
theorem dX6_layIslands_200 : decode cX6_layIslands 200 = .ok (.bastore, 1) := by decide +kernel
theorem dX6_layIslands_201 : decode cX6_layIslands 201 = .ok (.iinc 2 1, 3) := by decide +kernel
theorem dX6_layIslands_204 : decode cX6_layIslands 204 = .ok (.goto (-90), 3) := by decide +kernel
theorem dX6_layIslands_207 : decode cX6_layIslands 207 = .ok (.return_, 1) := by decide +kernel
theorem dX6_layNow_0 : decode cX6_layNow 0 = .ok (.iconst 0, 1) := by decide +kernel
theorem dX6_layNow_1 : decode cX6_layNow 1 = .ok (.istore_n 1, 1) := by decide +kernel
theorem dX6_layNow_2 : decode cX6_layNow 2 = .ok (.iload_n 1, 1) := by decide +kernel
theorem dX6_layNow_3 : decode cX6_layNow 3 = .ok (.bipush 6, 2) := by decide +kernel
theorem dX6_layNow_5 : decode cX6_layNow 5 = .ok (.if_icmp .ge 24, 3) := by decide +kernel
theorem dX6_layNow_8 : decode cX6_layNow 8 = .ok (.aload_n 0, 1) := by decide +kernel
theorem dX6_layNow_9 : decode cX6_layNow 9 = .ok (.getfield 20, 3) := by decide +kernel
theorem dX6_layNow_12 : decode cX6_layNow 12 = .ok (.iload_n 1, 1) := by decide +kernel
theorem dX6_layNow_13 : decode cX6_layNow 13 = .ok (.aload_n 0, 1) := by decide +kernel
theorem dX6_layNow_14 : decode cX6_layNow 14 = .ok (.getfield 7, 3) := by decide +kernel
theorem dX6_layNow_17 : decode cX6_layNow 17 = .ok (.bipush 18, 2) := by decide +kernel
theorem dX6_layNow_19 : decode cX6_layNow 19 = .ok (.iload_n 1, 1) := by decide +kernel
theorem dX6_layNow_20 : decode cX6_layNow 20 = .ok (.iadd, 1) := by decide +kernel
theorem dX6_layNow_21 : decode cX6_layNow 21 = .ok (.iaload, 1) := by decide +kernel
theorem dX6_layNow_22 : decode cX6_layNow 22 = .ok (.iastore, 1) := by decide +kernel
theorem dX6_layNow_23 : decode cX6_layNow 23 = .ok (.iinc 1 1, 3) := by decide +kernel
theorem dX6_layNow_26 : decode cX6_layNow 26 = .ok (.goto (-24), 3) := by decide +kernel
theorem dX6_layNow_29 : decode cX6_layNow 29 = .ok (.iconst 0, 1) := by decide +kernel
theorem dX6_layNow_30 : decode cX6_layNow 30 = .ok (.istore_n 1, 1) := by decide +kernel
theorem dX6_layNow_31 : decode cX6_layNow 31 = .ok (.iload_n 1, 1) := by decide +kernel
theorem dX6_layNow_32 : decode cX6_layNow 32 = .ok (.iconst 3, 1) := by decide +kernel
theorem dX6_layNow_33 : decode cX6_layNow 33 = .ok (.if_icmp .ge 24, 3) := by decide +kernel
theorem dX6_layNow_36 : decode cX6_layNow 36 = .ok (.aload_n 0, 1) := by decide +kernel
theorem dX6_layNow_37 : decode cX6_layNow 37 = .ok (.getfield 23, 3) := by decide +kernel
theorem dX6_layNow_40 : decode cX6_layNow 40 = .ok (.iload_n 1, 1) := by decide +kernel
theorem dX6_layNow_41 : decode cX6_layNow 41 = .ok (.aload_n 0, 1) := by decide +kernel
theorem dX6_layNow_42 : decode cX6_layNow 42 = .ok (.getfield 7, 3) := by decide +kernel
theorem dX6_layNow_45 : decode cX6_layNow 45 = .ok (.bipush 36, 2) := by decide +kernel
theorem dX6_layNow_47 : decode cX6_layNow 47 = .ok (.iload_n 1, 1) := by decide +kernel
theorem dX6_layNow_48 : decode cX6_layNow 48 = .ok (.iadd, 1) := by decide +kernel
theorem dX6_layNow_49 : decode cX6_layNow 49 = .ok (.iaload, 1) := by decide +kernel
theorem dX6_layNow_50 : decode cX6_layNow 50 = .ok (.iastore, 1) := by decide +kernel
theorem dX6_layNow_51 : decode cX6_layNow 51 = .ok (.iinc 1 1, 3) := by decide +kernel
theorem dX6_layNow_54 : decode cX6_layNow 54 = .ok (.goto (-23), 3) := by decide +kernel
theorem dX6_layNow_57 : decode cX6_layNow 57 = .ok (.aload_n 0, 1) := by decide +kernel
theorem dX6_layNow_58 : decode cX6_layNow 58 = .ok (.invokevirtual 62, 3) := by decide +kernel
theorem dX6_layNow_61 : decode cX6_layNow 61 = .ok (.return_, 1) := by decide +kernel
theorem dX6_isLive_0 : decode cX6_isLive 0 = .ok (.aload_n 0, 1) := by decide +kernel
theorem dX6_isLive_1 : decode cX6_isLive 1 = .ok (.getfield 32, 3) := by decide +kernel
theorem dX6_isLive_4 : decode cX6_isLive 4 = .ok (.aload_n 0, 1) := by decide +kernel
theorem dX6_isLive_5 : decode cX6_isLive 5 = .ok (.getfield 26, 3) := by decide +kernel
theorem dX6_isLive_8 : decode cX6_isLive 8 = .ok (.iload_n 1, 1) := by decide +kernel
theorem dX6_isLive_9 : decode cX6_isLive 9 = .ok (.iaload, 1) := by decide +kernel
theorem dX6_isLive_10 : decode cX6_isLive 10 = .ok (.baload, 1) := by decide +kernel
theorem dX6_isLive_11 : decode cX6_isLive 11 = .ok (.ireturn, 1) := by decide +kernel
theorem dX6_islandSet_0 : decode cX6_islandSet 0 = .ok (.iconst 0, 1) := by decide +kernel
theorem dX6_islandSet_1 : decode cX6_islandSet 1 = .ok (.istore_n 2, 1) := by decide +kernel
theorem dX6_islandSet_2 : decode cX6_islandSet 2 = .ok (.iconst 0, 1) := by decide +kernel
theorem dX6_islandSet_3 : decode cX6_islandSet 3 = .ok (.istore_n 3, 1) := by decide +kernel
theorem dX6_islandSet_4 : decode cX6_islandSet 4 = .ok (.iload_n 3, 1) := by decide +kernel
theorem dX6_islandSet_5 : decode cX6_islandSet 5 = .ok (.bipush 6, 2) := by decide +kernel
theorem dX6_islandSet_7 : decode cX6_islandSet 7 = .ok (.if_icmp .ge 34, 3) := by decide +kernel
theorem dX6_islandSet_10 : decode cX6_islandSet 10 = .ok (.iload_n 2, 1) := by decide +kernel
theorem dX6_islandSet_11 : decode cX6_islandSet 11 = .ok (.aload_n 0, 1) := by decide +kernel
theorem dX6_islandSet_12 : decode cX6_islandSet 12 = .ok (.getfield 26, 3) := by decide +kernel
theorem dX6_islandSet_15 : decode cX6_islandSet 15 = .ok (.iload_n 3, 1) := by decide +kernel
theorem dX6_islandSet_16 : decode cX6_islandSet 16 = .ok (.iaload, 1) := by decide +kernel
theorem dX6_islandSet_17 : decode cX6_islandSet 17 = .ok (.aload_n 0, 1) := by decide +kernel
theorem dX6_islandSet_18 : decode cX6_islandSet 18 = .ok (.getfield 26, 3) := by decide +kernel
theorem dX6_islandSet_21 : decode cX6_islandSet 21 = .ok (.iload_n 1, 1) := by decide +kernel
theorem dX6_islandSet_22 : decode cX6_islandSet 22 = .ok (.iaload, 1) := by decide +kernel
theorem dX6_islandSet_23 : decode cX6_islandSet 23 = .ok (.if_icmp .ne 9, 3) := by decide +kernel
theorem dX6_islandSet_26 : decode cX6_islandSet 26 = .ok (.iconst 1, 1) := by decide +kernel
theorem dX6_islandSet_27 : decode cX6_islandSet 27 = .ok (.iload_n 3, 1) := by decide +kernel
theorem dX6_islandSet_28 : decode cX6_islandSet 28 = .ok (.ishl, 1) := by decide +kernel
theorem dX6_islandSet_29 : decode cX6_islandSet 29 = .ok (.goto 4, 3) := by decide +kernel
theorem dX6_islandSet_32 : decode cX6_islandSet 32 = .ok (.iconst 0, 1) := by decide +kernel
theorem dX6_islandSet_33 : decode cX6_islandSet 33 = .ok (.ior, 1) := by decide +kernel
theorem dX6_islandSet_34 : decode cX6_islandSet 34 = .ok (.istore_n 2, 1) := by decide +kernel
theorem dX6_islandSet_35 : decode cX6_islandSet 35 = .ok (.iinc 3 1, 3) := by decide +kernel
theorem dX6_islandSet_38 : decode cX6_islandSet 38 = .ok (.goto (-34), 3) := by decide +kernel
theorem dX6_islandSet_41 : decode cX6_islandSet 41 = .ok (.iload_n 2, 1) := by decide +kernel
theorem dX6_islandSet_42 : decode cX6_islandSet 42 = .ok (.ireturn, 1) := by decide +kernel
theorem dX6_bus_0 : decode cX6_bus 0 = .ok (.iload_n 1, 1) := by decide +kernel
theorem dX6_bus_1 : decode cX6_bus 1 = .ok (.invokestatic 48, 3) := by decide +kernel
theorem dX6_bus_4 : decode cX6_bus 4 = .ok (.ifCond .ne 5, 3) := by decide +kernel
theorem dX6_bus_7 : decode cX6_bus 7 = .ok (.iconst (-1), 1) := by decide +kernel
theorem dX6_bus_8 : decode cX6_bus 8 = .ok (.ireturn, 1) := by decide +kernel
theorem dX6_bus_9 : decode cX6_bus 9 = .ok (.iload_n 2, 1) := by decide +kernel
theorem dX6_bus_10 : decode cX6_bus 10 = .ok (.iconst 0, 1) := by decide +kernel
theorem dX6_bus_11 : decode cX6_bus 11 = .ok (.iconst 2, 1) := by decide +kernel
theorem dX6_bus_12 : decode cX6_bus 12 = .ok (.invokestatic 44, 3) := by decide +kernel
theorem dX6_bus_15 : decode cX6_bus 15 = .ok (.ifCond .ne 6, 3) := by decide +kernel
theorem dX6_bus_18 : decode cX6_bus 18 = .ok (.bipush (-2), 2) := by decide +kernel
theorem dX6_bus_20 : decode cX6_bus 20 = .ok (.ireturn, 1) := by decide +kernel
theorem dX6_bus_21 : decode cX6_bus 21 = .ok (.aload_n 0, 1) := by decide +kernel
theorem dX6_bus_22 : decode cX6_bus 22 = .ok (.invokevirtual 65, 3) := by decide +kernel
theorem dX6_bus_25 : decode cX6_bus 25 = .ok (.iload_n 2, 1) := by decide +kernel
theorem dX6_bus_26 : decode cX6_bus 26 = .ok (.ifCond .ne 11, 3) := by decide +kernel
theorem dX6_bus_29 : decode cX6_bus 29 = .ok (.aload_n 0, 1) := by decide +kernel
theorem dX6_bus_30 : decode cX6_bus 30 = .ok (.iload_n 1, 1) := by decide +kernel
theorem dX6_bus_31 : decode cX6_bus 31 = .ok (.invokevirtual 68, 3) := by decide +kernel
theorem dX6_bus_34 : decode cX6_bus 34 = .ok (.goto 38, 3) := by decide +kernel
theorem dX6_bus_37 : decode cX6_bus 37 = .ok (.iload_n 2, 1) := by decide +kernel
theorem dX6_bus_38 : decode cX6_bus 38 = .ok (.iconst 1, 1) := by decide +kernel
theorem dX6_bus_39 : decode cX6_bus 39 = .ok (.if_icmp .ne 19, 3) := by decide +kernel
theorem dX6_bus_42 : decode cX6_bus 42 = .ok (.aload_n 0, 1) := by decide +kernel
theorem dX6_bus_43 : decode cX6_bus 43 = .ok (.iload_n 1, 1) := by decide +kernel
theorem dX6_bus_44 : decode cX6_bus 44 = .ok (.invokevirtual 72, 3) := by decide +kernel
theorem dX6_bus_47 : decode cX6_bus 47 = .ok (.ifCond .eq 7, 3) := by decide +kernel
theorem dX6_bus_50 : decode cX6_bus 50 = .ok (.iconst 1, 1) := by decide +kernel
theorem dX6_bus_51 : decode cX6_bus 51 = .ok (.goto 21, 3) := by decide +kernel
theorem dX6_bus_54 : decode cX6_bus 54 = .ok (.iconst 0, 1) := by decide +kernel
theorem dX6_bus_55 : decode cX6_bus 55 = .ok (.goto 17, 3) := by decide +kernel
theorem dX6_bus_58 : decode cX6_bus 58 = .ok (.aload_n 0, 1) := by decide +kernel
theorem dX6_bus_59 : decode cX6_bus 59 = .ok (.getfield 29, 3) := by decide +kernel
theorem dX6_bus_62 : decode cX6_bus 62 = .ok (.aload_n 0, 1) := by decide +kernel
theorem dX6_bus_63 : decode cX6_bus 63 = .ok (.getfield 26, 3) := by decide +kernel
theorem dX6_bus_66 : decode cX6_bus 66 = .ok (.iload_n 1, 1) := by decide +kernel
theorem dX6_bus_67 : decode cX6_bus 67 = .ok (.iaload, 1) := by decide +kernel
theorem dX6_bus_68 : decode cX6_bus 68 = .ok (.iaload, 1) := by decide +kernel
theorem dX6_bus_69 : decode cX6_bus 69 = .ok (.bipush 100, 2) := by decide +kernel
theorem dX6_bus_71 : decode cX6_bus 71 = .ok (.iadd, 1) := by decide +kernel
theorem dX6_bus_72 : decode cX6_bus 72 = .ok (.ireturn, 1) := by decide +kernel
theorem dX6_canStart_0 : decode cX6_canStart 0 = .ok (.aload_n 0, 1) := by decide +kernel
theorem dX6_canStart_1 : decode cX6_canStart 1 = .ok (.getfield 7, 3) := by decide +kernel
theorem dX6_canStart_4 : decode cX6_canStart 4 = .ok (.bipush 24, 2) := by decide +kernel
theorem dX6_canStart_6 : decode cX6_canStart 6 = .ok (.iload_n 1, 1) := by decide +kernel
theorem dX6_canStart_7 : decode cX6_canStart 7 = .ok (.iadd, 1) := by decide +kernel
theorem dX6_canStart_8 : decode cX6_canStart 8 = .ok (.iaload, 1) := by decide +kernel
theorem dX6_canStart_9 : decode cX6_canStart 9 = .ok (.istore_n 2, 1) := by decide +kernel
theorem dX6_canStart_10 : decode cX6_canStart 10 = .ok (.aload_n 0, 1) := by decide +kernel
theorem dX6_canStart_11 : decode cX6_canStart 11 = .ok (.getfield 23, 3) := by decide +kernel
theorem dX6_canStart_14 : decode cX6_canStart 14 = .ok (.iload_n 1, 1) := by decide +kernel
theorem dX6_canStart_15 : decode cX6_canStart 15 = .ok (.iaload, 1) := by decide +kernel
theorem dX6_canStart_16 : decode cX6_canStart 16 = .ok (.ifCond .ne 50, 3) := by decide +kernel
theorem dX6_canStart_19 : decode cX6_canStart 19 = .ok (.aload_n 0, 1) := by decide +kernel
theorem dX6_canStart_20 : decode cX6_canStart 20 = .ok (.getfield 7, 3) := by decide +kernel
theorem dX6_canStart_23 : decode cX6_canStart 23 = .ok (.bipush 27, 2) := by decide +kernel
theorem dX6_canStart_25 : decode cX6_canStart 25 = .ok (.iload_n 1, 1) := by decide +kernel
theorem dX6_canStart_26 : decode cX6_canStart 26 = .ok (.iadd, 1) := by decide +kernel
theorem dX6_canStart_27 : decode cX6_canStart 27 = .ok (.iaload, 1) := by decide +kernel
theorem dX6_canStart_28 : decode cX6_canStart 28 = .ok (.ifCond .eq 34, 3) := by decide +kernel
theorem dX6_canStart_31 : decode cX6_canStart 31 = .ok (.aload_n 0, 1) := by decide +kernel
theorem dX6_canStart_32 : decode cX6_canStart 32 = .ok (.iload_n 2, 1) := by decide +kernel
theorem dX6_canStart_33 : decode cX6_canStart 33 = .ok (.invokevirtual 72, 3) := by decide +kernel
theorem dX6_canStart_36 : decode cX6_canStart 36 = .ok (.ifCond .eq 30, 3) := by decide +kernel
theorem dX6_canStart_39 : decode cX6_canStart 39 = .ok (.aload_n 0, 1) := by decide +kernel
theorem dX6_canStart_40 : decode cX6_canStart 40 = .ok (.getfield 29, 3) := by decide +kernel
theorem dX6_canStart_43 : decode cX6_canStart 43 = .ok (.aload_n 0, 1) := by decide +kernel
theorem dX6_canStart_44 : decode cX6_canStart 44 = .ok (.getfield 26, 3) := by decide +kernel
theorem dX6_canStart_47 : decode cX6_canStart 47 = .ok (.iload_n 2, 1) := by decide +kernel
theorem dX6_canStart_48 : decode cX6_canStart 48 = .ok (.iaload, 1) := by decide +kernel
theorem dX6_canStart_49 : decode cX6_canStart 49 = .ok (.iaload, 1) := by decide +kernel
theorem dX6_canStart_50 : decode cX6_canStart 50 = .ok (.aload_n 0, 1) := by decide +kernel
theorem dX6_canStart_51 : decode cX6_canStart 51 = .ok (.getfield 7, 3) := by decide +kernel
theorem dX6_canStart_54 : decode cX6_canStart 54 = .ok (.bipush 27, 2) := by decide +kernel
theorem dX6_canStart_56 : decode cX6_canStart 56 = .ok (.iload_n 1, 1) := by decide +kernel
theorem dX6_canStart_57 : decode cX6_canStart 57 = .ok (.iadd, 1) := by decide +kernel
theorem dX6_canStart_58 : decode cX6_canStart 58 = .ok (.iaload, 1) := by decide +kernel
theorem dX6_canStart_59 : decode cX6_canStart 59 = .ok (.if_icmp .lt 7, 3) := by decide +kernel
theorem dX6_canStart_62 : decode cX6_canStart 62 = .ok (.iconst 1, 1) := by decide +kernel
theorem dX6_canStart_63 : decode cX6_canStart 63 = .ok (.goto 4, 3) := by decide +kernel
theorem dX6_canStart_66 : decode cX6_canStart 66 = .ok (.iconst 0, 1) := by decide +kernel
theorem dX6_canStart_67 : decode cX6_canStart 67 = .ok (.ireturn, 1) := by decide +kernel
theorem dX6_canClose_0 : decode cX6_canClose 0 = .ok (.aload_n 0, 1) := by decide +kernel
theorem dX6_canClose_1 : decode cX6_canClose 1 = .ok (.getfield 26, 3) := by decide +kernel
theorem dX6_canClose_4 : decode cX6_canClose 4 = .ok (.aload_n 0, 1) := by decide +kernel
theorem dX6_canClose_5 : decode cX6_canClose 5 = .ok (.getfield 7, 3) := by decide +kernel
theorem dX6_canClose_8 : decode cX6_canClose 8 = .ok (.iconst 0, 1) := by decide +kernel
theorem dX6_canClose_9 : decode cX6_canClose 9 = .ok (.iload_n 1, 1) := by decide +kernel
theorem dX6_canClose_10 : decode cX6_canClose 10 = .ok (.iadd, 1) := by decide +kernel
theorem dX6_canClose_11 : decode cX6_canClose 11 = .ok (.iaload, 1) := by decide +kernel
theorem dX6_canClose_12 : decode cX6_canClose 12 = .ok (.iaload, 1) := by decide +kernel
theorem dX6_canClose_13 : decode cX6_canClose 13 = .ok (.istore_n 2, 1) := by decide +kernel
theorem dX6_canClose_14 : decode cX6_canClose 14 = .ok (.aload_n 0, 1) := by decide +kernel
theorem dX6_canClose_15 : decode cX6_canClose 15 = .ok (.getfield 26, 3) := by decide +kernel
theorem dX6_canClose_18 : decode cX6_canClose 18 = .ok (.aload_n 0, 1) := by decide +kernel
theorem dX6_canClose_19 : decode cX6_canClose 19 = .ok (.getfield 7, 3) := by decide +kernel
theorem dX6_canClose_22 : decode cX6_canClose 22 = .ok (.bipush 6, 2) := by decide +kernel
theorem dX6_canClose_24 : decode cX6_canClose 24 = .ok (.iload_n 1, 1) := by decide +kernel
theorem dX6_canClose_25 : decode cX6_canClose 25 = .ok (.iadd, 1) := by decide +kernel
theorem dX6_canClose_26 : decode cX6_canClose 26 = .ok (.iaload, 1) := by decide +kernel
theorem dX6_canClose_27 : decode cX6_canClose 27 = .ok (.iaload, 1) := by decide +kernel
theorem dX6_canClose_28 : decode cX6_canClose 28 = .ok (.istore_n 3, 1) := by decide +kernel
theorem dX6_canClose_29 : decode cX6_canClose 29 = .ok (.iload_n 2, 1) := by decide +kernel
theorem dX6_canClose_30 : decode cX6_canClose 30 = .ok (.iload_n 3, 1) := by decide +kernel
theorem dX6_canClose_31 : decode cX6_canClose 31 = .ok (.if_icmp .ne 12, 3) := by decide +kernel
theorem dX6_canClose_34 : decode cX6_canClose 34 = .ok (.aload_n 0, 1) := by decide +kernel
theorem dX6_canClose_35 : decode cX6_canClose 35 = .ok (.getfield 29, 3) := by decide +kernel
theorem dX6_canClose_38 : decode cX6_canClose 38 = .ok (.iload_n 2, 1) := by decide +kernel
theorem dX6_canClose_39 : decode cX6_canClose 39 = .ok (.iaload, 1) := by decide +kernel
theorem dX6_canClose_40 : decode cX6_canClose 40 = .ok (.goto 16, 3) := by decide +kernel
theorem dX6_canClose_43 : decode cX6_canClose 43 = .ok (.aload_n 0, 1) := by decide +kernel
theorem dX6_canClose_44 : decode cX6_canClose 44 = .ok (.getfield 29, 3) := by decide +kernel
theorem dX6_canClose_47 : decode cX6_canClose 47 = .ok (.iload_n 2, 1) := by decide +kernel
theorem dX6_canClose_48 : decode cX6_canClose 48 = .ok (.iaload, 1) := by decide +kernel
theorem dX6_canClose_49 : decode cX6_canClose 49 = .ok (.aload_n 0, 1) := by decide +kernel
theorem dX6_canClose_50 : decode cX6_canClose 50 = .ok (.getfield 29, 3) := by decide +kernel
theorem dX6_canClose_53 : decode cX6_canClose 53 = .ok (.iload_n 3, 1) := by decide +kernel
theorem dX6_canClose_54 : decode cX6_canClose 54 = .ok (.iaload, 1) := by decide +kernel
theorem dX6_canClose_55 : decode cX6_canClose 55 = .ok (.iadd, 1) := by decide +kernel
theorem dX6_canClose_56 : decode cX6_canClose 56 = .ok (.istore 4, 2) := by decide +kernel
theorem dX6_canClose_58 : decode cX6_canClose 58 = .ok (.aload_n 0, 1) := by decide +kernel
theorem dX6_canClose_59 : decode cX6_canClose 59 = .ok (.getfield 20, 3) := by decide +kernel
theorem dX6_canClose_62 : decode cX6_canClose 62 = .ok (.iload_n 1, 1) := by decide +kernel
theorem dX6_canClose_63 : decode cX6_canClose 63 = .ok (.iaload, 1) := by decide +kernel
theorem dX6_canClose_64 : decode cX6_canClose 64 = .ok (.ifCond .ne 39, 3) := by decide +kernel
theorem dX6_canClose_67 : decode cX6_canClose 67 = .ok (.aload_n 0, 1) := by decide +kernel
theorem dX6_canClose_68 : decode cX6_canClose 68 = .ok (.getfield 32, 3) := by decide +kernel
theorem dX6_canClose_71 : decode cX6_canClose 71 = .ok (.iload_n 2, 1) := by decide +kernel
theorem dX6_canClose_72 : decode cX6_canClose 72 = .ok (.baload, 1) := by decide +kernel
theorem dX6_canClose_73 : decode cX6_canClose 73 = .ok (.ifCond .ne 12, 3) := by decide +kernel
theorem dX6_canClose_76 : decode cX6_canClose 76 = .ok (.aload_n 0, 1) := by decide +kernel
theorem dX6_canClose_77 : decode cX6_canClose 77 = .ok (.getfield 32, 3) := by decide +kernel
theorem dX6_canClose_80 : decode cX6_canClose 80 = .ok (.iload_n 3, 1) := by decide +kernel
theorem dX6_canClose_81 : decode cX6_canClose 81 = .ok (.baload, 1) := by decide +kernel
theorem dX6_canClose_82 : decode cX6_canClose 82 = .ok (.ifCond .eq 21, 3) := by decide +kernel
theorem dX6_canClose_85 : decode cX6_canClose 85 = .ok (.iload 4, 2) := by decide +kernel
theorem dX6_canClose_87 : decode cX6_canClose 87 = .ok (.aload_n 0, 1) := by decide +kernel
theorem dX6_canClose_88 : decode cX6_canClose 88 = .ok (.getfield 7, 3) := by decide +kernel
theorem dX6_canClose_91 : decode cX6_canClose 91 = .ok (.bipush 12, 2) := by decide +kernel
theorem dX6_canClose_93 : decode cX6_canClose 93 = .ok (.iload_n 1, 1) := by decide +kernel
theorem dX6_canClose_94 : decode cX6_canClose 94 = .ok (.iadd, 1) := by decide +kernel
theorem dX6_canClose_95 : decode cX6_canClose 95 = .ok (.iaload, 1) := by decide +kernel
theorem dX6_canClose_96 : decode cX6_canClose 96 = .ok (.if_icmp .lt 7, 3) := by decide +kernel
theorem dX6_canClose_99 : decode cX6_canClose 99 = .ok (.iconst 1, 1) := by decide +kernel
theorem dX6_canClose_100 : decode cX6_canClose 100 = .ok (.goto 4, 3) := by decide +kernel
theorem dX6_canClose_103 : decode cX6_canClose 103 = .ok (.iconst 0, 1) := by decide +kernel
theorem dX6_canClose_104 : decode cX6_canClose 104 = .ok (.ireturn, 1) := by decide +kernel
theorem dX6_canStep_0 : decode cX6_canStep 0 = .ok (.iload_n 1, 1) := by decide +kernel
theorem dX6_canStep_1 : decode cX6_canStep 1 = .ok (.ifCond .ne 5, 3) := by decide +kernel
theorem dX6_canStep_4 : decode cX6_canStep 4 = .ok (.iconst 1, 1) := by decide +kernel
theorem dX6_canStep_5 : decode cX6_canStep 5 = .ok (.ireturn, 1) := by decide +kernel
theorem dX6_canStep_6 : decode cX6_canStep 6 = .ok (.iload_n 1, 1) := by decide +kernel
theorem dX6_canStep_7 : decode cX6_canStep 7 = .ok (.iconst 4, 1) := by decide +kernel
theorem dX6_canStep_8 : decode cX6_canStep 8 = .ok (.if_icmp .ge 31, 3) := by decide +kernel
theorem dX6_canStep_11 : decode cX6_canStep 11 = .ok (.aload_n 0, 1) := by decide +kernel
theorem dX6_canStep_12 : decode cX6_canStep 12 = .ok (.iload_n 1, 1) := by decide +kernel
theorem dX6_canStep_13 : decode cX6_canStep 13 = .ok (.iconst 1, 1) := by decide +kernel
theorem dX6_canStep_14 : decode cX6_canStep 14 = .ok (.isub, 1) := by decide +kernel
theorem dX6_canStep_15 : decode cX6_canStep 15 = .ok (.invokevirtual 55, 3) := by decide +kernel
theorem dX6_canStep_18 : decode cX6_canStep 18 = .ok (.ifCond .eq 17, 3) := by decide +kernel
theorem dX6_canStep_21 : decode cX6_canStep 21 = .ok (.aload_n 0, 1) := by decide +kernel
theorem dX6_canStep_22 : decode cX6_canStep 22 = .ok (.iload_n 1, 1) := by decide +kernel
theorem dX6_canStep_23 : decode cX6_canStep 23 = .ok (.iconst 1, 1) := by decide +kernel
theorem dX6_canStep_24 : decode cX6_canStep 24 = .ok (.isub, 1) := by decide +kernel
theorem dX6_canStep_25 : decode cX6_canStep 25 = .ok (.invokevirtual 75, 3) := by decide +kernel
theorem dX6_canStep_28 : decode cX6_canStep 28 = .ok (.ifCond .eq 7, 3) := by decide +kernel
theorem dX6_canStep_31 : decode cX6_canStep 31 = .ok (.iconst 1, 1) := by decide +kernel
theorem dX6_canStep_32 : decode cX6_canStep 32 = .ok (.goto 32, 3) := by decide +kernel
theorem dX6_canStep_35 : decode cX6_canStep 35 = .ok (.iconst 0, 1) := by decide +kernel
theorem dX6_canStep_36 : decode cX6_canStep 36 = .ok (.goto 28, 3) := by decide +kernel
theorem dX6_canStep_39 : decode cX6_canStep 39 = .ok (.aload_n 0, 1) := by decide +kernel
theorem dX6_canStep_40 : decode cX6_canStep 40 = .ok (.iload_n 1, 1) := by decide +kernel
theorem dX6_canStep_41 : decode cX6_canStep 41 = .ok (.iconst 4, 1) := by decide +kernel
theorem dX6_canStep_42 : decode cX6_canStep 42 = .ok (.isub, 1) := by decide +kernel
theorem dX6_canStep_43 : decode cX6_canStep 43 = .ok (.invokevirtual 52, 3) := by decide +kernel
theorem dX6_canStep_46 : decode cX6_canStep 46 = .ok (.ifCond .eq 17, 3) := by decide +kernel
theorem dX6_canStep_49 : decode cX6_canStep 49 = .ok (.aload_n 0, 1) := by decide +kernel
theorem dX6_canStep_50 : decode cX6_canStep 50 = .ok (.iload_n 1, 1) := by decide +kernel
theorem dX6_canStep_51 : decode cX6_canStep 51 = .ok (.iconst 4, 1) := by decide +kernel
theorem dX6_canStep_52 : decode cX6_canStep 52 = .ok (.isub, 1) := by decide +kernel
theorem dX6_canStep_53 : decode cX6_canStep 53 = .ok (.invokevirtual 78, 3) := by decide +kernel
theorem dX6_canStep_56 : decode cX6_canStep 56 = .ok (.ifCond .eq 7, 3) := by decide +kernel
theorem dX6_canStep_59 : decode cX6_canStep 59 = .ok (.iconst 1, 1) := by decide +kernel
theorem dX6_canStep_60 : decode cX6_canStep 60 = .ok (.goto 4, 3) := by decide +kernel
theorem dX6_canStep_63 : decode cX6_canStep 63 = .ok (.iconst 0, 1) := by decide +kernel
theorem dX6_canStep_64 : decode cX6_canStep 64 = .ok (.ireturn, 1) := by decide +kernel
theorem dX6_can_0 : decode cX6_can 0 = .ok (.aload_n 0, 1) := by decide +kernel
theorem dX6_can_1 : decode cX6_can 1 = .ok (.invokevirtual 65, 3) := by decide +kernel
theorem dX6_can_4 : decode cX6_can 4 = .ok (.iconst 0, 1) := by decide +kernel
theorem dX6_can_5 : decode cX6_can 5 = .ok (.istore_n 1, 1) := by decide +kernel
theorem dX6_can_6 : decode cX6_can 6 = .ok (.iconst 0, 1) := by decide +kernel
theorem dX6_can_7 : decode cX6_can 7 = .ok (.istore_n 2, 1) := by decide +kernel
theorem dX6_can_8 : decode cX6_can 8 = .ok (.iload_n 2, 1) := by decide +kernel
theorem dX6_can_9 : decode cX6_can 9 = .ok (.bipush 10, 2) := by decide +kernel
theorem dX6_can_11 : decode cX6_can 11 = .ok (.if_icmp .ge 27, 3) := by decide +kernel
theorem dX6_can_14 : decode cX6_can 14 = .ok (.iload_n 1, 1) := by decide +kernel
theorem dX6_can_15 : decode cX6_can 15 = .ok (.aload_n 0, 1) := by decide +kernel
theorem dX6_can_16 : decode cX6_can 16 = .ok (.iload_n 2, 1) := by decide +kernel
theorem dX6_can_17 : decode cX6_can 17 = .ok (.invokevirtual 81, 3) := by decide +kernel
theorem dX6_can_20 : decode cX6_can 20 = .ok (.ifCond .eq 9, 3) := by decide +kernel
theorem dX6_can_23 : decode cX6_can 23 = .ok (.iconst 1, 1) := by decide +kernel
theorem dX6_can_24 : decode cX6_can 24 = .ok (.iload_n 2, 1) := by decide +kernel
theorem dX6_can_25 : decode cX6_can 25 = .ok (.ishl, 1) := by decide +kernel
theorem dX6_can_26 : decode cX6_can 26 = .ok (.goto 4, 3) := by decide +kernel
theorem dX6_can_29 : decode cX6_can 29 = .ok (.iconst 0, 1) := by decide +kernel
theorem dX6_can_30 : decode cX6_can 30 = .ok (.ior, 1) := by decide +kernel
theorem dX6_can_31 : decode cX6_can 31 = .ok (.istore_n 1, 1) := by decide +kernel
theorem dX6_can_32 : decode cX6_can 32 = .ok (.iinc 2 1, 3) := by decide +kernel
theorem dX6_can_35 : decode cX6_can 35 = .ok (.goto (-27), 3) := by decide +kernel
theorem dX6_can_38 : decode cX6_can 38 = .ok (.iload_n 1, 1) := by decide +kernel
theorem dX6_can_39 : decode cX6_can 39 = .ok (.ireturn, 1) := by decide +kernel
theorem dX6_ranOn_0 : decode cX6_ranOn 0 = .ok (.iload_n 2, 1) := by decide +kernel
theorem dX6_ranOn_1 : decode cX6_ranOn 1 = .ok (.iload_n 1, 1) := by decide +kernel
theorem dX6_ranOn_2 : decode cX6_ranOn 2 = .ok (.iconst 1, 1) := by decide +kernel
theorem dX6_ranOn_3 : decode cX6_ranOn 3 = .ok (.iadd, 1) := by decide +kernel
theorem dX6_ranOn_4 : decode cX6_ranOn 4 = .ok (.if_icmp .ne 17, 3) := by decide +kernel
theorem dX6_ranOn_7 : decode cX6_ranOn 7 = .ok (.aload_n 0, 1) := by decide +kernel
theorem dX6_ranOn_8 : decode cX6_ranOn 8 = .ok (.getfield 7, 3) := by decide +kernel
theorem dX6_ranOn_11 : decode cX6_ranOn 11 = .ok (.bipush 33, 2) := by decide +kernel
theorem dX6_ranOn_13 : decode cX6_ranOn 13 = .ok (.iload_n 1, 1) := by decide +kernel
theorem dX6_ranOn_14 : decode cX6_ranOn 14 = .ok (.iadd, 1) := by decide +kernel
theorem dX6_ranOn_15 : decode cX6_ranOn 15 = .ok (.iaload, 1) := by decide +kernel
theorem dX6_ranOn_16 : decode cX6_ranOn 16 = .ok (.iconst 1, 1) := by decide +kernel
theorem dX6_ranOn_17 : decode cX6_ranOn 17 = .ok (.iadd, 1) := by decide +kernel
theorem dX6_ranOn_18 : decode cX6_ranOn 18 = .ok (.goto 30, 3) := by decide +kernel
theorem dX6_ranOn_21 : decode cX6_ranOn 21 = .ok (.aload_n 0, 1) := by decide +kernel
theorem dX6_ranOn_22 : decode cX6_ranOn 22 = .ok (.getfield 23, 3) := by decide +kernel
theorem dX6_ranOn_25 : decode cX6_ranOn 25 = .ok (.iload_n 1, 1) := by decide +kernel
theorem dX6_ranOn_26 : decode cX6_ranOn 26 = .ok (.iaload, 1) := by decide +kernel
theorem dX6_ranOn_27 : decode cX6_ranOn 27 = .ok (.iconst 1, 1) := by decide +kernel
theorem dX6_ranOn_28 : decode cX6_ranOn 28 = .ok (.if_icmp .le 14, 3) := by decide +kernel
theorem dX6_ranOn_31 : decode cX6_ranOn 31 = .ok (.aload_n 0, 1) := by decide +kernel
theorem dX6_ranOn_32 : decode cX6_ranOn 32 = .ok (.getfield 23, 3) := by decide +kernel
theorem dX6_ranOn_35 : decode cX6_ranOn 35 = .ok (.iload_n 1, 1) := by decide +kernel
theorem dX6_ranOn_36 : decode cX6_ranOn 36 = .ok (.iaload, 1) := by decide +kernel
theorem dX6_ranOn_37 : decode cX6_ranOn 37 = .ok (.iconst 1, 1) := by decide +kernel
theorem dX6_ranOn_38 : decode cX6_ranOn 38 = .ok (.isub, 1) := by decide +kernel
theorem dX6_ranOn_39 : decode cX6_ranOn 39 = .ok (.goto 9, 3) := by decide +kernel
theorem dX6_ranOn_42 : decode cX6_ranOn 42 = .ok (.aload_n 0, 1) := by decide +kernel
theorem dX6_ranOn_43 : decode cX6_ranOn 43 = .ok (.getfield 23, 3) := by decide +kernel
theorem dX6_ranOn_46 : decode cX6_ranOn 46 = .ok (.iload_n 1, 1) := by decide +kernel
theorem dX6_ranOn_47 : decode cX6_ranOn 47 = .ok (.iaload, 1) := by decide +kernel
theorem dX6_ranOn_48 : decode cX6_ranOn 48 = .ok (.ireturn, 1) := by decide +kernel
theorem dX6_numberBehind_0 : decode cX6_numberBehind 0 = .ok (.iconst 0, 1) := by decide +kernel
theorem dX6_numberBehind_1 : decode cX6_numberBehind 1 = .ok (.istore_n 2, 1) := by decide +kernel
theorem dX6_numberBehind_2 : decode cX6_numberBehind 2 = .ok (.iconst 0, 1) := by decide +kernel
theorem dX6_numberBehind_3 : decode cX6_numberBehind 3 = .ok (.istore_n 3, 1) := by decide +kernel
theorem dX6_numberBehind_4 : decode cX6_numberBehind 4 = .ok (.iload_n 3, 1) := by decide +kernel
theorem dX6_numberBehind_5 : decode cX6_numberBehind 5 = .ok (.bipush 6, 2) := by decide +kernel
theorem dX6_numberBehind_7 : decode cX6_numberBehind 7 = .ok (.if_icmp .ge 36, 3) := by decide +kernel
theorem dX6_numberBehind_10 : decode cX6_numberBehind 10 = .ok (.iload_n 2, 1) := by decide +kernel
theorem dX6_numberBehind_11 : decode cX6_numberBehind 11 = .ok (.aload_n 0, 1) := by decide +kernel
theorem dX6_numberBehind_12 : decode cX6_numberBehind 12 = .ok (.getfield 20, 3) := by decide +kernel
theorem dX6_numberBehind_15 : decode cX6_numberBehind 15 = .ok (.iload_n 3, 1) := by decide +kernel
theorem dX6_numberBehind_16 : decode cX6_numberBehind 16 = .ok (.iaload, 1) := by decide +kernel
theorem dX6_numberBehind_17 : decode cX6_numberBehind 17 = .ok (.iconst 1, 1) := by decide +kernel
theorem dX6_numberBehind_18 : decode cX6_numberBehind 18 = .ok (.if_icmp .eq 10, 3) := by decide +kernel
theorem dX6_numberBehind_21 : decode cX6_numberBehind 21 = .ok (.iload_n 1, 1) := by decide +kernel
theorem dX6_numberBehind_22 : decode cX6_numberBehind 22 = .ok (.iload_n 3, 1) := by decide +kernel
theorem dX6_numberBehind_23 : decode cX6_numberBehind 23 = .ok (.iconst 4, 1) := by decide +kernel
theorem dX6_numberBehind_24 : decode cX6_numberBehind 24 = .ok (.iadd, 1) := by decide +kernel
theorem dX6_numberBehind_25 : decode cX6_numberBehind 25 = .ok (.if_icmp .ne 9, 3) := by decide +kernel
theorem dX6_numberBehind_28 : decode cX6_numberBehind 28 = .ok (.iconst 1, 1) := by decide +kernel
theorem dX6_numberBehind_29 : decode cX6_numberBehind 29 = .ok (.iload_n 3, 1) := by decide +kernel
theorem dX6_numberBehind_30 : decode cX6_numberBehind 30 = .ok (.ishl, 1) := by decide +kernel
theorem dX6_numberBehind_31 : decode cX6_numberBehind 31 = .ok (.goto 4, 3) := by decide +kernel
theorem dX6_numberBehind_34 : decode cX6_numberBehind 34 = .ok (.iconst 0, 1) := by decide +kernel
theorem dX6_numberBehind_35 : decode cX6_numberBehind 35 = .ok (.ior, 1) := by decide +kernel
theorem dX6_numberBehind_36 : decode cX6_numberBehind 36 = .ok (.istore_n 2, 1) := by decide +kernel
theorem dX6_numberBehind_37 : decode cX6_numberBehind 37 = .ok (.iinc 3 1, 3) := by decide +kernel
theorem dX6_numberBehind_40 : decode cX6_numberBehind 40 = .ok (.goto (-36), 3) := by decide +kernel
theorem dX6_numberBehind_43 : decode cX6_numberBehind 43 = .ok (.iload_n 2, 1) := by decide +kernel
theorem dX6_numberBehind_44 : decode cX6_numberBehind 44 = .ok (.bipush 64, 2) := by decide +kernel
theorem dX6_numberBehind_46 : decode cX6_numberBehind 46 = .ok (.aload_n 0, 1) := by decide +kernel
theorem dX6_numberBehind_47 : decode cX6_numberBehind 47 = .ok (.iconst 0, 1) := by decide +kernel
theorem dX6_numberBehind_48 : decode cX6_numberBehind 48 = .ok (.iload_n 1, 1) := by decide +kernel
theorem dX6_numberBehind_49 : decode cX6_numberBehind 49 = .ok (.invokevirtual 84, 3) := by decide +kernel
theorem dX6_numberBehind_52 : decode cX6_numberBehind 52 = .ok (.iconst 5, 1) := by decide +kernel
theorem dX6_numberBehind_53 : decode cX6_numberBehind 53 = .ok (.aload_n 0, 1) := by decide +kernel
theorem dX6_numberBehind_54 : decode cX6_numberBehind 54 = .ok (.iconst 1, 1) := by decide +kernel
theorem dX6_numberBehind_55 : decode cX6_numberBehind 55 = .ok (.iload_n 1, 1) := by decide +kernel
theorem dX6_numberBehind_56 : decode cX6_numberBehind 56 = .ok (.invokevirtual 84, 3) := by decide +kernel
theorem dX6_numberBehind_59 : decode cX6_numberBehind 59 = .ok (.imul, 1) := by decide +kernel
theorem dX6_numberBehind_60 : decode cX6_numberBehind 60 = .ok (.iadd, 1) := by decide +kernel
theorem dX6_numberBehind_61 : decode cX6_numberBehind 61 = .ok (.bipush 25, 2) := by decide +kernel
theorem dX6_numberBehind_63 : decode cX6_numberBehind 63 = .ok (.aload_n 0, 1) := by decide +kernel
theorem dX6_numberBehind_64 : decode cX6_numberBehind 64 = .ok (.iconst 2, 1) := by decide +kernel
theorem dX6_numberBehind_65 : decode cX6_numberBehind 65 = .ok (.iload_n 1, 1) := by decide +kernel
theorem dX6_numberBehind_66 : decode cX6_numberBehind 66 = .ok (.invokevirtual 84, 3) := by decide +kernel
theorem dX6_numberBehind_69 : decode cX6_numberBehind 69 = .ok (.imul, 1) := by decide +kernel
theorem dX6_numberBehind_70 : decode cX6_numberBehind 70 = .ok (.iadd, 1) := by decide +kernel
theorem dX6_numberBehind_71 : decode cX6_numberBehind 71 = .ok (.imul, 1) := by decide +kernel
theorem dX6_numberBehind_72 : decode cX6_numberBehind 72 = .ok (.iadd, 1) := by decide +kernel
theorem dX6_numberBehind_73 : decode cX6_numberBehind 73 = .ok (.ireturn, 1) := by decide +kernel
theorem dX6_numberNow_0 : decode cX6_numberNow 0 = .ok (.iconst 0, 1) := by decide +kernel
theorem dX6_numberNow_1 : decode cX6_numberNow 1 = .ok (.istore_n 1, 1) := by decide +kernel
theorem dX6_numberNow_2 : decode cX6_numberNow 2 = .ok (.iconst 0, 1) := by decide +kernel
theorem dX6_numberNow_3 : decode cX6_numberNow 3 = .ok (.istore_n 2, 1) := by decide +kernel
theorem dX6_numberNow_4 : decode cX6_numberNow 4 = .ok (.iload_n 2, 1) := by decide +kernel
theorem dX6_numberNow_5 : decode cX6_numberNow 5 = .ok (.bipush 6, 2) := by decide +kernel
theorem dX6_numberNow_7 : decode cX6_numberNow 7 = .ok (.if_icmp .ge 23, 3) := by decide +kernel
theorem dX6_numberNow_10 : decode cX6_numberNow 10 = .ok (.iload_n 1, 1) := by decide +kernel
theorem dX6_numberNow_11 : decode cX6_numberNow 11 = .ok (.aload_n 0, 1) := by decide +kernel
theorem dX6_numberNow_12 : decode cX6_numberNow 12 = .ok (.getfield 7, 3) := by decide +kernel
theorem dX6_numberNow_15 : decode cX6_numberNow 15 = .ok (.bipush 18, 2) := by decide +kernel
theorem dX6_numberNow_17 : decode cX6_numberNow 17 = .ok (.iload_n 2, 1) := by decide +kernel
theorem dX6_numberNow_18 : decode cX6_numberNow 18 = .ok (.iadd, 1) := by decide +kernel
theorem dX6_numberNow_19 : decode cX6_numberNow 19 = .ok (.iaload, 1) := by decide +kernel
theorem dX6_numberNow_20 : decode cX6_numberNow 20 = .ok (.iload_n 2, 1) := by decide +kernel
theorem dX6_numberNow_21 : decode cX6_numberNow 21 = .ok (.ishl, 1) := by decide +kernel
theorem dX6_numberNow_22 : decode cX6_numberNow 22 = .ok (.ior, 1) := by decide +kernel
theorem dX6_numberNow_23 : decode cX6_numberNow 23 = .ok (.istore_n 1, 1) := by decide +kernel
theorem dX6_numberNow_24 : decode cX6_numberNow 24 = .ok (.iinc 2 1, 3) := by decide +kernel
theorem dX6_numberNow_27 : decode cX6_numberNow 27 = .ok (.goto (-23), 3) := by decide +kernel
theorem dX6_numberNow_30 : decode cX6_numberNow 30 = .ok (.iload_n 1, 1) := by decide +kernel
theorem dX6_numberNow_31 : decode cX6_numberNow 31 = .ok (.bipush 64, 2) := by decide +kernel
theorem dX6_numberNow_33 : decode cX6_numberNow 33 = .ok (.aload_n 0, 1) := by decide +kernel
theorem dX6_numberNow_34 : decode cX6_numberNow 34 = .ok (.getfield 7, 3) := by decide +kernel
theorem dX6_numberNow_37 : decode cX6_numberNow 37 = .ok (.bipush 36, 2) := by decide +kernel
theorem dX6_numberNow_39 : decode cX6_numberNow 39 = .ok (.iaload, 1) := by decide +kernel
theorem dX6_numberNow_40 : decode cX6_numberNow 40 = .ok (.iconst 5, 1) := by decide +kernel
theorem dX6_numberNow_41 : decode cX6_numberNow 41 = .ok (.aload_n 0, 1) := by decide +kernel
theorem dX6_numberNow_42 : decode cX6_numberNow 42 = .ok (.getfield 7, 3) := by decide +kernel
theorem dX6_numberNow_45 : decode cX6_numberNow 45 = .ok (.bipush 37, 2) := by decide +kernel
theorem dX6_numberNow_47 : decode cX6_numberNow 47 = .ok (.iaload, 1) := by decide +kernel
theorem dX6_numberNow_48 : decode cX6_numberNow 48 = .ok (.imul, 1) := by decide +kernel
theorem dX6_numberNow_49 : decode cX6_numberNow 49 = .ok (.iadd, 1) := by decide +kernel
theorem dX6_numberNow_50 : decode cX6_numberNow 50 = .ok (.bipush 25, 2) := by decide +kernel
theorem dX6_numberNow_52 : decode cX6_numberNow 52 = .ok (.aload_n 0, 1) := by decide +kernel
theorem dX6_numberNow_53 : decode cX6_numberNow 53 = .ok (.getfield 7, 3) := by decide +kernel
theorem dX6_numberNow_56 : decode cX6_numberNow 56 = .ok (.bipush 38, 2) := by decide +kernel
theorem dX6_numberNow_58 : decode cX6_numberNow 58 = .ok (.iaload, 1) := by decide +kernel
theorem dX6_numberNow_59 : decode cX6_numberNow 59 = .ok (.imul, 1) := by decide +kernel
theorem dX6_numberNow_60 : decode cX6_numberNow 60 = .ok (.iadd, 1) := by decide +kernel
theorem dX6_numberNow_61 : decode cX6_numberNow 61 = .ok (.imul, 1) := by decide +kernel
theorem dX6_numberNow_62 : decode cX6_numberNow 62 = .ok (.iadd, 1) := by decide +kernel
theorem dX6_numberNow_63 : decode cX6_numberNow 63 = .ok (.ireturn, 1) := by decide +kernel
theorem dX6_layNumber_0 : decode cX6_layNumber 0 = .ok (.iconst 0, 1) := by decide +kernel
theorem dX6_layNumber_1 : decode cX6_layNumber 1 = .ok (.istore_n 2, 1) := by decide +kernel
theorem dX6_layNumber_2 : decode cX6_layNumber 2 = .ok (.iload_n 2, 1) := by decide +kernel
theorem dX6_layNumber_3 : decode cX6_layNumber 3 = .ok (.bipush 6, 2) := by decide +kernel
theorem dX6_layNumber_5 : decode cX6_layNumber 5 = .ok (.if_icmp .ge 20, 3) := by decide +kernel
theorem dX6_layNumber_8 : decode cX6_layNumber 8 = .ok (.aload_n 0, 1) := by decide +kernel
theorem dX6_layNumber_9 : decode cX6_layNumber 9 = .ok (.getfield 20, 3) := by decide +kernel
theorem dX6_layNumber_12 : decode cX6_layNumber 12 = .ok (.iload_n 2, 1) := by decide +kernel
theorem dX6_layNumber_13 : decode cX6_layNumber 13 = .ok (.iload_n 1, 1) := by decide +kernel
theorem dX6_layNumber_14 : decode cX6_layNumber 14 = .ok (.iload_n 2, 1) := by decide +kernel
theorem dX6_layNumber_15 : decode cX6_layNumber 15 = .ok (.ishr, 1) := by decide +kernel
theorem dX6_layNumber_16 : decode cX6_layNumber 16 = .ok (.iconst 1, 1) := by decide +kernel
theorem dX6_layNumber_17 : decode cX6_layNumber 17 = .ok (.iand, 1) := by decide +kernel
theorem dX6_layNumber_18 : decode cX6_layNumber 18 = .ok (.iastore, 1) := by decide +kernel
theorem dX6_layNumber_19 : decode cX6_layNumber 19 = .ok (.iinc 2 1, 3) := by decide +kernel
theorem dX6_layNumber_22 : decode cX6_layNumber 22 = .ok (.goto (-20), 3) := by decide +kernel
theorem dX6_layNumber_25 : decode cX6_layNumber 25 = .ok (.iload_n 1, 1) := by decide +kernel
theorem dX6_layNumber_26 : decode cX6_layNumber 26 = .ok (.bipush 64, 2) := by decide +kernel
theorem dX6_layNumber_28 : decode cX6_layNumber 28 = .ok (.idiv, 1) := by decide +kernel
theorem dX6_layNumber_29 : decode cX6_layNumber 29 = .ok (.istore_n 2, 1) := by decide +kernel
theorem dX6_layNumber_30 : decode cX6_layNumber 30 = .ok (.iconst 0, 1) := by decide +kernel
theorem dX6_layNumber_31 : decode cX6_layNumber 31 = .ok (.istore_n 3, 1) := by decide +kernel
theorem dX6_layNumber_32 : decode cX6_layNumber 32 = .ok (.iload_n 3, 1) := by decide +kernel
theorem dX6_layNumber_33 : decode cX6_layNumber 33 = .ok (.iconst 3, 1) := by decide +kernel
theorem dX6_layNumber_34 : decode cX6_layNumber 34 = .ok (.if_icmp .ge 22, 3) := by decide +kernel
theorem dX6_layNumber_37 : decode cX6_layNumber 37 = .ok (.aload_n 0, 1) := by decide +kernel
theorem dX6_layNumber_38 : decode cX6_layNumber 38 = .ok (.getfield 23, 3) := by decide +kernel
theorem dX6_layNumber_41 : decode cX6_layNumber 41 = .ok (.iload_n 3, 1) := by decide +kernel
theorem dX6_layNumber_42 : decode cX6_layNumber 42 = .ok (.iload_n 2, 1) := by decide +kernel
theorem dX6_layNumber_43 : decode cX6_layNumber 43 = .ok (.iconst 5, 1) := by decide +kernel
theorem dX6_layNumber_44 : decode cX6_layNumber 44 = .ok (.irem, 1) := by decide +kernel
theorem dX6_layNumber_45 : decode cX6_layNumber 45 = .ok (.iastore, 1) := by decide +kernel
theorem dX6_layNumber_46 : decode cX6_layNumber 46 = .ok (.iload_n 2, 1) := by decide +kernel
theorem dX6_layNumber_47 : decode cX6_layNumber 47 = .ok (.iconst 5, 1) := by decide +kernel
theorem dX6_layNumber_48 : decode cX6_layNumber 48 = .ok (.idiv, 1) := by decide +kernel
theorem dX6_layNumber_49 : decode cX6_layNumber 49 = .ok (.istore_n 2, 1) := by decide +kernel
theorem dX6_layNumber_50 : decode cX6_layNumber 50 = .ok (.iinc 3 1, 3) := by decide +kernel
theorem dX6_layNumber_53 : decode cX6_layNumber 53 = .ok (.goto (-21), 3) := by decide +kernel
theorem dX6_layNumber_56 : decode cX6_layNumber 56 = .ok (.aload_n 0, 1) := by decide +kernel
theorem dX6_layNumber_57 : decode cX6_layNumber 57 = .ok (.invokevirtual 62, 3) := by decide +kernel
theorem dX6_layNumber_60 : decode cX6_layNumber 60 = .ok (.return_, 1) := by decide +kernel
theorem dX6_become_0 : decode cX6_become 0 = .ok (.iconst 0, 1) := by decide +kernel
theorem dX6_become_1 : decode cX6_become 1 = .ok (.istore_n 2, 1) := by decide +kernel
theorem dX6_become_2 : decode cX6_become 2 = .ok (.iload_n 2, 1) := by decide +kernel
theorem dX6_become_3 : decode cX6_become 3 = .ok (.bipush 6, 2) := by decide +kernel
theorem dX6_become_5 : decode cX6_become 5 = .ok (.if_icmp .ge 23, 3) := by decide +kernel
theorem dX6_become_8 : decode cX6_become 8 = .ok (.aload_n 0, 1) := by decide +kernel
theorem dX6_become_9 : decode cX6_become 9 = .ok (.getfield 7, 3) := by decide +kernel
theorem dX6_become_12 : decode cX6_become 12 = .ok (.bipush 18, 2) := by decide +kernel
theorem dX6_become_14 : decode cX6_become 14 = .ok (.iload_n 2, 1) := by decide +kernel
theorem dX6_become_15 : decode cX6_become 15 = .ok (.iadd, 1) := by decide +kernel
theorem dX6_become_16 : decode cX6_become 16 = .ok (.iload_n 1, 1) := by decide +kernel
theorem dX6_become_17 : decode cX6_become 17 = .ok (.iload_n 2, 1) := by decide +kernel
theorem dX6_become_18 : decode cX6_become 18 = .ok (.ishr, 1) := by decide +kernel
theorem dX6_become_19 : decode cX6_become 19 = .ok (.iconst 1, 1) := by decide +kernel
theorem dX6_become_20 : decode cX6_become 20 = .ok (.iand, 1) := by decide +kernel
theorem dX6_become_21 : decode cX6_become 21 = .ok (.iastore, 1) := by decide +kernel
theorem dX6_become_22 : decode cX6_become 22 = .ok (.iinc 2 1, 3) := by decide +kernel
theorem dX6_become_25 : decode cX6_become 25 = .ok (.goto (-23), 3) := by decide +kernel
theorem dX6_become_28 : decode cX6_become 28 = .ok (.iload_n 1, 1) := by decide +kernel
theorem dX6_become_29 : decode cX6_become 29 = .ok (.bipush 64, 2) := by decide +kernel
theorem dX6_become_31 : decode cX6_become 31 = .ok (.idiv, 1) := by decide +kernel
theorem dX6_become_32 : decode cX6_become 32 = .ok (.istore_n 2, 1) := by decide +kernel
theorem dX6_become_33 : decode cX6_become 33 = .ok (.iconst 0, 1) := by decide +kernel
theorem dX6_become_34 : decode cX6_become 34 = .ok (.istore_n 3, 1) := by decide +kernel
theorem dX6_become_35 : decode cX6_become 35 = .ok (.iload_n 3, 1) := by decide +kernel
theorem dX6_become_36 : decode cX6_become 36 = .ok (.iconst 3, 1) := by decide +kernel
theorem dX6_become_37 : decode cX6_become 37 = .ok (.if_icmp .ge 25, 3) := by decide +kernel
theorem dX6_become_40 : decode cX6_become 40 = .ok (.aload_n 0, 1) := by decide +kernel
theorem dX6_become_41 : decode cX6_become 41 = .ok (.getfield 7, 3) := by decide +kernel
theorem dX6_become_44 : decode cX6_become 44 = .ok (.bipush 36, 2) := by decide +kernel
theorem dX6_become_46 : decode cX6_become 46 = .ok (.iload_n 3, 1) := by decide +kernel
theorem dX6_become_47 : decode cX6_become 47 = .ok (.iadd, 1) := by decide +kernel
theorem dX6_become_48 : decode cX6_become 48 = .ok (.iload_n 2, 1) := by decide +kernel
theorem dX6_become_49 : decode cX6_become 49 = .ok (.iconst 5, 1) := by decide +kernel
theorem dX6_become_50 : decode cX6_become 50 = .ok (.irem, 1) := by decide +kernel
theorem dX6_become_51 : decode cX6_become 51 = .ok (.iastore, 1) := by decide +kernel
theorem dX6_become_52 : decode cX6_become 52 = .ok (.iload_n 2, 1) := by decide +kernel
theorem dX6_become_53 : decode cX6_become 53 = .ok (.iconst 5, 1) := by decide +kernel
theorem dX6_become_54 : decode cX6_become 54 = .ok (.idiv, 1) := by decide +kernel
theorem dX6_become_55 : decode cX6_become 55 = .ok (.istore_n 2, 1) := by decide +kernel
theorem dX6_become_56 : decode cX6_become 56 = .ok (.iinc 3 1, 3) := by decide +kernel
theorem dX6_become_59 : decode cX6_become 59 = .ok (.goto (-24), 3) := by decide +kernel
theorem dX6_become_62 : decode cX6_become 62 = .ok (.return_, 1) := by decide +kernel
theorem dX6_tick_0 : decode cX6_tick 0 = .ok (.iload_n 1, 1) := by decide +kernel
theorem dX6_tick_1 : decode cX6_tick 1 = .ok (.iconst 0, 1) := by decide +kernel
theorem dX6_tick_2 : decode cX6_tick 2 = .ok (.bipush 9, 2) := by decide +kernel
theorem dX6_tick_4 : decode cX6_tick 4 = .ok (.invokestatic 44, 3) := by decide +kernel
theorem dX6_tick_7 : decode cX6_tick 7 = .ok (.ifCond .ne 6, 3) := by decide +kernel
theorem dX6_tick_10 : decode cX6_tick 10 = .ok (.bipush (-2), 2) := by decide +kernel
theorem dX6_tick_12 : decode cX6_tick 12 = .ok (.ireturn, 1) := by decide +kernel
end
section
theorem dX6_tick_13 : decode cX6_tick 13 = .ok (.iload_n 1, 1) := by decide +kernel
theorem dX6_tick_14 : decode cX6_tick 14 = .ok (.ifCond .le 33, 3) := by decide +kernel
theorem dX6_tick_17 : decode cX6_tick 17 = .ok (.iload_n 1, 1) := by decide +kernel
theorem dX6_tick_18 : decode cX6_tick 18 = .ok (.iconst 4, 1) := by decide +kernel
theorem dX6_tick_19 : decode cX6_tick 19 = .ok (.if_icmp .ge 16, 3) := by decide +kernel
theorem dX6_tick_22 : decode cX6_tick 22 = .ok (.aload_n 0, 1) := by decide +kernel
theorem dX6_tick_23 : decode cX6_tick 23 = .ok (.iload_n 1, 1) := by decide +kernel
theorem dX6_tick_24 : decode cX6_tick 24 = .ok (.iconst 1, 1) := by decide +kernel
theorem dX6_tick_25 : decode cX6_tick 25 = .ok (.isub, 1) := by decide +kernel
theorem dX6_tick_26 : decode cX6_tick 26 = .ok (.invokevirtual 55, 3) := by decide +kernel
theorem dX6_tick_29 : decode cX6_tick 29 = .ok (.ifCond .eq 16, 3) := by decide +kernel
theorem dX6_tick_32 : decode cX6_tick 32 = .ok (.goto 15, 3) := by decide +kernel
theorem dX6_tick_35 : decode cX6_tick 35 = .ok (.aload_n 0, 1) := by decide +kernel
theorem dX6_tick_36 : decode cX6_tick 36 = .ok (.iload_n 1, 1) := by decide +kernel
theorem dX6_tick_37 : decode cX6_tick 37 = .ok (.iconst 4, 1) := by decide +kernel
theorem dX6_tick_38 : decode cX6_tick 38 = .ok (.isub, 1) := by decide +kernel
theorem dX6_tick_39 : decode cX6_tick 39 = .ok (.invokevirtual 52, 3) := by decide +kernel
theorem dX6_tick_42 : decode cX6_tick 42 = .ok (.ifCond .ne 5, 3) := by decide +kernel
theorem dX6_tick_45 : decode cX6_tick 45 = .ok (.iconst (-1), 1) := by decide +kernel
theorem dX6_tick_46 : decode cX6_tick 46 = .ok (.ireturn, 1) := by decide +kernel
theorem dX6_tick_47 : decode cX6_tick 47 = .ok (.aload_n 0, 1) := by decide +kernel
theorem dX6_tick_48 : decode cX6_tick 48 = .ok (.invokevirtual 65, 3) := by decide +kernel
theorem dX6_tick_51 : decode cX6_tick 51 = .ok (.aload_n 0, 1) := by decide +kernel
theorem dX6_tick_52 : decode cX6_tick 52 = .ok (.iload_n 1, 1) := by decide +kernel
theorem dX6_tick_53 : decode cX6_tick 53 = .ok (.invokevirtual 81, 3) := by decide +kernel
theorem dX6_tick_56 : decode cX6_tick 56 = .ok (.ifCond .ne 6, 3) := by decide +kernel
theorem dX6_tick_59 : decode cX6_tick 59 = .ok (.bipush (-5), 2) := by decide +kernel
theorem dX6_tick_61 : decode cX6_tick 61 = .ok (.ireturn, 1) := by decide +kernel
theorem dX6_tick_62 : decode cX6_tick 62 = .ok (.aload_n 0, 1) := by decide +kernel
theorem dX6_tick_63 : decode cX6_tick 63 = .ok (.aload_n 0, 1) := by decide +kernel
theorem dX6_tick_64 : decode cX6_tick 64 = .ok (.iload_n 1, 1) := by decide +kernel
theorem dX6_tick_65 : decode cX6_tick 65 = .ok (.invokevirtual 88, 3) := by decide +kernel
theorem dX6_tick_68 : decode cX6_tick 68 = .ok (.invokevirtual 91, 3) := by decide +kernel
theorem dX6_tick_71 : decode cX6_tick 71 = .ok (.aload_n 0, 1) := by decide +kernel
theorem dX6_tick_72 : decode cX6_tick 72 = .ok (.getfield 7, 3) := by decide +kernel
theorem dX6_tick_75 : decode cX6_tick 75 = .ok (.bipush 41, 2) := by decide +kernel
theorem dX6_tick_77 : decode cX6_tick 77 = .ok (.dup2, 1) := by decide +kernel
theorem dX6_tick_78 : decode cX6_tick 78 = .ok (.iaload, 1) := by decide +kernel
theorem dX6_tick_79 : decode cX6_tick 79 = .ok (.iconst 1, 1) := by decide +kernel
theorem dX6_tick_80 : decode cX6_tick 80 = .ok (.iadd, 1) := by decide +kernel
theorem dX6_tick_81 : decode cX6_tick 81 = .ok (.iastore, 1) := by decide +kernel
theorem dX6_tick_82 : decode cX6_tick 82 = .ok (.aload_n 0, 1) := by decide +kernel
theorem dX6_tick_83 : decode cX6_tick 83 = .ok (.getfield 7, 3) := by decide +kernel
theorem dX6_tick_86 : decode cX6_tick 86 = .ok (.bipush 41, 2) := by decide +kernel
theorem dX6_tick_88 : decode cX6_tick 88 = .ok (.iaload, 1) := by decide +kernel
theorem dX6_tick_89 : decode cX6_tick 89 = .ok (.ireturn, 1) := by decide +kernel
theorem dX6_openAll_0 : decode cX6_openAll 0 = .ok (.aload_n 0, 1) := by decide +kernel
theorem dX6_openAll_1 : decode cX6_openAll 1 = .ok (.invokevirtual 65, 3) := by decide +kernel
theorem dX6_openAll_4 : decode cX6_openAll 4 = .ok (.iconst 0, 1) := by decide +kernel
theorem dX6_openAll_5 : decode cX6_openAll 5 = .ok (.istore_n 1, 1) := by decide +kernel
theorem dX6_openAll_6 : decode cX6_openAll 6 = .ok (.iconst 0, 1) := by decide +kernel
theorem dX6_openAll_7 : decode cX6_openAll 7 = .ok (.istore_n 2, 1) := by decide +kernel
theorem dX6_openAll_8 : decode cX6_openAll 8 = .ok (.iload_n 2, 1) := by decide +kernel
theorem dX6_openAll_9 : decode cX6_openAll 9 = .ok (.aload_n 0, 1) := by decide +kernel
theorem dX6_openAll_10 : decode cX6_openAll 10 = .ok (.getfield 7, 3) := by decide +kernel
theorem dX6_openAll_13 : decode cX6_openAll 13 = .ok (.bipush 39, 2) := by decide +kernel
theorem dX6_openAll_15 : decode cX6_openAll 15 = .ok (.iaload, 1) := by decide +kernel
theorem dX6_openAll_16 : decode cX6_openAll 16 = .ok (.if_icmp .ge 64, 3) := by decide +kernel
theorem dX6_openAll_19 : decode cX6_openAll 19 = .ok (.aload_n 0, 1) := by decide +kernel
theorem dX6_openAll_20 : decode cX6_openAll 20 = .ok (.getfield 26, 3) := by decide +kernel
theorem dX6_openAll_23 : decode cX6_openAll 23 = .ok (.aload_n 0, 1) := by decide +kernel
theorem dX6_openAll_24 : decode cX6_openAll 24 = .ok (.getfield 7, 3) := by decide +kernel
theorem dX6_openAll_27 : decode cX6_openAll 27 = .ok (.iconst 0, 1) := by decide +kernel
theorem dX6_openAll_28 : decode cX6_openAll 28 = .ok (.iload_n 2, 1) := by decide +kernel
theorem dX6_openAll_29 : decode cX6_openAll 29 = .ok (.iadd, 1) := by decide +kernel
theorem dX6_openAll_30 : decode cX6_openAll 30 = .ok (.iaload, 1) := by decide +kernel
theorem dX6_openAll_31 : decode cX6_openAll 31 = .ok (.iaload, 1) := by decide +kernel
theorem dX6_openAll_32 : decode cX6_openAll 32 = .ok (.istore_n 3, 1) := by decide +kernel
theorem dX6_openAll_33 : decode cX6_openAll 33 = .ok (.aload_n 0, 1) := by decide +kernel
theorem dX6_openAll_34 : decode cX6_openAll 34 = .ok (.getfield 20, 3) := by decide +kernel
theorem dX6_openAll_37 : decode cX6_openAll 37 = .ok (.iload_n 2, 1) := by decide +kernel
theorem dX6_openAll_38 : decode cX6_openAll 38 = .ok (.iaload, 1) := by decide +kernel
theorem dX6_openAll_39 : decode cX6_openAll 39 = .ok (.iconst 1, 1) := by decide +kernel
theorem dX6_openAll_40 : decode cX6_openAll 40 = .ok (.if_icmp .ne 34, 3) := by decide +kernel
theorem dX6_openAll_43 : decode cX6_openAll 43 = .ok (.aload_n 0, 1) := by decide +kernel
theorem dX6_openAll_44 : decode cX6_openAll 44 = .ok (.getfield 32, 3) := by decide +kernel
theorem dX6_openAll_47 : decode cX6_openAll 47 = .ok (.iload_n 3, 1) := by decide +kernel
theorem dX6_openAll_48 : decode cX6_openAll 48 = .ok (.baload, 1) := by decide +kernel
theorem dX6_openAll_49 : decode cX6_openAll 49 = .ok (.ifCond .eq 12, 3) := by decide +kernel
theorem dX6_openAll_52 : decode cX6_openAll 52 = .ok (.aload_n 0, 1) := by decide +kernel
theorem dX6_openAll_53 : decode cX6_openAll 53 = .ok (.getfield 29, 3) := by decide +kernel
theorem dX6_openAll_56 : decode cX6_openAll 56 = .ok (.iload_n 3, 1) := by decide +kernel
theorem dX6_openAll_57 : decode cX6_openAll 57 = .ok (.iaload, 1) := by decide +kernel
theorem dX6_openAll_58 : decode cX6_openAll 58 = .ok (.ifCond .ge 16, 3) := by decide +kernel
theorem dX6_openAll_61 : decode cX6_openAll 61 = .ok (.aload_n 0, 1) := by decide +kernel
theorem dX6_openAll_62 : decode cX6_openAll 62 = .ok (.getfield 7, 3) := by decide +kernel
theorem dX6_openAll_65 : decode cX6_openAll 65 = .ok (.bipush 18, 2) := by decide +kernel
theorem dX6_openAll_67 : decode cX6_openAll 67 = .ok (.iload_n 2, 1) := by decide +kernel
theorem dX6_openAll_68 : decode cX6_openAll 68 = .ok (.iadd, 1) := by decide +kernel
theorem dX6_openAll_69 : decode cX6_openAll 69 = .ok (.iconst 0, 1) := by decide +kernel
theorem dX6_openAll_70 : decode cX6_openAll 70 = .ok (.iastore, 1) := by decide +kernel
theorem dX6_openAll_71 : decode cX6_openAll 71 = .ok (.iinc 1 1, 3) := by decide +kernel
theorem dX6_openAll_74 : decode cX6_openAll 74 = .ok (.iinc 2 1, 3) := by decide +kernel
theorem dX6_openAll_77 : decode cX6_openAll 77 = .ok (.goto (-69), 3) := by decide +kernel
theorem dX6_openAll_80 : decode cX6_openAll 80 = .ok (.iload_n 1, 1) := by decide +kernel
theorem dX6_openAll_81 : decode cX6_openAll 81 = .ok (.ireturn, 1) := by decide +kernel
theorem dX6_fail_0 : decode cX6_fail 0 = .ok (.aload_n 0, 1) := by decide +kernel
theorem dX6_fail_1 : decode cX6_fail 1 = .ok (.iload_n 1, 1) := by decide +kernel
theorem dX6_fail_2 : decode cX6_fail 2 = .ok (.invokevirtual 55, 3) := by decide +kernel
theorem dX6_fail_5 : decode cX6_fail 5 = .ok (.ifCond .ne 5, 3) := by decide +kernel
theorem dX6_fail_8 : decode cX6_fail 8 = .ok (.iconst (-1), 1) := by decide +kernel
theorem dX6_fail_9 : decode cX6_fail 9 = .ok (.ireturn, 1) := by decide +kernel
theorem dX6_fail_10 : decode cX6_fail 10 = .ok (.aload_n 0, 1) := by decide +kernel
theorem dX6_fail_11 : decode cX6_fail 11 = .ok (.getfield 7, 3) := by decide +kernel
theorem dX6_fail_14 : decode cX6_fail 14 = .ok (.bipush 36, 2) := by decide +kernel
theorem dX6_fail_16 : decode cX6_fail 16 = .ok (.iload_n 1, 1) := by decide +kernel
theorem dX6_fail_17 : decode cX6_fail 17 = .ok (.iadd, 1) := by decide +kernel
theorem dX6_fail_18 : decode cX6_fail 18 = .ok (.iaload, 1) := by decide +kernel
theorem dX6_fail_19 : decode cX6_fail 19 = .ok (.ifCond .ne 6, 3) := by decide +kernel
theorem dX6_fail_22 : decode cX6_fail 22 = .ok (.bipush (-3), 2) := by decide +kernel
theorem dX6_fail_24 : decode cX6_fail 24 = .ok (.ireturn, 1) := by decide +kernel
theorem dX6_fail_25 : decode cX6_fail 25 = .ok (.aload_n 0, 1) := by decide +kernel
theorem dX6_fail_26 : decode cX6_fail 26 = .ok (.getfield 7, 3) := by decide +kernel
theorem dX6_fail_29 : decode cX6_fail 29 = .ok (.bipush 36, 2) := by decide +kernel
theorem dX6_fail_31 : decode cX6_fail 31 = .ok (.iload_n 1, 1) := by decide +kernel
theorem dX6_fail_32 : decode cX6_fail 32 = .ok (.iadd, 1) := by decide +kernel
theorem dX6_fail_33 : decode cX6_fail 33 = .ok (.iconst 0, 1) := by decide +kernel
theorem dX6_fail_34 : decode cX6_fail 34 = .ok (.iastore, 1) := by decide +kernel
theorem dX6_fail_35 : decode cX6_fail 35 = .ok (.aload_n 0, 1) := by decide +kernel
theorem dX6_fail_36 : decode cX6_fail 36 = .ok (.invokevirtual 95, 3) := by decide +kernel
theorem dX6_fail_39 : decode cX6_fail 39 = .ok (.ireturn, 1) := by decide +kernel
theorem dX6_trip_0 : decode cX6_trip 0 = .ok (.aload_n 0, 1) := by decide +kernel
theorem dX6_trip_1 : decode cX6_trip 1 = .ok (.iload_n 1, 1) := by decide +kernel
theorem dX6_trip_2 : decode cX6_trip 2 = .ok (.invokevirtual 52, 3) := by decide +kernel
theorem dX6_trip_5 : decode cX6_trip 5 = .ok (.ifCond .ne 5, 3) := by decide +kernel
theorem dX6_trip_8 : decode cX6_trip 8 = .ok (.iconst (-1), 1) := by decide +kernel
theorem dX6_trip_9 : decode cX6_trip 9 = .ok (.ireturn, 1) := by decide +kernel
theorem dX6_trip_10 : decode cX6_trip 10 = .ok (.aload_n 0, 1) := by decide +kernel
theorem dX6_trip_11 : decode cX6_trip 11 = .ok (.getfield 7, 3) := by decide +kernel
theorem dX6_trip_14 : decode cX6_trip 14 = .ok (.bipush 18, 2) := by decide +kernel
theorem dX6_trip_16 : decode cX6_trip 16 = .ok (.iload_n 1, 1) := by decide +kernel
theorem dX6_trip_17 : decode cX6_trip 17 = .ok (.iadd, 1) := by decide +kernel
theorem dX6_trip_18 : decode cX6_trip 18 = .ok (.iaload, 1) := by decide +kernel
theorem dX6_trip_19 : decode cX6_trip 19 = .ok (.ifCond .ne 6, 3) := by decide +kernel
theorem dX6_trip_22 : decode cX6_trip 22 = .ok (.bipush (-3), 2) := by decide +kernel
theorem dX6_trip_24 : decode cX6_trip 24 = .ok (.ireturn, 1) := by decide +kernel
theorem dX6_trip_25 : decode cX6_trip 25 = .ok (.aload_n 0, 1) := by decide +kernel
theorem dX6_trip_26 : decode cX6_trip 26 = .ok (.getfield 7, 3) := by decide +kernel
theorem dX6_trip_29 : decode cX6_trip 29 = .ok (.bipush 18, 2) := by decide +kernel
theorem dX6_trip_31 : decode cX6_trip 31 = .ok (.iload_n 1, 1) := by decide +kernel
theorem dX6_trip_32 : decode cX6_trip 32 = .ok (.iadd, 1) := by decide +kernel
theorem dX6_trip_33 : decode cX6_trip 33 = .ok (.iconst 0, 1) := by decide +kernel
theorem dX6_trip_34 : decode cX6_trip 34 = .ok (.iastore, 1) := by decide +kernel
theorem dX6_trip_35 : decode cX6_trip 35 = .ok (.aload_n 0, 1) := by decide +kernel
theorem dX6_trip_36 : decode cX6_trip 36 = .ok (.invokevirtual 95, 3) := by decide +kernel
theorem dX6_trip_39 : decode cX6_trip 39 = .ok (.iconst 1, 1) := by decide +kernel
theorem dX6_trip_40 : decode cX6_trip 40 = .ok (.iadd, 1) := by decide +kernel
theorem dX6_trip_41 : decode cX6_trip 41 = .ok (.ireturn, 1) := by decide +kernel
theorem dX6_goOn_0 : decode cX6_goOn 0 = .ok (.iconst 0, 1) := by decide +kernel
theorem dX6_goOn_1 : decode cX6_goOn 1 = .ok (.istore_n 3, 1) := by decide +kernel
theorem dX6_goOn_2 : decode cX6_goOn 2 = .ok (.iconst 0, 1) := by decide +kernel
theorem dX6_goOn_3 : decode cX6_goOn 3 = .ok (.istore 4, 2) := by decide +kernel
theorem dX6_goOn_5 : decode cX6_goOn 5 = .ok (.iload 4, 2) := by decide +kernel
theorem dX6_goOn_7 : decode cX6_goOn 7 = .ok (.sipush 8000, 3) := by decide +kernel
theorem dX6_goOn_10 : decode cX6_goOn 10 = .ok (.if_icmp .ge 115, 3) := by decide +kernel
theorem dX6_goOn_13 : decode cX6_goOn 13 = .ok (.aload_n 0, 1) := by decide +kernel
theorem dX6_goOn_14 : decode cX6_goOn 14 = .ok (.getfield 35, 3) := by decide +kernel
theorem dX6_goOn_17 : decode cX6_goOn 17 = .ok (.iload 4, 2) := by decide +kernel
theorem dX6_goOn_19 : decode cX6_goOn 19 = .ok (.iaload, 1) := by decide +kernel
theorem dX6_goOn_20 : decode cX6_goOn 20 = .ok (.iload_n 1, 1) := by decide +kernel
theorem dX6_goOn_21 : decode cX6_goOn 21 = .ok (.if_icmp .ne 98, 3) := by decide +kernel
theorem dX6_goOn_24 : decode cX6_goOn 24 = .ok (.aload_n 0, 1) := by decide +kernel
theorem dX6_goOn_25 : decode cX6_goOn 25 = .ok (.iload 4, 2) := by decide +kernel
theorem dX6_goOn_27 : decode cX6_goOn 27 = .ok (.invokevirtual 99, 3) := by decide +kernel
theorem dX6_goOn_30 : decode cX6_goOn 30 = .ok (.iconst 0, 1) := by decide +kernel
theorem dX6_goOn_31 : decode cX6_goOn 31 = .ok (.istore 5, 2) := by decide +kernel
theorem dX6_goOn_33 : decode cX6_goOn 33 = .ok (.iload 5, 2) := by decide +kernel
theorem dX6_goOn_35 : decode cX6_goOn 35 = .ok (.bipush 10, 2) := by decide +kernel
theorem dX6_goOn_37 : decode cX6_goOn 37 = .ok (.if_icmp .ge 82, 3) := by decide +kernel
theorem dX6_goOn_40 : decode cX6_goOn 40 = .ok (.iload 5, 2) := by decide +kernel
theorem dX6_goOn_42 : decode cX6_goOn 42 = .ok (.iload_n 2, 1) := by decide +kernel
theorem dX6_goOn_43 : decode cX6_goOn 43 = .ok (.if_icmp .eq 70, 3) := by decide +kernel
theorem dX6_goOn_46 : decode cX6_goOn 46 = .ok (.aload_n 0, 1) := by decide +kernel
theorem dX6_goOn_47 : decode cX6_goOn 47 = .ok (.iload 5, 2) := by decide +kernel
theorem dX6_goOn_49 : decode cX6_goOn 49 = .ok (.invokevirtual 81, 3) := by decide +kernel
theorem dX6_goOn_52 : decode cX6_goOn 52 = .ok (.ifCond .eq 61, 3) := by decide +kernel
theorem dX6_goOn_55 : decode cX6_goOn 55 = .ok (.aload_n 0, 1) := by decide +kernel
theorem dX6_goOn_56 : decode cX6_goOn 56 = .ok (.iload 5, 2) := by decide +kernel
theorem dX6_goOn_58 : decode cX6_goOn 58 = .ok (.invokevirtual 88, 3) := by decide +kernel
theorem dX6_goOn_61 : decode cX6_goOn 61 = .ok (.istore 6, 2) := by decide +kernel
theorem dX6_goOn_63 : decode cX6_goOn 63 = .ok (.iload_n 3, 1) := by decide +kernel
theorem dX6_goOn_64 : decode cX6_goOn 64 = .ok (.ifCond .ne 13, 3) := by decide +kernel
theorem dX6_goOn_67 : decode cX6_goOn 67 = .ok (.aload_n 0, 1) := by decide +kernel
theorem dX6_goOn_68 : decode cX6_goOn 68 = .ok (.getfield 35, 3) := by decide +kernel
theorem dX6_goOn_71 : decode cX6_goOn 71 = .ok (.iload 6, 2) := by decide +kernel
theorem dX6_goOn_73 : decode cX6_goOn 73 = .ok (.iaload, 1) := by decide +kernel
theorem dX6_goOn_74 : decode cX6_goOn 74 = .ok (.ifCond .ge 7, 3) := by decide +kernel
theorem dX6_goOn_77 : decode cX6_goOn 77 = .ok (.iconst 1, 1) := by decide +kernel
theorem dX6_goOn_78 : decode cX6_goOn 78 = .ok (.goto 4, 3) := by decide +kernel
theorem dX6_goOn_81 : decode cX6_goOn 81 = .ok (.iconst 0, 1) := by decide +kernel
theorem dX6_goOn_82 : decode cX6_goOn 82 = .ok (.istore_n 3, 1) := by decide +kernel
theorem dX6_goOn_83 : decode cX6_goOn 83 = .ok (.aload_n 0, 1) := by decide +kernel
theorem dX6_goOn_84 : decode cX6_goOn 84 = .ok (.getfield 35, 3) := by decide +kernel
theorem dX6_goOn_87 : decode cX6_goOn 87 = .ok (.iload 6, 2) := by decide +kernel
theorem dX6_goOn_89 : decode cX6_goOn 89 = .ok (.aload_n 0, 1) := by decide +kernel
theorem dX6_goOn_90 : decode cX6_goOn 90 = .ok (.getfield 35, 3) := by decide +kernel
theorem dX6_goOn_93 : decode cX6_goOn 93 = .ok (.iload 6, 2) := by decide +kernel
theorem dX6_goOn_95 : decode cX6_goOn 95 = .ok (.iaload, 1) := by decide +kernel
theorem dX6_goOn_96 : decode cX6_goOn 96 = .ok (.ifCond .ge 9, 3) := by decide +kernel
theorem dX6_goOn_99 : decode cX6_goOn 99 = .ok (.iload_n 1, 1) := by decide +kernel
theorem dX6_goOn_100 : decode cX6_goOn 100 = .ok (.iconst 1, 1) := by decide +kernel
theorem dX6_goOn_101 : decode cX6_goOn 101 = .ok (.iadd, 1) := by decide +kernel
theorem dX6_goOn_102 : decode cX6_goOn 102 = .ok (.goto 10, 3) := by decide +kernel
theorem dX6_goOn_105 : decode cX6_goOn 105 = .ok (.aload_n 0, 1) := by decide +kernel
theorem dX6_goOn_106 : decode cX6_goOn 106 = .ok (.getfield 35, 3) := by decide +kernel
theorem dX6_goOn_109 : decode cX6_goOn 109 = .ok (.iload 6, 2) := by decide +kernel
theorem dX6_goOn_111 : decode cX6_goOn 111 = .ok (.iaload, 1) := by decide +kernel
theorem dX6_goOn_112 : decode cX6_goOn 112 = .ok (.iastore, 1) := by decide +kernel
theorem dX6_goOn_113 : decode cX6_goOn 113 = .ok (.iinc 5 1, 3) := by decide +kernel
theorem dX6_goOn_116 : decode cX6_goOn 116 = .ok (.goto (-83), 3) := by decide +kernel
theorem dX6_goOn_119 : decode cX6_goOn 119 = .ok (.iinc 4 1, 3) := by decide +kernel
theorem dX6_goOn_122 : decode cX6_goOn 122 = .ok (.goto (-117), 3) := by decide +kernel
theorem dX6_goOn_125 : decode cX6_goOn 125 = .ok (.iload_n 3, 1) := by decide +kernel
theorem dX6_goOn_126 : decode cX6_goOn 126 = .ok (.ireturn, 1) := by decide +kernel
theorem dX6_layAll_0 : decode cX6_layAll 0 = .ok (.iconst 0, 1) := by decide +kernel
theorem dX6_layAll_1 : decode cX6_layAll 1 = .ok (.istore_n 2, 1) := by decide +kernel
theorem dX6_layAll_2 : decode cX6_layAll 2 = .ok (.iload_n 2, 1) := by decide +kernel
theorem dX6_layAll_3 : decode cX6_layAll 3 = .ok (.sipush 8000, 3) := by decide +kernel
theorem dX6_layAll_6 : decode cX6_layAll 6 = .ok (.if_icmp .ge 17, 3) := by decide +kernel
theorem dX6_layAll_9 : decode cX6_layAll 9 = .ok (.aload_n 0, 1) := by decide +kernel
theorem dX6_layAll_10 : decode cX6_layAll 10 = .ok (.getfield 35, 3) := by decide +kernel
theorem dX6_layAll_13 : decode cX6_layAll 13 = .ok (.iload_n 2, 1) := by decide +kernel
theorem dX6_layAll_14 : decode cX6_layAll 14 = .ok (.bipush (-6), 2) := by decide +kernel
theorem dX6_layAll_16 : decode cX6_layAll 16 = .ok (.iastore, 1) := by decide +kernel
theorem dX6_layAll_17 : decode cX6_layAll 17 = .ok (.iinc 2 1, 3) := by decide +kernel
theorem dX6_layAll_20 : decode cX6_layAll 20 = .ok (.goto (-18), 3) := by decide +kernel
theorem dX6_layAll_23 : decode cX6_layAll 23 = .ok (.aload_n 0, 1) := by decide +kernel
theorem dX6_layAll_24 : decode cX6_layAll 24 = .ok (.getfield 35, 3) := by decide +kernel
theorem dX6_layAll_27 : decode cX6_layAll 27 = .ok (.aload_n 0, 1) := by decide +kernel
theorem dX6_layAll_28 : decode cX6_layAll 28 = .ok (.invokevirtual 102, 3) := by decide +kernel
theorem dX6_layAll_31 : decode cX6_layAll 31 = .ok (.iconst 0, 1) := by decide +kernel
theorem dX6_layAll_32 : decode cX6_layAll 32 = .ok (.iastore, 1) := by decide +kernel
theorem dX6_layAll_33 : decode cX6_layAll 33 = .ok (.iconst 0, 1) := by decide +kernel
theorem dX6_layAll_34 : decode cX6_layAll 34 = .ok (.istore_n 2, 1) := by decide +kernel
theorem dX6_layAll_35 : decode cX6_layAll 35 = .ok (.iconst 1, 1) := by decide +kernel
theorem dX6_layAll_36 : decode cX6_layAll 36 = .ok (.istore_n 3, 1) := by decide +kernel
theorem dX6_layAll_37 : decode cX6_layAll 37 = .ok (.iload_n 3, 1) := by decide +kernel
theorem dX6_layAll_38 : decode cX6_layAll 38 = .ok (.ifCond .eq 16, 3) := by decide +kernel
theorem dX6_layAll_41 : decode cX6_layAll 41 = .ok (.aload_n 0, 1) := by decide +kernel
theorem dX6_layAll_42 : decode cX6_layAll 42 = .ok (.iload_n 2, 1) := by decide +kernel
theorem dX6_layAll_43 : decode cX6_layAll 43 = .ok (.iload_n 1, 1) := by decide +kernel
theorem dX6_layAll_44 : decode cX6_layAll 44 = .ok (.invokevirtual 105, 3) := by decide +kernel
theorem dX6_layAll_47 : decode cX6_layAll 47 = .ok (.istore_n 3, 1) := by decide +kernel
theorem dX6_layAll_48 : decode cX6_layAll 48 = .ok (.iinc 2 1, 3) := by decide +kernel
theorem dX6_layAll_51 : decode cX6_layAll 51 = .ok (.goto (-14), 3) := by decide +kernel
theorem dX6_layAll_54 : decode cX6_layAll 54 = .ok (.return_, 1) := by decide +kernel
theorem dX6_readySet_0 : decode cX6_readySet 0 = .ok (.iconst 0, 1) := by decide +kernel
theorem dX6_readySet_1 : decode cX6_readySet 1 = .ok (.istore_n 1, 1) := by decide +kernel
theorem dX6_readySet_2 : decode cX6_readySet 2 = .ok (.iconst 0, 1) := by decide +kernel
theorem dX6_readySet_3 : decode cX6_readySet 3 = .ok (.istore_n 2, 1) := by decide +kernel
theorem dX6_readySet_4 : decode cX6_readySet 4 = .ok (.iload_n 2, 1) := by decide +kernel
theorem dX6_readySet_5 : decode cX6_readySet 5 = .ok (.aload_n 0, 1) := by decide +kernel
theorem dX6_readySet_6 : decode cX6_readySet 6 = .ok (.getfield 7, 3) := by decide +kernel
theorem dX6_readySet_9 : decode cX6_readySet 9 = .ok (.bipush 40, 2) := by decide +kernel
theorem dX6_readySet_11 : decode cX6_readySet 11 = .ok (.iaload, 1) := by decide +kernel
theorem dX6_readySet_12 : decode cX6_readySet 12 = .ok (.if_icmp .ge 29, 3) := by decide +kernel
theorem dX6_readySet_15 : decode cX6_readySet 15 = .ok (.iload_n 1, 1) := by decide +kernel
theorem dX6_readySet_16 : decode cX6_readySet 16 = .ok (.aload_n 0, 1) := by decide +kernel
theorem dX6_readySet_17 : decode cX6_readySet 17 = .ok (.getfield 23, 3) := by decide +kernel
theorem dX6_readySet_20 : decode cX6_readySet 20 = .ok (.iload_n 2, 1) := by decide +kernel
theorem dX6_readySet_21 : decode cX6_readySet 21 = .ok (.iaload, 1) := by decide +kernel
theorem dX6_readySet_22 : decode cX6_readySet 22 = .ok (.iconst 1, 1) := by decide +kernel
theorem dX6_readySet_23 : decode cX6_readySet 23 = .ok (.if_icmp .ne 9, 3) := by decide +kernel
theorem dX6_readySet_26 : decode cX6_readySet 26 = .ok (.iconst 1, 1) := by decide +kernel
theorem dX6_readySet_27 : decode cX6_readySet 27 = .ok (.iload_n 2, 1) := by decide +kernel
theorem dX6_readySet_28 : decode cX6_readySet 28 = .ok (.ishl, 1) := by decide +kernel
theorem dX6_readySet_29 : decode cX6_readySet 29 = .ok (.goto 4, 3) := by decide +kernel
theorem dX6_readySet_32 : decode cX6_readySet 32 = .ok (.iconst 0, 1) := by decide +kernel
theorem dX6_readySet_33 : decode cX6_readySet 33 = .ok (.ior, 1) := by decide +kernel
theorem dX6_readySet_34 : decode cX6_readySet 34 = .ok (.istore_n 1, 1) := by decide +kernel
theorem dX6_readySet_35 : decode cX6_readySet 35 = .ok (.iinc 2 1, 3) := by decide +kernel
theorem dX6_readySet_38 : decode cX6_readySet 38 = .ok (.goto (-34), 3) := by decide +kernel
theorem dX6_readySet_41 : decode cX6_readySet 41 = .ok (.iload_n 1, 1) := by decide +kernel
theorem dX6_readySet_42 : decode cX6_readySet 42 = .ok (.ireturn, 1) := by decide +kernel
theorem dX6_liveSet_0 : decode cX6_liveSet 0 = .ok (.iconst 0, 1) := by decide +kernel
theorem dX6_liveSet_1 : decode cX6_liveSet 1 = .ok (.istore_n 1, 1) := by decide +kernel
theorem dX6_liveSet_2 : decode cX6_liveSet 2 = .ok (.iconst 0, 1) := by decide +kernel
theorem dX6_liveSet_3 : decode cX6_liveSet 3 = .ok (.istore_n 2, 1) := by decide +kernel
theorem dX6_liveSet_4 : decode cX6_liveSet 4 = .ok (.iload_n 2, 1) := by decide +kernel
theorem dX6_liveSet_5 : decode cX6_liveSet 5 = .ok (.bipush 6, 2) := by decide +kernel
theorem dX6_liveSet_7 : decode cX6_liveSet 7 = .ok (.if_icmp .ge 27, 3) := by decide +kernel
theorem dX6_liveSet_10 : decode cX6_liveSet 10 = .ok (.iload_n 1, 1) := by decide +kernel
theorem dX6_liveSet_11 : decode cX6_liveSet 11 = .ok (.aload_n 0, 1) := by decide +kernel
theorem dX6_liveSet_12 : decode cX6_liveSet 12 = .ok (.iload_n 2, 1) := by decide +kernel
theorem dX6_liveSet_13 : decode cX6_liveSet 13 = .ok (.invokevirtual 72, 3) := by decide +kernel
theorem dX6_liveSet_16 : decode cX6_liveSet 16 = .ok (.ifCond .eq 9, 3) := by decide +kernel
theorem dX6_liveSet_19 : decode cX6_liveSet 19 = .ok (.iconst 1, 1) := by decide +kernel
theorem dX6_liveSet_20 : decode cX6_liveSet 20 = .ok (.iload_n 2, 1) := by decide +kernel
theorem dX6_liveSet_21 : decode cX6_liveSet 21 = .ok (.ishl, 1) := by decide +kernel
theorem dX6_liveSet_22 : decode cX6_liveSet 22 = .ok (.goto 4, 3) := by decide +kernel
theorem dX6_liveSet_25 : decode cX6_liveSet 25 = .ok (.iconst 0, 1) := by decide +kernel
theorem dX6_liveSet_26 : decode cX6_liveSet 26 = .ok (.ior, 1) := by decide +kernel
theorem dX6_liveSet_27 : decode cX6_liveSet 27 = .ok (.istore_n 1, 1) := by decide +kernel
theorem dX6_liveSet_28 : decode cX6_liveSet 28 = .ok (.iinc 2 1, 3) := by decide +kernel
theorem dX6_liveSet_31 : decode cX6_liveSet 31 = .ok (.goto (-27), 3) := by decide +kernel
theorem dX6_liveSet_34 : decode cX6_liveSet 34 = .ok (.iload_n 1, 1) := by decide +kernel
theorem dX6_liveSet_35 : decode cX6_liveSet 35 = .ok (.ireturn, 1) := by decide +kernel
theorem dX6_isGoal_0 : decode cX6_isGoal 0 = .ok (.aload_n 0, 1) := by decide +kernel
theorem dX6_isGoal_1 : decode cX6_isGoal 1 = .ok (.iload_n 1, 1) := by decide +kernel
theorem dX6_isGoal_2 : decode cX6_isGoal 2 = .ok (.invokevirtual 99, 3) := by decide +kernel
theorem dX6_isGoal_5 : decode cX6_isGoal 5 = .ok (.iload_n 2, 1) := by decide +kernel
theorem dX6_isGoal_6 : decode cX6_isGoal 6 = .ok (.aload_n 0, 1) := by decide +kernel
theorem dX6_isGoal_7 : decode cX6_isGoal 7 = .ok (.invokevirtual 109, 3) := by decide +kernel
theorem dX6_isGoal_10 : decode cX6_isGoal 10 = .ok (.iconst (-1), 1) := by decide +kernel
theorem dX6_isGoal_11 : decode cX6_isGoal 11 = .ok (.ixor, 1) := by decide +kernel
theorem dX6_isGoal_12 : decode cX6_isGoal 12 = .ok (.iand, 1) := by decide +kernel
theorem dX6_isGoal_13 : decode cX6_isGoal 13 = .ok (.ifCond .ne 18, 3) := by decide +kernel
theorem dX6_isGoal_16 : decode cX6_isGoal 16 = .ok (.iload_n 3, 1) := by decide +kernel
theorem dX6_isGoal_17 : decode cX6_isGoal 17 = .ok (.aload_n 0, 1) := by decide +kernel
theorem dX6_isGoal_18 : decode cX6_isGoal 18 = .ok (.invokevirtual 112, 3) := by decide +kernel
theorem dX6_isGoal_21 : decode cX6_isGoal 21 = .ok (.iconst (-1), 1) := by decide +kernel
theorem dX6_isGoal_22 : decode cX6_isGoal 22 = .ok (.ixor, 1) := by decide +kernel
theorem dX6_isGoal_23 : decode cX6_isGoal 23 = .ok (.iand, 1) := by decide +kernel
theorem dX6_isGoal_24 : decode cX6_isGoal 24 = .ok (.ifCond .ne 7, 3) := by decide +kernel
theorem dX6_isGoal_27 : decode cX6_isGoal 27 = .ok (.iconst 1, 1) := by decide +kernel
theorem dX6_isGoal_28 : decode cX6_isGoal 28 = .ok (.goto 4, 3) := by decide +kernel
theorem dX6_isGoal_31 : decode cX6_isGoal 31 = .ok (.iconst 0, 1) := by decide +kernel
theorem dX6_isGoal_32 : decode cX6_isGoal 32 = .ok (.ireturn, 1) := by decide +kernel
theorem dX6_reached_0 : decode cX6_reached 0 = .ok (.bipush (-6), 2) := by decide +kernel
theorem dX6_reached_2 : decode cX6_reached 2 = .ok (.istore_n 3, 1) := by decide +kernel
theorem dX6_reached_3 : decode cX6_reached 3 = .ok (.iconst 0, 1) := by decide +kernel
theorem dX6_reached_4 : decode cX6_reached 4 = .ok (.istore 4, 2) := by decide +kernel
theorem dX6_reached_6 : decode cX6_reached 6 = .ok (.iload 4, 2) := by decide +kernel
theorem dX6_reached_8 : decode cX6_reached 8 = .ok (.sipush 8000, 3) := by decide +kernel
theorem dX6_reached_11 : decode cX6_reached 11 = .ok (.if_icmp .ge 53, 3) := by decide +kernel
theorem dX6_reached_14 : decode cX6_reached 14 = .ok (.aload_n 0, 1) := by decide +kernel
theorem dX6_reached_15 : decode cX6_reached 15 = .ok (.getfield 35, 3) := by decide +kernel
theorem dX6_reached_18 : decode cX6_reached 18 = .ok (.iload 4, 2) := by decide +kernel
theorem dX6_reached_20 : decode cX6_reached 20 = .ok (.iaload, 1) := by decide +kernel
theorem dX6_reached_21 : decode cX6_reached 21 = .ok (.ifCond .lt 37, 3) := by decide +kernel
theorem dX6_reached_24 : decode cX6_reached 24 = .ok (.iload_n 3, 1) := by decide +kernel
theorem dX6_reached_25 : decode cX6_reached 25 = .ok (.ifCond .lt 14, 3) := by decide +kernel
theorem dX6_reached_28 : decode cX6_reached 28 = .ok (.aload_n 0, 1) := by decide +kernel
theorem dX6_reached_29 : decode cX6_reached 29 = .ok (.getfield 35, 3) := by decide +kernel
theorem dX6_reached_32 : decode cX6_reached 32 = .ok (.iload 4, 2) := by decide +kernel
theorem dX6_reached_34 : decode cX6_reached 34 = .ok (.iaload, 1) := by decide +kernel
theorem dX6_reached_35 : decode cX6_reached 35 = .ok (.iload_n 3, 1) := by decide +kernel
theorem dX6_reached_36 : decode cX6_reached 36 = .ok (.if_icmp .ge 22, 3) := by decide +kernel
theorem dX6_reached_39 : decode cX6_reached 39 = .ok (.aload_n 0, 1) := by decide +kernel
theorem dX6_reached_40 : decode cX6_reached 40 = .ok (.iload 4, 2) := by decide +kernel
theorem dX6_reached_42 : decode cX6_reached 42 = .ok (.iload_n 1, 1) := by decide +kernel
theorem dX6_reached_43 : decode cX6_reached 43 = .ok (.iload_n 2, 1) := by decide +kernel
theorem dX6_reached_44 : decode cX6_reached 44 = .ok (.invokevirtual 115, 3) := by decide +kernel
theorem dX6_reached_47 : decode cX6_reached 47 = .ok (.ifCond .eq 11, 3) := by decide +kernel
theorem dX6_reached_50 : decode cX6_reached 50 = .ok (.aload_n 0, 1) := by decide +kernel
theorem dX6_reached_51 : decode cX6_reached 51 = .ok (.getfield 35, 3) := by decide +kernel
theorem dX6_reached_54 : decode cX6_reached 54 = .ok (.iload 4, 2) := by decide +kernel
theorem dX6_reached_56 : decode cX6_reached 56 = .ok (.iaload, 1) := by decide +kernel
theorem dX6_reached_57 : decode cX6_reached 57 = .ok (.istore_n 3, 1) := by decide +kernel
theorem dX6_reached_58 : decode cX6_reached 58 = .ok (.iinc 4 1, 3) := by decide +kernel
theorem dX6_reached_61 : decode cX6_reached 61 = .ok (.goto (-55), 3) := by decide +kernel
theorem dX6_reached_64 : decode cX6_reached 64 = .ok (.iload_n 3, 1) := by decide +kernel
theorem dX6_reached_65 : decode cX6_reached 65 = .ok (.ireturn, 1) := by decide +kernel
theorem dX6_stepOn_0 : decode cX6_stepOn 0 = .ok (.aload_n 0, 1) := by decide +kernel
theorem dX6_stepOn_1 : decode cX6_stepOn 1 = .ok (.iload_n 1, 1) := by decide +kernel
theorem dX6_stepOn_2 : decode cX6_stepOn 2 = .ok (.invokevirtual 99, 3) := by decide +kernel
theorem dX6_stepOn_5 : decode cX6_stepOn 5 = .ok (.iconst 0, 1) := by decide +kernel
theorem dX6_stepOn_6 : decode cX6_stepOn 6 = .ok (.istore_n 2, 1) := by decide +kernel
theorem dX6_stepOn_7 : decode cX6_stepOn 7 = .ok (.iload_n 2, 1) := by decide +kernel
theorem dX6_stepOn_8 : decode cX6_stepOn 8 = .ok (.bipush 10, 2) := by decide +kernel
theorem dX6_stepOn_10 : decode cX6_stepOn 10 = .ok (.if_icmp .ge 51, 3) := by decide +kernel
theorem dX6_stepOn_13 : decode cX6_stepOn 13 = .ok (.aload_n 0, 1) := by decide +kernel
theorem dX6_stepOn_14 : decode cX6_stepOn 14 = .ok (.iload_n 2, 1) := by decide +kernel
theorem dX6_stepOn_15 : decode cX6_stepOn 15 = .ok (.invokevirtual 81, 3) := by decide +kernel
theorem dX6_stepOn_18 : decode cX6_stepOn 18 = .ok (.ifCond .eq 37, 3) := by decide +kernel
theorem dX6_stepOn_21 : decode cX6_stepOn 21 = .ok (.aload_n 0, 1) := by decide +kernel
theorem dX6_stepOn_22 : decode cX6_stepOn 22 = .ok (.iload_n 2, 1) := by decide +kernel
theorem dX6_stepOn_23 : decode cX6_stepOn 23 = .ok (.invokevirtual 88, 3) := by decide +kernel
theorem dX6_stepOn_26 : decode cX6_stepOn 26 = .ok (.istore_n 3, 1) := by decide +kernel
theorem dX6_stepOn_27 : decode cX6_stepOn 27 = .ok (.aload_n 0, 1) := by decide +kernel
theorem dX6_stepOn_28 : decode cX6_stepOn 28 = .ok (.getfield 35, 3) := by decide +kernel
theorem dX6_stepOn_31 : decode cX6_stepOn 31 = .ok (.iload_n 3, 1) := by decide +kernel
theorem dX6_stepOn_32 : decode cX6_stepOn 32 = .ok (.iaload, 1) := by decide +kernel
theorem dX6_stepOn_33 : decode cX6_stepOn 33 = .ok (.aload_n 0, 1) := by decide +kernel
theorem dX6_stepOn_34 : decode cX6_stepOn 34 = .ok (.getfield 35, 3) := by decide +kernel
theorem dX6_stepOn_37 : decode cX6_stepOn 37 = .ok (.iload_n 1, 1) := by decide +kernel
theorem dX6_stepOn_38 : decode cX6_stepOn 38 = .ok (.iaload, 1) := by decide +kernel
theorem dX6_stepOn_39 : decode cX6_stepOn 39 = .ok (.iconst 1, 1) := by decide +kernel
theorem dX6_stepOn_40 : decode cX6_stepOn 40 = .ok (.iadd, 1) := by decide +kernel
theorem dX6_stepOn_41 : decode cX6_stepOn 41 = .ok (.if_icmp .ne 14, 3) := by decide +kernel
theorem dX6_stepOn_44 : decode cX6_stepOn 44 = .ok (.aload_n 0, 1) := by decide +kernel
theorem dX6_stepOn_45 : decode cX6_stepOn 45 = .ok (.getfield 38, 3) := by decide +kernel
theorem dX6_stepOn_48 : decode cX6_stepOn 48 = .ok (.iload_n 3, 1) := by decide +kernel
theorem dX6_stepOn_49 : decode cX6_stepOn 49 = .ok (.baload, 1) := by decide +kernel
theorem dX6_stepOn_50 : decode cX6_stepOn 50 = .ok (.ifCond .eq 5, 3) := by decide +kernel
theorem dX6_stepOn_53 : decode cX6_stepOn 53 = .ok (.iload_n 2, 1) := by decide +kernel
theorem dX6_stepOn_54 : decode cX6_stepOn 54 = .ok (.ireturn, 1) := by decide +kernel
theorem dX6_stepOn_55 : decode cX6_stepOn 55 = .ok (.iinc 2 1, 3) := by decide +kernel
theorem dX6_stepOn_58 : decode cX6_stepOn 58 = .ok (.goto (-51), 3) := by decide +kernel
theorem dX6_stepOn_61 : decode cX6_stepOn 61 = .ok (.bipush (-6), 2) := by decide +kernel
theorem dX6_stepOn_63 : decode cX6_stepOn 63 = .ok (.ireturn, 1) := by decide +kernel
theorem dX6_layLeads_0 : decode cX6_layLeads 0 = .ok (.iconst 0, 1) := by decide +kernel
theorem dX6_layLeads_1 : decode cX6_layLeads 1 = .ok (.istore 4, 2) := by decide +kernel
theorem dX6_layLeads_3 : decode cX6_layLeads 3 = .ok (.iload 4, 2) := by decide +kernel
theorem dX6_layLeads_5 : decode cX6_layLeads 5 = .ok (.sipush 8000, 3) := by decide +kernel
theorem dX6_layLeads_8 : decode cX6_layLeads 8 = .ok (.if_icmp .ge 43, 3) := by decide +kernel
theorem dX6_layLeads_11 : decode cX6_layLeads 11 = .ok (.aload_n 0, 1) := by decide +kernel
theorem dX6_layLeads_12 : decode cX6_layLeads 12 = .ok (.getfield 38, 3) := by decide +kernel
theorem dX6_layLeads_15 : decode cX6_layLeads 15 = .ok (.iload 4, 2) := by decide +kernel
theorem dX6_layLeads_17 : decode cX6_layLeads 17 = .ok (.aload_n 0, 1) := by decide +kernel
theorem dX6_layLeads_18 : decode cX6_layLeads 18 = .ok (.getfield 35, 3) := by decide +kernel
theorem dX6_layLeads_21 : decode cX6_layLeads 21 = .ok (.iload 4, 2) := by decide +kernel
theorem dX6_layLeads_23 : decode cX6_layLeads 23 = .ok (.iaload, 1) := by decide +kernel
theorem dX6_layLeads_24 : decode cX6_layLeads 24 = .ok (.iload_n 1, 1) := by decide +kernel
theorem dX6_layLeads_25 : decode cX6_layLeads 25 = .ok (.if_icmp .ne 18, 3) := by decide +kernel
theorem dX6_layLeads_28 : decode cX6_layLeads 28 = .ok (.aload_n 0, 1) := by decide +kernel
theorem dX6_layLeads_29 : decode cX6_layLeads 29 = .ok (.iload 4, 2) := by decide +kernel
theorem dX6_layLeads_31 : decode cX6_layLeads 31 = .ok (.iload_n 2, 1) := by decide +kernel
theorem dX6_layLeads_32 : decode cX6_layLeads 32 = .ok (.iload_n 3, 1) := by decide +kernel
theorem dX6_layLeads_33 : decode cX6_layLeads 33 = .ok (.invokevirtual 115, 3) := by decide +kernel
theorem dX6_layLeads_36 : decode cX6_layLeads 36 = .ok (.ifCond .eq 7, 3) := by decide +kernel
theorem dX6_layLeads_39 : decode cX6_layLeads 39 = .ok (.iconst 1, 1) := by decide +kernel
theorem dX6_layLeads_40 : decode cX6_layLeads 40 = .ok (.goto 4, 3) := by decide +kernel
theorem dX6_layLeads_43 : decode cX6_layLeads 43 = .ok (.iconst 0, 1) := by decide +kernel
theorem dX6_layLeads_44 : decode cX6_layLeads 44 = .ok (.bastore, 1) := by decide +kernel
theorem dX6_layLeads_45 : decode cX6_layLeads 45 = .ok (.iinc 4 1, 3) := by decide +kernel
theorem dX6_layLeads_48 : decode cX6_layLeads 48 = .ok (.goto (-45), 3) := by decide +kernel
theorem dX6_layLeads_51 : decode cX6_layLeads 51 = .ok (.iload_n 1, 1) := by decide +kernel
theorem dX6_layLeads_52 : decode cX6_layLeads 52 = .ok (.iconst 1, 1) := by decide +kernel
theorem dX6_layLeads_53 : decode cX6_layLeads 53 = .ok (.isub, 1) := by decide +kernel
theorem dX6_layLeads_54 : decode cX6_layLeads 54 = .ok (.istore 4, 2) := by decide +kernel
theorem dX6_layLeads_56 : decode cX6_layLeads 56 = .ok (.iload 4, 2) := by decide +kernel
theorem dX6_layLeads_58 : decode cX6_layLeads 58 = .ok (.ifCond .lt 59, 3) := by decide +kernel
theorem dX6_layLeads_61 : decode cX6_layLeads 61 = .ok (.iconst 0, 1) := by decide +kernel
theorem dX6_layLeads_62 : decode cX6_layLeads 62 = .ok (.istore 5, 2) := by decide +kernel
theorem dX6_layLeads_64 : decode cX6_layLeads 64 = .ok (.iload 5, 2) := by decide +kernel
theorem dX6_layLeads_66 : decode cX6_layLeads 66 = .ok (.sipush 8000, 3) := by decide +kernel
theorem dX6_layLeads_69 : decode cX6_layLeads 69 = .ok (.if_icmp .ge 42, 3) := by decide +kernel
theorem dX6_layLeads_72 : decode cX6_layLeads 72 = .ok (.aload_n 0, 1) := by decide +kernel
theorem dX6_layLeads_73 : decode cX6_layLeads 73 = .ok (.getfield 35, 3) := by decide +kernel
theorem dX6_layLeads_76 : decode cX6_layLeads 76 = .ok (.iload 5, 2) := by decide +kernel
theorem dX6_layLeads_78 : decode cX6_layLeads 78 = .ok (.iaload, 1) := by decide +kernel
theorem dX6_layLeads_79 : decode cX6_layLeads 79 = .ok (.iload 4, 2) := by decide +kernel
theorem dX6_layLeads_81 : decode cX6_layLeads 81 = .ok (.if_icmp .ne 24, 3) := by decide +kernel
theorem dX6_layLeads_84 : decode cX6_layLeads 84 = .ok (.aload_n 0, 1) := by decide +kernel
theorem dX6_layLeads_85 : decode cX6_layLeads 85 = .ok (.getfield 38, 3) := by decide +kernel
theorem dX6_layLeads_88 : decode cX6_layLeads 88 = .ok (.iload 5, 2) := by decide +kernel
theorem dX6_layLeads_90 : decode cX6_layLeads 90 = .ok (.aload_n 0, 1) := by decide +kernel
theorem dX6_layLeads_91 : decode cX6_layLeads 91 = .ok (.iload 5, 2) := by decide +kernel
theorem dX6_layLeads_93 : decode cX6_layLeads 93 = .ok (.invokevirtual 118, 3) := by decide +kernel
theorem dX6_layLeads_96 : decode cX6_layLeads 96 = .ok (.ifCond .lt 7, 3) := by decide +kernel
theorem dX6_layLeads_99 : decode cX6_layLeads 99 = .ok (.iconst 1, 1) := by decide +kernel
theorem dX6_layLeads_100 : decode cX6_layLeads 100 = .ok (.goto 4, 3) := by decide +kernel
theorem dX6_layLeads_103 : decode cX6_layLeads 103 = .ok (.iconst 0, 1) := by decide +kernel
theorem dX6_layLeads_104 : decode cX6_layLeads 104 = .ok (.bastore, 1) := by decide +kernel
theorem dX6_layLeads_105 : decode cX6_layLeads 105 = .ok (.iinc 5 1, 3) := by decide +kernel
theorem dX6_layLeads_108 : decode cX6_layLeads 108 = .ok (.goto (-44), 3) := by decide +kernel
theorem dX6_layLeads_111 : decode cX6_layLeads 111 = .ok (.iinc 4 (-1), 3) := by decide +kernel
theorem dX6_layLeads_114 : decode cX6_layLeads 114 = .ok (.goto (-58), 3) := by decide +kernel
theorem dX6_layLeads_117 : decode cX6_layLeads 117 = .ok (.return_, 1) := by decide +kernel
theorem dX6_layWay_0 : decode cX6_layWay 0 = .ok (.aload_n 0, 1) := by decide +kernel
theorem dX6_layWay_1 : decode cX6_layWay 1 = .ok (.bipush (-6), 2) := by decide +kernel
theorem dX6_layWay_3 : decode cX6_layWay 3 = .ok (.invokevirtual 121, 3) := by decide +kernel
theorem dX6_layWay_6 : decode cX6_layWay 6 = .ok (.aload_n 0, 1) := by decide +kernel
theorem dX6_layWay_7 : decode cX6_layWay 7 = .ok (.iload_n 1, 1) := by decide +kernel
theorem dX6_layWay_8 : decode cX6_layWay 8 = .ok (.iload_n 2, 1) := by decide +kernel
theorem dX6_layWay_9 : decode cX6_layWay 9 = .ok (.invokevirtual 124, 3) := by decide +kernel
theorem dX6_layWay_12 : decode cX6_layWay 12 = .ok (.istore_n 3, 1) := by decide +kernel
theorem dX6_layWay_13 : decode cX6_layWay 13 = .ok (.iload_n 3, 1) := by decide +kernel
theorem dX6_layWay_14 : decode cX6_layWay 14 = .ok (.ifCond .ge 6, 3) := by decide +kernel
theorem dX6_layWay_17 : decode cX6_layWay 17 = .ok (.bipush (-6), 2) := by decide +kernel
theorem dX6_layWay_19 : decode cX6_layWay 19 = .ok (.ireturn, 1) := by decide +kernel
theorem dX6_layWay_20 : decode cX6_layWay 20 = .ok (.aload_n 0, 1) := by decide +kernel
theorem dX6_layWay_21 : decode cX6_layWay 21 = .ok (.iload_n 3, 1) := by decide +kernel
theorem dX6_layWay_22 : decode cX6_layWay 22 = .ok (.iload_n 1, 1) := by decide +kernel
theorem dX6_layWay_23 : decode cX6_layWay 23 = .ok (.iload_n 2, 1) := by decide +kernel
theorem dX6_layWay_24 : decode cX6_layWay 24 = .ok (.invokevirtual 127, 3) := by decide +kernel
theorem dX6_layWay_27 : decode cX6_layWay 27 = .ok (.aload_n 0, 1) := by decide +kernel
theorem dX6_layWay_28 : decode cX6_layWay 28 = .ok (.invokevirtual 102, 3) := by decide +kernel
theorem dX6_layWay_31 : decode cX6_layWay 31 = .ok (.istore 4, 2) := by decide +kernel
theorem dX6_layWay_33 : decode cX6_layWay 33 = .ok (.iconst 0, 1) := by decide +kernel
theorem dX6_layWay_34 : decode cX6_layWay 34 = .ok (.istore 5, 2) := by decide +kernel
theorem dX6_layWay_36 : decode cX6_layWay 36 = .ok (.iload 5, 2) := by decide +kernel
theorem dX6_layWay_38 : decode cX6_layWay 38 = .ok (.iload_n 3, 1) := by decide +kernel
theorem dX6_layWay_39 : decode cX6_layWay 39 = .ok (.if_icmp .ge 41, 3) := by decide +kernel
theorem dX6_layWay_42 : decode cX6_layWay 42 = .ok (.aload_n 0, 1) := by decide +kernel
theorem dX6_layWay_43 : decode cX6_layWay 43 = .ok (.getfield 41, 3) := by decide +kernel
theorem dX6_layWay_46 : decode cX6_layWay 46 = .ok (.iload 5, 2) := by decide +kernel
theorem dX6_layWay_48 : decode cX6_layWay 48 = .ok (.aload_n 0, 1) := by decide +kernel
theorem dX6_layWay_49 : decode cX6_layWay 49 = .ok (.iload 4, 2) := by decide +kernel
theorem dX6_layWay_51 : decode cX6_layWay 51 = .ok (.invokevirtual 118, 3) := by decide +kernel
theorem dX6_layWay_54 : decode cX6_layWay 54 = .ok (.iastore, 1) := by decide +kernel
theorem dX6_layWay_55 : decode cX6_layWay 55 = .ok (.aload_n 0, 1) := by decide +kernel
theorem dX6_layWay_56 : decode cX6_layWay 56 = .ok (.iload 4, 2) := by decide +kernel
theorem dX6_layWay_58 : decode cX6_layWay 58 = .ok (.invokevirtual 99, 3) := by decide +kernel
theorem dX6_layWay_61 : decode cX6_layWay 61 = .ok (.aload_n 0, 1) := by decide +kernel
theorem dX6_layWay_62 : decode cX6_layWay 62 = .ok (.aload_n 0, 1) := by decide +kernel
theorem dX6_layWay_63 : decode cX6_layWay 63 = .ok (.getfield 41, 3) := by decide +kernel
theorem dX6_layWay_66 : decode cX6_layWay 66 = .ok (.iload 5, 2) := by decide +kernel
theorem dX6_layWay_68 : decode cX6_layWay 68 = .ok (.iaload, 1) := by decide +kernel
theorem dX6_layWay_69 : decode cX6_layWay 69 = .ok (.invokevirtual 88, 3) := by decide +kernel
theorem dX6_layWay_72 : decode cX6_layWay 72 = .ok (.istore 4, 2) := by decide +kernel
theorem dX6_layWay_74 : decode cX6_layWay 74 = .ok (.iinc 5 1, 3) := by decide +kernel
theorem dX6_layWay_77 : decode cX6_layWay 77 = .ok (.goto (-41), 3) := by decide +kernel
theorem dX6_layWay_80 : decode cX6_layWay 80 = .ok (.aload_n 0, 1) := by decide +kernel
theorem dX6_layWay_81 : decode cX6_layWay 81 = .ok (.iload 4, 2) := by decide +kernel
theorem dX6_layWay_83 : decode cX6_layWay 83 = .ok (.putfield 131, 3) := by decide +kernel
theorem dX6_layWay_86 : decode cX6_layWay 86 = .ok (.iload_n 3, 1) := by decide +kernel
theorem dX6_layWay_87 : decode cX6_layWay 87 = .ok (.ireturn, 1) := by decide +kernel
theorem dX6_areSets_0 : decode cX6_areSets 0 = .ok (.iload_n 1, 1) := by decide +kernel
theorem dX6_areSets_1 : decode cX6_areSets 1 = .ok (.iconst 0, 1) := by decide +kernel
theorem dX6_areSets_2 : decode cX6_areSets 2 = .ok (.iconst 1, 1) := by decide +kernel
theorem dX6_areSets_3 : decode cX6_areSets 3 = .ok (.aload_n 0, 1) := by decide +kernel
theorem dX6_areSets_4 : decode cX6_areSets 4 = .ok (.getfield 7, 3) := by decide +kernel
theorem dX6_areSets_7 : decode cX6_areSets 7 = .ok (.bipush 40, 2) := by decide +kernel
theorem dX6_areSets_9 : decode cX6_areSets 9 = .ok (.iaload, 1) := by decide +kernel
theorem dX6_areSets_10 : decode cX6_areSets 10 = .ok (.ishl, 1) := by decide +kernel
theorem dX6_areSets_11 : decode cX6_areSets 11 = .ok (.iconst 1, 1) := by decide +kernel
theorem dX6_areSets_12 : decode cX6_areSets 12 = .ok (.isub, 1) := by decide +kernel
theorem dX6_areSets_13 : decode cX6_areSets 13 = .ok (.invokestatic 44, 3) := by decide +kernel
theorem dX6_areSets_16 : decode cX6_areSets 16 = .ok (.ifCond .eq 17, 3) := by decide +kernel
theorem dX6_areSets_19 : decode cX6_areSets 19 = .ok (.iload_n 2, 1) := by decide +kernel
theorem dX6_areSets_20 : decode cX6_areSets 20 = .ok (.iconst 0, 1) := by decide +kernel
theorem dX6_areSets_21 : decode cX6_areSets 21 = .ok (.bipush 63, 2) := by decide +kernel
theorem dX6_areSets_23 : decode cX6_areSets 23 = .ok (.invokestatic 44, 3) := by decide +kernel
theorem dX6_areSets_26 : decode cX6_areSets 26 = .ok (.ifCond .eq 7, 3) := by decide +kernel
theorem dX6_areSets_29 : decode cX6_areSets 29 = .ok (.iconst 1, 1) := by decide +kernel
theorem dX6_areSets_30 : decode cX6_areSets 30 = .ok (.goto 4, 3) := by decide +kernel
theorem dX6_areSets_33 : decode cX6_areSets 33 = .ok (.iconst 0, 1) := by decide +kernel
theorem dX6_areSets_34 : decode cX6_areSets 34 = .ok (.ireturn, 1) := by decide +kernel
theorem dX6_way_0 : decode cX6_way 0 = .ok (.aload_n 0, 1) := by decide +kernel
theorem dX6_way_1 : decode cX6_way 1 = .ok (.iload_n 1, 1) := by decide +kernel
theorem dX6_way_2 : decode cX6_way 2 = .ok (.iload_n 2, 1) := by decide +kernel
theorem dX6_way_3 : decode cX6_way 3 = .ok (.invokevirtual 135, 3) := by decide +kernel
theorem dX6_way_6 : decode cX6_way 6 = .ok (.ifCond .eq 8, 3) := by decide +kernel
theorem dX6_way_9 : decode cX6_way 9 = .ok (.iload_n 3, 1) := by decide +kernel
theorem dX6_way_10 : decode cX6_way 10 = .ok (.iconst (-1), 1) := by decide +kernel
theorem dX6_way_11 : decode cX6_way 11 = .ok (.if_icmp .ge 6, 3) := by decide +kernel
theorem dX6_way_14 : decode cX6_way 14 = .ok (.bipush (-2), 2) := by decide +kernel
theorem dX6_way_16 : decode cX6_way 16 = .ok (.ireturn, 1) := by decide +kernel
theorem dX6_way_17 : decode cX6_way 17 = .ok (.aload_n 0, 1) := by decide +kernel
theorem dX6_way_18 : decode cX6_way 18 = .ok (.iload_n 1, 1) := by decide +kernel
theorem dX6_way_19 : decode cX6_way 19 = .ok (.iload_n 2, 1) := by decide +kernel
theorem dX6_way_20 : decode cX6_way 20 = .ok (.invokevirtual 138, 3) := by decide +kernel
theorem dX6_way_23 : decode cX6_way 23 = .ok (.istore 4, 2) := by decide +kernel
theorem dX6_way_25 : decode cX6_way 25 = .ok (.iload 4, 2) := by decide +kernel
theorem dX6_way_27 : decode cX6_way 27 = .ok (.ifCond .lt 8, 3) := by decide +kernel
theorem dX6_way_30 : decode cX6_way 30 = .ok (.iload_n 3, 1) := by decide +kernel
theorem dX6_way_31 : decode cX6_way 31 = .ok (.iconst (-1), 1) := by decide +kernel
theorem dX6_way_32 : decode cX6_way 32 = .ok (.if_icmp .ne 8, 3) := by decide +kernel
theorem dX6_way_35 : decode cX6_way 35 = .ok (.iload 4, 2) := by decide +kernel
theorem dX6_way_37 : decode cX6_way 37 = .ok (.goto 20, 3) := by decide +kernel
theorem dX6_way_40 : decode cX6_way 40 = .ok (.iload_n 3, 1) := by decide +kernel
theorem dX6_way_41 : decode cX6_way 41 = .ok (.iload 4, 2) := by decide +kernel
theorem dX6_way_43 : decode cX6_way 43 = .ok (.if_icmp .ge 12, 3) := by decide +kernel
theorem dX6_way_46 : decode cX6_way 46 = .ok (.aload_n 0, 1) := by decide +kernel
theorem dX6_way_47 : decode cX6_way 47 = .ok (.getfield 41, 3) := by decide +kernel
theorem dX6_way_50 : decode cX6_way 50 = .ok (.iload_n 3, 1) := by decide +kernel
theorem dX6_way_51 : decode cX6_way 51 = .ok (.iaload, 1) := by decide +kernel
theorem dX6_way_52 : decode cX6_way 52 = .ok (.goto 5, 3) := by decide +kernel
theorem dX6_way_55 : decode cX6_way 55 = .ok (.bipush (-6), 2) := by decide +kernel
theorem dX6_way_57 : decode cX6_way 57 = .ok (.ireturn, 1) := by decide +kernel
theorem dX6_go_0 : decode cX6_go 0 = .ok (.aload_n 0, 1) := by decide +kernel
theorem dX6_go_1 : decode cX6_go 1 = .ok (.iload_n 1, 1) := by decide +kernel
theorem dX6_go_2 : decode cX6_go 2 = .ok (.iload_n 2, 1) := by decide +kernel
theorem dX6_go_3 : decode cX6_go 3 = .ok (.invokevirtual 135, 3) := by decide +kernel
theorem dX6_go_6 : decode cX6_go 6 = .ok (.ifCond .ne 6, 3) := by decide +kernel
theorem dX6_go_9 : decode cX6_go 9 = .ok (.bipush (-2), 2) := by decide +kernel
theorem dX6_go_11 : decode cX6_go 11 = .ok (.ireturn, 1) := by decide +kernel
theorem dX6_go_12 : decode cX6_go 12 = .ok (.aload_n 0, 1) := by decide +kernel
theorem dX6_go_13 : decode cX6_go 13 = .ok (.iload_n 1, 1) := by decide +kernel
theorem dX6_go_14 : decode cX6_go 14 = .ok (.iload_n 2, 1) := by decide +kernel
theorem dX6_go_15 : decode cX6_go 15 = .ok (.invokevirtual 138, 3) := by decide +kernel
theorem dX6_go_18 : decode cX6_go 18 = .ok (.istore_n 3, 1) := by decide +kernel
theorem dX6_go_19 : decode cX6_go 19 = .ok (.iload_n 3, 1) := by decide +kernel
theorem dX6_go_20 : decode cX6_go 20 = .ok (.ifCond .ge 6, 3) := by decide +kernel
theorem dX6_go_23 : decode cX6_go 23 = .ok (.bipush (-5), 2) := by decide +kernel
theorem dX6_go_25 : decode cX6_go 25 = .ok (.ireturn, 1) := by decide +kernel
theorem dX6_go_26 : decode cX6_go 26 = .ok (.aload_n 0, 1) := by decide +kernel
theorem dX6_go_27 : decode cX6_go 27 = .ok (.aload_n 0, 1) := by decide +kernel
theorem dX6_go_28 : decode cX6_go 28 = .ok (.getfield 131, 3) := by decide +kernel
theorem dX6_go_31 : decode cX6_go 31 = .ok (.invokevirtual 91, 3) := by decide +kernel
theorem dX6_go_34 : decode cX6_go 34 = .ok (.aload_n 0, 1) := by decide +kernel
theorem dX6_go_35 : decode cX6_go 35 = .ok (.getfield 7, 3) := by decide +kernel
theorem dX6_go_38 : decode cX6_go 38 = .ok (.bipush 41, 2) := by decide +kernel
theorem dX6_go_40 : decode cX6_go 40 = .ok (.dup2, 1) := by decide +kernel
theorem dX6_go_41 : decode cX6_go 41 = .ok (.iaload, 1) := by decide +kernel
theorem dX6_go_42 : decode cX6_go 42 = .ok (.iload_n 3, 1) := by decide +kernel
theorem dX6_go_43 : decode cX6_go 43 = .ok (.iadd, 1) := by decide +kernel
theorem dX6_go_44 : decode cX6_go 44 = .ok (.iastore, 1) := by decide +kernel
theorem dX6_go_45 : decode cX6_go 45 = .ok (.aload_n 0, 1) := by decide +kernel
theorem dX6_go_46 : decode cX6_go 46 = .ok (.getfield 7, 3) := by decide +kernel
theorem dX6_go_49 : decode cX6_go 49 = .ok (.bipush 41, 2) := by decide +kernel
theorem dX6_go_51 : decode cX6_go 51 = .ok (.iaload, 1) := by decide +kernel
theorem dX6_go_52 : decode cX6_go 52 = .ok (.ireturn, 1) := by decide +kernel
theorem dX6_canWithout_0 : decode cX6_canWithout 0 = .ok (.aload_n 0, 1) := by decide +kernel
theorem dX6_canWithout_1 : decode cX6_canWithout 1 = .ok (.iload_n 1, 1) := by decide +kernel
theorem dX6_canWithout_2 : decode cX6_canWithout 2 = .ok (.invokevirtual 121, 3) := by decide +kernel
theorem dX6_canWithout_5 : decode cX6_canWithout 5 = .ok (.aload_n 0, 1) := by decide +kernel
theorem dX6_canWithout_6 : decode cX6_canWithout 6 = .ok (.iload_n 2, 1) := by decide +kernel
theorem dX6_canWithout_7 : decode cX6_canWithout 7 = .ok (.iload_n 3, 1) := by decide +kernel
theorem dX6_canWithout_8 : decode cX6_canWithout 8 = .ok (.invokevirtual 124, 3) := by decide +kernel
theorem dX6_canWithout_11 : decode cX6_canWithout 11 = .ok (.ifCond .lt 7, 3) := by decide +kernel
theorem dX6_canWithout_14 : decode cX6_canWithout 14 = .ok (.iconst 1, 1) := by decide +kernel
theorem dX6_canWithout_15 : decode cX6_canWithout 15 = .ok (.goto 4, 3) := by decide +kernel
theorem dX6_canWithout_18 : decode cX6_canWithout 18 = .ok (.iconst 0, 1) := by decide +kernel
theorem dX6_canWithout_19 : decode cX6_canWithout 19 = .ok (.ireturn, 1) := by decide +kernel
theorem dX6_neededLines_0 : decode cX6_neededLines 0 = .ok (.iconst 0, 1) := by decide +kernel
theorem dX6_neededLines_1 : decode cX6_neededLines 1 = .ok (.istore_n 3, 1) := by decide +kernel
theorem dX6_neededLines_2 : decode cX6_neededLines 2 = .ok (.iconst 0, 1) := by decide +kernel
end
section
theorem dX6_neededLines_3 : decode cX6_neededLines 3 = .ok (.istore 4, 2) := by decide +kernel
theorem dX6_neededLines_5 : decode cX6_neededLines 5 = .ok (.iload 4, 2) := by decide +kernel
theorem dX6_neededLines_7 : decode cX6_neededLines 7 = .ok (.aload_n 0, 1) := by decide +kernel
theorem dX6_neededLines_8 : decode cX6_neededLines 8 = .ok (.getfield 7, 3) := by decide +kernel
theorem dX6_neededLines_11 : decode cX6_neededLines 11 = .ok (.bipush 39, 2) := by decide +kernel
theorem dX6_neededLines_13 : decode cX6_neededLines 13 = .ok (.iaload, 1) := by decide +kernel
theorem dX6_neededLines_14 : decode cX6_neededLines 14 = .ok (.if_icmp .ge 46, 3) := by decide +kernel
theorem dX6_neededLines_17 : decode cX6_neededLines 17 = .ok (.iload_n 3, 1) := by decide +kernel
theorem dX6_neededLines_18 : decode cX6_neededLines 18 = .ok (.aload_n 0, 1) := by decide +kernel
theorem dX6_neededLines_19 : decode cX6_neededLines 19 = .ok (.getfield 7, 3) := by decide +kernel
theorem dX6_neededLines_22 : decode cX6_neededLines 22 = .ok (.bipush 18, 2) := by decide +kernel
theorem dX6_neededLines_24 : decode cX6_neededLines 24 = .ok (.iload 4, 2) := by decide +kernel
theorem dX6_neededLines_26 : decode cX6_neededLines 26 = .ok (.iadd, 1) := by decide +kernel
theorem dX6_neededLines_27 : decode cX6_neededLines 27 = .ok (.iaload, 1) := by decide +kernel
theorem dX6_neededLines_28 : decode cX6_neededLines 28 = .ok (.ifCond .ne 23, 3) := by decide +kernel
theorem dX6_neededLines_31 : decode cX6_neededLines 31 = .ok (.aload_n 0, 1) := by decide +kernel
theorem dX6_neededLines_32 : decode cX6_neededLines 32 = .ok (.iload 4, 2) := by decide +kernel
theorem dX6_neededLines_34 : decode cX6_neededLines 34 = .ok (.iconst 4, 1) := by decide +kernel
theorem dX6_neededLines_35 : decode cX6_neededLines 35 = .ok (.iadd, 1) := by decide +kernel
theorem dX6_neededLines_36 : decode cX6_neededLines 36 = .ok (.iload_n 1, 1) := by decide +kernel
theorem dX6_neededLines_37 : decode cX6_neededLines 37 = .ok (.iload_n 2, 1) := by decide +kernel
theorem dX6_neededLines_38 : decode cX6_neededLines 38 = .ok (.invokevirtual 141, 3) := by decide +kernel
theorem dX6_neededLines_41 : decode cX6_neededLines 41 = .ok (.ifCond .ne 10, 3) := by decide +kernel
theorem dX6_neededLines_44 : decode cX6_neededLines 44 = .ok (.iconst 1, 1) := by decide +kernel
theorem dX6_neededLines_45 : decode cX6_neededLines 45 = .ok (.iload 4, 2) := by decide +kernel
theorem dX6_neededLines_47 : decode cX6_neededLines 47 = .ok (.ishl, 1) := by decide +kernel
theorem dX6_neededLines_48 : decode cX6_neededLines 48 = .ok (.goto 4, 3) := by decide +kernel
theorem dX6_neededLines_51 : decode cX6_neededLines 51 = .ok (.iconst 0, 1) := by decide +kernel
theorem dX6_neededLines_52 : decode cX6_neededLines 52 = .ok (.ior, 1) := by decide +kernel
theorem dX6_neededLines_53 : decode cX6_neededLines 53 = .ok (.istore_n 3, 1) := by decide +kernel
theorem dX6_neededLines_54 : decode cX6_neededLines 54 = .ok (.iinc 4 1, 3) := by decide +kernel
theorem dX6_neededLines_57 : decode cX6_neededLines 57 = .ok (.goto (-52), 3) := by decide +kernel
theorem dX6_neededLines_60 : decode cX6_neededLines 60 = .ok (.iload_n 3, 1) := by decide +kernel
theorem dX6_neededLines_61 : decode cX6_neededLines 61 = .ok (.ireturn, 1) := by decide +kernel
theorem dX6_neededMachines_0 : decode cX6_neededMachines 0 = .ok (.iconst 0, 1) := by decide +kernel
theorem dX6_neededMachines_1 : decode cX6_neededMachines 1 = .ok (.istore_n 3, 1) := by decide +kernel
theorem dX6_neededMachines_2 : decode cX6_neededMachines 2 = .ok (.iconst 0, 1) := by decide +kernel
theorem dX6_neededMachines_3 : decode cX6_neededMachines 3 = .ok (.istore 4, 2) := by decide +kernel
theorem dX6_neededMachines_5 : decode cX6_neededMachines 5 = .ok (.iload 4, 2) := by decide +kernel
theorem dX6_neededMachines_7 : decode cX6_neededMachines 7 = .ok (.aload_n 0, 1) := by decide +kernel
theorem dX6_neededMachines_8 : decode cX6_neededMachines 8 = .ok (.getfield 7, 3) := by decide +kernel
theorem dX6_neededMachines_11 : decode cX6_neededMachines 11 = .ok (.bipush 40, 2) := by decide +kernel
theorem dX6_neededMachines_13 : decode cX6_neededMachines 13 = .ok (.iaload, 1) := by decide +kernel
theorem dX6_neededMachines_14 : decode cX6_neededMachines 14 = .ok (.if_icmp .ge 46, 3) := by decide +kernel
theorem dX6_neededMachines_17 : decode cX6_neededMachines 17 = .ok (.iload_n 3, 1) := by decide +kernel
theorem dX6_neededMachines_18 : decode cX6_neededMachines 18 = .ok (.aload_n 0, 1) := by decide +kernel
theorem dX6_neededMachines_19 : decode cX6_neededMachines 19 = .ok (.getfield 7, 3) := by decide +kernel
theorem dX6_neededMachines_22 : decode cX6_neededMachines 22 = .ok (.bipush 36, 2) := by decide +kernel
theorem dX6_neededMachines_24 : decode cX6_neededMachines 24 = .ok (.iload 4, 2) := by decide +kernel
theorem dX6_neededMachines_26 : decode cX6_neededMachines 26 = .ok (.iadd, 1) := by decide +kernel
theorem dX6_neededMachines_27 : decode cX6_neededMachines 27 = .ok (.iaload, 1) := by decide +kernel
theorem dX6_neededMachines_28 : decode cX6_neededMachines 28 = .ok (.ifCond .ne 23, 3) := by decide +kernel
theorem dX6_neededMachines_31 : decode cX6_neededMachines 31 = .ok (.aload_n 0, 1) := by decide +kernel
theorem dX6_neededMachines_32 : decode cX6_neededMachines 32 = .ok (.iload 4, 2) := by decide +kernel
theorem dX6_neededMachines_34 : decode cX6_neededMachines 34 = .ok (.iconst 1, 1) := by decide +kernel
theorem dX6_neededMachines_35 : decode cX6_neededMachines 35 = .ok (.iadd, 1) := by decide +kernel
theorem dX6_neededMachines_36 : decode cX6_neededMachines 36 = .ok (.iload_n 1, 1) := by decide +kernel
theorem dX6_neededMachines_37 : decode cX6_neededMachines 37 = .ok (.iload_n 2, 1) := by decide +kernel
theorem dX6_neededMachines_38 : decode cX6_neededMachines 38 = .ok (.invokevirtual 141, 3) := by decide +kernel
theorem dX6_neededMachines_41 : decode cX6_neededMachines 41 = .ok (.ifCond .ne 10, 3) := by decide +kernel
theorem dX6_neededMachines_44 : decode cX6_neededMachines 44 = .ok (.iconst 1, 1) := by decide +kernel
theorem dX6_neededMachines_45 : decode cX6_neededMachines 45 = .ok (.iload 4, 2) := by decide +kernel
theorem dX6_neededMachines_47 : decode cX6_neededMachines 47 = .ok (.ishl, 1) := by decide +kernel
theorem dX6_neededMachines_48 : decode cX6_neededMachines 48 = .ok (.goto 4, 3) := by decide +kernel
theorem dX6_neededMachines_51 : decode cX6_neededMachines 51 = .ok (.iconst 0, 1) := by decide +kernel
theorem dX6_neededMachines_52 : decode cX6_neededMachines 52 = .ok (.ior, 1) := by decide +kernel
theorem dX6_neededMachines_53 : decode cX6_neededMachines 53 = .ok (.istore_n 3, 1) := by decide +kernel
theorem dX6_neededMachines_54 : decode cX6_neededMachines 54 = .ok (.iinc 4 1, 3) := by decide +kernel
theorem dX6_neededMachines_57 : decode cX6_neededMachines 57 = .ok (.goto (-52), 3) := by decide +kernel
theorem dX6_neededMachines_60 : decode cX6_neededMachines 60 = .ok (.iload_n 3, 1) := by decide +kernel
theorem dX6_neededMachines_61 : decode cX6_neededMachines 61 = .ok (.ireturn, 1) := by decide +kernel
theorem dX6_needed_0 : decode cX6_needed 0 = .ok (.aload_n 0, 1) := by decide +kernel
theorem dX6_needed_1 : decode cX6_needed 1 = .ok (.iload_n 1, 1) := by decide +kernel
theorem dX6_needed_2 : decode cX6_needed 2 = .ok (.iload_n 2, 1) := by decide +kernel
theorem dX6_needed_3 : decode cX6_needed 3 = .ok (.invokevirtual 135, 3) := by decide +kernel
theorem dX6_needed_6 : decode cX6_needed 6 = .ok (.ifCond .eq 12, 3) := by decide +kernel
theorem dX6_needed_9 : decode cX6_needed 9 = .ok (.iload_n 3, 1) := by decide +kernel
theorem dX6_needed_10 : decode cX6_needed 10 = .ok (.iconst 0, 1) := by decide +kernel
theorem dX6_needed_11 : decode cX6_needed 11 = .ok (.iconst 1, 1) := by decide +kernel
theorem dX6_needed_12 : decode cX6_needed 12 = .ok (.invokestatic 44, 3) := by decide +kernel
theorem dX6_needed_15 : decode cX6_needed 15 = .ok (.ifCond .ne 6, 3) := by decide +kernel
theorem dX6_needed_18 : decode cX6_needed 18 = .ok (.bipush (-2), 2) := by decide +kernel
theorem dX6_needed_20 : decode cX6_needed 20 = .ok (.ireturn, 1) := by decide +kernel
theorem dX6_needed_21 : decode cX6_needed 21 = .ok (.aload_n 0, 1) := by decide +kernel
theorem dX6_needed_22 : decode cX6_needed 22 = .ok (.bipush (-6), 2) := by decide +kernel
theorem dX6_needed_24 : decode cX6_needed 24 = .ok (.iload_n 1, 1) := by decide +kernel
theorem dX6_needed_25 : decode cX6_needed 25 = .ok (.iload_n 2, 1) := by decide +kernel
theorem dX6_needed_26 : decode cX6_needed 26 = .ok (.invokevirtual 141, 3) := by decide +kernel
theorem dX6_needed_29 : decode cX6_needed 29 = .ok (.ifCond .ne 6, 3) := by decide +kernel
theorem dX6_needed_32 : decode cX6_needed 32 = .ok (.bipush (-6), 2) := by decide +kernel
theorem dX6_needed_34 : decode cX6_needed 34 = .ok (.ireturn, 1) := by decide +kernel
theorem dX6_needed_35 : decode cX6_needed 35 = .ok (.iload_n 3, 1) := by decide +kernel
theorem dX6_needed_36 : decode cX6_needed 36 = .ok (.ifCond .ne 12, 3) := by decide +kernel
theorem dX6_needed_39 : decode cX6_needed 39 = .ok (.aload_n 0, 1) := by decide +kernel
theorem dX6_needed_40 : decode cX6_needed 40 = .ok (.iload_n 1, 1) := by decide +kernel
theorem dX6_needed_41 : decode cX6_needed 41 = .ok (.iload_n 2, 1) := by decide +kernel
theorem dX6_needed_42 : decode cX6_needed 42 = .ok (.invokevirtual 144, 3) := by decide +kernel
theorem dX6_needed_45 : decode cX6_needed 45 = .ok (.goto 9, 3) := by decide +kernel
theorem dX6_needed_48 : decode cX6_needed 48 = .ok (.aload_n 0, 1) := by decide +kernel
theorem dX6_needed_49 : decode cX6_needed 49 = .ok (.iload_n 1, 1) := by decide +kernel
theorem dX6_needed_50 : decode cX6_needed 50 = .ok (.iload_n 2, 1) := by decide +kernel
theorem dX6_needed_51 : decode cX6_needed 51 = .ok (.invokevirtual 147, 3) := by decide +kernel
theorem dX6_needed_54 : decode cX6_needed 54 = .ok (.ireturn, 1) := by decide +kernel
theorem dX6_ever_0 : decode cX6_ever 0 = .ok (.iload_n 1, 1) := by decide +kernel
theorem dX6_ever_1 : decode cX6_ever 1 = .ok (.iconst 0, 1) := by decide +kernel
theorem dX6_ever_2 : decode cX6_ever 2 = .ok (.iconst 1, 1) := by decide +kernel
theorem dX6_ever_3 : decode cX6_ever 3 = .ok (.invokestatic 44, 3) := by decide +kernel
theorem dX6_ever_6 : decode cX6_ever 6 = .ok (.ifCond .ne 6, 3) := by decide +kernel
theorem dX6_ever_9 : decode cX6_ever 9 = .ok (.bipush (-2), 2) := by decide +kernel
theorem dX6_ever_11 : decode cX6_ever 11 = .ok (.ireturn, 1) := by decide +kernel
theorem dX6_ever_12 : decode cX6_ever 12 = .ok (.aload_n 0, 1) := by decide +kernel
theorem dX6_ever_13 : decode cX6_ever 13 = .ok (.bipush (-6), 2) := by decide +kernel
theorem dX6_ever_15 : decode cX6_ever 15 = .ok (.invokevirtual 121, 3) := by decide +kernel
theorem dX6_ever_18 : decode cX6_ever 18 = .ok (.iconst 0, 1) := by decide +kernel
theorem dX6_ever_19 : decode cX6_ever 19 = .ok (.istore_n 2, 1) := by decide +kernel
theorem dX6_ever_20 : decode cX6_ever 20 = .ok (.iconst 0, 1) := by decide +kernel
theorem dX6_ever_21 : decode cX6_ever 21 = .ok (.istore_n 3, 1) := by decide +kernel
theorem dX6_ever_22 : decode cX6_ever 22 = .ok (.iload_n 3, 1) := by decide +kernel
theorem dX6_ever_23 : decode cX6_ever 23 = .ok (.sipush 8000, 3) := by decide +kernel
theorem dX6_ever_26 : decode cX6_ever 26 = .ok (.if_icmp .ge 41, 3) := by decide +kernel
theorem dX6_ever_29 : decode cX6_ever 29 = .ok (.aload_n 0, 1) := by decide +kernel
theorem dX6_ever_30 : decode cX6_ever 30 = .ok (.getfield 35, 3) := by decide +kernel
theorem dX6_ever_33 : decode cX6_ever 33 = .ok (.iload_n 3, 1) := by decide +kernel
theorem dX6_ever_34 : decode cX6_ever 34 = .ok (.iaload, 1) := by decide +kernel
theorem dX6_ever_35 : decode cX6_ever 35 = .ok (.ifCond .lt 26, 3) := by decide +kernel
theorem dX6_ever_38 : decode cX6_ever 38 = .ok (.aload_n 0, 1) := by decide +kernel
theorem dX6_ever_39 : decode cX6_ever 39 = .ok (.iload_n 3, 1) := by decide +kernel
theorem dX6_ever_40 : decode cX6_ever 40 = .ok (.invokevirtual 99, 3) := by decide +kernel
theorem dX6_ever_43 : decode cX6_ever 43 = .ok (.iload_n 2, 1) := by decide +kernel
theorem dX6_ever_44 : decode cX6_ever 44 = .ok (.iload_n 1, 1) := by decide +kernel
theorem dX6_ever_45 : decode cX6_ever 45 = .ok (.ifCond .ne 10, 3) := by decide +kernel
theorem dX6_ever_48 : decode cX6_ever 48 = .ok (.aload_n 0, 1) := by decide +kernel
theorem dX6_ever_49 : decode cX6_ever 49 = .ok (.invokevirtual 109, 3) := by decide +kernel
theorem dX6_ever_52 : decode cX6_ever 52 = .ok (.goto 7, 3) := by decide +kernel
theorem dX6_ever_55 : decode cX6_ever 55 = .ok (.aload_n 0, 1) := by decide +kernel
theorem dX6_ever_56 : decode cX6_ever 56 = .ok (.invokevirtual 112, 3) := by decide +kernel
theorem dX6_ever_59 : decode cX6_ever 59 = .ok (.ior, 1) := by decide +kernel
theorem dX6_ever_60 : decode cX6_ever 60 = .ok (.istore_n 2, 1) := by decide +kernel
theorem dX6_ever_61 : decode cX6_ever 61 = .ok (.iinc 3 1, 3) := by decide +kernel
theorem dX6_ever_64 : decode cX6_ever 64 = .ok (.goto (-42), 3) := by decide +kernel
theorem dX6_ever_67 : decode cX6_ever 67 = .ok (.iload_n 2, 1) := by decide +kernel
theorem dX6_ever_68 : decode cX6_ever 68 = .ok (.ireturn, 1) := by decide +kernel
theorem dX6_image_0 : decode cX6_image 0 = .ok (.iload_n 1, 1) := by decide +kernel
theorem dX6_image_1 : decode cX6_image 1 = .ok (.iconst 0, 1) := by decide +kernel
theorem dX6_image_2 : decode cX6_image 2 = .ok (.iconst 1, 1) := by decide +kernel
theorem dX6_image_3 : decode cX6_image 3 = .ok (.invokestatic 44, 3) := by decide +kernel
theorem dX6_image_6 : decode cX6_image 6 = .ok (.ifCond .ne 6, 3) := by decide +kernel
theorem dX6_image_9 : decode cX6_image 9 = .ok (.bipush (-2), 2) := by decide +kernel
theorem dX6_image_11 : decode cX6_image 11 = .ok (.ireturn, 1) := by decide +kernel
theorem dX6_image_12 : decode cX6_image 12 = .ok (.iconst 0, 1) := by decide +kernel
theorem dX6_image_13 : decode cX6_image 13 = .ok (.istore_n 2, 1) := by decide +kernel
theorem dX6_image_14 : decode cX6_image 14 = .ok (.iload_n 2, 1) := by decide +kernel
theorem dX6_image_15 : decode cX6_image 15 = .ok (.bipush 42, 2) := by decide +kernel
theorem dX6_image_17 : decode cX6_image 17 = .ok (.if_icmp .ge 26, 3) := by decide +kernel
theorem dX6_image_20 : decode cX6_image 20 = .ok (.aload_n 0, 1) := by decide +kernel
theorem dX6_image_21 : decode cX6_image 21 = .ok (.getfield 13, 3) := by decide +kernel
theorem dX6_image_24 : decode cX6_image 24 = .ok (.bipush 42, 2) := by decide +kernel
theorem dX6_image_26 : decode cX6_image 26 = .ok (.iload_n 1, 1) := by decide +kernel
theorem dX6_image_27 : decode cX6_image 27 = .ok (.imul, 1) := by decide +kernel
theorem dX6_image_28 : decode cX6_image 28 = .ok (.iload_n 2, 1) := by decide +kernel
theorem dX6_image_29 : decode cX6_image 29 = .ok (.iadd, 1) := by decide +kernel
theorem dX6_image_30 : decode cX6_image 30 = .ok (.aload_n 0, 1) := by decide +kernel
theorem dX6_image_31 : decode cX6_image 31 = .ok (.getfield 7, 3) := by decide +kernel
theorem dX6_image_34 : decode cX6_image 34 = .ok (.iload_n 2, 1) := by decide +kernel
theorem dX6_image_35 : decode cX6_image 35 = .ok (.iaload, 1) := by decide +kernel
theorem dX6_image_36 : decode cX6_image 36 = .ok (.iastore, 1) := by decide +kernel
theorem dX6_image_37 : decode cX6_image 37 = .ok (.iinc 2 1, 3) := by decide +kernel
theorem dX6_image_40 : decode cX6_image 40 = .ok (.goto (-26), 3) := by decide +kernel
theorem dX6_image_43 : decode cX6_image 43 = .ok (.aload_n 0, 1) := by decide +kernel
theorem dX6_image_44 : decode cX6_image 44 = .ok (.getfield 16, 3) := by decide +kernel
theorem dX6_image_47 : decode cX6_image 47 = .ok (.iload_n 1, 1) := by decide +kernel
theorem dX6_image_48 : decode cX6_image 48 = .ok (.iconst 1, 1) := by decide +kernel
theorem dX6_image_49 : decode cX6_image 49 = .ok (.bastore, 1) := by decide +kernel
theorem dX6_image_50 : decode cX6_image 50 = .ok (.iconst 1, 1) := by decide +kernel
theorem dX6_image_51 : decode cX6_image 51 = .ok (.ireturn, 1) := by decide +kernel
theorem dX6_restore_0 : decode cX6_restore 0 = .ok (.iload_n 1, 1) := by decide +kernel
theorem dX6_restore_1 : decode cX6_restore 1 = .ok (.iconst 0, 1) := by decide +kernel
theorem dX6_restore_2 : decode cX6_restore 2 = .ok (.iconst 1, 1) := by decide +kernel
theorem dX6_restore_3 : decode cX6_restore 3 = .ok (.invokestatic 44, 3) := by decide +kernel
theorem dX6_restore_6 : decode cX6_restore 6 = .ok (.ifCond .ne 6, 3) := by decide +kernel
theorem dX6_restore_9 : decode cX6_restore 9 = .ok (.bipush (-2), 2) := by decide +kernel
theorem dX6_restore_11 : decode cX6_restore 11 = .ok (.ireturn, 1) := by decide +kernel
theorem dX6_restore_12 : decode cX6_restore 12 = .ok (.aload_n 0, 1) := by decide +kernel
theorem dX6_restore_13 : decode cX6_restore 13 = .ok (.getfield 16, 3) := by decide +kernel
theorem dX6_restore_16 : decode cX6_restore 16 = .ok (.iload_n 1, 1) := by decide +kernel
theorem dX6_restore_17 : decode cX6_restore 17 = .ok (.baload, 1) := by decide +kernel
theorem dX6_restore_18 : decode cX6_restore 18 = .ok (.ifCond .ne 6, 3) := by decide +kernel
theorem dX6_restore_21 : decode cX6_restore 21 = .ok (.bipush (-3), 2) := by decide +kernel
theorem dX6_restore_23 : decode cX6_restore 23 = .ok (.ireturn, 1) := by decide +kernel
theorem dX6_restore_24 : decode cX6_restore 24 = .ok (.iconst 0, 1) := by decide +kernel
theorem dX6_restore_25 : decode cX6_restore 25 = .ok (.istore_n 2, 1) := by decide +kernel
theorem dX6_restore_26 : decode cX6_restore 26 = .ok (.iload_n 2, 1) := by decide +kernel
theorem dX6_restore_27 : decode cX6_restore 27 = .ok (.bipush 42, 2) := by decide +kernel
theorem dX6_restore_29 : decode cX6_restore 29 = .ok (.if_icmp .ge 26, 3) := by decide +kernel
theorem dX6_restore_32 : decode cX6_restore 32 = .ok (.aload_n 0, 1) := by decide +kernel
theorem dX6_restore_33 : decode cX6_restore 33 = .ok (.getfield 7, 3) := by decide +kernel
theorem dX6_restore_36 : decode cX6_restore 36 = .ok (.iload_n 2, 1) := by decide +kernel
theorem dX6_restore_37 : decode cX6_restore 37 = .ok (.aload_n 0, 1) := by decide +kernel
theorem dX6_restore_38 : decode cX6_restore 38 = .ok (.getfield 13, 3) := by decide +kernel
theorem dX6_restore_41 : decode cX6_restore 41 = .ok (.bipush 42, 2) := by decide +kernel
theorem dX6_restore_43 : decode cX6_restore 43 = .ok (.iload_n 1, 1) := by decide +kernel
theorem dX6_restore_44 : decode cX6_restore 44 = .ok (.imul, 1) := by decide +kernel
theorem dX6_restore_45 : decode cX6_restore 45 = .ok (.iload_n 2, 1) := by decide +kernel
theorem dX6_restore_46 : decode cX6_restore 46 = .ok (.iadd, 1) := by decide +kernel
theorem dX6_restore_47 : decode cX6_restore 47 = .ok (.iaload, 1) := by decide +kernel
theorem dX6_restore_48 : decode cX6_restore 48 = .ok (.iastore, 1) := by decide +kernel
theorem dX6_restore_49 : decode cX6_restore 49 = .ok (.iinc 2 1, 3) := by decide +kernel
theorem dX6_restore_52 : decode cX6_restore 52 = .ok (.goto (-26), 3) := by decide +kernel
theorem dX6_restore_55 : decode cX6_restore 55 = .ok (.iconst 1, 1) := by decide +kernel
theorem dX6_restore_56 : decode cX6_restore 56 = .ok (.ireturn, 1) := by decide +kernel
theorem dX6_size_0 : decode cX6_size 0 = .ok (.iconst 0, 1) := by decide +kernel
theorem dX6_size_1 : decode cX6_size 1 = .ok (.istore_n 1, 1) := by decide +kernel
theorem dX6_size_2 : decode cX6_size 2 = .ok (.iconst 0, 1) := by decide +kernel
theorem dX6_size_3 : decode cX6_size 3 = .ok (.istore_n 2, 1) := by decide +kernel
theorem dX6_size_4 : decode cX6_size 4 = .ok (.iload_n 2, 1) := by decide +kernel
theorem dX6_size_5 : decode cX6_size 5 = .ok (.bipush 6, 2) := by decide +kernel
theorem dX6_size_7 : decode cX6_size 7 = .ok (.if_icmp .ge 17, 3) := by decide +kernel
theorem dX6_size_10 : decode cX6_size 10 = .ok (.iload_n 1, 1) := by decide +kernel
theorem dX6_size_11 : decode cX6_size 11 = .ok (.iload_n 0, 1) := by decide +kernel
theorem dX6_size_12 : decode cX6_size 12 = .ok (.iload_n 2, 1) := by decide +kernel
theorem dX6_size_13 : decode cX6_size 13 = .ok (.ishr, 1) := by decide +kernel
theorem dX6_size_14 : decode cX6_size 14 = .ok (.iconst 1, 1) := by decide +kernel
theorem dX6_size_15 : decode cX6_size 15 = .ok (.iand, 1) := by decide +kernel
theorem dX6_size_16 : decode cX6_size 16 = .ok (.iadd, 1) := by decide +kernel
theorem dX6_size_17 : decode cX6_size 17 = .ok (.istore_n 1, 1) := by decide +kernel
theorem dX6_size_18 : decode cX6_size 18 = .ok (.iinc 2 1, 3) := by decide +kernel
theorem dX6_size_21 : decode cX6_size 21 = .ok (.goto (-17), 3) := by decide +kernel
theorem dX6_size_24 : decode cX6_size 24 = .ok (.iload_n 1, 1) := by decide +kernel
theorem dX6_size_25 : decode cX6_size 25 = .ok (.ireturn, 1) := by decide +kernel
theorem dX6_sumOf_0 : decode cX6_sumOf 0 = .ok (.iconst 0, 1) := by decide +kernel
theorem dX6_sumOf_1 : decode cX6_sumOf 1 = .ok (.istore_n 3, 1) := by decide +kernel
theorem dX6_sumOf_2 : decode cX6_sumOf 2 = .ok (.iconst 0, 1) := by decide +kernel
theorem dX6_sumOf_3 : decode cX6_sumOf 3 = .ok (.istore 4, 2) := by decide +kernel
theorem dX6_sumOf_5 : decode cX6_sumOf 5 = .ok (.iload 4, 2) := by decide +kernel
theorem dX6_sumOf_7 : decode cX6_sumOf 7 = .ok (.iload_n 2, 1) := by decide +kernel
theorem dX6_sumOf_8 : decode cX6_sumOf 8 = .ok (.if_icmp .ge 29, 3) := by decide +kernel
theorem dX6_sumOf_11 : decode cX6_sumOf 11 = .ok (.iload_n 3, 1) := by decide +kernel
theorem dX6_sumOf_12 : decode cX6_sumOf 12 = .ok (.aload_n 0, 1) := by decide +kernel
theorem dX6_sumOf_13 : decode cX6_sumOf 13 = .ok (.getfield 7, 3) := by decide +kernel
theorem dX6_sumOf_16 : decode cX6_sumOf 16 = .ok (.iload_n 1, 1) := by decide +kernel
theorem dX6_sumOf_17 : decode cX6_sumOf 17 = .ok (.iload 4, 2) := by decide +kernel
theorem dX6_sumOf_19 : decode cX6_sumOf 19 = .ok (.iadd, 1) := by decide +kernel
theorem dX6_sumOf_20 : decode cX6_sumOf 20 = .ok (.iaload, 1) := by decide +kernel
theorem dX6_sumOf_21 : decode cX6_sumOf 21 = .ok (.ifCond .le 7, 3) := by decide +kernel
theorem dX6_sumOf_24 : decode cX6_sumOf 24 = .ok (.iconst 1, 1) := by decide +kernel
theorem dX6_sumOf_25 : decode cX6_sumOf 25 = .ok (.goto 4, 3) := by decide +kernel
theorem dX6_sumOf_28 : decode cX6_sumOf 28 = .ok (.iconst 0, 1) := by decide +kernel
theorem dX6_sumOf_29 : decode cX6_sumOf 29 = .ok (.iadd, 1) := by decide +kernel
theorem dX6_sumOf_30 : decode cX6_sumOf 30 = .ok (.istore_n 3, 1) := by decide +kernel
theorem dX6_sumOf_31 : decode cX6_sumOf 31 = .ok (.iinc 4 1, 3) := by decide +kernel
theorem dX6_sumOf_34 : decode cX6_sumOf 34 = .ok (.goto (-29), 3) := by decide +kernel
theorem dX6_sumOf_37 : decode cX6_sumOf 37 = .ok (.iload_n 3, 1) := by decide +kernel
theorem dX6_sumOf_38 : decode cX6_sumOf 38 = .ok (.ireturn, 1) := by decide +kernel
theorem dX6_liveIslands_0 : decode cX6_liveIslands 0 = .ok (.iconst 0, 1) := by decide +kernel
theorem dX6_liveIslands_1 : decode cX6_liveIslands 1 = .ok (.istore_n 1, 1) := by decide +kernel
theorem dX6_liveIslands_2 : decode cX6_liveIslands 2 = .ok (.iconst 0, 1) := by decide +kernel
theorem dX6_liveIslands_3 : decode cX6_liveIslands 3 = .ok (.istore_n 2, 1) := by decide +kernel
theorem dX6_liveIslands_4 : decode cX6_liveIslands 4 = .ok (.iload_n 2, 1) := by decide +kernel
theorem dX6_liveIslands_5 : decode cX6_liveIslands 5 = .ok (.bipush 6, 2) := by decide +kernel
theorem dX6_liveIslands_7 : decode cX6_liveIslands 7 = .ok (.if_icmp .ge 36, 3) := by decide +kernel
theorem dX6_liveIslands_10 : decode cX6_liveIslands 10 = .ok (.iload_n 1, 1) := by decide +kernel
theorem dX6_liveIslands_11 : decode cX6_liveIslands 11 = .ok (.aload_n 0, 1) := by decide +kernel
theorem dX6_liveIslands_12 : decode cX6_liveIslands 12 = .ok (.getfield 26, 3) := by decide +kernel
theorem dX6_liveIslands_15 : decode cX6_liveIslands 15 = .ok (.iload_n 2, 1) := by decide +kernel
theorem dX6_liveIslands_16 : decode cX6_liveIslands 16 = .ok (.iaload, 1) := by decide +kernel
theorem dX6_liveIslands_17 : decode cX6_liveIslands 17 = .ok (.iload_n 2, 1) := by decide +kernel
theorem dX6_liveIslands_18 : decode cX6_liveIslands 18 = .ok (.if_icmp .ne 16, 3) := by decide +kernel
theorem dX6_liveIslands_21 : decode cX6_liveIslands 21 = .ok (.aload_n 0, 1) := by decide +kernel
theorem dX6_liveIslands_22 : decode cX6_liveIslands 22 = .ok (.getfield 32, 3) := by decide +kernel
theorem dX6_liveIslands_25 : decode cX6_liveIslands 25 = .ok (.iload_n 2, 1) := by decide +kernel
theorem dX6_liveIslands_26 : decode cX6_liveIslands 26 = .ok (.baload, 1) := by decide +kernel
theorem dX6_liveIslands_27 : decode cX6_liveIslands 27 = .ok (.ifCond .eq 7, 3) := by decide +kernel
theorem dX6_liveIslands_30 : decode cX6_liveIslands 30 = .ok (.iconst 1, 1) := by decide +kernel
theorem dX6_liveIslands_31 : decode cX6_liveIslands 31 = .ok (.goto 4, 3) := by decide +kernel
theorem dX6_liveIslands_34 : decode cX6_liveIslands 34 = .ok (.iconst 0, 1) := by decide +kernel
theorem dX6_liveIslands_35 : decode cX6_liveIslands 35 = .ok (.iadd, 1) := by decide +kernel
theorem dX6_liveIslands_36 : decode cX6_liveIslands 36 = .ok (.istore_n 1, 1) := by decide +kernel
theorem dX6_liveIslands_37 : decode cX6_liveIslands 37 = .ok (.iinc 2 1, 3) := by decide +kernel
theorem dX6_liveIslands_40 : decode cX6_liveIslands 40 = .ok (.goto (-36), 3) := by decide +kernel
theorem dX6_liveIslands_43 : decode cX6_liveIslands 43 = .ok (.iload_n 1, 1) := by decide +kernel
theorem dX6_liveIslands_44 : decode cX6_liveIslands 44 = .ok (.ireturn, 1) := by decide +kernel
theorem dX6_count_0 : decode cX6_count 0 = .ok (.aload_n 0, 1) := by decide +kernel
theorem dX6_count_1 : decode cX6_count 1 = .ok (.invokevirtual 65, 3) := by decide +kernel
theorem dX6_count_4 : decode cX6_count 4 = .ok (.iload_n 1, 1) := by decide +kernel
theorem dX6_count_5 : decode cX6_count 5 = .ok (.tableswitch 154 0 8 #[51, 59, 67, 81, 95, 103, 111, 116, 124], 51) := by decide +kernel
theorem dX6_count_56 : decode cX6_count 56 = .ok (.aload_n 0, 1) := by decide +kernel
theorem dX6_count_57 : decode cX6_count 57 = .ok (.getfield 7, 3) := by decide +kernel
theorem dX6_count_60 : decode cX6_count 60 = .ok (.bipush 39, 2) := by decide +kernel
theorem dX6_count_62 : decode cX6_count 62 = .ok (.iaload, 1) := by decide +kernel
theorem dX6_count_63 : decode cX6_count 63 = .ok (.ireturn, 1) := by decide +kernel
theorem dX6_count_64 : decode cX6_count 64 = .ok (.aload_n 0, 1) := by decide +kernel
theorem dX6_count_65 : decode cX6_count 65 = .ok (.getfield 7, 3) := by decide +kernel
theorem dX6_count_68 : decode cX6_count 68 = .ok (.bipush 40, 2) := by decide +kernel
theorem dX6_count_70 : decode cX6_count 70 = .ok (.iaload, 1) := by decide +kernel
theorem dX6_count_71 : decode cX6_count 71 = .ok (.ireturn, 1) := by decide +kernel
theorem dX6_count_72 : decode cX6_count 72 = .ok (.aload_n 0, 1) := by decide +kernel
theorem dX6_count_73 : decode cX6_count 73 = .ok (.bipush 18, 2) := by decide +kernel
theorem dX6_count_75 : decode cX6_count 75 = .ok (.aload_n 0, 1) := by decide +kernel
theorem dX6_count_76 : decode cX6_count 76 = .ok (.getfield 7, 3) := by decide +kernel
theorem dX6_count_79 : decode cX6_count 79 = .ok (.bipush 39, 2) := by decide +kernel
theorem dX6_count_81 : decode cX6_count 81 = .ok (.iaload, 1) := by decide +kernel
theorem dX6_count_82 : decode cX6_count 82 = .ok (.invokevirtual 150, 3) := by decide +kernel
theorem dX6_count_85 : decode cX6_count 85 = .ok (.ireturn, 1) := by decide +kernel
theorem dX6_count_86 : decode cX6_count 86 = .ok (.aload_n 0, 1) := by decide +kernel
theorem dX6_count_87 : decode cX6_count 87 = .ok (.bipush 36, 2) := by decide +kernel
theorem dX6_count_89 : decode cX6_count 89 = .ok (.aload_n 0, 1) := by decide +kernel
theorem dX6_count_90 : decode cX6_count 90 = .ok (.getfield 7, 3) := by decide +kernel
theorem dX6_count_93 : decode cX6_count 93 = .ok (.bipush 40, 2) := by decide +kernel
theorem dX6_count_95 : decode cX6_count 95 = .ok (.iaload, 1) := by decide +kernel
theorem dX6_count_96 : decode cX6_count 96 = .ok (.invokevirtual 150, 3) := by decide +kernel
theorem dX6_count_99 : decode cX6_count 99 = .ok (.ireturn, 1) := by decide +kernel
theorem dX6_count_100 : decode cX6_count 100 = .ok (.aload_n 0, 1) := by decide +kernel
theorem dX6_count_101 : decode cX6_count 101 = .ok (.invokevirtual 109, 3) := by decide +kernel
theorem dX6_count_104 : decode cX6_count 104 = .ok (.invokestatic 153, 3) := by decide +kernel
theorem dX6_count_107 : decode cX6_count 107 = .ok (.ireturn, 1) := by decide +kernel
theorem dX6_count_108 : decode cX6_count 108 = .ok (.aload_n 0, 1) := by decide +kernel
theorem dX6_count_109 : decode cX6_count 109 = .ok (.invokevirtual 112, 3) := by decide +kernel
theorem dX6_count_112 : decode cX6_count 112 = .ok (.invokestatic 153, 3) := by decide +kernel
theorem dX6_count_115 : decode cX6_count 115 = .ok (.ireturn, 1) := by decide +kernel
theorem dX6_count_116 : decode cX6_count 116 = .ok (.aload_n 0, 1) := by decide +kernel
theorem dX6_count_117 : decode cX6_count 117 = .ok (.invokevirtual 156, 3) := by decide +kernel
theorem dX6_count_120 : decode cX6_count 120 = .ok (.ireturn, 1) := by decide +kernel
theorem dX6_count_121 : decode cX6_count 121 = .ok (.aload_n 0, 1) := by decide +kernel
theorem dX6_count_122 : decode cX6_count 122 = .ok (.getfield 7, 3) := by decide +kernel
theorem dX6_count_125 : decode cX6_count 125 = .ok (.bipush 41, 2) := by decide +kernel
theorem dX6_count_127 : decode cX6_count 127 = .ok (.iaload, 1) := by decide +kernel
theorem dX6_count_128 : decode cX6_count 128 = .ok (.ireturn, 1) := by decide +kernel
theorem dX6_count_129 : decode cX6_count 129 = .ok (.aload_n 0, 1) := by decide +kernel
theorem dX6_count_130 : decode cX6_count 130 = .ok (.getfield 16, 3) := by decide +kernel
theorem dX6_count_133 : decode cX6_count 133 = .ok (.iconst 0, 1) := by decide +kernel
theorem dX6_count_134 : decode cX6_count 134 = .ok (.baload, 1) := by decide +kernel
theorem dX6_count_135 : decode cX6_count 135 = .ok (.ifCond .eq 7, 3) := by decide +kernel
theorem dX6_count_138 : decode cX6_count 138 = .ok (.iconst 1, 1) := by decide +kernel
theorem dX6_count_139 : decode cX6_count 139 = .ok (.goto 4, 3) := by decide +kernel
theorem dX6_count_142 : decode cX6_count 142 = .ok (.iconst 0, 1) := by decide +kernel
theorem dX6_count_143 : decode cX6_count 143 = .ok (.aload_n 0, 1) := by decide +kernel
theorem dX6_count_144 : decode cX6_count 144 = .ok (.getfield 16, 3) := by decide +kernel
theorem dX6_count_147 : decode cX6_count 147 = .ok (.iconst 1, 1) := by decide +kernel
theorem dX6_count_148 : decode cX6_count 148 = .ok (.baload, 1) := by decide +kernel
theorem dX6_count_149 : decode cX6_count 149 = .ok (.ifCond .eq 7, 3) := by decide +kernel
theorem dX6_count_152 : decode cX6_count 152 = .ok (.iconst 2, 1) := by decide +kernel
theorem dX6_count_153 : decode cX6_count 153 = .ok (.goto 4, 3) := by decide +kernel
theorem dX6_count_156 : decode cX6_count 156 = .ok (.iconst 0, 1) := by decide +kernel
theorem dX6_count_157 : decode cX6_count 157 = .ok (.iadd, 1) := by decide +kernel
theorem dX6_count_158 : decode cX6_count 158 = .ok (.ireturn, 1) := by decide +kernel
theorem dX6_count_159 : decode cX6_count 159 = .ok (.bipush (-2), 2) := by decide +kernel
theorem dX6_count_161 : decode cX6_count 161 = .ok (.ireturn, 1) := by decide +kernel
theorem dJ6_bitCount_0f7a4_0 : decode cJ6_bitCount_0f7a4 0 = .ok (.iload_n 0, 1) := by decide +kernel
theorem dJ6_bitCount_0f7a4_1 : decode cJ6_bitCount_0f7a4 1 = .ok (.iload_n 0, 1) := by decide +kernel
theorem dJ6_bitCount_0f7a4_2 : decode cJ6_bitCount_0f7a4 2 = .ok (.iconst 1, 1) := by decide +kernel
theorem dJ6_bitCount_0f7a4_3 : decode cJ6_bitCount_0f7a4 3 = .ok (.iushr, 1) := by decide +kernel
theorem dJ6_bitCount_0f7a4_4 : decode cJ6_bitCount_0f7a4 4 = .ok (.ldc_w 265, 3) := by decide +kernel
theorem dJ6_bitCount_0f7a4_7 : decode cJ6_bitCount_0f7a4 7 = .ok (.iand, 1) := by decide +kernel
theorem dJ6_bitCount_0f7a4_8 : decode cJ6_bitCount_0f7a4 8 = .ok (.isub, 1) := by decide +kernel
theorem dJ6_bitCount_0f7a4_9 : decode cJ6_bitCount_0f7a4 9 = .ok (.istore_n 0, 1) := by decide +kernel
theorem dJ6_bitCount_0f7a4_10 : decode cJ6_bitCount_0f7a4 10 = .ok (.iload_n 0, 1) := by decide +kernel
theorem dJ6_bitCount_0f7a4_11 : decode cJ6_bitCount_0f7a4 11 = .ok (.ldc_w 266, 3) := by decide +kernel
theorem dJ6_bitCount_0f7a4_14 : decode cJ6_bitCount_0f7a4 14 = .ok (.iand, 1) := by decide +kernel
theorem dJ6_bitCount_0f7a4_15 : decode cJ6_bitCount_0f7a4 15 = .ok (.iload_n 0, 1) := by decide +kernel
theorem dJ6_bitCount_0f7a4_16 : decode cJ6_bitCount_0f7a4 16 = .ok (.iconst 2, 1) := by decide +kernel
theorem dJ6_bitCount_0f7a4_17 : decode cJ6_bitCount_0f7a4 17 = .ok (.iushr, 1) := by decide +kernel
theorem dJ6_bitCount_0f7a4_18 : decode cJ6_bitCount_0f7a4 18 = .ok (.ldc_w 266, 3) := by decide +kernel
theorem dJ6_bitCount_0f7a4_21 : decode cJ6_bitCount_0f7a4 21 = .ok (.iand, 1) := by decide +kernel
theorem dJ6_bitCount_0f7a4_22 : decode cJ6_bitCount_0f7a4 22 = .ok (.iadd, 1) := by decide +kernel
theorem dJ6_bitCount_0f7a4_23 : decode cJ6_bitCount_0f7a4 23 = .ok (.istore_n 0, 1) := by decide +kernel
theorem dJ6_bitCount_0f7a4_24 : decode cJ6_bitCount_0f7a4 24 = .ok (.iload_n 0, 1) := by decide +kernel
theorem dJ6_bitCount_0f7a4_25 : decode cJ6_bitCount_0f7a4 25 = .ok (.iload_n 0, 1) := by decide +kernel
theorem dJ6_bitCount_0f7a4_26 : decode cJ6_bitCount_0f7a4 26 = .ok (.iconst 4, 1) := by decide +kernel
theorem dJ6_bitCount_0f7a4_27 : decode cJ6_bitCount_0f7a4 27 = .ok (.iushr, 1) := by decide +kernel
theorem dJ6_bitCount_0f7a4_28 : decode cJ6_bitCount_0f7a4 28 = .ok (.iadd, 1) := by decide +kernel
theorem dJ6_bitCount_0f7a4_29 : decode cJ6_bitCount_0f7a4 29 = .ok (.ldc_w 267, 3) := by decide +kernel
theorem dJ6_bitCount_0f7a4_32 : decode cJ6_bitCount_0f7a4 32 = .ok (.iand, 1) := by decide +kernel
theorem dJ6_bitCount_0f7a4_33 : decode cJ6_bitCount_0f7a4 33 = .ok (.istore_n 0, 1) := by decide +kernel
theorem dJ6_bitCount_0f7a4_34 : decode cJ6_bitCount_0f7a4 34 = .ok (.iload_n 0, 1) := by decide +kernel
theorem dJ6_bitCount_0f7a4_35 : decode cJ6_bitCount_0f7a4 35 = .ok (.iload_n 0, 1) := by decide +kernel
theorem dJ6_bitCount_0f7a4_36 : decode cJ6_bitCount_0f7a4 36 = .ok (.bipush 8, 2) := by decide +kernel
theorem dJ6_bitCount_0f7a4_38 : decode cJ6_bitCount_0f7a4 38 = .ok (.iushr, 1) := by decide +kernel
theorem dJ6_bitCount_0f7a4_39 : decode cJ6_bitCount_0f7a4 39 = .ok (.iadd, 1) := by decide +kernel
theorem dJ6_bitCount_0f7a4_40 : decode cJ6_bitCount_0f7a4 40 = .ok (.istore_n 0, 1) := by decide +kernel
theorem dJ6_bitCount_0f7a4_41 : decode cJ6_bitCount_0f7a4 41 = .ok (.iload_n 0, 1) := by decide +kernel
theorem dJ6_bitCount_0f7a4_42 : decode cJ6_bitCount_0f7a4 42 = .ok (.iload_n 0, 1) := by decide +kernel
theorem dJ6_bitCount_0f7a4_43 : decode cJ6_bitCount_0f7a4 43 = .ok (.bipush 16, 2) := by decide +kernel
theorem dJ6_bitCount_0f7a4_45 : decode cJ6_bitCount_0f7a4 45 = .ok (.iushr, 1) := by decide +kernel
theorem dJ6_bitCount_0f7a4_46 : decode cJ6_bitCount_0f7a4 46 = .ok (.iadd, 1) := by decide +kernel
theorem dJ6_bitCount_0f7a4_47 : decode cJ6_bitCount_0f7a4 47 = .ok (.istore_n 0, 1) := by decide +kernel
theorem dJ6_bitCount_0f7a4_48 : decode cJ6_bitCount_0f7a4 48 = .ok (.iload_n 0, 1) := by decide +kernel
theorem dJ6_bitCount_0f7a4_49 : decode cJ6_bitCount_0f7a4 49 = .ok (.bipush 63, 2) := by decide +kernel
theorem dJ6_bitCount_0f7a4_51 : decode cJ6_bitCount_0f7a4 51 = .ok (.iand, 1) := by decide +kernel
theorem dJ6_bitCount_0f7a4_52 : decode cJ6_bitCount_0f7a4 52 = .ok (.ireturn, 1) := by decide +kernel
theorem dJ9_max_7cf53_0 : decode cJ9_max_7cf53 0 = .ok (.iload_n 0, 1) := by decide +kernel
theorem dJ9_max_7cf53_1 : decode cJ9_max_7cf53 1 = .ok (.iload_n 1, 1) := by decide +kernel
theorem dJ9_max_7cf53_2 : decode cJ9_max_7cf53 2 = .ok (.if_icmp .lt 7, 3) := by decide +kernel
theorem dJ9_max_7cf53_5 : decode cJ9_max_7cf53 5 = .ok (.iload_n 0, 1) := by decide +kernel
theorem dJ9_max_7cf53_6 : decode cJ9_max_7cf53 6 = .ok (.goto 4, 3) := by decide +kernel
theorem dJ9_max_7cf53_9 : decode cJ9_max_7cf53 9 = .ok (.iload_n 1, 1) := by decide +kernel
theorem dJ9_max_7cf53_10 : decode cJ9_max_7cf53 10 = .ok (.ireturn, 1) := by decide +kernel
theorem dJ9_min_7cf53_0 : decode cJ9_min_7cf53 0 = .ok (.iload_n 0, 1) := by decide +kernel
theorem dJ9_min_7cf53_1 : decode cJ9_min_7cf53 1 = .ok (.iload_n 1, 1) := by decide +kernel
theorem dJ9_min_7cf53_2 : decode cJ9_min_7cf53 2 = .ok (.if_icmp .gt 7, 3) := by decide +kernel
theorem dJ9_min_7cf53_5 : decode cJ9_min_7cf53 5 = .ok (.iload_n 0, 1) := by decide +kernel
theorem dJ9_min_7cf53_6 : decode cJ9_min_7cf53 6 = .ok (.goto 4, 3) := by decide +kernel
theorem dJ9_min_7cf53_9 : decode cJ9_min_7cf53 9 = .ok (.iload_n 1, 1) := by decide +kernel
theorem dJ9_min_7cf53_10 : decode cJ9_min_7cf53 10 = .ok (.ireturn, 1) := by decide +kernel
theorem dL_law_0 : decode cL_law 0 = .ok (.new 7, 3) := by decide +kernel
theorem dL_law_3 : decode cL_law 3 = .ok (.dup, 1) := by decide +kernel
theorem dL_law_4 : decode cL_law 4 = .ok (.invokespecial 9, 3) := by decide +kernel
theorem dL_law_7 : decode cL_law 7 = .ok (.astore_n 1, 1) := by decide +kernel
theorem dL_law_8 : decode cL_law 8 = .ok (.new 10, 3) := by decide +kernel
theorem dL_law_11 : decode cL_law 11 = .ok (.dup, 1) := by decide +kernel
theorem dL_law_12 : decode cL_law 12 = .ok (.invokespecial 12, 3) := by decide +kernel
theorem dL_law_15 : decode cL_law 15 = .ok (.astore_n 2, 1) := by decide +kernel
theorem dL_law_16 : decode cL_law 16 = .ok (.iconst 0, 1) := by decide +kernel
theorem dL_law_17 : decode cL_law 17 = .ok (.istore_n 3, 1) := by decide +kernel
theorem dL_law_18 : decode cL_law 18 = .ok (.iload_n 3, 1) := by decide +kernel
theorem dL_law_19 : decode cL_law 19 = .ok (.aload_n 0, 1) := by decide +kernel
theorem dL_law_20 : decode cL_law 20 = .ok (.arraylength, 1) := by decide +kernel
theorem dL_law_21 : decode cL_law 21 = .ok (.iconst 5, 1) := by decide +kernel
theorem dL_law_22 : decode cL_law 22 = .ok (.isub, 1) := by decide +kernel
theorem dL_law_23 : decode cL_law 23 = .ok (.if_icmp .gt 600, 3) := by decide +kernel
theorem dL_law_26 : decode cL_law 26 = .ok (.aload_n 0, 1) := by decide +kernel
theorem dL_law_27 : decode cL_law 27 = .ok (.iload_n 3, 1) := by decide +kernel
theorem dL_law_28 : decode cL_law 28 = .ok (.iaload, 1) := by decide +kernel
theorem dL_law_29 : decode cL_law 29 = .ok (.bipush 31, 2) := by decide +kernel
theorem dL_law_31 : decode cL_law 31 = .ok (.iand, 1) := by decide +kernel
theorem dL_law_32 : decode cL_law 32 = .ok (.tableswitch 585 0 16 #[84, 127, 180, 193, 226, 259, 292, 305, 328, 351, 374, 417, 450, 493, 516, 539, 562], 84) := by decide +kernel
theorem dL_law_116 : decode cL_law 116 = .ok (.aload_n 1, 1) := by decide +kernel
theorem dL_law_117 : decode cL_law 117 = .ok (.aload_n 0, 1) := by decide +kernel
theorem dL_law_118 : decode cL_law 118 = .ok (.iload_n 3, 1) := by decide +kernel
theorem dL_law_119 : decode cL_law 119 = .ok (.iconst 1, 1) := by decide +kernel
theorem dL_law_120 : decode cL_law 120 = .ok (.iadd, 1) := by decide +kernel
theorem dL_law_121 : decode cL_law 121 = .ok (.iaload, 1) := by decide +kernel
theorem dL_law_122 : decode cL_law 122 = .ok (.aload_n 0, 1) := by decide +kernel
theorem dL_law_123 : decode cL_law 123 = .ok (.iload_n 3, 1) := by decide +kernel
theorem dL_law_124 : decode cL_law 124 = .ok (.iconst 2, 1) := by decide +kernel
theorem dL_law_125 : decode cL_law 125 = .ok (.iadd, 1) := by decide +kernel
theorem dL_law_126 : decode cL_law 126 = .ok (.iaload, 1) := by decide +kernel
theorem dL_law_127 : decode cL_law 127 = .ok (.aload_n 0, 1) := by decide +kernel
theorem dL_law_128 : decode cL_law 128 = .ok (.iload_n 3, 1) := by decide +kernel
theorem dL_law_129 : decode cL_law 129 = .ok (.iconst 3, 1) := by decide +kernel
theorem dL_law_130 : decode cL_law 130 = .ok (.iadd, 1) := by decide +kernel
theorem dL_law_131 : decode cL_law 131 = .ok (.iaload, 1) := by decide +kernel
theorem dL_law_132 : decode cL_law 132 = .ok (.invokevirtual 13, 3) := by decide +kernel
theorem dL_law_135 : decode cL_law 135 = .ok (.aload_n 2, 1) := by decide +kernel
theorem dL_law_136 : decode cL_law 136 = .ok (.aload_n 0, 1) := by decide +kernel
theorem dL_law_137 : decode cL_law 137 = .ok (.iload_n 3, 1) := by decide +kernel
theorem dL_law_138 : decode cL_law 138 = .ok (.iconst 1, 1) := by decide +kernel
theorem dL_law_139 : decode cL_law 139 = .ok (.iadd, 1) := by decide +kernel
theorem dL_law_140 : decode cL_law 140 = .ok (.iaload, 1) := by decide +kernel
theorem dL_law_141 : decode cL_law 141 = .ok (.aload_n 0, 1) := by decide +kernel
theorem dL_law_142 : decode cL_law 142 = .ok (.iload_n 3, 1) := by decide +kernel
theorem dL_law_143 : decode cL_law 143 = .ok (.iconst 2, 1) := by decide +kernel
theorem dL_law_144 : decode cL_law 144 = .ok (.iadd, 1) := by decide +kernel
theorem dL_law_145 : decode cL_law 145 = .ok (.iaload, 1) := by decide +kernel
theorem dL_law_146 : decode cL_law 146 = .ok (.aload_n 0, 1) := by decide +kernel
theorem dL_law_147 : decode cL_law 147 = .ok (.iload_n 3, 1) := by decide +kernel
theorem dL_law_148 : decode cL_law 148 = .ok (.iconst 3, 1) := by decide +kernel
theorem dL_law_149 : decode cL_law 149 = .ok (.iadd, 1) := by decide +kernel
theorem dL_law_150 : decode cL_law 150 = .ok (.iaload, 1) := by decide +kernel
theorem dL_law_151 : decode cL_law 151 = .ok (.invokevirtual 17, 3) := by decide +kernel
theorem dL_law_154 : decode cL_law 154 = .ok (.if_icmp .eq 463, 3) := by decide +kernel
theorem dL_law_157 : decode cL_law 157 = .ok (.iconst 0, 1) := by decide +kernel
theorem dL_law_158 : decode cL_law 158 = .ok (.ireturn, 1) := by decide +kernel
theorem dL_law_159 : decode cL_law 159 = .ok (.aload_n 1, 1) := by decide +kernel
theorem dL_law_160 : decode cL_law 160 = .ok (.aload_n 0, 1) := by decide +kernel
theorem dL_law_161 : decode cL_law 161 = .ok (.iload_n 3, 1) := by decide +kernel
theorem dL_law_162 : decode cL_law 162 = .ok (.iconst 1, 1) := by decide +kernel
theorem dL_law_163 : decode cL_law 163 = .ok (.iadd, 1) := by decide +kernel
theorem dL_law_164 : decode cL_law 164 = .ok (.iaload, 1) := by decide +kernel
theorem dL_law_165 : decode cL_law 165 = .ok (.aload_n 0, 1) := by decide +kernel
theorem dL_law_166 : decode cL_law 166 = .ok (.iload_n 3, 1) := by decide +kernel
theorem dL_law_167 : decode cL_law 167 = .ok (.iconst 2, 1) := by decide +kernel
theorem dL_law_168 : decode cL_law 168 = .ok (.iadd, 1) := by decide +kernel
theorem dL_law_169 : decode cL_law 169 = .ok (.iaload, 1) := by decide +kernel
theorem dL_law_170 : decode cL_law 170 = .ok (.aload_n 0, 1) := by decide +kernel
theorem dL_law_171 : decode cL_law 171 = .ok (.iload_n 3, 1) := by decide +kernel
theorem dL_law_172 : decode cL_law 172 = .ok (.iconst 3, 1) := by decide +kernel
theorem dL_law_173 : decode cL_law 173 = .ok (.iadd, 1) := by decide +kernel
theorem dL_law_174 : decode cL_law 174 = .ok (.iaload, 1) := by decide +kernel
theorem dL_law_175 : decode cL_law 175 = .ok (.aload_n 0, 1) := by decide +kernel
theorem dL_law_176 : decode cL_law 176 = .ok (.iload_n 3, 1) := by decide +kernel
theorem dL_law_177 : decode cL_law 177 = .ok (.iconst 4, 1) := by decide +kernel
theorem dL_law_178 : decode cL_law 178 = .ok (.iadd, 1) := by decide +kernel
theorem dL_law_179 : decode cL_law 179 = .ok (.iaload, 1) := by decide +kernel
theorem dL_law_180 : decode cL_law 180 = .ok (.invokevirtual 18, 3) := by decide +kernel
theorem dL_law_183 : decode cL_law 183 = .ok (.aload_n 2, 1) := by decide +kernel
theorem dL_law_184 : decode cL_law 184 = .ok (.aload_n 0, 1) := by decide +kernel
theorem dL_law_185 : decode cL_law 185 = .ok (.iload_n 3, 1) := by decide +kernel
theorem dL_law_186 : decode cL_law 186 = .ok (.iconst 1, 1) := by decide +kernel
theorem dL_law_187 : decode cL_law 187 = .ok (.iadd, 1) := by decide +kernel
theorem dL_law_188 : decode cL_law 188 = .ok (.iaload, 1) := by decide +kernel
theorem dL_law_189 : decode cL_law 189 = .ok (.aload_n 0, 1) := by decide +kernel
theorem dL_law_190 : decode cL_law 190 = .ok (.iload_n 3, 1) := by decide +kernel
theorem dL_law_191 : decode cL_law 191 = .ok (.iconst 2, 1) := by decide +kernel
theorem dL_law_192 : decode cL_law 192 = .ok (.iadd, 1) := by decide +kernel
theorem dL_law_193 : decode cL_law 193 = .ok (.iaload, 1) := by decide +kernel
theorem dL_law_194 : decode cL_law 194 = .ok (.aload_n 0, 1) := by decide +kernel
theorem dL_law_195 : decode cL_law 195 = .ok (.iload_n 3, 1) := by decide +kernel
theorem dL_law_196 : decode cL_law 196 = .ok (.iconst 3, 1) := by decide +kernel
theorem dL_law_197 : decode cL_law 197 = .ok (.iadd, 1) := by decide +kernel
theorem dL_law_198 : decode cL_law 198 = .ok (.iaload, 1) := by decide +kernel
theorem dL_law_199 : decode cL_law 199 = .ok (.aload_n 0, 1) := by decide +kernel
theorem dL_law_200 : decode cL_law 200 = .ok (.iload_n 3, 1) := by decide +kernel
theorem dL_law_201 : decode cL_law 201 = .ok (.iconst 4, 1) := by decide +kernel
theorem dL_law_202 : decode cL_law 202 = .ok (.iadd, 1) := by decide +kernel
theorem dL_law_203 : decode cL_law 203 = .ok (.iaload, 1) := by decide +kernel
theorem dL_law_204 : decode cL_law 204 = .ok (.invokevirtual 22, 3) := by decide +kernel
theorem dL_law_207 : decode cL_law 207 = .ok (.if_icmp .eq 410, 3) := by decide +kernel
theorem dL_law_210 : decode cL_law 210 = .ok (.iconst 0, 1) := by decide +kernel
theorem dL_law_211 : decode cL_law 211 = .ok (.ireturn, 1) := by decide +kernel
theorem dL_law_212 : decode cL_law 212 = .ok (.aload_n 1, 1) := by decide +kernel
theorem dL_law_213 : decode cL_law 213 = .ok (.invokevirtual 23, 3) := by decide +kernel
theorem dL_law_216 : decode cL_law 216 = .ok (.aload_n 2, 1) := by decide +kernel
theorem dL_law_217 : decode cL_law 217 = .ok (.invokevirtual 27, 3) := by decide +kernel
theorem dL_law_220 : decode cL_law 220 = .ok (.if_icmp .eq 397, 3) := by decide +kernel
theorem dL_law_223 : decode cL_law 223 = .ok (.iconst 0, 1) := by decide +kernel
theorem dL_law_224 : decode cL_law 224 = .ok (.ireturn, 1) := by decide +kernel
theorem dL_law_225 : decode cL_law 225 = .ok (.aload_n 1, 1) := by decide +kernel
theorem dL_law_226 : decode cL_law 226 = .ok (.aload_n 0, 1) := by decide +kernel
theorem dL_law_227 : decode cL_law 227 = .ok (.iload_n 3, 1) := by decide +kernel
theorem dL_law_228 : decode cL_law 228 = .ok (.iconst 1, 1) := by decide +kernel
theorem dL_law_229 : decode cL_law 229 = .ok (.iadd, 1) := by decide +kernel
theorem dL_law_230 : decode cL_law 230 = .ok (.iaload, 1) := by decide +kernel
theorem dL_law_231 : decode cL_law 231 = .ok (.aload_n 0, 1) := by decide +kernel
theorem dL_law_232 : decode cL_law 232 = .ok (.iload_n 3, 1) := by decide +kernel
theorem dL_law_233 : decode cL_law 233 = .ok (.iconst 2, 1) := by decide +kernel
theorem dL_law_234 : decode cL_law 234 = .ok (.iadd, 1) := by decide +kernel
theorem dL_law_235 : decode cL_law 235 = .ok (.iaload, 1) := by decide +kernel
theorem dL_law_236 : decode cL_law 236 = .ok (.invokevirtual 28, 3) := by decide +kernel
theorem dL_law_239 : decode cL_law 239 = .ok (.aload_n 2, 1) := by decide +kernel
theorem dL_law_240 : decode cL_law 240 = .ok (.aload_n 0, 1) := by decide +kernel
theorem dL_law_241 : decode cL_law 241 = .ok (.iload_n 3, 1) := by decide +kernel
theorem dL_law_242 : decode cL_law 242 = .ok (.iconst 1, 1) := by decide +kernel
theorem dL_law_243 : decode cL_law 243 = .ok (.iadd, 1) := by decide +kernel
theorem dL_law_244 : decode cL_law 244 = .ok (.iaload, 1) := by decide +kernel
theorem dL_law_245 : decode cL_law 245 = .ok (.aload_n 0, 1) := by decide +kernel
theorem dL_law_246 : decode cL_law 246 = .ok (.iload_n 3, 1) := by decide +kernel
theorem dL_law_247 : decode cL_law 247 = .ok (.iconst 2, 1) := by decide +kernel
theorem dL_law_248 : decode cL_law 248 = .ok (.iadd, 1) := by decide +kernel
theorem dL_law_249 : decode cL_law 249 = .ok (.iaload, 1) := by decide +kernel
theorem dL_law_250 : decode cL_law 250 = .ok (.invokevirtual 32, 3) := by decide +kernel
theorem dL_law_253 : decode cL_law 253 = .ok (.if_icmp .eq 364, 3) := by decide +kernel
theorem dL_law_256 : decode cL_law 256 = .ok (.iconst 0, 1) := by decide +kernel
theorem dL_law_257 : decode cL_law 257 = .ok (.ireturn, 1) := by decide +kernel
theorem dL_law_258 : decode cL_law 258 = .ok (.aload_n 1, 1) := by decide +kernel
theorem dL_law_259 : decode cL_law 259 = .ok (.aload_n 0, 1) := by decide +kernel
theorem dL_law_260 : decode cL_law 260 = .ok (.iload_n 3, 1) := by decide +kernel
theorem dL_law_261 : decode cL_law 261 = .ok (.iconst 1, 1) := by decide +kernel
theorem dL_law_262 : decode cL_law 262 = .ok (.iadd, 1) := by decide +kernel
theorem dL_law_263 : decode cL_law 263 = .ok (.iaload, 1) := by decide +kernel
theorem dL_law_264 : decode cL_law 264 = .ok (.aload_n 0, 1) := by decide +kernel
theorem dL_law_265 : decode cL_law 265 = .ok (.iload_n 3, 1) := by decide +kernel
theorem dL_law_266 : decode cL_law 266 = .ok (.iconst 2, 1) := by decide +kernel
theorem dL_law_267 : decode cL_law 267 = .ok (.iadd, 1) := by decide +kernel
theorem dL_law_268 : decode cL_law 268 = .ok (.iaload, 1) := by decide +kernel
theorem dL_law_269 : decode cL_law 269 = .ok (.invokevirtual 33, 3) := by decide +kernel
theorem dL_law_272 : decode cL_law 272 = .ok (.aload_n 2, 1) := by decide +kernel
theorem dL_law_273 : decode cL_law 273 = .ok (.aload_n 0, 1) := by decide +kernel
theorem dL_law_274 : decode cL_law 274 = .ok (.iload_n 3, 1) := by decide +kernel
theorem dL_law_275 : decode cL_law 275 = .ok (.iconst 1, 1) := by decide +kernel
theorem dL_law_276 : decode cL_law 276 = .ok (.iadd, 1) := by decide +kernel
theorem dL_law_277 : decode cL_law 277 = .ok (.iaload, 1) := by decide +kernel
theorem dL_law_278 : decode cL_law 278 = .ok (.aload_n 0, 1) := by decide +kernel
theorem dL_law_279 : decode cL_law 279 = .ok (.iload_n 3, 1) := by decide +kernel
theorem dL_law_280 : decode cL_law 280 = .ok (.iconst 2, 1) := by decide +kernel
theorem dL_law_281 : decode cL_law 281 = .ok (.iadd, 1) := by decide +kernel
theorem dL_law_282 : decode cL_law 282 = .ok (.iaload, 1) := by decide +kernel
theorem dL_law_283 : decode cL_law 283 = .ok (.invokevirtual 36, 3) := by decide +kernel
theorem dL_law_286 : decode cL_law 286 = .ok (.if_icmp .eq 331, 3) := by decide +kernel
theorem dL_law_289 : decode cL_law 289 = .ok (.iconst 0, 1) := by decide +kernel
theorem dL_law_290 : decode cL_law 290 = .ok (.ireturn, 1) := by decide +kernel
theorem dL_law_291 : decode cL_law 291 = .ok (.aload_n 1, 1) := by decide +kernel
theorem dL_law_292 : decode cL_law 292 = .ok (.aload_n 0, 1) := by decide +kernel
theorem dL_law_293 : decode cL_law 293 = .ok (.iload_n 3, 1) := by decide +kernel
theorem dL_law_294 : decode cL_law 294 = .ok (.iconst 1, 1) := by decide +kernel
theorem dL_law_295 : decode cL_law 295 = .ok (.iadd, 1) := by decide +kernel
theorem dL_law_296 : decode cL_law 296 = .ok (.iaload, 1) := by decide +kernel
theorem dL_law_297 : decode cL_law 297 = .ok (.aload_n 0, 1) := by decide +kernel
theorem dL_law_298 : decode cL_law 298 = .ok (.iload_n 3, 1) := by decide +kernel
theorem dL_law_299 : decode cL_law 299 = .ok (.iconst 2, 1) := by decide +kernel
theorem dL_law_300 : decode cL_law 300 = .ok (.iadd, 1) := by decide +kernel
theorem dL_law_301 : decode cL_law 301 = .ok (.iaload, 1) := by decide +kernel
theorem dL_law_302 : decode cL_law 302 = .ok (.invokevirtual 37, 3) := by decide +kernel
theorem dL_law_305 : decode cL_law 305 = .ok (.aload_n 2, 1) := by decide +kernel
theorem dL_law_306 : decode cL_law 306 = .ok (.aload_n 0, 1) := by decide +kernel
theorem dL_law_307 : decode cL_law 307 = .ok (.iload_n 3, 1) := by decide +kernel
theorem dL_law_308 : decode cL_law 308 = .ok (.iconst 1, 1) := by decide +kernel
theorem dL_law_309 : decode cL_law 309 = .ok (.iadd, 1) := by decide +kernel
theorem dL_law_310 : decode cL_law 310 = .ok (.iaload, 1) := by decide +kernel
theorem dL_law_311 : decode cL_law 311 = .ok (.aload_n 0, 1) := by decide +kernel
theorem dL_law_312 : decode cL_law 312 = .ok (.iload_n 3, 1) := by decide +kernel
theorem dL_law_313 : decode cL_law 313 = .ok (.iconst 2, 1) := by decide +kernel
theorem dL_law_314 : decode cL_law 314 = .ok (.iadd, 1) := by decide +kernel
theorem dL_law_315 : decode cL_law 315 = .ok (.iaload, 1) := by decide +kernel
theorem dL_law_316 : decode cL_law 316 = .ok (.invokevirtual 40, 3) := by decide +kernel
theorem dL_law_319 : decode cL_law 319 = .ok (.if_icmp .eq 298, 3) := by decide +kernel
theorem dL_law_322 : decode cL_law 322 = .ok (.iconst 0, 1) := by decide +kernel
theorem dL_law_323 : decode cL_law 323 = .ok (.ireturn, 1) := by decide +kernel
theorem dL_law_324 : decode cL_law 324 = .ok (.aload_n 1, 1) := by decide +kernel
theorem dL_law_325 : decode cL_law 325 = .ok (.invokevirtual 41, 3) := by decide +kernel
theorem dL_law_328 : decode cL_law 328 = .ok (.aload_n 2, 1) := by decide +kernel
end
section
theorem dL_law_329 : decode cL_law 329 = .ok (.invokevirtual 44, 3) := by decide +kernel
theorem dL_law_332 : decode cL_law 332 = .ok (.if_icmp .eq 285, 3) := by decide +kernel
theorem dL_law_335 : decode cL_law 335 = .ok (.iconst 0, 1) := by decide +kernel
theorem dL_law_336 : decode cL_law 336 = .ok (.ireturn, 1) := by decide +kernel
theorem dL_law_337 : decode cL_law 337 = .ok (.aload_n 1, 1) := by decide +kernel
theorem dL_law_338 : decode cL_law 338 = .ok (.aload_n 0, 1) := by decide +kernel
theorem dL_law_339 : decode cL_law 339 = .ok (.iload_n 3, 1) := by decide +kernel
theorem dL_law_340 : decode cL_law 340 = .ok (.iconst 1, 1) := by decide +kernel
theorem dL_law_341 : decode cL_law 341 = .ok (.iadd, 1) := by decide +kernel
theorem dL_law_342 : decode cL_law 342 = .ok (.iaload, 1) := by decide +kernel
theorem dL_law_343 : decode cL_law 343 = .ok (.invokevirtual 45, 3) := by decide +kernel
theorem dL_law_346 : decode cL_law 346 = .ok (.aload_n 2, 1) := by decide +kernel
theorem dL_law_347 : decode cL_law 347 = .ok (.aload_n 0, 1) := by decide +kernel
theorem dL_law_348 : decode cL_law 348 = .ok (.iload_n 3, 1) := by decide +kernel
theorem dL_law_349 : decode cL_law 349 = .ok (.iconst 1, 1) := by decide +kernel
theorem dL_law_350 : decode cL_law 350 = .ok (.iadd, 1) := by decide +kernel
theorem dL_law_351 : decode cL_law 351 = .ok (.iaload, 1) := by decide +kernel
theorem dL_law_352 : decode cL_law 352 = .ok (.invokevirtual 49, 3) := by decide +kernel
theorem dL_law_355 : decode cL_law 355 = .ok (.if_icmp .eq 262, 3) := by decide +kernel
theorem dL_law_358 : decode cL_law 358 = .ok (.iconst 0, 1) := by decide +kernel
theorem dL_law_359 : decode cL_law 359 = .ok (.ireturn, 1) := by decide +kernel
theorem dL_law_360 : decode cL_law 360 = .ok (.aload_n 1, 1) := by decide +kernel
theorem dL_law_361 : decode cL_law 361 = .ok (.aload_n 0, 1) := by decide +kernel
theorem dL_law_362 : decode cL_law 362 = .ok (.iload_n 3, 1) := by decide +kernel
theorem dL_law_363 : decode cL_law 363 = .ok (.iconst 1, 1) := by decide +kernel
theorem dL_law_364 : decode cL_law 364 = .ok (.iadd, 1) := by decide +kernel
theorem dL_law_365 : decode cL_law 365 = .ok (.iaload, 1) := by decide +kernel
theorem dL_law_366 : decode cL_law 366 = .ok (.invokevirtual 50, 3) := by decide +kernel
theorem dL_law_369 : decode cL_law 369 = .ok (.aload_n 2, 1) := by decide +kernel
theorem dL_law_370 : decode cL_law 370 = .ok (.aload_n 0, 1) := by decide +kernel
theorem dL_law_371 : decode cL_law 371 = .ok (.iload_n 3, 1) := by decide +kernel
theorem dL_law_372 : decode cL_law 372 = .ok (.iconst 1, 1) := by decide +kernel
theorem dL_law_373 : decode cL_law 373 = .ok (.iadd, 1) := by decide +kernel
theorem dL_law_374 : decode cL_law 374 = .ok (.iaload, 1) := by decide +kernel
theorem dL_law_375 : decode cL_law 375 = .ok (.invokevirtual 53, 3) := by decide +kernel
theorem dL_law_378 : decode cL_law 378 = .ok (.if_icmp .eq 239, 3) := by decide +kernel
theorem dL_law_381 : decode cL_law 381 = .ok (.iconst 0, 1) := by decide +kernel
theorem dL_law_382 : decode cL_law 382 = .ok (.ireturn, 1) := by decide +kernel
theorem dL_law_383 : decode cL_law 383 = .ok (.aload_n 1, 1) := by decide +kernel
theorem dL_law_384 : decode cL_law 384 = .ok (.aload_n 0, 1) := by decide +kernel
theorem dL_law_385 : decode cL_law 385 = .ok (.iload_n 3, 1) := by decide +kernel
theorem dL_law_386 : decode cL_law 386 = .ok (.iconst 1, 1) := by decide +kernel
theorem dL_law_387 : decode cL_law 387 = .ok (.iadd, 1) := by decide +kernel
theorem dL_law_388 : decode cL_law 388 = .ok (.iaload, 1) := by decide +kernel
theorem dL_law_389 : decode cL_law 389 = .ok (.invokevirtual 54, 3) := by decide +kernel
theorem dL_law_392 : decode cL_law 392 = .ok (.aload_n 2, 1) := by decide +kernel
theorem dL_law_393 : decode cL_law 393 = .ok (.aload_n 0, 1) := by decide +kernel
theorem dL_law_394 : decode cL_law 394 = .ok (.iload_n 3, 1) := by decide +kernel
theorem dL_law_395 : decode cL_law 395 = .ok (.iconst 1, 1) := by decide +kernel
theorem dL_law_396 : decode cL_law 396 = .ok (.iadd, 1) := by decide +kernel
theorem dL_law_397 : decode cL_law 397 = .ok (.iaload, 1) := by decide +kernel
theorem dL_law_398 : decode cL_law 398 = .ok (.invokevirtual 57, 3) := by decide +kernel
theorem dL_law_401 : decode cL_law 401 = .ok (.if_icmp .eq 216, 3) := by decide +kernel
theorem dL_law_404 : decode cL_law 404 = .ok (.iconst 0, 1) := by decide +kernel
theorem dL_law_405 : decode cL_law 405 = .ok (.ireturn, 1) := by decide +kernel
theorem dL_law_406 : decode cL_law 406 = .ok (.aload_n 1, 1) := by decide +kernel
theorem dL_law_407 : decode cL_law 407 = .ok (.aload_n 0, 1) := by decide +kernel
theorem dL_law_408 : decode cL_law 408 = .ok (.iload_n 3, 1) := by decide +kernel
theorem dL_law_409 : decode cL_law 409 = .ok (.iconst 1, 1) := by decide +kernel
theorem dL_law_410 : decode cL_law 410 = .ok (.iadd, 1) := by decide +kernel
theorem dL_law_411 : decode cL_law 411 = .ok (.iaload, 1) := by decide +kernel
theorem dL_law_412 : decode cL_law 412 = .ok (.aload_n 0, 1) := by decide +kernel
theorem dL_law_413 : decode cL_law 413 = .ok (.iload_n 3, 1) := by decide +kernel
theorem dL_law_414 : decode cL_law 414 = .ok (.iconst 2, 1) := by decide +kernel
theorem dL_law_415 : decode cL_law 415 = .ok (.iadd, 1) := by decide +kernel
theorem dL_law_416 : decode cL_law 416 = .ok (.iaload, 1) := by decide +kernel
theorem dL_law_417 : decode cL_law 417 = .ok (.aload_n 0, 1) := by decide +kernel
theorem dL_law_418 : decode cL_law 418 = .ok (.iload_n 3, 1) := by decide +kernel
theorem dL_law_419 : decode cL_law 419 = .ok (.iconst 3, 1) := by decide +kernel
theorem dL_law_420 : decode cL_law 420 = .ok (.iadd, 1) := by decide +kernel
theorem dL_law_421 : decode cL_law 421 = .ok (.iaload, 1) := by decide +kernel
theorem dL_law_422 : decode cL_law 422 = .ok (.invokevirtual 58, 3) := by decide +kernel
theorem dL_law_425 : decode cL_law 425 = .ok (.aload_n 2, 1) := by decide +kernel
theorem dL_law_426 : decode cL_law 426 = .ok (.aload_n 0, 1) := by decide +kernel
theorem dL_law_427 : decode cL_law 427 = .ok (.iload_n 3, 1) := by decide +kernel
theorem dL_law_428 : decode cL_law 428 = .ok (.iconst 1, 1) := by decide +kernel
theorem dL_law_429 : decode cL_law 429 = .ok (.iadd, 1) := by decide +kernel
theorem dL_law_430 : decode cL_law 430 = .ok (.iaload, 1) := by decide +kernel
theorem dL_law_431 : decode cL_law 431 = .ok (.aload_n 0, 1) := by decide +kernel
theorem dL_law_432 : decode cL_law 432 = .ok (.iload_n 3, 1) := by decide +kernel
theorem dL_law_433 : decode cL_law 433 = .ok (.iconst 2, 1) := by decide +kernel
theorem dL_law_434 : decode cL_law 434 = .ok (.iadd, 1) := by decide +kernel
theorem dL_law_435 : decode cL_law 435 = .ok (.iaload, 1) := by decide +kernel
theorem dL_law_436 : decode cL_law 436 = .ok (.aload_n 0, 1) := by decide +kernel
theorem dL_law_437 : decode cL_law 437 = .ok (.iload_n 3, 1) := by decide +kernel
theorem dL_law_438 : decode cL_law 438 = .ok (.iconst 3, 1) := by decide +kernel
theorem dL_law_439 : decode cL_law 439 = .ok (.iadd, 1) := by decide +kernel
theorem dL_law_440 : decode cL_law 440 = .ok (.iaload, 1) := by decide +kernel
theorem dL_law_441 : decode cL_law 441 = .ok (.invokevirtual 61, 3) := by decide +kernel
theorem dL_law_444 : decode cL_law 444 = .ok (.if_icmp .eq 173, 3) := by decide +kernel
theorem dL_law_447 : decode cL_law 447 = .ok (.iconst 0, 1) := by decide +kernel
theorem dL_law_448 : decode cL_law 448 = .ok (.ireturn, 1) := by decide +kernel
theorem dL_law_449 : decode cL_law 449 = .ok (.aload_n 1, 1) := by decide +kernel
theorem dL_law_450 : decode cL_law 450 = .ok (.aload_n 0, 1) := by decide +kernel
theorem dL_law_451 : decode cL_law 451 = .ok (.iload_n 3, 1) := by decide +kernel
theorem dL_law_452 : decode cL_law 452 = .ok (.iconst 1, 1) := by decide +kernel
theorem dL_law_453 : decode cL_law 453 = .ok (.iadd, 1) := by decide +kernel
theorem dL_law_454 : decode cL_law 454 = .ok (.iaload, 1) := by decide +kernel
theorem dL_law_455 : decode cL_law 455 = .ok (.aload_n 0, 1) := by decide +kernel
theorem dL_law_456 : decode cL_law 456 = .ok (.iload_n 3, 1) := by decide +kernel
theorem dL_law_457 : decode cL_law 457 = .ok (.iconst 2, 1) := by decide +kernel
theorem dL_law_458 : decode cL_law 458 = .ok (.iadd, 1) := by decide +kernel
theorem dL_law_459 : decode cL_law 459 = .ok (.iaload, 1) := by decide +kernel
theorem dL_law_460 : decode cL_law 460 = .ok (.invokevirtual 62, 3) := by decide +kernel
theorem dL_law_463 : decode cL_law 463 = .ok (.aload_n 2, 1) := by decide +kernel
theorem dL_law_464 : decode cL_law 464 = .ok (.aload_n 0, 1) := by decide +kernel
theorem dL_law_465 : decode cL_law 465 = .ok (.iload_n 3, 1) := by decide +kernel
theorem dL_law_466 : decode cL_law 466 = .ok (.iconst 1, 1) := by decide +kernel
theorem dL_law_467 : decode cL_law 467 = .ok (.iadd, 1) := by decide +kernel
theorem dL_law_468 : decode cL_law 468 = .ok (.iaload, 1) := by decide +kernel
theorem dL_law_469 : decode cL_law 469 = .ok (.aload_n 0, 1) := by decide +kernel
theorem dL_law_470 : decode cL_law 470 = .ok (.iload_n 3, 1) := by decide +kernel
theorem dL_law_471 : decode cL_law 471 = .ok (.iconst 2, 1) := by decide +kernel
theorem dL_law_472 : decode cL_law 472 = .ok (.iadd, 1) := by decide +kernel
theorem dL_law_473 : decode cL_law 473 = .ok (.iaload, 1) := by decide +kernel
theorem dL_law_474 : decode cL_law 474 = .ok (.invokevirtual 65, 3) := by decide +kernel
theorem dL_law_477 : decode cL_law 477 = .ok (.if_icmp .eq 140, 3) := by decide +kernel
theorem dL_law_480 : decode cL_law 480 = .ok (.iconst 0, 1) := by decide +kernel
theorem dL_law_481 : decode cL_law 481 = .ok (.ireturn, 1) := by decide +kernel
theorem dL_law_482 : decode cL_law 482 = .ok (.aload_n 1, 1) := by decide +kernel
theorem dL_law_483 : decode cL_law 483 = .ok (.aload_n 0, 1) := by decide +kernel
theorem dL_law_484 : decode cL_law 484 = .ok (.iload_n 3, 1) := by decide +kernel
theorem dL_law_485 : decode cL_law 485 = .ok (.iconst 1, 1) := by decide +kernel
theorem dL_law_486 : decode cL_law 486 = .ok (.iadd, 1) := by decide +kernel
theorem dL_law_487 : decode cL_law 487 = .ok (.iaload, 1) := by decide +kernel
theorem dL_law_488 : decode cL_law 488 = .ok (.aload_n 0, 1) := by decide +kernel
theorem dL_law_489 : decode cL_law 489 = .ok (.iload_n 3, 1) := by decide +kernel
theorem dL_law_490 : decode cL_law 490 = .ok (.iconst 2, 1) := by decide +kernel
theorem dL_law_491 : decode cL_law 491 = .ok (.iadd, 1) := by decide +kernel
theorem dL_law_492 : decode cL_law 492 = .ok (.iaload, 1) := by decide +kernel
theorem dL_law_493 : decode cL_law 493 = .ok (.aload_n 0, 1) := by decide +kernel
theorem dL_law_494 : decode cL_law 494 = .ok (.iload_n 3, 1) := by decide +kernel
theorem dL_law_495 : decode cL_law 495 = .ok (.iconst 3, 1) := by decide +kernel
theorem dL_law_496 : decode cL_law 496 = .ok (.iadd, 1) := by decide +kernel
theorem dL_law_497 : decode cL_law 497 = .ok (.iaload, 1) := by decide +kernel
theorem dL_law_498 : decode cL_law 498 = .ok (.invokevirtual 66, 3) := by decide +kernel
theorem dL_law_501 : decode cL_law 501 = .ok (.aload_n 2, 1) := by decide +kernel
theorem dL_law_502 : decode cL_law 502 = .ok (.aload_n 0, 1) := by decide +kernel
theorem dL_law_503 : decode cL_law 503 = .ok (.iload_n 3, 1) := by decide +kernel
theorem dL_law_504 : decode cL_law 504 = .ok (.iconst 1, 1) := by decide +kernel
theorem dL_law_505 : decode cL_law 505 = .ok (.iadd, 1) := by decide +kernel
theorem dL_law_506 : decode cL_law 506 = .ok (.iaload, 1) := by decide +kernel
theorem dL_law_507 : decode cL_law 507 = .ok (.aload_n 0, 1) := by decide +kernel
theorem dL_law_508 : decode cL_law 508 = .ok (.iload_n 3, 1) := by decide +kernel
theorem dL_law_509 : decode cL_law 509 = .ok (.iconst 2, 1) := by decide +kernel
theorem dL_law_510 : decode cL_law 510 = .ok (.iadd, 1) := by decide +kernel
theorem dL_law_511 : decode cL_law 511 = .ok (.iaload, 1) := by decide +kernel
theorem dL_law_512 : decode cL_law 512 = .ok (.aload_n 0, 1) := by decide +kernel
theorem dL_law_513 : decode cL_law 513 = .ok (.iload_n 3, 1) := by decide +kernel
theorem dL_law_514 : decode cL_law 514 = .ok (.iconst 3, 1) := by decide +kernel
theorem dL_law_515 : decode cL_law 515 = .ok (.iadd, 1) := by decide +kernel
theorem dL_law_516 : decode cL_law 516 = .ok (.iaload, 1) := by decide +kernel
theorem dL_law_517 : decode cL_law 517 = .ok (.invokevirtual 69, 3) := by decide +kernel
theorem dL_law_520 : decode cL_law 520 = .ok (.if_icmp .eq 97, 3) := by decide +kernel
theorem dL_law_523 : decode cL_law 523 = .ok (.iconst 0, 1) := by decide +kernel
theorem dL_law_524 : decode cL_law 524 = .ok (.ireturn, 1) := by decide +kernel
theorem dL_law_525 : decode cL_law 525 = .ok (.aload_n 1, 1) := by decide +kernel
theorem dL_law_526 : decode cL_law 526 = .ok (.aload_n 0, 1) := by decide +kernel
theorem dL_law_527 : decode cL_law 527 = .ok (.iload_n 3, 1) := by decide +kernel
theorem dL_law_528 : decode cL_law 528 = .ok (.iconst 1, 1) := by decide +kernel
theorem dL_law_529 : decode cL_law 529 = .ok (.iadd, 1) := by decide +kernel
theorem dL_law_530 : decode cL_law 530 = .ok (.iaload, 1) := by decide +kernel
theorem dL_law_531 : decode cL_law 531 = .ok (.invokevirtual 70, 3) := by decide +kernel
theorem dL_law_534 : decode cL_law 534 = .ok (.aload_n 2, 1) := by decide +kernel
theorem dL_law_535 : decode cL_law 535 = .ok (.aload_n 0, 1) := by decide +kernel
theorem dL_law_536 : decode cL_law 536 = .ok (.iload_n 3, 1) := by decide +kernel
theorem dL_law_537 : decode cL_law 537 = .ok (.iconst 1, 1) := by decide +kernel
theorem dL_law_538 : decode cL_law 538 = .ok (.iadd, 1) := by decide +kernel
theorem dL_law_539 : decode cL_law 539 = .ok (.iaload, 1) := by decide +kernel
theorem dL_law_540 : decode cL_law 540 = .ok (.invokevirtual 73, 3) := by decide +kernel
theorem dL_law_543 : decode cL_law 543 = .ok (.if_icmp .eq 74, 3) := by decide +kernel
theorem dL_law_546 : decode cL_law 546 = .ok (.iconst 0, 1) := by decide +kernel
theorem dL_law_547 : decode cL_law 547 = .ok (.ireturn, 1) := by decide +kernel
theorem dL_law_548 : decode cL_law 548 = .ok (.aload_n 1, 1) := by decide +kernel
theorem dL_law_549 : decode cL_law 549 = .ok (.aload_n 0, 1) := by decide +kernel
theorem dL_law_550 : decode cL_law 550 = .ok (.iload_n 3, 1) := by decide +kernel
theorem dL_law_551 : decode cL_law 551 = .ok (.iconst 1, 1) := by decide +kernel
theorem dL_law_552 : decode cL_law 552 = .ok (.iadd, 1) := by decide +kernel
theorem dL_law_553 : decode cL_law 553 = .ok (.iaload, 1) := by decide +kernel
theorem dL_law_554 : decode cL_law 554 = .ok (.invokevirtual 74, 3) := by decide +kernel
theorem dL_law_557 : decode cL_law 557 = .ok (.aload_n 2, 1) := by decide +kernel
theorem dL_law_558 : decode cL_law 558 = .ok (.aload_n 0, 1) := by decide +kernel
theorem dL_law_559 : decode cL_law 559 = .ok (.iload_n 3, 1) := by decide +kernel
theorem dL_law_560 : decode cL_law 560 = .ok (.iconst 1, 1) := by decide +kernel
theorem dL_law_561 : decode cL_law 561 = .ok (.iadd, 1) := by decide +kernel
theorem dL_law_562 : decode cL_law 562 = .ok (.iaload, 1) := by decide +kernel
theorem dL_law_563 : decode cL_law 563 = .ok (.invokevirtual 77, 3) := by decide +kernel
theorem dL_law_566 : decode cL_law 566 = .ok (.if_icmp .eq 51, 3) := by decide +kernel
theorem dL_law_569 : decode cL_law 569 = .ok (.iconst 0, 1) := by decide +kernel
theorem dL_law_570 : decode cL_law 570 = .ok (.ireturn, 1) := by decide +kernel
theorem dL_law_571 : decode cL_law 571 = .ok (.aload_n 1, 1) := by decide +kernel
theorem dL_law_572 : decode cL_law 572 = .ok (.aload_n 0, 1) := by decide +kernel
theorem dL_law_573 : decode cL_law 573 = .ok (.iload_n 3, 1) := by decide +kernel
theorem dL_law_574 : decode cL_law 574 = .ok (.iconst 1, 1) := by decide +kernel
theorem dL_law_575 : decode cL_law 575 = .ok (.iadd, 1) := by decide +kernel
theorem dL_law_576 : decode cL_law 576 = .ok (.iaload, 1) := by decide +kernel
theorem dL_law_577 : decode cL_law 577 = .ok (.invokevirtual 78, 3) := by decide +kernel
theorem dL_law_580 : decode cL_law 580 = .ok (.aload_n 2, 1) := by decide +kernel
theorem dL_law_581 : decode cL_law 581 = .ok (.aload_n 0, 1) := by decide +kernel
theorem dL_law_582 : decode cL_law 582 = .ok (.iload_n 3, 1) := by decide +kernel
theorem dL_law_583 : decode cL_law 583 = .ok (.iconst 1, 1) := by decide +kernel
theorem dL_law_584 : decode cL_law 584 = .ok (.iadd, 1) := by decide +kernel
theorem dL_law_585 : decode cL_law 585 = .ok (.iaload, 1) := by decide +kernel
theorem dL_law_586 : decode cL_law 586 = .ok (.invokevirtual 81, 3) := by decide +kernel
theorem dL_law_589 : decode cL_law 589 = .ok (.if_icmp .eq 28, 3) := by decide +kernel
theorem dL_law_592 : decode cL_law 592 = .ok (.iconst 0, 1) := by decide +kernel
theorem dL_law_593 : decode cL_law 593 = .ok (.ireturn, 1) := by decide +kernel
theorem dL_law_594 : decode cL_law 594 = .ok (.aload_n 1, 1) := by decide +kernel
theorem dL_law_595 : decode cL_law 595 = .ok (.aload_n 0, 1) := by decide +kernel
theorem dL_law_596 : decode cL_law 596 = .ok (.iload_n 3, 1) := by decide +kernel
theorem dL_law_597 : decode cL_law 597 = .ok (.iconst 1, 1) := by decide +kernel
theorem dL_law_598 : decode cL_law 598 = .ok (.iadd, 1) := by decide +kernel
theorem dL_law_599 : decode cL_law 599 = .ok (.iaload, 1) := by decide +kernel
theorem dL_law_600 : decode cL_law 600 = .ok (.invokevirtual 82, 3) := by decide +kernel
theorem dL_law_603 : decode cL_law 603 = .ok (.aload_n 2, 1) := by decide +kernel
theorem dL_law_604 : decode cL_law 604 = .ok (.aload_n 0, 1) := by decide +kernel
theorem dL_law_605 : decode cL_law 605 = .ok (.iload_n 3, 1) := by decide +kernel
theorem dL_law_606 : decode cL_law 606 = .ok (.iconst 1, 1) := by decide +kernel
theorem dL_law_607 : decode cL_law 607 = .ok (.iadd, 1) := by decide +kernel
theorem dL_law_608 : decode cL_law 608 = .ok (.iaload, 1) := by decide +kernel
theorem dL_law_609 : decode cL_law 609 = .ok (.invokevirtual 85, 3) := by decide +kernel
theorem dL_law_612 : decode cL_law 612 = .ok (.if_icmp .eq 5, 3) := by decide +kernel
theorem dL_law_615 : decode cL_law 615 = .ok (.iconst 0, 1) := by decide +kernel
theorem dL_law_616 : decode cL_law 616 = .ok (.ireturn, 1) := by decide +kernel
theorem dL_law_617 : decode cL_law 617 = .ok (.iinc 3 5, 3) := by decide +kernel
theorem dL_law_620 : decode cL_law 620 = .ok (.goto (-602), 3) := by decide +kernel
theorem dL_law_623 : decode cL_law 623 = .ok (.iconst 1, 1) := by decide +kernel
theorem dL_law_624 : decode cL_law 624 = .ok (.ireturn, 1) := by decide +kernel
end
section
/-! the worlds of this claim: N cells at fixed places; what they hold is a function from cell and slot to a number -/
abbrev Sg : Type := Nat → Nat → Int32
abbrev Ev : Type := va_G × ClassId × ClassId × ClassId × (Nat → Nat)
abbrev Rs : Type := Option (Int32 × Sg)
def eD (E : Ev) : va_G := E.1
def eI (E : Ev) : ClassId := E.2.1
def eZ (E : Ev) : ClassId := E.2.2.1
def eO (E : Ev) : ClassId := E.2.2.2.1
def eA (E : Ev) : Nat → Nat := E.2.2.2.2
abbrev tyl (E : Ev) : List (ClassId × FieldType) := [(eI E, .int), (eZ E, .boolean), (eO E, .object "GridStarts$Grid")]
abbrev Wk : Type := Nat × (Ev → Nat → (Nat → Int32) → va_E)
def wdl (K : Wk) (E : Ev) (σ : Sg) : va_W := (List.range K.1).map (fun k => (eA E k, K.2 E k (σ k)))
def ups (σ : Sg) (c : Nat) (f : Nat → Int32) : Sg := fun c' => if c' = c then f else σ c'
def wr (σ : Sg) (c j : Nat) (v : Int32) : Sg := ups σ c (upd (σ c) j v)
theorem wdl_get {K : Wk} {E : Ev} {σ : Sg} {k : Nat} (hk : k < K.1) : (wdl K E σ)[k]? = some (eA E k, K.2 E k (σ k)) := by
  unfold wdl
  rw [List.getElem?_map, List.getElem?_range hk]
  rfl
theorem wdl_len {K : Wk} {E : Ev} {σ : Sg} : (wdl K E σ).length = K.1 := by simp [wdl]
theorem wdl_set {K : Wk} {E : Ev} {σ : Sg} {k : Nat} {f : Nat → Int32} {x : va_E} (hx : x = K.2 E k f) : (wdl K E σ).set k (eA E k, x) = wdl K E (ups σ k f) := by
  apply List.ext_getElem?
  intro i
  rw [List.getElem?_set]
  by_cases hi : i < K.1
  · by_cases e : k = i
    · subst e
      rw [if_pos rfl, wdl_len, if_pos hi, wdl_get hi, hx]
      simp [ups]
    · rw [if_neg e, wdl_get hi, wdl_get hi]
      simp [ups, Ne.symm e]
  · by_cases e : k = i
    · subst e
      rw [if_pos rfl, wdl_len, if_neg hi, List.getElem?_eq_none (by rw [wdl_len]; omega)]
    · rw [if_neg e, List.getElem?_eq_none (by rw [wdl_len]; omega), List.getElem?_eq_none (by rw [wdl_len]; omega)]
def AA (K : Wk) (E : Ev) : Nat → Prop := fun q => ∃ k, k < K.1 ∧ eA E k = q
def Inj (K : Wk) (E : Ev) : Prop := ∀ i j, i < K.1 → j < K.1 → eA E i = eA E j → i = j
theorem wdl_D {K : Wk} {E : Ev} {σ : Sg} (hj : Inj K E) : va_D (AA K E) (wdl K E σ) := by
  have hlt : ∀ (i : Nat) (q : Nat × va_E), (wdl K E σ)[i]? = some q → i < K.1 ∧ q.1 = eA E i := by
    intro i q h
    have h1 : i < K.1 := by
      have := (List.getElem?_eq_some_iff.mp h).1
      rwa [wdl_len] at this
    rw [wdl_get h1] at h
    cases h
    exact ⟨h1, rfl⟩
  refine ⟨fun i j p q hp hq h => ?_, fun k q h => ?_⟩
  · obtain ⟨a1, a2⟩ := hlt i p hp
    obtain ⟨b1, b2⟩ := hlt j q hq
    exact hj i j a1 b1 (by rw [← a2, ← b2]; exact h)
  · obtain ⟨a1, a2⟩ := hlt k q h
    exact ⟨k, a1, a2.symm⟩
def Nst (U : State) : Prop := ∀ w ∈ nestW, va_Nw w U
theorem Nst.warm {s U : State} (hW : s.WarmedH U.vm) (h : Nst s) : Nst U := by
  intro w hw
  have h1 := h w hw
  simp only [nestW, List.mem_cons, List.not_mem_nil, or_false] at hw
  rcases hw with rfl | rfl | rfl | rfl | rfl | rfl | rfl <;> exact va_Nw.warmM hW h1
theorem Nst.calling {U : State} {g : JFrame} {mk : MethodId} {a : Array Value} (h : Nst U) : Nst (U.calling g mk a) := by
  intro w hw
  refine va_Nw.same (u := U) ?_ rfl (h w hw)
  simp only [nestW, List.mem_cons, List.not_mem_nil, or_false] at hw
  rcases hw with rfl | rfl | rfl | rfl | rfl | rfl | rfl <;> rfl
def WS (K : Wk) (E : Ev) (σ : Sg) (U : State) : Prop := va_P (eD E) vwCl (wdl K E σ) U.heap ∧ va_K (eD E) vwCl (tyl E) U ∧ Nst U
def HP (K : Wk) (E : Ev) (s : State) (σ : Sg) (H : Heap) (locs : List Loc) : Prop := va_P (eD E) vwCl (wdl K E σ) H ∧ va_S (AA K E) s.heap H locs
/-- the contract of a method that answers a number -/
def CI (l : Launch) (y : MethodName) (bytes : ByteArray) (maxL : Nat) (ret : Option FieldType) (rm : Room) (K : Wk) (E : Ev) (av : List Value) (σ : Sg) (r : Int32 × Sg) : Prop :=
  Met l y (.code y bytes maxL ret :: TW) rm (va_Pc av (WS K E σ)) (va_Qi (fun (v : Int32) (τ : Sg) => v = r.1 ∧ τ = r.2) (fun τ t => WS K E τ t) (AA K E)) 0 0 (AA K E)
/-- the contract of a method that answers nothing -/
def CV (l : Launch) (y : MethodName) (bytes : ByteArray) (maxL : Nat) (rm : Room) (K : Wk) (E : Ev) (av : List Value) (σ : Sg) (r : Int32 × Sg) : Prop :=
  Met l y (.code y bytes maxL none :: TW) rm (va_Pc av (WS K E σ)) (va_Qv (fun (τ : Sg) => τ = r.2) (fun τ t => WS K E τ t) (AA K E)) 0 0 (AA K E)
theorem WS.blind {K : Wk} {E : Ev} {σ : Sg} {av : List Value} : FrameBlind (va_Pc av (WS K E σ)) := by
  intro a U g mk h
  obtain ⟨h0, hP, hK, hN⟩ := h
  exact ⟨h0, hP, va_K.moved (u := U) (U := U.calling g mk a) (Vm.Alike.refl U.vm) hK, hN.calling⟩
/-! the pure side: what a method does as a function that answers none where the machine would not go on -/
def gd {α : Type} (i : Int32) (n : Nat) (o : Option α) : Option α := if i < 0 ∨ n ≤ i.toNatClampNeg then none else o
def sv {α β : Type} (x : α) (k : α → β) : β := k x
def bd (o : Rs) (k : Int32 → Sg → Rs) : Rs := match o with
  | none => none
  | some r => k r.1 r.2
def zr (v : Int32) (σ : Sg) : Rs := if v = 0 ∨ v = 1 then some (v, σ) else none
def it {α : Type} (F : α → α) (z : α) : Nat → α
  | 0 => z
  | n + 1 => F (it F z n)
def FU : Nat := 10000
theorem gd_some {α : Type} {i : Int32} {n : Nat} {o : Option α} {r : α} (h : gd i n o = some r) : vp_in i n ∧ o = some r := by
  unfold gd at h
  split at h
  · cases h
  · exact ⟨‹_›, h⟩
theorem gd_in {α : Type} {i : Int32} {n : Nat} {o : Option α} (h : vp_in i n) : gd i n o = o := if_neg h
theorem sv_at {α β : Type} {x y : α} {k : α → Option β} {r : β} (h : sv x k = some r) (e : y = x) : k y = some r := by
  subst e
  exact h
theorem bd_some {o : Rs} {k : Int32 → Sg → Rs} {r : Int32 × Sg} (h : bd o k = some r) : ∃ (v : Int32) (τ : Sg), o = some (v, τ) ∧ k v τ = some r := by
  cases o with
  | none => cases h
  | some q => exact ⟨q.1, q.2, rfl, h⟩
theorem bd_of {o : Rs} {k : Int32 → Sg → Rs} {v : Int32} {τ : Sg} (h : o = some (v, τ)) : bd o k = k v τ := by
  rw [h]
  rfl
theorem zr_some {v : Int32} {σ : Sg} {r : Int32 × Sg} (h : zr v σ = some r) : (v = 0 ∨ v = 1) ∧ some (v, σ) = some r := by
  unfold zr at h
  split at h
  · exact ⟨‹_›, h⟩
  · cases h
section Fix
variable {p : Program} {l : Launch} {e : Env} {R : Room} {s : State} {m : MethodId} {args : Array Value} {below : List Frame} {meth : Method} {c : Code} {H : Heap} {locs : List Loc} {Q : State → Prop}
variable {cc : ByteArray} {pc : Nat} {ls : Array Slot} {rest : List Value} {K : Wk} {E : Ev} {σ : Sg} {own : String} {nL : Nat} {ret : Option FieldType} {lv : List (Nat × Value)}
def Fx (K : Wk) (E : Ev) (p : Program) (s : State) (m : MethodId) (args : Array Value) (meth : Method) (c : Code) (cc : ByteArray) (own : String) (nL : Nat) (ret : Option FieldType) : Prop :=
  p.tables.exec = Jvm.exec ∧ c.code = cc ∧ c.maxLocals = nL ∧ s.vm.findClass own = some m.cls ∧ (∀ w ∈ TW, w.before args s = true) ∧ va_K (eD E) vwCl (tyl E) s ∧ Nst s ∧ meth.locks = false ∧ meth.sig.returnType = ret ∧ Inj K E
theorem Fx.x (h : Fx K E p s m args meth c cc own nL ret) : p.tables.exec = Jvm.exec := h.1
theorem Fx.b (h : Fx K E p s m args meth c cc own nL ret) : c.code = cc := h.2.1
theorem Fx.ml (h : Fx K E p s m args meth c cc own nL ret) : c.maxLocals = nL := h.2.2.1
theorem Fx.o (h : Fx K E p s m args meth c cc own nL ret) : s.vm.findClass own = some m.cls := h.2.2.2.1
theorem Fx.t (h : Fx K E p s m args meth c cc own nL ret) : ∀ w ∈ TW, w.before args s = true := h.2.2.2.2.1
theorem Fx.k (h : Fx K E p s m args meth c cc own nL ret) : va_K (eD E) vwCl (tyl E) s := h.2.2.2.2.2.1
theorem Fx.n (h : Fx K E p s m args meth c cc own nL ret) : Nst s := h.2.2.2.2.2.2.1
theorem Fx.lk (h : Fx K E p s m args meth c cc own nL ret) : meth.locks = false := h.2.2.2.2.2.2.2.1
theorem Fx.r (h : Fx K E p s m args meth c cc own nL ret) : meth.sig.returnType = ret := h.2.2.2.2.2.2.2.2.1
theorem Fx.j (h : Fx K E p s m args meth c cc own nL ret) : Inj K E := h.2.2.2.2.2.2.2.2.2
theorem w_get (hF : Fx K E p s m args meth c cc own nL ret) (hH : HP K E s σ H locs) (k : Nat) (hk : k < K.1) {ci n : Nat} {fs : List Value} {C : String} {T : u_T} (hc : K.2 E k (σ k) = .inr (ci, fs)) (hcl : vwCl[ci]? = some (C, T, n)) (hin : ∀ w ∈ u_ws C T n, w ∈ TW) (j : Nat) (hj : j < n) {idx : Nat} (hlink : Cond.fieldLink own idx (T j).1 (T j).2.1 (T j).2.2.1 ∈ TW) {v : Value} (hv : fs[j]? = some v) (hdg : decode cc pc = .ok (.getfield idx, 3))
    (kk : W p l e R s m args below meth c H locs 0 0 Q (F0 m (pc + 3) ls (v :: rest))) : W p l e R s m args below meth c H locs 0 0 Q (F0 m pc ls (.ref (eA E k) :: rest)) :=
  va_get (D := eD E) (cl := vwCl) hF.x hF.b hF.t hin hF.o hF.k hH.1 k (by rw [wdl_get hk, hc]) hcl j hj (hF.t _ hlink) (fun _ h9 => h9) hv hdg kk
theorem w_put (hF : Fx K E p s m args meth c cc own nL ret) (hH : HP K E s σ H locs) (k : Nat) (hk : k < K.1) {ci n : Nat} {fs : List Value} {C : String} {T : u_T} (hc : K.2 E k (σ k) = .inr (ci, fs)) (hcl : vwCl[ci]? = some (C, T, n)) (hin : ∀ w ∈ u_ws C T n, w ∈ TW) (ty0 : Nat → FieldType) (hty : ∀ k, k < n → parseFieldDescriptor (T k).2.2.1 = some (ty0 k)) (hnm : ∀ a, a < n → ∀ b, b < n → a ≠ b → (T a).2.1 ≠ (T b).2.1) (j : Nat) (hj : j < n) {idx : Nat} (hlink : Cond.fieldLink own idx (T j).1 (T j).2.1 (T j).2.2.1 ∈ TW) (hfin : (T j).2.2.2 = false) {v : Int32} (hd : parseFieldDescriptor (T j).2.2.1 = some .int) (hl : j < fs.length) (hset : (.inr (ci, fs.set j (.int v)) : va_E) = K.2 E k (upd (σ k) j v)) (hdg : decode cc pc = .ok (.putfield idx, 3))
    (kk : ∀ (σ1 : Sg) (H1 : Heap) (locs1 : List Loc), σ1 = wr σ k j v → HP K E s σ1 H1 locs1 → W p l e R s m args below meth c H1 locs1 0 0 Q (F0 m (pc + 3) ls rest)) : W p l e R s m args below meth c H locs 0 0 Q (F0 m pc ls (.int v :: .ref (eA E k) :: rest)) :=
  va_put (D := eD E) (cl := vwCl) (A := AA K E) (H0 := s.heap) (v := .int v) (ty := .int) hF.x hF.b hF.t hin ty0 hty hnm hF.o hF.k hH.1 (wdl_D hF.j) hH.2 k (by rw [wdl_get hk, hc]) hcl j hj (hF.t _ hlink) (fun _ h9 => h9) hfin hd rfl rfl hl hdg
    (fun H1 locs1 hP _ hS => kk _ H1 locs1 rfl ⟨by rw [wdl_set hset] at hP; exact hP, hS⟩)
theorem w_ald (hF : Fx K E p s m args meth c cc own nL ret) (hH : HP K E s σ H locs) (k : Nat) (hk : k < K.1) {n : Nat} (hc : ∀ f, K.2 E k f = .inl (eI E, n, .inl f)) {i : Int32} (hin : vp_in i n) (hdg : decode cc pc = .ok (.iaload, 1))
    (kk : W p l e R s m args below meth c H locs 0 0 Q (F0 m (pc + 1) ls (.int (σ k i.toNatClampNeg) :: rest))) : W p l e R s m args below meth c H locs 0 0 Q (F0 m pc ls (.int i :: .ref (eA E k) :: rest)) :=
  va_iald (D := eD E) (cl := vwCl) hF.x hF.b hF.k hH.1 k 0 (by rw [wdl_get hk, hc]) rfl hin hdg kk
theorem w_zld (hF : Fx K E p s m args meth c cc own nL ret) (hH : HP K E s σ H locs) (k : Nat) (hk : k < K.1) {n : Nat} (hc : ∀ f, K.2 E k f = .inl (eZ E, n, .inl f)) {i : Int32} (hin : vp_in i n) (hdg : decode cc pc = .ok (.baload, 1))
    (kk : W p l e R s m args below meth c H locs 0 0 Q (F0 m (pc + 1) ls (.int (σ k i.toNatClampNeg) :: rest))) : W p l e R s m args below meth c H locs 0 0 Q (F0 m pc ls (.int i :: .ref (eA E k) :: rest)) :=
  va_zald (D := eD E) (cl := vwCl) hF.x hF.b hF.k hH.1 k 1 (by rw [wdl_get hk, hc]) rfl hin hdg kk
theorem w_ast (hF : Fx K E p s m args meth c cc own nL ret) (hH : HP K E s σ H locs) (k : Nat) (hk : k < K.1) {n : Nat} (hc : ∀ f, K.2 E k f = .inl (eI E, n, .inl f)) {i v : Int32} (hin : vp_in i n) (hdg : decode cc pc = .ok (.iastore, 1))
    (kk : ∀ (σ1 : Sg) (H1 : Heap) (locs1 : List Loc), σ1 = wr σ k i.toNatClampNeg v → HP K E s σ1 H1 locs1 → W p l e R s m args below meth c H1 locs1 0 0 Q (F0 m (pc + 1) ls rest)) : W p l e R s m args below meth c H locs 0 0 Q (F0 m pc ls (.int v :: .int i :: .ref (eA E k) :: rest)) :=
  va_iast (D := eD E) (cl := vwCl) (A := AA K E) (H0 := s.heap) hF.x hF.b hF.k hH.1 (wdl_D hF.j) hH.2 k 0 (by rw [wdl_get hk, hc]) rfl hin hdg
    (fun H1 locs1 hP _ hS => kk _ H1 locs1 rfl ⟨by rw [wdl_set (hc _).symm] at hP; exact hP, hS⟩)
theorem w_zst (hF : Fx K E p s m args meth c cc own nL ret) (hH : HP K E s σ H locs) (k : Nat) (hk : k < K.1) {n : Nat} (hc : ∀ f, K.2 E k f = .inl (eZ E, n, .inl f)) {i v : Int32} (hin : vp_in i n) (hdg : decode cc pc = .ok (.bastore, 1))
    (kk : ∀ (σ1 : Sg) (H1 : Heap) (locs1 : List Loc), σ1 = wr σ k i.toNatClampNeg (vp_nar .boolean v) → HP K E s σ1 H1 locs1 → W p l e R s m args below meth c H1 locs1 0 0 Q (F0 m (pc + 1) ls rest)) : W p l e R s m args below meth c H locs 0 0 Q (F0 m pc ls (.int v :: .int i :: .ref (eA E k) :: rest)) :=
  va_zast (D := eD E) (cl := vwCl) (A := AA K E) (H0 := s.heap) hF.x hF.b hF.k hH.1 (wdl_D hF.j) hH.2 k 1 (by rw [wdl_get hk, hc]) rfl hin hdg
    (fun H1 locs1 hP _ hS => kk _ H1 locs1 rfl ⟨by rw [wdl_set (hc _).symm] at hP; exact hP, hS⟩)
/-! returns -/
theorem w_iret {r : Int32 × Sg} (hF : Fx K E p s m args meth c cc own nL (some .int)) (hH : HP K E s σ H locs) {v : Int32} (h : some (v, σ) = some r) (hdg : decode cc pc = .ok (.ireturn, 1)) :
    W p l e R s m args below meth c H locs 0 0 (MQ below (va_Qi (fun (w : Int32) (τ : Sg) => w = r.1 ∧ τ = r.2) (fun τ t => WS K E τ t) (AA K E)) args s 0 0 (AA K E)) (F0 m pc ls [.int v]) := by
  cases h
  exact W.iret (v := v) hF.x hF.b hF.r (fun t ht hW => ⟨⟨v, σ, rfl, ⟨rfl, rfl⟩, by rw [ht]; exact hH.1, va_K.moved hW.alike hF.k, hF.n.warm hW⟩, hH.2.F ht⟩) hH.2.2.2 hdg hF.lk
theorem w_zret {r : Int32 × Sg} (hF : Fx K E p s m args meth c cc own nL (some .boolean)) (hH : HP K E s σ H locs) {v : Int32} (h : zr v σ = some r) (hdg : decode cc pc = .ok (.ireturn, 1)) :
    W p l e R s m args below meth c H locs 0 0 (MQ below (va_Qi (fun (w : Int32) (τ : Sg) => w = r.1 ∧ τ = r.2) (fun τ t => WS K E τ t) (AA K E)) args s 0 0 (AA K E)) (F0 m pc ls [.int v]) := by
  obtain ⟨hv, h⟩ := zr_some h
  cases h
  exact W.zret (v := v) (ty := .boolean) hF.x hF.b hF.r (by rcases hv with rfl | rfl <;> rfl) (fun t ht hW => ⟨⟨v, σ, rfl, ⟨rfl, rfl⟩, by rw [ht]; exact hH.1, va_K.moved hW.alike hF.k, hF.n.warm hW⟩, hH.2.F ht⟩) hH.2.2.2 hdg hF.lk
theorem w_vret {r : Int32 × Sg} (hF : Fx K E p s m args meth c cc own nL none) (hH : HP K E s σ H locs) {v : Int32} (h : some (v, σ) = some r) (hdg : decode cc pc = .ok (.return_, 1)) :
    W p l e R s m args below meth c H locs 0 0 (MQ below (va_Qv (fun (τ : Sg) => τ = r.2) (fun τ t => WS K E τ t) (AA K E)) args s 0 0 (AA K E)) (F0 m pc ls []) := by
  cases h
  exact W.vret hF.x hF.b hF.r (fun t ht hW => ⟨⟨σ, rfl, rfl, by rw [ht]; exact hH.1, va_K.moved hW.alike hF.k, hF.n.warm hW⟩, hH.2.F ht⟩) hH.2.2.2 hdg hF.lk
/-! calls -/
theorem tw_good {w0 : Cond} {ws : List Cond} {y : MethodName} {bytes : ByteArray} {maxL : Nat} {ret' : Option FieldType} (h : ∀ w ∈ ws, w ∈ TW) (hc : Cond.code y bytes maxL ret' ∈ TW) : GoodIn (w0 :: TW) (ws ++ (.code y bytes maxL ret' :: TW)) := by
  have g : ∀ w ∈ TW, w ∈ w0 :: TW ∧ ((w.onTables && w.keeps) = true ∨ ∃ ty, w = .arrayClass ty) := fun w hw => ⟨List.mem_cons_of_mem _ hw, good_of_word (List.mem_filter.mp hw).2⟩
  intro w hw
  rcases List.mem_append.mp hw with h1 | h1
  · exact g w (h w h1)
  · rcases List.mem_cons.mp h1 with rfl | h2
    · exact g _ hc
    · exact g w h2
theorem tw_good0 {ws : List Cond} {y : MethodName} {bytes : ByteArray} {maxL : Nat} {ret' : Option FieldType} (h : ∀ w ∈ ws, w ∈ TW) (hc : Cond.code y bytes maxL ret' ∈ TW) : GoodIn TW (ws ++ (.code y bytes maxL ret' :: TW)) := by
  have g : ∀ w ∈ TW, w ∈ TW ∧ ((w.onTables && w.keeps) = true ∨ ∃ ty, w = .arrayClass ty) := fun w hw => ⟨hw, good_of_word (List.mem_filter.mp hw).2⟩
  intro w hw
  rcases List.mem_append.mp hw with h1 | h1
  · exact g w (h w h1)
  · rcases List.mem_cons.mp h1 with rfl | h2
    · exact g _ hc
    · exact g w h2
variable {y : MethodName} {bytes : ByteArray} {maxL n index : Nat} {ret' : Option FieldType} {rm : Room} {C host : String} {As : List Value} {r : Int32 × Sg} {st0 : List Value}
theorem HP.sub {H1 : Heap} {t : State} {τ : Sg} {locs1 : List Loc} (ht : t.heap = H1) (hw : WS K E τ t) (hS : va_S (AA K E) s.heap H1 locs1) : HP K E s τ H1 locs1 := ⟨by rw [← ht]; exact hw.1, hS⟩
theorem w_cVi (hF : Fx K E p s m args meth c cc own nL ret) (hH : HP K E s σ H locs) (hl : lv_has ls nL lv) (k : Nat) (hk : k < K.1) {ci : Nat} {fs : List Value} {q : vw_C} (hc : K.2 E k (σ k) = .inr (ci, fs)) (hcl : vwCl[ci]? = some q)
    (hM : CI l y bytes maxL ret' rm K E (.ref (eA E k) :: As) σ r) (m1 : Cond.methodLink own index y ∈ TW) (m2 : Cond.instanceMethod y ∈ TW) (m3 : Cond.selects q.1 y y ∈ TW) (m4 : Cond.initialized q.1 ∈ TW) (m5 : Cond.code y bytes maxL ret' ∈ TW)
    (hrc : rm.cells = 0) (hrs : rm.slots = 0) (hd : y.cls = q.1 ∧ y.cls ≠ "java/lang/invoke/MethodHandle" ∧ y.cls ≠ "java/lang/invoke/VarHandle" ∧ (parseMethodDescriptor y.desc).map (fun d => d.parameters.length) = some n) (hR : rm.frames + 1 ≤ R.frames ∧ 8 + (maxL + 11) + rm.locals ≤ R.locals)
    (hn : As.length = n) (hst : st0 = As.reverse ++ .ref (eA E k) :: rest) (hrm : (rest.map fun v => v.category).sum ≤ 8) (hdg : decode cc pc = .ok (.invokevirtual index, 3))
    (kk : ∀ (H1 : Heap) (locs1 : List Loc), HP K E s r.2 H1 locs1 → W p l e R s m args below meth c H1 locs1 0 0 Q (F0 m (pc + 3) ls (.int r.1 :: rest))) : W p l e R s m args below meth c H locs 0 0 Q (F0 m pc ls st0) :=
  va_calli (va_runV (As := As) (rest := rest) ⟨hF.x, hF.b, hF.ml, hF.o, hF.t⟩ hM (cwV n hF.t (tw_good0 (ws := [.methodLink own index y, .instanceMethod y, .selects q.1 y y, .initialized q.1]) (List.forall_mem_cons.mpr ⟨m1, List.forall_mem_cons.mpr ⟨m2, List.forall_mem_cons.mpr ⟨m3, List.forall_mem_cons.mpr ⟨m4, fun _ h => absurd h List.not_mem_nil⟩⟩⟩⟩) m5) rfl hrc hrs hd hR)
    ⟨WS.blind, va_recv hF.k hH.1 hcl (by rw [wdl_get hk, hc]), fun U hU hW => ⟨rfl, by rw [hU]; exact hH.1, va_K.moved hW.alike hF.k, hF.n.warm hW⟩⟩ rfl hn hl.1 hst (lv_room hrm) hdg ⟨Nat.zero_le _, Nat.zero_le _⟩) hH.2 (fun q _ h => h) (fun q h => h)
    (fun r1 u t H1 locs1 ht hvm hw hB hz1 hk1 hS => by
      obtain ⟨rfl, rfl⟩ := hw
      exact kk H1 locs1 (HP.sub ht hB hS))
theorem w_cVv (hF : Fx K E p s m args meth c cc own nL ret) (hH : HP K E s σ H locs) (hl : lv_has ls nL lv) (k : Nat) (hk : k < K.1) {ci : Nat} {fs : List Value} {q : vw_C} (hc : K.2 E k (σ k) = .inr (ci, fs)) (hcl : vwCl[ci]? = some q)
    (hM : CV l y bytes maxL rm K E (.ref (eA E k) :: As) σ r) (m1 : Cond.methodLink own index y ∈ TW) (m2 : Cond.instanceMethod y ∈ TW) (m3 : Cond.selects q.1 y y ∈ TW) (m4 : Cond.initialized q.1 ∈ TW) (m5 : Cond.code y bytes maxL none ∈ TW)
    (hrc : rm.cells = 0) (hrs : rm.slots = 0) (hd : y.cls = q.1 ∧ y.cls ≠ "java/lang/invoke/MethodHandle" ∧ y.cls ≠ "java/lang/invoke/VarHandle" ∧ (parseMethodDescriptor y.desc).map (fun d => d.parameters.length) = some n) (hR : rm.frames + 1 ≤ R.frames ∧ 8 + (maxL + 11) + rm.locals ≤ R.locals)
    (hn : As.length = n) (hst : st0 = As.reverse ++ .ref (eA E k) :: rest) (hrm : (rest.map fun v => v.category).sum ≤ 8) (hdg : decode cc pc = .ok (.invokevirtual index, 3))
    (kk : ∀ (H1 : Heap) (locs1 : List Loc), HP K E s r.2 H1 locs1 → W p l e R s m args below meth c H1 locs1 0 0 Q (F0 m (pc + 3) ls rest)) : W p l e R s m args below meth c H locs 0 0 Q (F0 m pc ls st0) :=
  va_callv (va_runV (As := As) (rest := rest) ⟨hF.x, hF.b, hF.ml, hF.o, hF.t⟩ hM (cwV n hF.t (tw_good0 (ws := [.methodLink own index y, .instanceMethod y, .selects q.1 y y, .initialized q.1]) (List.forall_mem_cons.mpr ⟨m1, List.forall_mem_cons.mpr ⟨m2, List.forall_mem_cons.mpr ⟨m3, List.forall_mem_cons.mpr ⟨m4, fun _ h => absurd h List.not_mem_nil⟩⟩⟩⟩) m5) rfl hrc hrs hd hR)
    ⟨WS.blind, va_recv hF.k hH.1 hcl (by rw [wdl_get hk, hc]), fun U hU hW => ⟨rfl, by rw [hU]; exact hH.1, va_K.moved hW.alike hF.k, hF.n.warm hW⟩⟩ rfl hn hl.1 hst (lv_room hrm) hdg ⟨Nat.zero_le _, Nat.zero_le _⟩) hH.2 (fun q _ h => h) (fun q h => h)
    (fun u t H1 locs1 ht hvm hw hB hz1 hk1 hS => by
      obtain rfl := hw
      exact kk H1 locs1 (HP.sub ht hB hS))
theorem w_cSi (hF : Fx K E p s m args meth c cc own nL ret) (hH : HP K E s σ H locs) (hl : lv_has ls nL lv)
    (hM : CI l y bytes maxL ret' rm K E As σ r) (m1 : Cond.methodLink own index y ∈ TW) (m2 : Cond.static y ∈ TW) (m4 : Cond.initialized y.cls ∈ TW) (m5 : Cond.code y bytes maxL ret' ∈ TW)
    (hrc : rm.cells = 0) (hrs : rm.slots = 0) (hd : y.cls ≠ "java/lang/invoke/MethodHandle" ∧ y.cls ≠ "java/lang/invoke/VarHandle" ∧ (parseMethodDescriptor y.desc).map (fun d => d.parameters.length) = some n) (hR : rm.frames + 1 ≤ R.frames ∧ 8 + (maxL + 11) + rm.locals ≤ R.locals)
    (hn : As.length = n) (hst : st0 = As.reverse ++ rest) (hrm : (rest.map fun v => v.category).sum ≤ 8) (hdg : decode cc pc = .ok (.invokestatic index, 3))
    (kk : ∀ (H1 : Heap) (locs1 : List Loc), HP K E s r.2 H1 locs1 → W p l e R s m args below meth c H1 locs1 0 0 Q (F0 m (pc + 3) ls (.int r.1 :: rest))) : W p l e R s m args below meth c H locs 0 0 Q (F0 m pc ls st0) :=
  va_calli (va_runS (As := As) (rest := rest) ⟨hF.x, hF.b, hF.ml, hF.o, hF.t⟩ hM (va_cwS n hF.t (tw_good0 (ws := [.methodLink own index y, .static y, .initialized y.cls]) (List.forall_mem_cons.mpr ⟨m1, List.forall_mem_cons.mpr ⟨m2, List.forall_mem_cons.mpr ⟨m4, fun _ h => absurd h List.not_mem_nil⟩⟩⟩) m5) rfl hrc hrs hd hR)
    ⟨WS.blind, fun U hU hW => ⟨rfl, by rw [hU]; exact hH.1, va_K.moved hW.alike hF.k, hF.n.warm hW⟩⟩ rfl hn hl.1 hst (lv_room hrm) hdg ⟨Nat.zero_le _, Nat.zero_le _⟩) hH.2 (fun q _ h => h) (fun q h => h)
    (fun r1 u t H1 locs1 ht hvm hw hB hz1 hk1 hS => by
      obtain ⟨rfl, rfl⟩ := hw
      exact kk H1 locs1 (HP.sub ht hB hS))
theorem w_cNi (hF : Fx K E p s m args meth c cc own nL ret) (hH : HP K E s σ H locs) (hl : lv_has ls nL lv)
    (hM : CI l y bytes maxL ret' rm K E As σ r) (m1 : Cond.methodLinkNest own index y host ∈ nestW) (m2 : Cond.static y ∈ TW) (m4 : Cond.initialized y.cls ∈ TW) (m5 : Cond.code y bytes maxL ret' ∈ TW)
    (hrc : rm.cells = 0) (hrs : rm.slots = 0) (hd : y.cls ≠ "java/lang/invoke/MethodHandle" ∧ y.cls ≠ "java/lang/invoke/VarHandle" ∧ (parseMethodDescriptor y.desc).map (fun d => d.parameters.length) = some n) (hR : rm.frames + 1 ≤ R.frames ∧ 8 + (maxL + 11) + rm.locals ≤ R.locals)
    (hn : As.length = n) (hst : st0 = As.reverse ++ rest) (hrm : (rest.map fun v => v.category).sum ≤ 8) (hdg : decode cc pc = .ok (.invokestatic index, 3))
    (kk : ∀ (H1 : Heap) (locs1 : List Loc), HP K E s r.2 H1 locs1 → W p l e R s m args below meth c H1 locs1 0 0 Q (F0 m (pc + 3) ls (.int r.1 :: rest))) : W p l e R s m args below meth c H locs 0 0 Q (F0 m pc ls st0) :=
  va_calli (va_runSN (host := host) (As := As) (rest := rest) ⟨hF.x, hF.b, hF.ml, hF.o, hF.t⟩ hM ⟨va_cnB n hF.t (tw_good0 (ws := []) (fun _ h => absurd h List.not_mem_nil) m5) rfl hrc hrs (hF.n _ m1) (hF.t _ m4) hd hR, hF.t _ m2, trivial⟩
    ⟨WS.blind, fun U hU hW => ⟨rfl, by rw [hU]; exact hH.1, va_K.moved hW.alike hF.k, hF.n.warm hW⟩⟩ rfl hn hl.1 hst (lv_room hrm) hdg ⟨Nat.zero_le _, Nat.zero_le _⟩) hH.2 (fun q _ h => h) (fun q h => h)
    (fun r1 u t H1 locs1 ht hvm hw hB hz1 hk1 hS => by
      obtain ⟨rfl, rfl⟩ := hw
      exact kk H1 locs1 (HP.sub ht hB hS))
end Fix
/-! a contract out of a walk -/
def rmk (f l : Nat) : Room := { frames := f, cells := 0, slots := 0, locals := l }
section Of
variable {l : Launch} {y : MethodName} {bytes : ByteArray} {maxL : Nat} {rm : Room} {K : Wk} {E : Ev} {av : List Value} {σ : Sg} {r : Int32 × Sg} {lv : List (Nat × Value)}
theorem CI_i (hy : plainName y.cls = true) (hj : Inj K E) (hn : (lg_sl av).length ≤ maxL) (hlv : lv_args 0 av = lv)
    (body : ∀ (p : Program) (e : Env) (s : State) (m : MethodId) (args : Array Value) (below : List Frame) (meth : Method) (c : Code) (ls : Array Slot) (Q : State → Prop), Fx K E p s m args meth c bytes y.cls maxL (some .int) →
      (∀ (τ : Sg) (H : Heap) (locs : List Loc) (v : Int32) (pc : Nat) (ls : Array Slot), HP K E s τ H locs → some (v, τ) = some r → decode bytes pc = .ok (.ireturn, 1) → W p l e rm s m args below meth c H locs 0 0 Q (F0 m pc ls [.int v])) →
      HP K E s σ s.heap [] → lv_has ls maxL lv → W p l e rm s m args below meth c s.heap [] 0 0 Q (F0 m 0 ls [])) : CI l y bytes maxL (some .int) rm K E av σ r := by
  refine Met.ofW (cc := bytes) (maxL := maxL) (ret := some .int) hy rfl ?_
  intro p e s m args below meth c s₁ B hml hv
  obtain ⟨rfl, hP, hK, hN⟩ := hv
  have hts := atoms_spec (ws := .code y bytes maxL (some .int) :: TW) B.pre
  have hown : s.vm.findClass y.cls = some m.cls := findClass_of_methodNamed B.named
  have hl := lv_entry av (n := maxL) hn
  rw [hlv] at hl
  rw [lg_entry_eq]
  have hF : Fx K E p s m av.toArray meth c bytes y.cls maxL (some .int) := ⟨B.exec, B.bytes, hml, hown, fun w h => hts w (List.mem_cons_of_mem _ h), hK, hN, B.notSynchronized, B.returns, hj⟩
  exact body p e s m _ below meth c _ _ hF (fun τ H locs v pc ls hH h hd => w_iret hF hH h hd) ⟨hP, va_S.rf⟩ hl
theorem CI_z (hy : plainName y.cls = true) (hj : Inj K E) (hn : (lg_sl av).length ≤ maxL) (hlv : lv_args 0 av = lv)
    (body : ∀ (p : Program) (e : Env) (s : State) (m : MethodId) (args : Array Value) (below : List Frame) (meth : Method) (c : Code) (ls : Array Slot) (Q : State → Prop), Fx K E p s m args meth c bytes y.cls maxL (some .boolean) →
      (∀ (τ : Sg) (H : Heap) (locs : List Loc) (v : Int32) (pc : Nat) (ls : Array Slot), HP K E s τ H locs → zr v τ = some r → decode bytes pc = .ok (.ireturn, 1) → W p l e rm s m args below meth c H locs 0 0 Q (F0 m pc ls [.int v])) →
      HP K E s σ s.heap [] → lv_has ls maxL lv → W p l e rm s m args below meth c s.heap [] 0 0 Q (F0 m 0 ls [])) : CI l y bytes maxL (some .boolean) rm K E av σ r := by
  refine Met.ofW (cc := bytes) (maxL := maxL) (ret := some .boolean) hy rfl ?_
  intro p e s m args below meth c s₁ B hml hv
  obtain ⟨rfl, hP, hK, hN⟩ := hv
  have hts := atoms_spec (ws := .code y bytes maxL (some .boolean) :: TW) B.pre
  have hown : s.vm.findClass y.cls = some m.cls := findClass_of_methodNamed B.named
  have hl := lv_entry av (n := maxL) hn
  rw [hlv] at hl
  rw [lg_entry_eq]
  have hF : Fx K E p s m av.toArray meth c bytes y.cls maxL (some .boolean) := ⟨B.exec, B.bytes, hml, hown, fun w h => hts w (List.mem_cons_of_mem _ h), hK, hN, B.notSynchronized, B.returns, hj⟩
  exact body p e s m _ below meth c _ _ hF (fun τ H locs v pc ls hH h hd => w_zret hF hH h hd) ⟨hP, va_S.rf⟩ hl
theorem CV_v (hy : plainName y.cls = true) (hj : Inj K E) (hn : (lg_sl av).length ≤ maxL) (hlv : lv_args 0 av = lv)
    (body : ∀ (p : Program) (e : Env) (s : State) (m : MethodId) (args : Array Value) (below : List Frame) (meth : Method) (c : Code) (ls : Array Slot) (Q : State → Prop), Fx K E p s m args meth c bytes y.cls maxL none →
      (∀ (τ : Sg) (H : Heap) (locs : List Loc) (pc : Nat) (ls : Array Slot), HP K E s τ H locs → some ((0 : Int32), τ) = some r → decode bytes pc = .ok (.return_, 1) → W p l e rm s m args below meth c H locs 0 0 Q (F0 m pc ls [])) →
      HP K E s σ s.heap [] → lv_has ls maxL lv → W p l e rm s m args below meth c s.heap [] 0 0 Q (F0 m 0 ls [])) : CV l y bytes maxL rm K E av σ r := by
  refine Met.ofW (cc := bytes) (maxL := maxL) (ret := none) hy rfl ?_
  intro p e s m args below meth c s₁ B hml hv
  obtain ⟨rfl, hP, hK, hN⟩ := hv
  have hts := atoms_spec (ws := .code y bytes maxL none :: TW) B.pre
  have hown : s.vm.findClass y.cls = some m.cls := findClass_of_methodNamed B.named
  have hl := lv_entry av (n := maxL) hn
  rw [hlv] at hl
  rw [lg_entry_eq]
  have hF : Fx K E p s m av.toArray meth c bytes y.cls maxL none := ⟨B.exec, B.bytes, hml, hown, fun w h => hts w (List.mem_cons_of_mem _ h), hK, hN, B.notSynchronized, B.returns, hj⟩
  exact body p e s m _ below meth c _ _ hF (fun τ H locs pc ls hH h hd => w_vret hF hH h hd) ⟨hP, va_S.rf⟩ hl
end Of
section Cpy
variable {p : Program} {l : Launch} {e : Env} {R : Room} {s : State} {m : MethodId} {args : Array Value} {below : List Frame} {meth : Method} {c : Code} {H : Heap} {locs : List Loc} {Q : State → Prop}
variable {cc : ByteArray} {pc : Nat} {ls : Array Slot} {rest : List Value} {K : Wk} {E : Ev} {σ : Sg} {own : String} {nL : Nat} {ret : Option FieldType} {lv : List (Nat × Value)}
theorem w_cpy (hF : Fx K E p s m args meth c cc own nL ret) (hH : HP K E s σ H locs) (hl : lv_has ls nL lv) (k0 k1 : Nat) (hk0 : k0 < K.1) (hk1 : k1 < K.1) {n0 n1 index : Nat} (hc0 : ∀ f, K.2 E k0 f = .inl (eI E, n0, .inl f)) (hc1 : ∀ f, K.2 E k1 f = .inl (eI E, n1, .inl f))
    (m1 : Cond.methodLink own index arraycopyName ∈ TW) (m2 : Cond.native arraycopyName ∈ TW) (m3 : Cond.static arraycopyName ∈ TW) (m4 : Cond.initialized "java/lang/System" ∈ TW) {n : Int32} (h3 : ¬ n < 0) (h4 : n.toNatClampNeg ≤ n0) (h5 : n.toNatClampNeg ≤ n1)
    (hframes : 1 ≤ R.frames) (hlocals : (rest.map fun v => v.category).sum + (nativeFrameWords "java/lang/System" "arraycopy" 5 + 11) ≤ R.locals) (hdg : decode cc pc = .ok (.invokestatic index, 3))
    (kk : ∀ (σ1 : Sg) (H1 : Heap) (locs1 : List Loc), σ1 = ups σ k1 (va_cpy (σ k0) (σ k1) 0 0 n.toNatClampNeg) → HP K E s σ1 H1 locs1 → W p l e R s m args below meth c H1 locs1 0 0 Q (F0 m (pc + 3) ls rest)) : W p l e R s m args below meth c H locs 0 0 Q (F0 m pc ls (.int n :: .int 0 :: .ref (eA E k1) :: .int 0 :: .ref (eA E k0) :: rest)) :=
  va_copyi (D := eD E) (cl := vwCl) (A := AA K E) (H0 := s.heap) (ty := .int) hF.x hF.b (hF.ml.trans hl.1.symm) hF.o (hF.t _ m1) (hF.t _ m2) (hF.t _ m3) (hF.t _ m4) hF.k hH.1 (wdl_D hF.j) hH.2 k0 k1 0 0 (by rw [wdl_get hk0, hc0]) (by rw [wdl_get hk1, hc1]) rfl rfl rfl (by decide) (by decide) h3 (by show 0 + _ ≤ _; omega) (by show 0 + _ ≤ _; omega) (fun i _ => rfl) hframes hlocals hdg
    (fun H1 locs1 hP _ hS => kk _ H1 locs1 rfl ⟨by rw [wdl_set (hc1 _).symm] at hP; exact hP, hS⟩)
end Cpy
end
section
def cfC (E : Ev) (k : Nat) (f : Nat → Int32) : va_E := match k with
  | 0 => .inr (4, [.ref (eA E 1), .ref (eA E 9), .ref (eA E 12), .ref (eA E 13), .ref (eA E 17), .int (f 5)])
  | 1 => .inr (0, [.int (f 0), .ref (eA E 2), .ref (eA E 3), .ref (eA E 4), .int (f 4), .ref (eA E 5), .ref (eA E 6), .ref (eA E 7), .ref (eA E 8), .int (f 9), .int (f 10)])
  | 2 => .inl (eI E, 6, .inl f)
  | 3 => .inl (eI E, 6, .inl f)
  | 4 => .inl (eI E, 6, .inl f)
  | 5 => .inl (eI E, 3, .inl f)
  | 6 => .inl (eI E, 3, .inl f)
  | 7 => .inl (eI E, 3, .inl f)
  | 8 => .inl (eI E, 3, .inl f)
  | 9 => .inr (1, [.ref (eA E 10), .ref (eA E 11)])
  | 10 => .inl (eI E, 384, .inl f)
  | 11 => .inl (eI E, 384, .inl f)
  | 12 => .inr (2, [.ref (eA E 1), .ref (eA E 9)])
  | 13 => .inr (3, [.ref (eA E 12), .ref (eA E 14), .ref (eA E 15), .ref (eA E 16), .int (f 4)])
  | 14 => .inl (eI E, 8000, .inl f)
  | 15 => .inl (eI E, 8000, .inl f)
  | 16 => .inl (eI E, 1024, .inl f)
  | 17 => .inl (eO E, 2, .inr (.inr (.inr (.inr (va_up (va_up (fun _ => none) 0 (some (eA E 18))) 1 (some (eA E 26)))))))
  | 18 => .inr (0, [.int (f 0), .ref (eA E 19), .ref (eA E 20), .ref (eA E 21), .int (f 4), .ref (eA E 22), .ref (eA E 23), .ref (eA E 24), .ref (eA E 25), .int (f 9), .int (f 10)])
  | 19 => .inl (eI E, 6, .inl f)
  | 20 => .inl (eI E, 6, .inl f)
  | 21 => .inl (eI E, 6, .inl f)
  | 22 => .inl (eI E, 3, .inl f)
  | 23 => .inl (eI E, 3, .inl f)
  | 24 => .inl (eI E, 3, .inl f)
  | 25 => .inl (eI E, 3, .inl f)
  | 26 => .inr (0, [.int (f 0), .ref (eA E 27), .ref (eA E 28), .ref (eA E 29), .int (f 4), .ref (eA E 30), .ref (eA E 31), .ref (eA E 32), .ref (eA E 33), .int (f 9), .int (f 10)])
  | 27 => .inl (eI E, 6, .inl f)
  | 28 => .inl (eI E, 6, .inl f)
  | 29 => .inl (eI E, 6, .inl f)
  | 30 => .inl (eI E, 3, .inl f)
  | 31 => .inl (eI E, 3, .inl f)
  | 32 => .inl (eI E, 3, .inl f)
  | _ => .inl (eI E, 3, .inl f)
abbrev kC : Wk := (34, cfC)
def cfM (E : Ev) (k : Nat) (f : Nat → Int32) : va_E := match k with
  | 0 => .inr (5, [.ref (eA E 1), .ref (eA E 2), .ref (eA E 3), .ref (eA E 4), .ref (eA E 5), .ref (eA E 6), .ref (eA E 7), .ref (eA E 8), .ref (eA E 9), .ref (eA E 10), .ref (eA E 11), .int (f 11)])
  | 1 => .inl (eI E, 42, .inl f)
  | 2 => .inl (eI E, 84, .inl f)
  | 3 => .inl (eZ E, 2, .inl f)
  | 4 => .inl (eI E, 6, .inl f)
  | 5 => .inl (eI E, 3, .inl f)
  | 6 => .inl (eI E, 6, .inl f)
  | 7 => .inl (eI E, 6, .inl f)
  | 8 => .inl (eZ E, 6, .inl f)
  | 9 => .inl (eI E, 8000, .inl f)
  | 10 => .inl (eZ E, 8000, .inl f)
  | _ => .inl (eI E, 8000, .inl f)
abbrev kM : Wk := (12, cfM)
section Rw
variable {p : Program} {l : Launch} {e : Env} {R : Room} {s : State} {m : MethodId} {args : Array Value} {below : List Frame} {meth : Method} {c : Code} {H : Heap} {locs : List Loc} {Q : State → Prop} {cc : ByteArray} {pc : Nat} {ls : Array Slot} {rest : List Value} {E : Ev} {σ : Sg} {own : String} {nL idx : Nat} {ret : Option FieldType} {i v : Int32}
theorem gfC_0_0 (hF : Fx kC E p s m args meth c cc own nL ret) (hH : HP kC E s σ H locs) (hlink : Cond.fieldLink own idx "GridStarts" "grid" "LGridStarts$Grid;" ∈ TW) (hdg : decode cc pc = .ok (.getfield idx, 3)) (kk : W p l e R s m args below meth c H locs 0 0 Q (F0 m (pc + 3) ls (.ref (eA E 1) :: rest))) : W p l e R s m args below meth c H locs 0 0 Q (F0 m pc ls (.ref (eA E 0) :: rest)) := w_get hF hH 0 (by decide) rfl rfl tlX5 0 (by decide) hlink rfl hdg kk
theorem gfC_0_1 (hF : Fx kC E p s m args meth c cc own nL ret) (hH : HP kC E s σ H locs) (hlink : Cond.fieldLink own idx "GridStarts" "islands" "LGridStarts$Islands;" ∈ TW) (hdg : decode cc pc = .ok (.getfield idx, 3)) (kk : W p l e R s m args below meth c H locs 0 0 Q (F0 m (pc + 3) ls (.ref (eA E 9) :: rest))) : W p l e R s m args below meth c H locs 0 0 Q (F0 m pc ls (.ref (eA E 0) :: rest)) := w_get hF hH 0 (by decide) rfl rfl tlX5 1 (by decide) hlink rfl hdg kk
theorem gfC_0_2 (hF : Fx kC E p s m args meth c cc own nL ret) (hH : HP kC E s σ H locs) (hlink : Cond.fieldLink own idx "GridStarts" "rules" "LGridStarts$Rules;" ∈ TW) (hdg : decode cc pc = .ok (.getfield idx, 3)) (kk : W p l e R s m args below meth c H locs 0 0 Q (F0 m (pc + 3) ls (.ref (eA E 12) :: rest))) : W p l e R s m args below meth c H locs 0 0 Q (F0 m pc ls (.ref (eA E 0) :: rest)) := w_get hF hH 0 (by decide) rfl rfl tlX5 2 (by decide) hlink rfl hdg kk
theorem gfC_0_3 (hF : Fx kC E p s m args meth c cc own nL ret) (hH : HP kC E s σ H locs) (hlink : Cond.fieldLink own idx "GridStarts" "search" "LGridStarts$Search;" ∈ TW) (hdg : decode cc pc = .ok (.getfield idx, 3)) (kk : W p l e R s m args below meth c H locs 0 0 Q (F0 m (pc + 3) ls (.ref (eA E 13) :: rest))) : W p l e R s m args below meth c H locs 0 0 Q (F0 m pc ls (.ref (eA E 0) :: rest)) := w_get hF hH 0 (by decide) rfl rfl tlX5 3 (by decide) hlink rfl hdg kk
theorem gfC_0_4 (hF : Fx kC E p s m args meth c cc own nL ret) (hH : HP kC E s σ H locs) (hlink : Cond.fieldLink own idx "GridStarts" "images" "[LGridStarts$Grid;" ∈ TW) (hdg : decode cc pc = .ok (.getfield idx, 3)) (kk : W p l e R s m args below meth c H locs 0 0 Q (F0 m (pc + 3) ls (.ref (eA E 17) :: rest))) : W p l e R s m args below meth c H locs 0 0 Q (F0 m pc ls (.ref (eA E 0) :: rest)) := w_get hF hH 0 (by decide) rfl rfl tlX5 4 (by decide) hlink rfl hdg kk
theorem gfC_0_5 (hF : Fx kC E p s m args meth c cc own nL ret) (hH : HP kC E s σ H locs) (hlink : Cond.fieldLink own idx "GridStarts" "kept" "I" ∈ TW) (hdg : decode cc pc = .ok (.getfield idx, 3)) (kk : W p l e R s m args below meth c H locs 0 0 Q (F0 m (pc + 3) ls (.int (σ 0 5) :: rest))) : W p l e R s m args below meth c H locs 0 0 Q (F0 m pc ls (.ref (eA E 0) :: rest)) := w_get hF hH 0 (by decide) rfl rfl tlX5 5 (by decide) hlink rfl hdg kk
theorem pfC_0_5 (hF : Fx kC E p s m args meth c cc own nL ret) (hH : HP kC E s σ H locs) (hlink : Cond.fieldLink own idx "GridStarts" "kept" "I" ∈ TW) (hdg : decode cc pc = .ok (.putfield idx, 3)) (kk : ∀ (σ1 : Sg) (H1 : Heap) (locs1 : List Loc), σ1 = wr σ 0 5 v → HP kC E s σ1 H1 locs1 → W p l e R s m args below meth c H1 locs1 0 0 Q (F0 m (pc + 3) ls rest)) : W p l e R s m args below meth c H locs 0 0 Q (F0 m pc ls (.int v :: .ref (eA E 0) :: rest)) := w_put hF hH 0 (by decide) rfl rfl tlX5 tyX5 tyX5_ok nmX5 5 (by decide) hlink rfl (by decide +kernel) (Nat.le_of_ble_eq_true rfl) rfl hdg kk
theorem gfC_1_0 (hF : Fx kC E p s m args meth c cc own nL ret) (hH : HP kC E s σ H locs) (hlink : Cond.fieldLink own idx "GridStarts$Grid" "lines" "I" ∈ TW) (hdg : decode cc pc = .ok (.getfield idx, 3)) (kk : W p l e R s m args below meth c H locs 0 0 Q (F0 m (pc + 3) ls (.int (σ 1 0) :: rest))) : W p l e R s m args below meth c H locs 0 0 Q (F0 m pc ls (.ref (eA E 1) :: rest)) := w_get hF hH 1 (by decide) rfl rfl tlX1 0 (by decide) hlink rfl hdg kk
theorem pfC_1_0 (hF : Fx kC E p s m args meth c cc own nL ret) (hH : HP kC E s σ H locs) (hlink : Cond.fieldLink own idx "GridStarts$Grid" "lines" "I" ∈ TW) (hdg : decode cc pc = .ok (.putfield idx, 3)) (kk : ∀ (σ1 : Sg) (H1 : Heap) (locs1 : List Loc), σ1 = wr σ 1 0 v → HP kC E s σ1 H1 locs1 → W p l e R s m args below meth c H1 locs1 0 0 Q (F0 m (pc + 3) ls rest)) : W p l e R s m args below meth c H locs 0 0 Q (F0 m pc ls (.int v :: .ref (eA E 1) :: rest)) := w_put hF hH 1 (by decide) rfl rfl tlX1 tyX1 tyX1_ok nmX1 0 (by decide) hlink rfl (by decide +kernel) (Nat.le_of_ble_eq_true rfl) rfl hdg kk
theorem gfC_1_1 (hF : Fx kC E p s m args meth c cc own nL ret) (hH : HP kC E s σ H locs) (hlink : Cond.fieldLink own idx "GridStarts$Grid" "lesser" "[I" ∈ TW) (hdg : decode cc pc = .ok (.getfield idx, 3)) (kk : W p l e R s m args below meth c H locs 0 0 Q (F0 m (pc + 3) ls (.ref (eA E 2) :: rest))) : W p l e R s m args below meth c H locs 0 0 Q (F0 m pc ls (.ref (eA E 1) :: rest)) := w_get hF hH 1 (by decide) rfl rfl tlX1 1 (by decide) hlink rfl hdg kk
theorem gfC_1_2 (hF : Fx kC E p s m args meth c cc own nL ret) (hH : HP kC E s σ H locs) (hlink : Cond.fieldLink own idx "GridStarts$Grid" "greater" "[I" ∈ TW) (hdg : decode cc pc = .ok (.getfield idx, 3)) (kk : W p l e R s m args below meth c H locs 0 0 Q (F0 m (pc + 3) ls (.ref (eA E 3) :: rest))) : W p l e R s m args below meth c H locs 0 0 Q (F0 m pc ls (.ref (eA E 1) :: rest)) := w_get hF hH 1 (by decide) rfl rfl tlX1 2 (by decide) hlink rfl hdg kk
theorem gfC_1_3 (hF : Fx kC E p s m args meth c cc own nL ret) (hH : HP kC E s σ H locs) (hlink : Cond.fieldLink own idx "GridStarts$Grid" "charge" "[I" ∈ TW) (hdg : decode cc pc = .ok (.getfield idx, 3)) (kk : W p l e R s m args below meth c H locs 0 0 Q (F0 m (pc + 3) ls (.ref (eA E 4) :: rest))) : W p l e R s m args below meth c H locs 0 0 Q (F0 m pc ls (.ref (eA E 1) :: rest)) := w_get hF hH 1 (by decide) rfl rfl tlX1 3 (by decide) hlink rfl hdg kk
theorem gfC_1_4 (hF : Fx kC E p s m args meth c cc own nL ret) (hH : HP kC E s σ H locs) (hlink : Cond.fieldLink own idx "GridStarts$Grid" "machines" "I" ∈ TW) (hdg : decode cc pc = .ok (.getfield idx, 3)) (kk : W p l e R s m args below meth c H locs 0 0 Q (F0 m (pc + 3) ls (.int (σ 1 4) :: rest))) : W p l e R s m args below meth c H locs 0 0 Q (F0 m pc ls (.ref (eA E 1) :: rest)) := w_get hF hH 1 (by decide) rfl rfl tlX1 4 (by decide) hlink rfl hdg kk
theorem pfC_1_4 (hF : Fx kC E p s m args meth c cc own nL ret) (hH : HP kC E s σ H locs) (hlink : Cond.fieldLink own idx "GridStarts$Grid" "machines" "I" ∈ TW) (hdg : decode cc pc = .ok (.putfield idx, 3)) (kk : ∀ (σ1 : Sg) (H1 : Heap) (locs1 : List Loc), σ1 = wr σ 1 4 v → HP kC E s σ1 H1 locs1 → W p l e R s m args below meth c H1 locs1 0 0 Q (F0 m (pc + 3) ls rest)) : W p l e R s m args below meth c H locs 0 0 Q (F0 m pc ls (.int v :: .ref (eA E 1) :: rest)) := w_put hF hH 1 (by decide) rfl rfl tlX1 tyX1 tyX1_ok nmX1 4 (by decide) hlink rfl (by decide +kernel) (Nat.le_of_ble_eq_true rfl) rfl hdg kk
theorem gfC_1_5 (hF : Fx kC E p s m args meth c cc own nL ret) (hH : HP kC E s σ H locs) (hlink : Cond.fieldLink own idx "GridStarts$Grid" "home" "[I" ∈ TW) (hdg : decode cc pc = .ok (.getfield idx, 3)) (kk : W p l e R s m args below meth c H locs 0 0 Q (F0 m (pc + 3) ls (.ref (eA E 5) :: rest))) : W p l e R s m args below meth c H locs 0 0 Q (F0 m pc ls (.ref (eA E 1) :: rest)) := w_get hF hH 1 (by decide) rfl rfl tlX1 5 (by decide) hlink rfl hdg kk
theorem gfC_1_6 (hF : Fx kC E p s m args meth c cc own nL ret) (hH : HP kC E s σ H locs) (hlink : Cond.fieldLink own idx "GridStarts$Grid" "crank" "[I" ∈ TW) (hdg : decode cc pc = .ok (.getfield idx, 3)) (kk : W p l e R s m args below meth c H locs 0 0 Q (F0 m (pc + 3) ls (.ref (eA E 6) :: rest))) : W p l e R s m args below meth c H locs 0 0 Q (F0 m pc ls (.ref (eA E 1) :: rest)) := w_get hF hH 1 (by decide) rfl rfl tlX1 6 (by decide) hlink rfl hdg kk
theorem gfC_1_7 (hF : Fx kC E p s m args meth c cc own nL ret) (hH : HP kC E s σ H locs) (hlink : Cond.fieldLink own idx "GridStarts$Grid" "power" "[I" ∈ TW) (hdg : decode cc pc = .ok (.getfield idx, 3)) (kk : W p l e R s m args below meth c H locs 0 0 Q (F0 m (pc + 3) ls (.ref (eA E 7) :: rest))) : W p l e R s m args below meth c H locs 0 0 Q (F0 m pc ls (.ref (eA E 1) :: rest)) := w_get hF hH 1 (by decide) rfl rfl tlX1 7 (by decide) hlink rfl hdg kk
theorem gfC_1_8 (hF : Fx kC E p s m args meth c cc own nL ret) (hH : HP kC E s σ H locs) (hlink : Cond.fieldLink own idx "GridStarts$Grid" "ramp" "[I" ∈ TW) (hdg : decode cc pc = .ok (.getfield idx, 3)) (kk : W p l e R s m args below meth c H locs 0 0 Q (F0 m (pc + 3) ls (.ref (eA E 8) :: rest))) : W p l e R s m args below meth c H locs 0 0 Q (F0 m pc ls (.ref (eA E 1) :: rest)) := w_get hF hH 1 (by decide) rfl rfl tlX1 8 (by decide) hlink rfl hdg kk
theorem gfC_1_9 (hF : Fx kC E p s m args meth c cc own nL ret) (hH : HP kC E s σ H locs) (hlink : Cond.fieldLink own idx "GridStarts$Grid" "code" "I" ∈ TW) (hdg : decode cc pc = .ok (.getfield idx, 3)) (kk : W p l e R s m args below meth c H locs 0 0 Q (F0 m (pc + 3) ls (.int (σ 1 9) :: rest))) : W p l e R s m args below meth c H locs 0 0 Q (F0 m pc ls (.ref (eA E 1) :: rest)) := w_get hF hH 1 (by decide) rfl rfl tlX1 9 (by decide) hlink rfl hdg kk
theorem pfC_1_9 (hF : Fx kC E p s m args meth c cc own nL ret) (hH : HP kC E s σ H locs) (hlink : Cond.fieldLink own idx "GridStarts$Grid" "code" "I" ∈ TW) (hdg : decode cc pc = .ok (.putfield idx, 3)) (kk : ∀ (σ1 : Sg) (H1 : Heap) (locs1 : List Loc), σ1 = wr σ 1 9 v → HP kC E s σ1 H1 locs1 → W p l e R s m args below meth c H1 locs1 0 0 Q (F0 m (pc + 3) ls rest)) : W p l e R s m args below meth c H locs 0 0 Q (F0 m pc ls (.int v :: .ref (eA E 1) :: rest)) := w_put hF hH 1 (by decide) rfl rfl tlX1 tyX1 tyX1_ok nmX1 9 (by decide) hlink rfl (by decide +kernel) (Nat.le_of_ble_eq_true rfl) rfl hdg kk
theorem gfC_1_10 (hF : Fx kC E p s m args meth c cc own nL ret) (hH : HP kC E s σ H locs) (hlink : Cond.fieldLink own idx "GridStarts$Grid" "now" "I" ∈ TW) (hdg : decode cc pc = .ok (.getfield idx, 3)) (kk : W p l e R s m args below meth c H locs 0 0 Q (F0 m (pc + 3) ls (.int (σ 1 10) :: rest))) : W p l e R s m args below meth c H locs 0 0 Q (F0 m pc ls (.ref (eA E 1) :: rest)) := w_get hF hH 1 (by decide) rfl rfl tlX1 10 (by decide) hlink rfl hdg kk
theorem pfC_1_10 (hF : Fx kC E p s m args meth c cc own nL ret) (hH : HP kC E s σ H locs) (hlink : Cond.fieldLink own idx "GridStarts$Grid" "now" "I" ∈ TW) (hdg : decode cc pc = .ok (.putfield idx, 3)) (kk : ∀ (σ1 : Sg) (H1 : Heap) (locs1 : List Loc), σ1 = wr σ 1 10 v → HP kC E s σ1 H1 locs1 → W p l e R s m args below meth c H1 locs1 0 0 Q (F0 m (pc + 3) ls rest)) : W p l e R s m args below meth c H locs 0 0 Q (F0 m pc ls (.int v :: .ref (eA E 1) :: rest)) := w_put hF hH 1 (by decide) rfl rfl tlX1 tyX1 tyX1_ok nmX1 10 (by decide) hlink rfl (by decide +kernel) (Nat.le_of_ble_eq_true rfl) rfl hdg kk
theorem alC_2 (hF : Fx kC E p s m args meth c cc own nL ret) (hH : HP kC E s σ H locs) (hin : vp_in i 6) (hdg : decode cc pc = .ok (.iaload, 1)) (kk : W p l e R s m args below meth c H locs 0 0 Q (F0 m (pc + 1) ls (.int (σ 2 i.toNatClampNeg) :: rest))) : W p l e R s m args below meth c H locs 0 0 Q (F0 m pc ls (.int i :: .ref (eA E 2) :: rest)) := w_ald hF hH 2 (by decide) (fun _ => rfl) hin hdg kk
theorem asC_2 (hF : Fx kC E p s m args meth c cc own nL ret) (hH : HP kC E s σ H locs) (hin : vp_in i 6) (hdg : decode cc pc = .ok (.iastore, 1)) (kk : ∀ (σ1 : Sg) (H1 : Heap) (locs1 : List Loc), σ1 = wr σ 2 i.toNatClampNeg v → HP kC E s σ1 H1 locs1 → W p l e R s m args below meth c H1 locs1 0 0 Q (F0 m (pc + 1) ls rest)) : W p l e R s m args below meth c H locs 0 0 Q (F0 m pc ls (.int v :: .int i :: .ref (eA E 2) :: rest)) := w_ast hF hH 2 (by decide) (fun _ => rfl) hin hdg kk
theorem alC_3 (hF : Fx kC E p s m args meth c cc own nL ret) (hH : HP kC E s σ H locs) (hin : vp_in i 6) (hdg : decode cc pc = .ok (.iaload, 1)) (kk : W p l e R s m args below meth c H locs 0 0 Q (F0 m (pc + 1) ls (.int (σ 3 i.toNatClampNeg) :: rest))) : W p l e R s m args below meth c H locs 0 0 Q (F0 m pc ls (.int i :: .ref (eA E 3) :: rest)) := w_ald hF hH 3 (by decide) (fun _ => rfl) hin hdg kk
theorem asC_3 (hF : Fx kC E p s m args meth c cc own nL ret) (hH : HP kC E s σ H locs) (hin : vp_in i 6) (hdg : decode cc pc = .ok (.iastore, 1)) (kk : ∀ (σ1 : Sg) (H1 : Heap) (locs1 : List Loc), σ1 = wr σ 3 i.toNatClampNeg v → HP kC E s σ1 H1 locs1 → W p l e R s m args below meth c H1 locs1 0 0 Q (F0 m (pc + 1) ls rest)) : W p l e R s m args below meth c H locs 0 0 Q (F0 m pc ls (.int v :: .int i :: .ref (eA E 3) :: rest)) := w_ast hF hH 3 (by decide) (fun _ => rfl) hin hdg kk
theorem alC_4 (hF : Fx kC E p s m args meth c cc own nL ret) (hH : HP kC E s σ H locs) (hin : vp_in i 6) (hdg : decode cc pc = .ok (.iaload, 1)) (kk : W p l e R s m args below meth c H locs 0 0 Q (F0 m (pc + 1) ls (.int (σ 4 i.toNatClampNeg) :: rest))) : W p l e R s m args below meth c H locs 0 0 Q (F0 m pc ls (.int i :: .ref (eA E 4) :: rest)) := w_ald hF hH 4 (by decide) (fun _ => rfl) hin hdg kk
theorem asC_4 (hF : Fx kC E p s m args meth c cc own nL ret) (hH : HP kC E s σ H locs) (hin : vp_in i 6) (hdg : decode cc pc = .ok (.iastore, 1)) (kk : ∀ (σ1 : Sg) (H1 : Heap) (locs1 : List Loc), σ1 = wr σ 4 i.toNatClampNeg v → HP kC E s σ1 H1 locs1 → W p l e R s m args below meth c H1 locs1 0 0 Q (F0 m (pc + 1) ls rest)) : W p l e R s m args below meth c H locs 0 0 Q (F0 m pc ls (.int v :: .int i :: .ref (eA E 4) :: rest)) := w_ast hF hH 4 (by decide) (fun _ => rfl) hin hdg kk
theorem alC_5 (hF : Fx kC E p s m args meth c cc own nL ret) (hH : HP kC E s σ H locs) (hin : vp_in i 3) (hdg : decode cc pc = .ok (.iaload, 1)) (kk : W p l e R s m args below meth c H locs 0 0 Q (F0 m (pc + 1) ls (.int (σ 5 i.toNatClampNeg) :: rest))) : W p l e R s m args below meth c H locs 0 0 Q (F0 m pc ls (.int i :: .ref (eA E 5) :: rest)) := w_ald hF hH 5 (by decide) (fun _ => rfl) hin hdg kk
theorem asC_5 (hF : Fx kC E p s m args meth c cc own nL ret) (hH : HP kC E s σ H locs) (hin : vp_in i 3) (hdg : decode cc pc = .ok (.iastore, 1)) (kk : ∀ (σ1 : Sg) (H1 : Heap) (locs1 : List Loc), σ1 = wr σ 5 i.toNatClampNeg v → HP kC E s σ1 H1 locs1 → W p l e R s m args below meth c H1 locs1 0 0 Q (F0 m (pc + 1) ls rest)) : W p l e R s m args below meth c H locs 0 0 Q (F0 m pc ls (.int v :: .int i :: .ref (eA E 5) :: rest)) := w_ast hF hH 5 (by decide) (fun _ => rfl) hin hdg kk
theorem alC_6 (hF : Fx kC E p s m args meth c cc own nL ret) (hH : HP kC E s σ H locs) (hin : vp_in i 3) (hdg : decode cc pc = .ok (.iaload, 1)) (kk : W p l e R s m args below meth c H locs 0 0 Q (F0 m (pc + 1) ls (.int (σ 6 i.toNatClampNeg) :: rest))) : W p l e R s m args below meth c H locs 0 0 Q (F0 m pc ls (.int i :: .ref (eA E 6) :: rest)) := w_ald hF hH 6 (by decide) (fun _ => rfl) hin hdg kk
theorem asC_6 (hF : Fx kC E p s m args meth c cc own nL ret) (hH : HP kC E s σ H locs) (hin : vp_in i 3) (hdg : decode cc pc = .ok (.iastore, 1)) (kk : ∀ (σ1 : Sg) (H1 : Heap) (locs1 : List Loc), σ1 = wr σ 6 i.toNatClampNeg v → HP kC E s σ1 H1 locs1 → W p l e R s m args below meth c H1 locs1 0 0 Q (F0 m (pc + 1) ls rest)) : W p l e R s m args below meth c H locs 0 0 Q (F0 m pc ls (.int v :: .int i :: .ref (eA E 6) :: rest)) := w_ast hF hH 6 (by decide) (fun _ => rfl) hin hdg kk
theorem alC_7 (hF : Fx kC E p s m args meth c cc own nL ret) (hH : HP kC E s σ H locs) (hin : vp_in i 3) (hdg : decode cc pc = .ok (.iaload, 1)) (kk : W p l e R s m args below meth c H locs 0 0 Q (F0 m (pc + 1) ls (.int (σ 7 i.toNatClampNeg) :: rest))) : W p l e R s m args below meth c H locs 0 0 Q (F0 m pc ls (.int i :: .ref (eA E 7) :: rest)) := w_ald hF hH 7 (by decide) (fun _ => rfl) hin hdg kk
theorem asC_7 (hF : Fx kC E p s m args meth c cc own nL ret) (hH : HP kC E s σ H locs) (hin : vp_in i 3) (hdg : decode cc pc = .ok (.iastore, 1)) (kk : ∀ (σ1 : Sg) (H1 : Heap) (locs1 : List Loc), σ1 = wr σ 7 i.toNatClampNeg v → HP kC E s σ1 H1 locs1 → W p l e R s m args below meth c H1 locs1 0 0 Q (F0 m (pc + 1) ls rest)) : W p l e R s m args below meth c H locs 0 0 Q (F0 m pc ls (.int v :: .int i :: .ref (eA E 7) :: rest)) := w_ast hF hH 7 (by decide) (fun _ => rfl) hin hdg kk
theorem alC_8 (hF : Fx kC E p s m args meth c cc own nL ret) (hH : HP kC E s σ H locs) (hin : vp_in i 3) (hdg : decode cc pc = .ok (.iaload, 1)) (kk : W p l e R s m args below meth c H locs 0 0 Q (F0 m (pc + 1) ls (.int (σ 8 i.toNatClampNeg) :: rest))) : W p l e R s m args below meth c H locs 0 0 Q (F0 m pc ls (.int i :: .ref (eA E 8) :: rest)) := w_ald hF hH 8 (by decide) (fun _ => rfl) hin hdg kk
theorem asC_8 (hF : Fx kC E p s m args meth c cc own nL ret) (hH : HP kC E s σ H locs) (hin : vp_in i 3) (hdg : decode cc pc = .ok (.iastore, 1)) (kk : ∀ (σ1 : Sg) (H1 : Heap) (locs1 : List Loc), σ1 = wr σ 8 i.toNatClampNeg v → HP kC E s σ1 H1 locs1 → W p l e R s m args below meth c H1 locs1 0 0 Q (F0 m (pc + 1) ls rest)) : W p l e R s m args below meth c H locs 0 0 Q (F0 m pc ls (.int v :: .int i :: .ref (eA E 8) :: rest)) := w_ast hF hH 8 (by decide) (fun _ => rfl) hin hdg kk
theorem gfC_9_0 (hF : Fx kC E p s m args meth c cc own nL ret) (hH : HP kC E s σ H locs) (hlink : Cond.fieldLink own idx "GridStarts$Islands" "sets" "[I" ∈ TW) (hdg : decode cc pc = .ok (.getfield idx, 3)) (kk : W p l e R s m args below meth c H locs 0 0 Q (F0 m (pc + 3) ls (.ref (eA E 10) :: rest))) : W p l e R s m args below meth c H locs 0 0 Q (F0 m pc ls (.ref (eA E 9) :: rest)) := w_get hF hH 9 (by decide) rfl rfl tlX2 0 (by decide) hlink rfl hdg kk
theorem gfC_9_1 (hF : Fx kC E p s m args meth c cc own nL ret) (hH : HP kC E s σ H locs) (hlink : Cond.fieldLink own idx "GridStarts$Islands" "draws" "[I" ∈ TW) (hdg : decode cc pc = .ok (.getfield idx, 3)) (kk : W p l e R s m args below meth c H locs 0 0 Q (F0 m (pc + 3) ls (.ref (eA E 11) :: rest))) : W p l e R s m args below meth c H locs 0 0 Q (F0 m pc ls (.ref (eA E 9) :: rest)) := w_get hF hH 9 (by decide) rfl rfl tlX2 1 (by decide) hlink rfl hdg kk
theorem alC_10 (hF : Fx kC E p s m args meth c cc own nL ret) (hH : HP kC E s σ H locs) (hin : vp_in i 384) (hdg : decode cc pc = .ok (.iaload, 1)) (kk : W p l e R s m args below meth c H locs 0 0 Q (F0 m (pc + 1) ls (.int (σ 10 i.toNatClampNeg) :: rest))) : W p l e R s m args below meth c H locs 0 0 Q (F0 m pc ls (.int i :: .ref (eA E 10) :: rest)) := w_ald hF hH 10 (by decide) (fun _ => rfl) hin hdg kk
theorem asC_10 (hF : Fx kC E p s m args meth c cc own nL ret) (hH : HP kC E s σ H locs) (hin : vp_in i 384) (hdg : decode cc pc = .ok (.iastore, 1)) (kk : ∀ (σ1 : Sg) (H1 : Heap) (locs1 : List Loc), σ1 = wr σ 10 i.toNatClampNeg v → HP kC E s σ1 H1 locs1 → W p l e R s m args below meth c H1 locs1 0 0 Q (F0 m (pc + 1) ls rest)) : W p l e R s m args below meth c H locs 0 0 Q (F0 m pc ls (.int v :: .int i :: .ref (eA E 10) :: rest)) := w_ast hF hH 10 (by decide) (fun _ => rfl) hin hdg kk
theorem alC_11 (hF : Fx kC E p s m args meth c cc own nL ret) (hH : HP kC E s σ H locs) (hin : vp_in i 384) (hdg : decode cc pc = .ok (.iaload, 1)) (kk : W p l e R s m args below meth c H locs 0 0 Q (F0 m (pc + 1) ls (.int (σ 11 i.toNatClampNeg) :: rest))) : W p l e R s m args below meth c H locs 0 0 Q (F0 m pc ls (.int i :: .ref (eA E 11) :: rest)) := w_ald hF hH 11 (by decide) (fun _ => rfl) hin hdg kk
theorem asC_11 (hF : Fx kC E p s m args meth c cc own nL ret) (hH : HP kC E s σ H locs) (hin : vp_in i 384) (hdg : decode cc pc = .ok (.iastore, 1)) (kk : ∀ (σ1 : Sg) (H1 : Heap) (locs1 : List Loc), σ1 = wr σ 11 i.toNatClampNeg v → HP kC E s σ1 H1 locs1 → W p l e R s m args below meth c H1 locs1 0 0 Q (F0 m (pc + 1) ls rest)) : W p l e R s m args below meth c H locs 0 0 Q (F0 m pc ls (.int v :: .int i :: .ref (eA E 11) :: rest)) := w_ast hF hH 11 (by decide) (fun _ => rfl) hin hdg kk
theorem gfC_12_0 (hF : Fx kC E p s m args meth c cc own nL ret) (hH : HP kC E s σ H locs) (hlink : Cond.fieldLink own idx "GridStarts$Rules" "grid" "LGridStarts$Grid;" ∈ TW) (hdg : decode cc pc = .ok (.getfield idx, 3)) (kk : W p l e R s m args below meth c H locs 0 0 Q (F0 m (pc + 3) ls (.ref (eA E 1) :: rest))) : W p l e R s m args below meth c H locs 0 0 Q (F0 m pc ls (.ref (eA E 12) :: rest)) := w_get hF hH 12 (by decide) rfl rfl tlX3 0 (by decide) hlink rfl hdg kk
theorem gfC_12_1 (hF : Fx kC E p s m args meth c cc own nL ret) (hH : HP kC E s σ H locs) (hlink : Cond.fieldLink own idx "GridStarts$Rules" "islands" "LGridStarts$Islands;" ∈ TW) (hdg : decode cc pc = .ok (.getfield idx, 3)) (kk : W p l e R s m args below meth c H locs 0 0 Q (F0 m (pc + 3) ls (.ref (eA E 9) :: rest))) : W p l e R s m args below meth c H locs 0 0 Q (F0 m pc ls (.ref (eA E 12) :: rest)) := w_get hF hH 12 (by decide) rfl rfl tlX3 1 (by decide) hlink rfl hdg kk
theorem gfC_13_0 (hF : Fx kC E p s m args meth c cc own nL ret) (hH : HP kC E s σ H locs) (hlink : Cond.fieldLink own idx "GridStarts$Search" "rules" "LGridStarts$Rules;" ∈ TW) (hdg : decode cc pc = .ok (.getfield idx, 3)) (kk : W p l e R s m args below meth c H locs 0 0 Q (F0 m (pc + 3) ls (.ref (eA E 12) :: rest))) : W p l e R s m args below meth c H locs 0 0 Q (F0 m pc ls (.ref (eA E 13) :: rest)) := w_get hF hH 13 (by decide) rfl rfl tlX4 0 (by decide) hlink rfl hdg kk
theorem gfC_13_1 (hF : Fx kC E p s m args meth c cc own nL ret) (hH : HP kC E s σ H locs) (hlink : Cond.fieldLink own idx "GridStarts$Search" "codes" "[I" ∈ TW) (hdg : decode cc pc = .ok (.getfield idx, 3)) (kk : W p l e R s m args below meth c H locs 0 0 Q (F0 m (pc + 3) ls (.ref (eA E 14) :: rest))) : W p l e R s m args below meth c H locs 0 0 Q (F0 m pc ls (.ref (eA E 13) :: rest)) := w_get hF hH 13 (by decide) rfl rfl tlX4 1 (by decide) hlink rfl hdg kk
theorem gfC_13_2 (hF : Fx kC E p s m args meth c cc own nL ret) (hH : HP kC E s σ H locs) (hlink : Cond.fieldLink own idx "GridStarts$Search" "origins" "[I" ∈ TW) (hdg : decode cc pc = .ok (.getfield idx, 3)) (kk : W p l e R s m args below meth c H locs 0 0 Q (F0 m (pc + 3) ls (.ref (eA E 15) :: rest))) : W p l e R s m args below meth c H locs 0 0 Q (F0 m pc ls (.ref (eA E 13) :: rest)) := w_get hF hH 13 (by decide) rfl rfl tlX4 2 (by decide) hlink rfl hdg kk
theorem gfC_13_3 (hF : Fx kC E p s m args meth c cc own nL ret) (hH : HP kC E s σ H locs) (hlink : Cond.fieldLink own idx "GridStarts$Search" "seen" "[I" ∈ TW) (hdg : decode cc pc = .ok (.getfield idx, 3)) (kk : W p l e R s m args below meth c H locs 0 0 Q (F0 m (pc + 3) ls (.ref (eA E 16) :: rest))) : W p l e R s m args below meth c H locs 0 0 Q (F0 m pc ls (.ref (eA E 13) :: rest)) := w_get hF hH 13 (by decide) rfl rfl tlX4 3 (by decide) hlink rfl hdg kk
theorem gfC_13_4 (hF : Fx kC E p s m args meth c cc own nL ret) (hH : HP kC E s σ H locs) (hlink : Cond.fieldLink own idx "GridStarts$Search" "size" "I" ∈ TW) (hdg : decode cc pc = .ok (.getfield idx, 3)) (kk : W p l e R s m args below meth c H locs 0 0 Q (F0 m (pc + 3) ls (.int (σ 13 4) :: rest))) : W p l e R s m args below meth c H locs 0 0 Q (F0 m pc ls (.ref (eA E 13) :: rest)) := w_get hF hH 13 (by decide) rfl rfl tlX4 4 (by decide) hlink rfl hdg kk
theorem pfC_13_4 (hF : Fx kC E p s m args meth c cc own nL ret) (hH : HP kC E s σ H locs) (hlink : Cond.fieldLink own idx "GridStarts$Search" "size" "I" ∈ TW) (hdg : decode cc pc = .ok (.putfield idx, 3)) (kk : ∀ (σ1 : Sg) (H1 : Heap) (locs1 : List Loc), σ1 = wr σ 13 4 v → HP kC E s σ1 H1 locs1 → W p l e R s m args below meth c H1 locs1 0 0 Q (F0 m (pc + 3) ls rest)) : W p l e R s m args below meth c H locs 0 0 Q (F0 m pc ls (.int v :: .ref (eA E 13) :: rest)) := w_put hF hH 13 (by decide) rfl rfl tlX4 tyX4 tyX4_ok nmX4 4 (by decide) hlink rfl (by decide +kernel) (Nat.le_of_ble_eq_true rfl) rfl hdg kk
theorem alC_14 (hF : Fx kC E p s m args meth c cc own nL ret) (hH : HP kC E s σ H locs) (hin : vp_in i 8000) (hdg : decode cc pc = .ok (.iaload, 1)) (kk : W p l e R s m args below meth c H locs 0 0 Q (F0 m (pc + 1) ls (.int (σ 14 i.toNatClampNeg) :: rest))) : W p l e R s m args below meth c H locs 0 0 Q (F0 m pc ls (.int i :: .ref (eA E 14) :: rest)) := w_ald hF hH 14 (by decide) (fun _ => rfl) hin hdg kk
theorem asC_14 (hF : Fx kC E p s m args meth c cc own nL ret) (hH : HP kC E s σ H locs) (hin : vp_in i 8000) (hdg : decode cc pc = .ok (.iastore, 1)) (kk : ∀ (σ1 : Sg) (H1 : Heap) (locs1 : List Loc), σ1 = wr σ 14 i.toNatClampNeg v → HP kC E s σ1 H1 locs1 → W p l e R s m args below meth c H1 locs1 0 0 Q (F0 m (pc + 1) ls rest)) : W p l e R s m args below meth c H locs 0 0 Q (F0 m pc ls (.int v :: .int i :: .ref (eA E 14) :: rest)) := w_ast hF hH 14 (by decide) (fun _ => rfl) hin hdg kk
theorem alC_15 (hF : Fx kC E p s m args meth c cc own nL ret) (hH : HP kC E s σ H locs) (hin : vp_in i 8000) (hdg : decode cc pc = .ok (.iaload, 1)) (kk : W p l e R s m args below meth c H locs 0 0 Q (F0 m (pc + 1) ls (.int (σ 15 i.toNatClampNeg) :: rest))) : W p l e R s m args below meth c H locs 0 0 Q (F0 m pc ls (.int i :: .ref (eA E 15) :: rest)) := w_ald hF hH 15 (by decide) (fun _ => rfl) hin hdg kk
theorem asC_15 (hF : Fx kC E p s m args meth c cc own nL ret) (hH : HP kC E s σ H locs) (hin : vp_in i 8000) (hdg : decode cc pc = .ok (.iastore, 1)) (kk : ∀ (σ1 : Sg) (H1 : Heap) (locs1 : List Loc), σ1 = wr σ 15 i.toNatClampNeg v → HP kC E s σ1 H1 locs1 → W p l e R s m args below meth c H1 locs1 0 0 Q (F0 m (pc + 1) ls rest)) : W p l e R s m args below meth c H locs 0 0 Q (F0 m pc ls (.int v :: .int i :: .ref (eA E 15) :: rest)) := w_ast hF hH 15 (by decide) (fun _ => rfl) hin hdg kk
theorem alC_16 (hF : Fx kC E p s m args meth c cc own nL ret) (hH : HP kC E s σ H locs) (hin : vp_in i 1024) (hdg : decode cc pc = .ok (.iaload, 1)) (kk : W p l e R s m args below meth c H locs 0 0 Q (F0 m (pc + 1) ls (.int (σ 16 i.toNatClampNeg) :: rest))) : W p l e R s m args below meth c H locs 0 0 Q (F0 m pc ls (.int i :: .ref (eA E 16) :: rest)) := w_ald hF hH 16 (by decide) (fun _ => rfl) hin hdg kk
theorem asC_16 (hF : Fx kC E p s m args meth c cc own nL ret) (hH : HP kC E s σ H locs) (hin : vp_in i 1024) (hdg : decode cc pc = .ok (.iastore, 1)) (kk : ∀ (σ1 : Sg) (H1 : Heap) (locs1 : List Loc), σ1 = wr σ 16 i.toNatClampNeg v → HP kC E s σ1 H1 locs1 → W p l e R s m args below meth c H1 locs1 0 0 Q (F0 m (pc + 1) ls rest)) : W p l e R s m args below meth c H locs 0 0 Q (F0 m pc ls (.int v :: .int i :: .ref (eA E 16) :: rest)) := w_ast hF hH 16 (by decide) (fun _ => rfl) hin hdg kk
theorem aqC_17_0 (hF : Fx kC E p s m args meth c cc own nL ret) (hH : HP kC E s σ H locs) (ci : i = 0) (hdg : decode cc pc = .ok (.aaload, 1)) (kk : W p l e R s m args below meth c H locs 0 0 Q (F0 m (pc + 1) ls (.ref (eA E 18) :: rest))) : W p l e R s m args below meth c H locs 0 0 Q (F0 m pc ls (.int i :: .ref (eA E 17) :: rest)) := by
  subst ci
  exact va_aldq (D := eD E) (cl := vwCl) (f := va_up (va_up (fun _ => none) 0 (some (eA E 18))) 1 (some (eA E 26))) hF.x hF.b hF.k hH.1 17 2 (by rw [wdl_get (by decide)]; rfl) rfl (by unfold vp_in; decide) hdg kk
theorem aqC_17_1 (hF : Fx kC E p s m args meth c cc own nL ret) (hH : HP kC E s σ H locs) (hin : vp_in i 2) (ci : ¬ i = 0) (hdg : decode cc pc = .ok (.aaload, 1)) (kk : W p l e R s m args below meth c H locs 0 0 Q (F0 m (pc + 1) ls (.ref (eA E 26) :: rest))) : W p l e R s m args below meth c H locs 0 0 Q (F0 m pc ls (.int i :: .ref (eA E 17) :: rest)) := by
  obtain ⟨j, hj, rfl⟩ := vp_in_of hin (by decide)
  have : j = 1 := by
    rcases j with _ | _ | j
    · exact absurd rfl ci
    · rfl
    · omega
  subst this
  exact va_aldq (D := eD E) (cl := vwCl) (f := va_up (va_up (fun _ => none) 0 (some (eA E 18))) 1 (some (eA E 26))) hF.x hF.b hF.k hH.1 17 2 (by rw [wdl_get (by decide)]; rfl) rfl (by unfold vp_in; decide) hdg kk
theorem gfC_18_0 (hF : Fx kC E p s m args meth c cc own nL ret) (hH : HP kC E s σ H locs) (hlink : Cond.fieldLink own idx "GridStarts$Grid" "lines" "I" ∈ TW) (hdg : decode cc pc = .ok (.getfield idx, 3)) (kk : W p l e R s m args below meth c H locs 0 0 Q (F0 m (pc + 3) ls (.int (σ 18 0) :: rest))) : W p l e R s m args below meth c H locs 0 0 Q (F0 m pc ls (.ref (eA E 18) :: rest)) := w_get hF hH 18 (by decide) rfl rfl tlX1 0 (by decide) hlink rfl hdg kk
theorem pfC_18_0 (hF : Fx kC E p s m args meth c cc own nL ret) (hH : HP kC E s σ H locs) (hlink : Cond.fieldLink own idx "GridStarts$Grid" "lines" "I" ∈ TW) (hdg : decode cc pc = .ok (.putfield idx, 3)) (kk : ∀ (σ1 : Sg) (H1 : Heap) (locs1 : List Loc), σ1 = wr σ 18 0 v → HP kC E s σ1 H1 locs1 → W p l e R s m args below meth c H1 locs1 0 0 Q (F0 m (pc + 3) ls rest)) : W p l e R s m args below meth c H locs 0 0 Q (F0 m pc ls (.int v :: .ref (eA E 18) :: rest)) := w_put hF hH 18 (by decide) rfl rfl tlX1 tyX1 tyX1_ok nmX1 0 (by decide) hlink rfl (by decide +kernel) (Nat.le_of_ble_eq_true rfl) rfl hdg kk
theorem gfC_18_1 (hF : Fx kC E p s m args meth c cc own nL ret) (hH : HP kC E s σ H locs) (hlink : Cond.fieldLink own idx "GridStarts$Grid" "lesser" "[I" ∈ TW) (hdg : decode cc pc = .ok (.getfield idx, 3)) (kk : W p l e R s m args below meth c H locs 0 0 Q (F0 m (pc + 3) ls (.ref (eA E 19) :: rest))) : W p l e R s m args below meth c H locs 0 0 Q (F0 m pc ls (.ref (eA E 18) :: rest)) := w_get hF hH 18 (by decide) rfl rfl tlX1 1 (by decide) hlink rfl hdg kk
theorem gfC_18_2 (hF : Fx kC E p s m args meth c cc own nL ret) (hH : HP kC E s σ H locs) (hlink : Cond.fieldLink own idx "GridStarts$Grid" "greater" "[I" ∈ TW) (hdg : decode cc pc = .ok (.getfield idx, 3)) (kk : W p l e R s m args below meth c H locs 0 0 Q (F0 m (pc + 3) ls (.ref (eA E 20) :: rest))) : W p l e R s m args below meth c H locs 0 0 Q (F0 m pc ls (.ref (eA E 18) :: rest)) := w_get hF hH 18 (by decide) rfl rfl tlX1 2 (by decide) hlink rfl hdg kk
theorem gfC_18_3 (hF : Fx kC E p s m args meth c cc own nL ret) (hH : HP kC E s σ H locs) (hlink : Cond.fieldLink own idx "GridStarts$Grid" "charge" "[I" ∈ TW) (hdg : decode cc pc = .ok (.getfield idx, 3)) (kk : W p l e R s m args below meth c H locs 0 0 Q (F0 m (pc + 3) ls (.ref (eA E 21) :: rest))) : W p l e R s m args below meth c H locs 0 0 Q (F0 m pc ls (.ref (eA E 18) :: rest)) := w_get hF hH 18 (by decide) rfl rfl tlX1 3 (by decide) hlink rfl hdg kk
theorem gfC_18_4 (hF : Fx kC E p s m args meth c cc own nL ret) (hH : HP kC E s σ H locs) (hlink : Cond.fieldLink own idx "GridStarts$Grid" "machines" "I" ∈ TW) (hdg : decode cc pc = .ok (.getfield idx, 3)) (kk : W p l e R s m args below meth c H locs 0 0 Q (F0 m (pc + 3) ls (.int (σ 18 4) :: rest))) : W p l e R s m args below meth c H locs 0 0 Q (F0 m pc ls (.ref (eA E 18) :: rest)) := w_get hF hH 18 (by decide) rfl rfl tlX1 4 (by decide) hlink rfl hdg kk
theorem pfC_18_4 (hF : Fx kC E p s m args meth c cc own nL ret) (hH : HP kC E s σ H locs) (hlink : Cond.fieldLink own idx "GridStarts$Grid" "machines" "I" ∈ TW) (hdg : decode cc pc = .ok (.putfield idx, 3)) (kk : ∀ (σ1 : Sg) (H1 : Heap) (locs1 : List Loc), σ1 = wr σ 18 4 v → HP kC E s σ1 H1 locs1 → W p l e R s m args below meth c H1 locs1 0 0 Q (F0 m (pc + 3) ls rest)) : W p l e R s m args below meth c H locs 0 0 Q (F0 m pc ls (.int v :: .ref (eA E 18) :: rest)) := w_put hF hH 18 (by decide) rfl rfl tlX1 tyX1 tyX1_ok nmX1 4 (by decide) hlink rfl (by decide +kernel) (Nat.le_of_ble_eq_true rfl) rfl hdg kk
theorem gfC_18_5 (hF : Fx kC E p s m args meth c cc own nL ret) (hH : HP kC E s σ H locs) (hlink : Cond.fieldLink own idx "GridStarts$Grid" "home" "[I" ∈ TW) (hdg : decode cc pc = .ok (.getfield idx, 3)) (kk : W p l e R s m args below meth c H locs 0 0 Q (F0 m (pc + 3) ls (.ref (eA E 22) :: rest))) : W p l e R s m args below meth c H locs 0 0 Q (F0 m pc ls (.ref (eA E 18) :: rest)) := w_get hF hH 18 (by decide) rfl rfl tlX1 5 (by decide) hlink rfl hdg kk
theorem gfC_18_6 (hF : Fx kC E p s m args meth c cc own nL ret) (hH : HP kC E s σ H locs) (hlink : Cond.fieldLink own idx "GridStarts$Grid" "crank" "[I" ∈ TW) (hdg : decode cc pc = .ok (.getfield idx, 3)) (kk : W p l e R s m args below meth c H locs 0 0 Q (F0 m (pc + 3) ls (.ref (eA E 23) :: rest))) : W p l e R s m args below meth c H locs 0 0 Q (F0 m pc ls (.ref (eA E 18) :: rest)) := w_get hF hH 18 (by decide) rfl rfl tlX1 6 (by decide) hlink rfl hdg kk
theorem gfC_18_7 (hF : Fx kC E p s m args meth c cc own nL ret) (hH : HP kC E s σ H locs) (hlink : Cond.fieldLink own idx "GridStarts$Grid" "power" "[I" ∈ TW) (hdg : decode cc pc = .ok (.getfield idx, 3)) (kk : W p l e R s m args below meth c H locs 0 0 Q (F0 m (pc + 3) ls (.ref (eA E 24) :: rest))) : W p l e R s m args below meth c H locs 0 0 Q (F0 m pc ls (.ref (eA E 18) :: rest)) := w_get hF hH 18 (by decide) rfl rfl tlX1 7 (by decide) hlink rfl hdg kk
theorem gfC_18_8 (hF : Fx kC E p s m args meth c cc own nL ret) (hH : HP kC E s σ H locs) (hlink : Cond.fieldLink own idx "GridStarts$Grid" "ramp" "[I" ∈ TW) (hdg : decode cc pc = .ok (.getfield idx, 3)) (kk : W p l e R s m args below meth c H locs 0 0 Q (F0 m (pc + 3) ls (.ref (eA E 25) :: rest))) : W p l e R s m args below meth c H locs 0 0 Q (F0 m pc ls (.ref (eA E 18) :: rest)) := w_get hF hH 18 (by decide) rfl rfl tlX1 8 (by decide) hlink rfl hdg kk
theorem gfC_18_9 (hF : Fx kC E p s m args meth c cc own nL ret) (hH : HP kC E s σ H locs) (hlink : Cond.fieldLink own idx "GridStarts$Grid" "code" "I" ∈ TW) (hdg : decode cc pc = .ok (.getfield idx, 3)) (kk : W p l e R s m args below meth c H locs 0 0 Q (F0 m (pc + 3) ls (.int (σ 18 9) :: rest))) : W p l e R s m args below meth c H locs 0 0 Q (F0 m pc ls (.ref (eA E 18) :: rest)) := w_get hF hH 18 (by decide) rfl rfl tlX1 9 (by decide) hlink rfl hdg kk
theorem pfC_18_9 (hF : Fx kC E p s m args meth c cc own nL ret) (hH : HP kC E s σ H locs) (hlink : Cond.fieldLink own idx "GridStarts$Grid" "code" "I" ∈ TW) (hdg : decode cc pc = .ok (.putfield idx, 3)) (kk : ∀ (σ1 : Sg) (H1 : Heap) (locs1 : List Loc), σ1 = wr σ 18 9 v → HP kC E s σ1 H1 locs1 → W p l e R s m args below meth c H1 locs1 0 0 Q (F0 m (pc + 3) ls rest)) : W p l e R s m args below meth c H locs 0 0 Q (F0 m pc ls (.int v :: .ref (eA E 18) :: rest)) := w_put hF hH 18 (by decide) rfl rfl tlX1 tyX1 tyX1_ok nmX1 9 (by decide) hlink rfl (by decide +kernel) (Nat.le_of_ble_eq_true rfl) rfl hdg kk
theorem gfC_18_10 (hF : Fx kC E p s m args meth c cc own nL ret) (hH : HP kC E s σ H locs) (hlink : Cond.fieldLink own idx "GridStarts$Grid" "now" "I" ∈ TW) (hdg : decode cc pc = .ok (.getfield idx, 3)) (kk : W p l e R s m args below meth c H locs 0 0 Q (F0 m (pc + 3) ls (.int (σ 18 10) :: rest))) : W p l e R s m args below meth c H locs 0 0 Q (F0 m pc ls (.ref (eA E 18) :: rest)) := w_get hF hH 18 (by decide) rfl rfl tlX1 10 (by decide) hlink rfl hdg kk
theorem pfC_18_10 (hF : Fx kC E p s m args meth c cc own nL ret) (hH : HP kC E s σ H locs) (hlink : Cond.fieldLink own idx "GridStarts$Grid" "now" "I" ∈ TW) (hdg : decode cc pc = .ok (.putfield idx, 3)) (kk : ∀ (σ1 : Sg) (H1 : Heap) (locs1 : List Loc), σ1 = wr σ 18 10 v → HP kC E s σ1 H1 locs1 → W p l e R s m args below meth c H1 locs1 0 0 Q (F0 m (pc + 3) ls rest)) : W p l e R s m args below meth c H locs 0 0 Q (F0 m pc ls (.int v :: .ref (eA E 18) :: rest)) := w_put hF hH 18 (by decide) rfl rfl tlX1 tyX1 tyX1_ok nmX1 10 (by decide) hlink rfl (by decide +kernel) (Nat.le_of_ble_eq_true rfl) rfl hdg kk
theorem alC_19 (hF : Fx kC E p s m args meth c cc own nL ret) (hH : HP kC E s σ H locs) (hin : vp_in i 6) (hdg : decode cc pc = .ok (.iaload, 1)) (kk : W p l e R s m args below meth c H locs 0 0 Q (F0 m (pc + 1) ls (.int (σ 19 i.toNatClampNeg) :: rest))) : W p l e R s m args below meth c H locs 0 0 Q (F0 m pc ls (.int i :: .ref (eA E 19) :: rest)) := w_ald hF hH 19 (by decide) (fun _ => rfl) hin hdg kk
theorem asC_19 (hF : Fx kC E p s m args meth c cc own nL ret) (hH : HP kC E s σ H locs) (hin : vp_in i 6) (hdg : decode cc pc = .ok (.iastore, 1)) (kk : ∀ (σ1 : Sg) (H1 : Heap) (locs1 : List Loc), σ1 = wr σ 19 i.toNatClampNeg v → HP kC E s σ1 H1 locs1 → W p l e R s m args below meth c H1 locs1 0 0 Q (F0 m (pc + 1) ls rest)) : W p l e R s m args below meth c H locs 0 0 Q (F0 m pc ls (.int v :: .int i :: .ref (eA E 19) :: rest)) := w_ast hF hH 19 (by decide) (fun _ => rfl) hin hdg kk
theorem alC_20 (hF : Fx kC E p s m args meth c cc own nL ret) (hH : HP kC E s σ H locs) (hin : vp_in i 6) (hdg : decode cc pc = .ok (.iaload, 1)) (kk : W p l e R s m args below meth c H locs 0 0 Q (F0 m (pc + 1) ls (.int (σ 20 i.toNatClampNeg) :: rest))) : W p l e R s m args below meth c H locs 0 0 Q (F0 m pc ls (.int i :: .ref (eA E 20) :: rest)) := w_ald hF hH 20 (by decide) (fun _ => rfl) hin hdg kk
theorem asC_20 (hF : Fx kC E p s m args meth c cc own nL ret) (hH : HP kC E s σ H locs) (hin : vp_in i 6) (hdg : decode cc pc = .ok (.iastore, 1)) (kk : ∀ (σ1 : Sg) (H1 : Heap) (locs1 : List Loc), σ1 = wr σ 20 i.toNatClampNeg v → HP kC E s σ1 H1 locs1 → W p l e R s m args below meth c H1 locs1 0 0 Q (F0 m (pc + 1) ls rest)) : W p l e R s m args below meth c H locs 0 0 Q (F0 m pc ls (.int v :: .int i :: .ref (eA E 20) :: rest)) := w_ast hF hH 20 (by decide) (fun _ => rfl) hin hdg kk
theorem alC_21 (hF : Fx kC E p s m args meth c cc own nL ret) (hH : HP kC E s σ H locs) (hin : vp_in i 6) (hdg : decode cc pc = .ok (.iaload, 1)) (kk : W p l e R s m args below meth c H locs 0 0 Q (F0 m (pc + 1) ls (.int (σ 21 i.toNatClampNeg) :: rest))) : W p l e R s m args below meth c H locs 0 0 Q (F0 m pc ls (.int i :: .ref (eA E 21) :: rest)) := w_ald hF hH 21 (by decide) (fun _ => rfl) hin hdg kk
theorem asC_21 (hF : Fx kC E p s m args meth c cc own nL ret) (hH : HP kC E s σ H locs) (hin : vp_in i 6) (hdg : decode cc pc = .ok (.iastore, 1)) (kk : ∀ (σ1 : Sg) (H1 : Heap) (locs1 : List Loc), σ1 = wr σ 21 i.toNatClampNeg v → HP kC E s σ1 H1 locs1 → W p l e R s m args below meth c H1 locs1 0 0 Q (F0 m (pc + 1) ls rest)) : W p l e R s m args below meth c H locs 0 0 Q (F0 m pc ls (.int v :: .int i :: .ref (eA E 21) :: rest)) := w_ast hF hH 21 (by decide) (fun _ => rfl) hin hdg kk
theorem alC_22 (hF : Fx kC E p s m args meth c cc own nL ret) (hH : HP kC E s σ H locs) (hin : vp_in i 3) (hdg : decode cc pc = .ok (.iaload, 1)) (kk : W p l e R s m args below meth c H locs 0 0 Q (F0 m (pc + 1) ls (.int (σ 22 i.toNatClampNeg) :: rest))) : W p l e R s m args below meth c H locs 0 0 Q (F0 m pc ls (.int i :: .ref (eA E 22) :: rest)) := w_ald hF hH 22 (by decide) (fun _ => rfl) hin hdg kk
theorem asC_22 (hF : Fx kC E p s m args meth c cc own nL ret) (hH : HP kC E s σ H locs) (hin : vp_in i 3) (hdg : decode cc pc = .ok (.iastore, 1)) (kk : ∀ (σ1 : Sg) (H1 : Heap) (locs1 : List Loc), σ1 = wr σ 22 i.toNatClampNeg v → HP kC E s σ1 H1 locs1 → W p l e R s m args below meth c H1 locs1 0 0 Q (F0 m (pc + 1) ls rest)) : W p l e R s m args below meth c H locs 0 0 Q (F0 m pc ls (.int v :: .int i :: .ref (eA E 22) :: rest)) := w_ast hF hH 22 (by decide) (fun _ => rfl) hin hdg kk
theorem alC_23 (hF : Fx kC E p s m args meth c cc own nL ret) (hH : HP kC E s σ H locs) (hin : vp_in i 3) (hdg : decode cc pc = .ok (.iaload, 1)) (kk : W p l e R s m args below meth c H locs 0 0 Q (F0 m (pc + 1) ls (.int (σ 23 i.toNatClampNeg) :: rest))) : W p l e R s m args below meth c H locs 0 0 Q (F0 m pc ls (.int i :: .ref (eA E 23) :: rest)) := w_ald hF hH 23 (by decide) (fun _ => rfl) hin hdg kk
theorem asC_23 (hF : Fx kC E p s m args meth c cc own nL ret) (hH : HP kC E s σ H locs) (hin : vp_in i 3) (hdg : decode cc pc = .ok (.iastore, 1)) (kk : ∀ (σ1 : Sg) (H1 : Heap) (locs1 : List Loc), σ1 = wr σ 23 i.toNatClampNeg v → HP kC E s σ1 H1 locs1 → W p l e R s m args below meth c H1 locs1 0 0 Q (F0 m (pc + 1) ls rest)) : W p l e R s m args below meth c H locs 0 0 Q (F0 m pc ls (.int v :: .int i :: .ref (eA E 23) :: rest)) := w_ast hF hH 23 (by decide) (fun _ => rfl) hin hdg kk
theorem alC_24 (hF : Fx kC E p s m args meth c cc own nL ret) (hH : HP kC E s σ H locs) (hin : vp_in i 3) (hdg : decode cc pc = .ok (.iaload, 1)) (kk : W p l e R s m args below meth c H locs 0 0 Q (F0 m (pc + 1) ls (.int (σ 24 i.toNatClampNeg) :: rest))) : W p l e R s m args below meth c H locs 0 0 Q (F0 m pc ls (.int i :: .ref (eA E 24) :: rest)) := w_ald hF hH 24 (by decide) (fun _ => rfl) hin hdg kk
theorem asC_24 (hF : Fx kC E p s m args meth c cc own nL ret) (hH : HP kC E s σ H locs) (hin : vp_in i 3) (hdg : decode cc pc = .ok (.iastore, 1)) (kk : ∀ (σ1 : Sg) (H1 : Heap) (locs1 : List Loc), σ1 = wr σ 24 i.toNatClampNeg v → HP kC E s σ1 H1 locs1 → W p l e R s m args below meth c H1 locs1 0 0 Q (F0 m (pc + 1) ls rest)) : W p l e R s m args below meth c H locs 0 0 Q (F0 m pc ls (.int v :: .int i :: .ref (eA E 24) :: rest)) := w_ast hF hH 24 (by decide) (fun _ => rfl) hin hdg kk
theorem alC_25 (hF : Fx kC E p s m args meth c cc own nL ret) (hH : HP kC E s σ H locs) (hin : vp_in i 3) (hdg : decode cc pc = .ok (.iaload, 1)) (kk : W p l e R s m args below meth c H locs 0 0 Q (F0 m (pc + 1) ls (.int (σ 25 i.toNatClampNeg) :: rest))) : W p l e R s m args below meth c H locs 0 0 Q (F0 m pc ls (.int i :: .ref (eA E 25) :: rest)) := w_ald hF hH 25 (by decide) (fun _ => rfl) hin hdg kk
theorem asC_25 (hF : Fx kC E p s m args meth c cc own nL ret) (hH : HP kC E s σ H locs) (hin : vp_in i 3) (hdg : decode cc pc = .ok (.iastore, 1)) (kk : ∀ (σ1 : Sg) (H1 : Heap) (locs1 : List Loc), σ1 = wr σ 25 i.toNatClampNeg v → HP kC E s σ1 H1 locs1 → W p l e R s m args below meth c H1 locs1 0 0 Q (F0 m (pc + 1) ls rest)) : W p l e R s m args below meth c H locs 0 0 Q (F0 m pc ls (.int v :: .int i :: .ref (eA E 25) :: rest)) := w_ast hF hH 25 (by decide) (fun _ => rfl) hin hdg kk
theorem gfC_26_0 (hF : Fx kC E p s m args meth c cc own nL ret) (hH : HP kC E s σ H locs) (hlink : Cond.fieldLink own idx "GridStarts$Grid" "lines" "I" ∈ TW) (hdg : decode cc pc = .ok (.getfield idx, 3)) (kk : W p l e R s m args below meth c H locs 0 0 Q (F0 m (pc + 3) ls (.int (σ 26 0) :: rest))) : W p l e R s m args below meth c H locs 0 0 Q (F0 m pc ls (.ref (eA E 26) :: rest)) := w_get hF hH 26 (by decide) rfl rfl tlX1 0 (by decide) hlink rfl hdg kk
theorem pfC_26_0 (hF : Fx kC E p s m args meth c cc own nL ret) (hH : HP kC E s σ H locs) (hlink : Cond.fieldLink own idx "GridStarts$Grid" "lines" "I" ∈ TW) (hdg : decode cc pc = .ok (.putfield idx, 3)) (kk : ∀ (σ1 : Sg) (H1 : Heap) (locs1 : List Loc), σ1 = wr σ 26 0 v → HP kC E s σ1 H1 locs1 → W p l e R s m args below meth c H1 locs1 0 0 Q (F0 m (pc + 3) ls rest)) : W p l e R s m args below meth c H locs 0 0 Q (F0 m pc ls (.int v :: .ref (eA E 26) :: rest)) := w_put hF hH 26 (by decide) rfl rfl tlX1 tyX1 tyX1_ok nmX1 0 (by decide) hlink rfl (by decide +kernel) (Nat.le_of_ble_eq_true rfl) rfl hdg kk
theorem gfC_26_1 (hF : Fx kC E p s m args meth c cc own nL ret) (hH : HP kC E s σ H locs) (hlink : Cond.fieldLink own idx "GridStarts$Grid" "lesser" "[I" ∈ TW) (hdg : decode cc pc = .ok (.getfield idx, 3)) (kk : W p l e R s m args below meth c H locs 0 0 Q (F0 m (pc + 3) ls (.ref (eA E 27) :: rest))) : W p l e R s m args below meth c H locs 0 0 Q (F0 m pc ls (.ref (eA E 26) :: rest)) := w_get hF hH 26 (by decide) rfl rfl tlX1 1 (by decide) hlink rfl hdg kk
theorem gfC_26_2 (hF : Fx kC E p s m args meth c cc own nL ret) (hH : HP kC E s σ H locs) (hlink : Cond.fieldLink own idx "GridStarts$Grid" "greater" "[I" ∈ TW) (hdg : decode cc pc = .ok (.getfield idx, 3)) (kk : W p l e R s m args below meth c H locs 0 0 Q (F0 m (pc + 3) ls (.ref (eA E 28) :: rest))) : W p l e R s m args below meth c H locs 0 0 Q (F0 m pc ls (.ref (eA E 26) :: rest)) := w_get hF hH 26 (by decide) rfl rfl tlX1 2 (by decide) hlink rfl hdg kk
theorem gfC_26_3 (hF : Fx kC E p s m args meth c cc own nL ret) (hH : HP kC E s σ H locs) (hlink : Cond.fieldLink own idx "GridStarts$Grid" "charge" "[I" ∈ TW) (hdg : decode cc pc = .ok (.getfield idx, 3)) (kk : W p l e R s m args below meth c H locs 0 0 Q (F0 m (pc + 3) ls (.ref (eA E 29) :: rest))) : W p l e R s m args below meth c H locs 0 0 Q (F0 m pc ls (.ref (eA E 26) :: rest)) := w_get hF hH 26 (by decide) rfl rfl tlX1 3 (by decide) hlink rfl hdg kk
theorem gfC_26_4 (hF : Fx kC E p s m args meth c cc own nL ret) (hH : HP kC E s σ H locs) (hlink : Cond.fieldLink own idx "GridStarts$Grid" "machines" "I" ∈ TW) (hdg : decode cc pc = .ok (.getfield idx, 3)) (kk : W p l e R s m args below meth c H locs 0 0 Q (F0 m (pc + 3) ls (.int (σ 26 4) :: rest))) : W p l e R s m args below meth c H locs 0 0 Q (F0 m pc ls (.ref (eA E 26) :: rest)) := w_get hF hH 26 (by decide) rfl rfl tlX1 4 (by decide) hlink rfl hdg kk
theorem pfC_26_4 (hF : Fx kC E p s m args meth c cc own nL ret) (hH : HP kC E s σ H locs) (hlink : Cond.fieldLink own idx "GridStarts$Grid" "machines" "I" ∈ TW) (hdg : decode cc pc = .ok (.putfield idx, 3)) (kk : ∀ (σ1 : Sg) (H1 : Heap) (locs1 : List Loc), σ1 = wr σ 26 4 v → HP kC E s σ1 H1 locs1 → W p l e R s m args below meth c H1 locs1 0 0 Q (F0 m (pc + 3) ls rest)) : W p l e R s m args below meth c H locs 0 0 Q (F0 m pc ls (.int v :: .ref (eA E 26) :: rest)) := w_put hF hH 26 (by decide) rfl rfl tlX1 tyX1 tyX1_ok nmX1 4 (by decide) hlink rfl (by decide +kernel) (Nat.le_of_ble_eq_true rfl) rfl hdg kk
theorem gfC_26_5 (hF : Fx kC E p s m args meth c cc own nL ret) (hH : HP kC E s σ H locs) (hlink : Cond.fieldLink own idx "GridStarts$Grid" "home" "[I" ∈ TW) (hdg : decode cc pc = .ok (.getfield idx, 3)) (kk : W p l e R s m args below meth c H locs 0 0 Q (F0 m (pc + 3) ls (.ref (eA E 30) :: rest))) : W p l e R s m args below meth c H locs 0 0 Q (F0 m pc ls (.ref (eA E 26) :: rest)) := w_get hF hH 26 (by decide) rfl rfl tlX1 5 (by decide) hlink rfl hdg kk
theorem gfC_26_6 (hF : Fx kC E p s m args meth c cc own nL ret) (hH : HP kC E s σ H locs) (hlink : Cond.fieldLink own idx "GridStarts$Grid" "crank" "[I" ∈ TW) (hdg : decode cc pc = .ok (.getfield idx, 3)) (kk : W p l e R s m args below meth c H locs 0 0 Q (F0 m (pc + 3) ls (.ref (eA E 31) :: rest))) : W p l e R s m args below meth c H locs 0 0 Q (F0 m pc ls (.ref (eA E 26) :: rest)) := w_get hF hH 26 (by decide) rfl rfl tlX1 6 (by decide) hlink rfl hdg kk
theorem gfC_26_7 (hF : Fx kC E p s m args meth c cc own nL ret) (hH : HP kC E s σ H locs) (hlink : Cond.fieldLink own idx "GridStarts$Grid" "power" "[I" ∈ TW) (hdg : decode cc pc = .ok (.getfield idx, 3)) (kk : W p l e R s m args below meth c H locs 0 0 Q (F0 m (pc + 3) ls (.ref (eA E 32) :: rest))) : W p l e R s m args below meth c H locs 0 0 Q (F0 m pc ls (.ref (eA E 26) :: rest)) := w_get hF hH 26 (by decide) rfl rfl tlX1 7 (by decide) hlink rfl hdg kk
theorem gfC_26_8 (hF : Fx kC E p s m args meth c cc own nL ret) (hH : HP kC E s σ H locs) (hlink : Cond.fieldLink own idx "GridStarts$Grid" "ramp" "[I" ∈ TW) (hdg : decode cc pc = .ok (.getfield idx, 3)) (kk : W p l e R s m args below meth c H locs 0 0 Q (F0 m (pc + 3) ls (.ref (eA E 33) :: rest))) : W p l e R s m args below meth c H locs 0 0 Q (F0 m pc ls (.ref (eA E 26) :: rest)) := w_get hF hH 26 (by decide) rfl rfl tlX1 8 (by decide) hlink rfl hdg kk
theorem gfC_26_9 (hF : Fx kC E p s m args meth c cc own nL ret) (hH : HP kC E s σ H locs) (hlink : Cond.fieldLink own idx "GridStarts$Grid" "code" "I" ∈ TW) (hdg : decode cc pc = .ok (.getfield idx, 3)) (kk : W p l e R s m args below meth c H locs 0 0 Q (F0 m (pc + 3) ls (.int (σ 26 9) :: rest))) : W p l e R s m args below meth c H locs 0 0 Q (F0 m pc ls (.ref (eA E 26) :: rest)) := w_get hF hH 26 (by decide) rfl rfl tlX1 9 (by decide) hlink rfl hdg kk
theorem pfC_26_9 (hF : Fx kC E p s m args meth c cc own nL ret) (hH : HP kC E s σ H locs) (hlink : Cond.fieldLink own idx "GridStarts$Grid" "code" "I" ∈ TW) (hdg : decode cc pc = .ok (.putfield idx, 3)) (kk : ∀ (σ1 : Sg) (H1 : Heap) (locs1 : List Loc), σ1 = wr σ 26 9 v → HP kC E s σ1 H1 locs1 → W p l e R s m args below meth c H1 locs1 0 0 Q (F0 m (pc + 3) ls rest)) : W p l e R s m args below meth c H locs 0 0 Q (F0 m pc ls (.int v :: .ref (eA E 26) :: rest)) := w_put hF hH 26 (by decide) rfl rfl tlX1 tyX1 tyX1_ok nmX1 9 (by decide) hlink rfl (by decide +kernel) (Nat.le_of_ble_eq_true rfl) rfl hdg kk
theorem gfC_26_10 (hF : Fx kC E p s m args meth c cc own nL ret) (hH : HP kC E s σ H locs) (hlink : Cond.fieldLink own idx "GridStarts$Grid" "now" "I" ∈ TW) (hdg : decode cc pc = .ok (.getfield idx, 3)) (kk : W p l e R s m args below meth c H locs 0 0 Q (F0 m (pc + 3) ls (.int (σ 26 10) :: rest))) : W p l e R s m args below meth c H locs 0 0 Q (F0 m pc ls (.ref (eA E 26) :: rest)) := w_get hF hH 26 (by decide) rfl rfl tlX1 10 (by decide) hlink rfl hdg kk
theorem pfC_26_10 (hF : Fx kC E p s m args meth c cc own nL ret) (hH : HP kC E s σ H locs) (hlink : Cond.fieldLink own idx "GridStarts$Grid" "now" "I" ∈ TW) (hdg : decode cc pc = .ok (.putfield idx, 3)) (kk : ∀ (σ1 : Sg) (H1 : Heap) (locs1 : List Loc), σ1 = wr σ 26 10 v → HP kC E s σ1 H1 locs1 → W p l e R s m args below meth c H1 locs1 0 0 Q (F0 m (pc + 3) ls rest)) : W p l e R s m args below meth c H locs 0 0 Q (F0 m pc ls (.int v :: .ref (eA E 26) :: rest)) := w_put hF hH 26 (by decide) rfl rfl tlX1 tyX1 tyX1_ok nmX1 10 (by decide) hlink rfl (by decide +kernel) (Nat.le_of_ble_eq_true rfl) rfl hdg kk
theorem alC_27 (hF : Fx kC E p s m args meth c cc own nL ret) (hH : HP kC E s σ H locs) (hin : vp_in i 6) (hdg : decode cc pc = .ok (.iaload, 1)) (kk : W p l e R s m args below meth c H locs 0 0 Q (F0 m (pc + 1) ls (.int (σ 27 i.toNatClampNeg) :: rest))) : W p l e R s m args below meth c H locs 0 0 Q (F0 m pc ls (.int i :: .ref (eA E 27) :: rest)) := w_ald hF hH 27 (by decide) (fun _ => rfl) hin hdg kk
theorem asC_27 (hF : Fx kC E p s m args meth c cc own nL ret) (hH : HP kC E s σ H locs) (hin : vp_in i 6) (hdg : decode cc pc = .ok (.iastore, 1)) (kk : ∀ (σ1 : Sg) (H1 : Heap) (locs1 : List Loc), σ1 = wr σ 27 i.toNatClampNeg v → HP kC E s σ1 H1 locs1 → W p l e R s m args below meth c H1 locs1 0 0 Q (F0 m (pc + 1) ls rest)) : W p l e R s m args below meth c H locs 0 0 Q (F0 m pc ls (.int v :: .int i :: .ref (eA E 27) :: rest)) := w_ast hF hH 27 (by decide) (fun _ => rfl) hin hdg kk
theorem alC_28 (hF : Fx kC E p s m args meth c cc own nL ret) (hH : HP kC E s σ H locs) (hin : vp_in i 6) (hdg : decode cc pc = .ok (.iaload, 1)) (kk : W p l e R s m args below meth c H locs 0 0 Q (F0 m (pc + 1) ls (.int (σ 28 i.toNatClampNeg) :: rest))) : W p l e R s m args below meth c H locs 0 0 Q (F0 m pc ls (.int i :: .ref (eA E 28) :: rest)) := w_ald hF hH 28 (by decide) (fun _ => rfl) hin hdg kk
theorem asC_28 (hF : Fx kC E p s m args meth c cc own nL ret) (hH : HP kC E s σ H locs) (hin : vp_in i 6) (hdg : decode cc pc = .ok (.iastore, 1)) (kk : ∀ (σ1 : Sg) (H1 : Heap) (locs1 : List Loc), σ1 = wr σ 28 i.toNatClampNeg v → HP kC E s σ1 H1 locs1 → W p l e R s m args below meth c H1 locs1 0 0 Q (F0 m (pc + 1) ls rest)) : W p l e R s m args below meth c H locs 0 0 Q (F0 m pc ls (.int v :: .int i :: .ref (eA E 28) :: rest)) := w_ast hF hH 28 (by decide) (fun _ => rfl) hin hdg kk
theorem alC_29 (hF : Fx kC E p s m args meth c cc own nL ret) (hH : HP kC E s σ H locs) (hin : vp_in i 6) (hdg : decode cc pc = .ok (.iaload, 1)) (kk : W p l e R s m args below meth c H locs 0 0 Q (F0 m (pc + 1) ls (.int (σ 29 i.toNatClampNeg) :: rest))) : W p l e R s m args below meth c H locs 0 0 Q (F0 m pc ls (.int i :: .ref (eA E 29) :: rest)) := w_ald hF hH 29 (by decide) (fun _ => rfl) hin hdg kk
theorem asC_29 (hF : Fx kC E p s m args meth c cc own nL ret) (hH : HP kC E s σ H locs) (hin : vp_in i 6) (hdg : decode cc pc = .ok (.iastore, 1)) (kk : ∀ (σ1 : Sg) (H1 : Heap) (locs1 : List Loc), σ1 = wr σ 29 i.toNatClampNeg v → HP kC E s σ1 H1 locs1 → W p l e R s m args below meth c H1 locs1 0 0 Q (F0 m (pc + 1) ls rest)) : W p l e R s m args below meth c H locs 0 0 Q (F0 m pc ls (.int v :: .int i :: .ref (eA E 29) :: rest)) := w_ast hF hH 29 (by decide) (fun _ => rfl) hin hdg kk
theorem alC_30 (hF : Fx kC E p s m args meth c cc own nL ret) (hH : HP kC E s σ H locs) (hin : vp_in i 3) (hdg : decode cc pc = .ok (.iaload, 1)) (kk : W p l e R s m args below meth c H locs 0 0 Q (F0 m (pc + 1) ls (.int (σ 30 i.toNatClampNeg) :: rest))) : W p l e R s m args below meth c H locs 0 0 Q (F0 m pc ls (.int i :: .ref (eA E 30) :: rest)) := w_ald hF hH 30 (by decide) (fun _ => rfl) hin hdg kk
theorem asC_30 (hF : Fx kC E p s m args meth c cc own nL ret) (hH : HP kC E s σ H locs) (hin : vp_in i 3) (hdg : decode cc pc = .ok (.iastore, 1)) (kk : ∀ (σ1 : Sg) (H1 : Heap) (locs1 : List Loc), σ1 = wr σ 30 i.toNatClampNeg v → HP kC E s σ1 H1 locs1 → W p l e R s m args below meth c H1 locs1 0 0 Q (F0 m (pc + 1) ls rest)) : W p l e R s m args below meth c H locs 0 0 Q (F0 m pc ls (.int v :: .int i :: .ref (eA E 30) :: rest)) := w_ast hF hH 30 (by decide) (fun _ => rfl) hin hdg kk
theorem alC_31 (hF : Fx kC E p s m args meth c cc own nL ret) (hH : HP kC E s σ H locs) (hin : vp_in i 3) (hdg : decode cc pc = .ok (.iaload, 1)) (kk : W p l e R s m args below meth c H locs 0 0 Q (F0 m (pc + 1) ls (.int (σ 31 i.toNatClampNeg) :: rest))) : W p l e R s m args below meth c H locs 0 0 Q (F0 m pc ls (.int i :: .ref (eA E 31) :: rest)) := w_ald hF hH 31 (by decide) (fun _ => rfl) hin hdg kk
theorem asC_31 (hF : Fx kC E p s m args meth c cc own nL ret) (hH : HP kC E s σ H locs) (hin : vp_in i 3) (hdg : decode cc pc = .ok (.iastore, 1)) (kk : ∀ (σ1 : Sg) (H1 : Heap) (locs1 : List Loc), σ1 = wr σ 31 i.toNatClampNeg v → HP kC E s σ1 H1 locs1 → W p l e R s m args below meth c H1 locs1 0 0 Q (F0 m (pc + 1) ls rest)) : W p l e R s m args below meth c H locs 0 0 Q (F0 m pc ls (.int v :: .int i :: .ref (eA E 31) :: rest)) := w_ast hF hH 31 (by decide) (fun _ => rfl) hin hdg kk
theorem alC_32 (hF : Fx kC E p s m args meth c cc own nL ret) (hH : HP kC E s σ H locs) (hin : vp_in i 3) (hdg : decode cc pc = .ok (.iaload, 1)) (kk : W p l e R s m args below meth c H locs 0 0 Q (F0 m (pc + 1) ls (.int (σ 32 i.toNatClampNeg) :: rest))) : W p l e R s m args below meth c H locs 0 0 Q (F0 m pc ls (.int i :: .ref (eA E 32) :: rest)) := w_ald hF hH 32 (by decide) (fun _ => rfl) hin hdg kk
theorem asC_32 (hF : Fx kC E p s m args meth c cc own nL ret) (hH : HP kC E s σ H locs) (hin : vp_in i 3) (hdg : decode cc pc = .ok (.iastore, 1)) (kk : ∀ (σ1 : Sg) (H1 : Heap) (locs1 : List Loc), σ1 = wr σ 32 i.toNatClampNeg v → HP kC E s σ1 H1 locs1 → W p l e R s m args below meth c H1 locs1 0 0 Q (F0 m (pc + 1) ls rest)) : W p l e R s m args below meth c H locs 0 0 Q (F0 m pc ls (.int v :: .int i :: .ref (eA E 32) :: rest)) := w_ast hF hH 32 (by decide) (fun _ => rfl) hin hdg kk
theorem alC_33 (hF : Fx kC E p s m args meth c cc own nL ret) (hH : HP kC E s σ H locs) (hin : vp_in i 3) (hdg : decode cc pc = .ok (.iaload, 1)) (kk : W p l e R s m args below meth c H locs 0 0 Q (F0 m (pc + 1) ls (.int (σ 33 i.toNatClampNeg) :: rest))) : W p l e R s m args below meth c H locs 0 0 Q (F0 m pc ls (.int i :: .ref (eA E 33) :: rest)) := w_ald hF hH 33 (by decide) (fun _ => rfl) hin hdg kk
theorem asC_33 (hF : Fx kC E p s m args meth c cc own nL ret) (hH : HP kC E s σ H locs) (hin : vp_in i 3) (hdg : decode cc pc = .ok (.iastore, 1)) (kk : ∀ (σ1 : Sg) (H1 : Heap) (locs1 : List Loc), σ1 = wr σ 33 i.toNatClampNeg v → HP kC E s σ1 H1 locs1 → W p l e R s m args below meth c H1 locs1 0 0 Q (F0 m (pc + 1) ls rest)) : W p l e R s m args below meth c H locs 0 0 Q (F0 m pc ls (.int v :: .int i :: .ref (eA E 33) :: rest)) := w_ast hF hH 33 (by decide) (fun _ => rfl) hin hdg kk
theorem gfM_0_0 (hF : Fx kM E p s m args meth c cc own nL ret) (hH : HP kM E s σ H locs) (hlink : Cond.fieldLink own idx "GridStartsModel" "state" "[I" ∈ TW) (hdg : decode cc pc = .ok (.getfield idx, 3)) (kk : W p l e R s m args below meth c H locs 0 0 Q (F0 m (pc + 3) ls (.ref (eA E 1) :: rest))) : W p l e R s m args below meth c H locs 0 0 Q (F0 m pc ls (.ref (eA E 0) :: rest)) := w_get hF hH 0 (by decide) rfl rfl tlX6 0 (by decide) hlink rfl hdg kk
theorem gfM_0_1 (hF : Fx kM E p s m args meth c cc own nL ret) (hH : HP kM E s σ H locs) (hlink : Cond.fieldLink own idx "GridStartsModel" "images" "[I" ∈ TW) (hdg : decode cc pc = .ok (.getfield idx, 3)) (kk : W p l e R s m args below meth c H locs 0 0 Q (F0 m (pc + 3) ls (.ref (eA E 2) :: rest))) : W p l e R s m args below meth c H locs 0 0 Q (F0 m pc ls (.ref (eA E 0) :: rest)) := w_get hF hH 0 (by decide) rfl rfl tlX6 1 (by decide) hlink rfl hdg kk
theorem gfM_0_2 (hF : Fx kM E p s m args meth c cc own nL ret) (hH : HP kM E s σ H locs) (hlink : Cond.fieldLink own idx "GridStartsModel" "isKept" "[Z" ∈ TW) (hdg : decode cc pc = .ok (.getfield idx, 3)) (kk : W p l e R s m args below meth c H locs 0 0 Q (F0 m (pc + 3) ls (.ref (eA E 3) :: rest))) : W p l e R s m args below meth c H locs 0 0 Q (F0 m pc ls (.ref (eA E 0) :: rest)) := w_get hF hH 0 (by decide) rfl rfl tlX6 2 (by decide) hlink rfl hdg kk
theorem gfM_0_3 (hF : Fx kM E p s m args meth c cc own nL ret) (hH : HP kM E s σ H locs) (hlink : Cond.fieldLink own idx "GridStartsModel" "closed" "[I" ∈ TW) (hdg : decode cc pc = .ok (.getfield idx, 3)) (kk : W p l e R s m args below meth c H locs 0 0 Q (F0 m (pc + 3) ls (.ref (eA E 4) :: rest))) : W p l e R s m args below meth c H locs 0 0 Q (F0 m pc ls (.ref (eA E 0) :: rest)) := w_get hF hH 0 (by decide) rfl rfl tlX6 3 (by decide) hlink rfl hdg kk
theorem gfM_0_4 (hF : Fx kM E p s m args meth c cc own nL ret) (hH : HP kM E s σ H locs) (hlink : Cond.fieldLink own idx "GridStartsModel" "run" "[I" ∈ TW) (hdg : decode cc pc = .ok (.getfield idx, 3)) (kk : W p l e R s m args below meth c H locs 0 0 Q (F0 m (pc + 3) ls (.ref (eA E 5) :: rest))) : W p l e R s m args below meth c H locs 0 0 Q (F0 m pc ls (.ref (eA E 0) :: rest)) := w_get hF hH 0 (by decide) rfl rfl tlX6 4 (by decide) hlink rfl hdg kk
theorem gfM_0_5 (hF : Fx kM E p s m args meth c cc own nL ret) (hH : HP kM E s σ H locs) (hlink : Cond.fieldLink own idx "GridStartsModel" "island" "[I" ∈ TW) (hdg : decode cc pc = .ok (.getfield idx, 3)) (kk : W p l e R s m args below meth c H locs 0 0 Q (F0 m (pc + 3) ls (.ref (eA E 6) :: rest))) : W p l e R s m args below meth c H locs 0 0 Q (F0 m pc ls (.ref (eA E 0) :: rest)) := w_get hF hH 0 (by decide) rfl rfl tlX6 5 (by decide) hlink rfl hdg kk
theorem gfM_0_6 (hF : Fx kM E p s m args meth c cc own nL ret) (hH : HP kM E s σ H locs) (hlink : Cond.fieldLink own idx "GridStartsModel" "spare" "[I" ∈ TW) (hdg : decode cc pc = .ok (.getfield idx, 3)) (kk : W p l e R s m args below meth c H locs 0 0 Q (F0 m (pc + 3) ls (.ref (eA E 7) :: rest))) : W p l e R s m args below meth c H locs 0 0 Q (F0 m pc ls (.ref (eA E 0) :: rest)) := w_get hF hH 0 (by decide) rfl rfl tlX6 6 (by decide) hlink rfl hdg kk
theorem gfM_0_7 (hF : Fx kM E p s m args meth c cc own nL ret) (hH : HP kM E s σ H locs) (hlink : Cond.fieldLink own idx "GridStartsModel" "live" "[Z" ∈ TW) (hdg : decode cc pc = .ok (.getfield idx, 3)) (kk : W p l e R s m args below meth c H locs 0 0 Q (F0 m (pc + 3) ls (.ref (eA E 8) :: rest))) : W p l e R s m args below meth c H locs 0 0 Q (F0 m pc ls (.ref (eA E 0) :: rest)) := w_get hF hH 0 (by decide) rfl rfl tlX6 7 (by decide) hlink rfl hdg kk
theorem gfM_0_8 (hF : Fx kM E p s m args meth c cc own nL ret) (hH : HP kM E s σ H locs) (hlink : Cond.fieldLink own idx "GridStartsModel" "first" "[I" ∈ TW) (hdg : decode cc pc = .ok (.getfield idx, 3)) (kk : W p l e R s m args below meth c H locs 0 0 Q (F0 m (pc + 3) ls (.ref (eA E 9) :: rest))) : W p l e R s m args below meth c H locs 0 0 Q (F0 m pc ls (.ref (eA E 0) :: rest)) := w_get hF hH 0 (by decide) rfl rfl tlX6 8 (by decide) hlink rfl hdg kk
theorem gfM_0_9 (hF : Fx kM E p s m args meth c cc own nL ret) (hH : HP kM E s σ H locs) (hlink : Cond.fieldLink own idx "GridStartsModel" "leads" "[Z" ∈ TW) (hdg : decode cc pc = .ok (.getfield idx, 3)) (kk : W p l e R s m args below meth c H locs 0 0 Q (F0 m (pc + 3) ls (.ref (eA E 10) :: rest))) : W p l e R s m args below meth c H locs 0 0 Q (F0 m pc ls (.ref (eA E 0) :: rest)) := w_get hF hH 0 (by decide) rfl rfl tlX6 9 (by decide) hlink rfl hdg kk
theorem gfM_0_10 (hF : Fx kM E p s m args meth c cc own nL ret) (hH : HP kM E s σ H locs) (hlink : Cond.fieldLink own idx "GridStartsModel" "steps" "[I" ∈ TW) (hdg : decode cc pc = .ok (.getfield idx, 3)) (kk : W p l e R s m args below meth c H locs 0 0 Q (F0 m (pc + 3) ls (.ref (eA E 11) :: rest))) : W p l e R s m args below meth c H locs 0 0 Q (F0 m pc ls (.ref (eA E 0) :: rest)) := w_get hF hH 0 (by decide) rfl rfl tlX6 10 (by decide) hlink rfl hdg kk
theorem gfM_0_11 (hF : Fx kM E p s m args meth c cc own nL ret) (hH : HP kM E s σ H locs) (hlink : Cond.fieldLink own idx "GridStartsModel" "atLast" "I" ∈ TW) (hdg : decode cc pc = .ok (.getfield idx, 3)) (kk : W p l e R s m args below meth c H locs 0 0 Q (F0 m (pc + 3) ls (.int (σ 0 11) :: rest))) : W p l e R s m args below meth c H locs 0 0 Q (F0 m pc ls (.ref (eA E 0) :: rest)) := w_get hF hH 0 (by decide) rfl rfl tlX6 11 (by decide) hlink rfl hdg kk
theorem pfM_0_11 (hF : Fx kM E p s m args meth c cc own nL ret) (hH : HP kM E s σ H locs) (hlink : Cond.fieldLink own idx "GridStartsModel" "atLast" "I" ∈ TW) (hdg : decode cc pc = .ok (.putfield idx, 3)) (kk : ∀ (σ1 : Sg) (H1 : Heap) (locs1 : List Loc), σ1 = wr σ 0 11 v → HP kM E s σ1 H1 locs1 → W p l e R s m args below meth c H1 locs1 0 0 Q (F0 m (pc + 3) ls rest)) : W p l e R s m args below meth c H locs 0 0 Q (F0 m pc ls (.int v :: .ref (eA E 0) :: rest)) := w_put hF hH 0 (by decide) rfl rfl tlX6 tyX6 tyX6_ok nmX6 11 (by decide) hlink rfl (by decide +kernel) (Nat.le_of_ble_eq_true rfl) rfl hdg kk
theorem alM_1 (hF : Fx kM E p s m args meth c cc own nL ret) (hH : HP kM E s σ H locs) (hin : vp_in i 42) (hdg : decode cc pc = .ok (.iaload, 1)) (kk : W p l e R s m args below meth c H locs 0 0 Q (F0 m (pc + 1) ls (.int (σ 1 i.toNatClampNeg) :: rest))) : W p l e R s m args below meth c H locs 0 0 Q (F0 m pc ls (.int i :: .ref (eA E 1) :: rest)) := w_ald hF hH 1 (by decide) (fun _ => rfl) hin hdg kk
theorem asM_1 (hF : Fx kM E p s m args meth c cc own nL ret) (hH : HP kM E s σ H locs) (hin : vp_in i 42) (hdg : decode cc pc = .ok (.iastore, 1)) (kk : ∀ (σ1 : Sg) (H1 : Heap) (locs1 : List Loc), σ1 = wr σ 1 i.toNatClampNeg v → HP kM E s σ1 H1 locs1 → W p l e R s m args below meth c H1 locs1 0 0 Q (F0 m (pc + 1) ls rest)) : W p l e R s m args below meth c H locs 0 0 Q (F0 m pc ls (.int v :: .int i :: .ref (eA E 1) :: rest)) := w_ast hF hH 1 (by decide) (fun _ => rfl) hin hdg kk
theorem alM_2 (hF : Fx kM E p s m args meth c cc own nL ret) (hH : HP kM E s σ H locs) (hin : vp_in i 84) (hdg : decode cc pc = .ok (.iaload, 1)) (kk : W p l e R s m args below meth c H locs 0 0 Q (F0 m (pc + 1) ls (.int (σ 2 i.toNatClampNeg) :: rest))) : W p l e R s m args below meth c H locs 0 0 Q (F0 m pc ls (.int i :: .ref (eA E 2) :: rest)) := w_ald hF hH 2 (by decide) (fun _ => rfl) hin hdg kk
theorem asM_2 (hF : Fx kM E p s m args meth c cc own nL ret) (hH : HP kM E s σ H locs) (hin : vp_in i 84) (hdg : decode cc pc = .ok (.iastore, 1)) (kk : ∀ (σ1 : Sg) (H1 : Heap) (locs1 : List Loc), σ1 = wr σ 2 i.toNatClampNeg v → HP kM E s σ1 H1 locs1 → W p l e R s m args below meth c H1 locs1 0 0 Q (F0 m (pc + 1) ls rest)) : W p l e R s m args below meth c H locs 0 0 Q (F0 m pc ls (.int v :: .int i :: .ref (eA E 2) :: rest)) := w_ast hF hH 2 (by decide) (fun _ => rfl) hin hdg kk
theorem alM_3 (hF : Fx kM E p s m args meth c cc own nL ret) (hH : HP kM E s σ H locs) (hin : vp_in i 2) (hdg : decode cc pc = .ok (.baload, 1)) (kk : W p l e R s m args below meth c H locs 0 0 Q (F0 m (pc + 1) ls (.int (σ 3 i.toNatClampNeg) :: rest))) : W p l e R s m args below meth c H locs 0 0 Q (F0 m pc ls (.int i :: .ref (eA E 3) :: rest)) := w_zld hF hH 3 (by decide) (fun _ => rfl) hin hdg kk
theorem asM_3 (hF : Fx kM E p s m args meth c cc own nL ret) (hH : HP kM E s σ H locs) (hin : vp_in i 2) (hdg : decode cc pc = .ok (.bastore, 1)) (kk : ∀ (σ1 : Sg) (H1 : Heap) (locs1 : List Loc), σ1 = wr σ 3 i.toNatClampNeg (vp_nar .boolean v) → HP kM E s σ1 H1 locs1 → W p l e R s m args below meth c H1 locs1 0 0 Q (F0 m (pc + 1) ls rest)) : W p l e R s m args below meth c H locs 0 0 Q (F0 m pc ls (.int v :: .int i :: .ref (eA E 3) :: rest)) := w_zst hF hH 3 (by decide) (fun _ => rfl) hin hdg kk
theorem alM_4 (hF : Fx kM E p s m args meth c cc own nL ret) (hH : HP kM E s σ H locs) (hin : vp_in i 6) (hdg : decode cc pc = .ok (.iaload, 1)) (kk : W p l e R s m args below meth c H locs 0 0 Q (F0 m (pc + 1) ls (.int (σ 4 i.toNatClampNeg) :: rest))) : W p l e R s m args below meth c H locs 0 0 Q (F0 m pc ls (.int i :: .ref (eA E 4) :: rest)) := w_ald hF hH 4 (by decide) (fun _ => rfl) hin hdg kk
theorem asM_4 (hF : Fx kM E p s m args meth c cc own nL ret) (hH : HP kM E s σ H locs) (hin : vp_in i 6) (hdg : decode cc pc = .ok (.iastore, 1)) (kk : ∀ (σ1 : Sg) (H1 : Heap) (locs1 : List Loc), σ1 = wr σ 4 i.toNatClampNeg v → HP kM E s σ1 H1 locs1 → W p l e R s m args below meth c H1 locs1 0 0 Q (F0 m (pc + 1) ls rest)) : W p l e R s m args below meth c H locs 0 0 Q (F0 m pc ls (.int v :: .int i :: .ref (eA E 4) :: rest)) := w_ast hF hH 4 (by decide) (fun _ => rfl) hin hdg kk
theorem alM_5 (hF : Fx kM E p s m args meth c cc own nL ret) (hH : HP kM E s σ H locs) (hin : vp_in i 3) (hdg : decode cc pc = .ok (.iaload, 1)) (kk : W p l e R s m args below meth c H locs 0 0 Q (F0 m (pc + 1) ls (.int (σ 5 i.toNatClampNeg) :: rest))) : W p l e R s m args below meth c H locs 0 0 Q (F0 m pc ls (.int i :: .ref (eA E 5) :: rest)) := w_ald hF hH 5 (by decide) (fun _ => rfl) hin hdg kk
theorem asM_5 (hF : Fx kM E p s m args meth c cc own nL ret) (hH : HP kM E s σ H locs) (hin : vp_in i 3) (hdg : decode cc pc = .ok (.iastore, 1)) (kk : ∀ (σ1 : Sg) (H1 : Heap) (locs1 : List Loc), σ1 = wr σ 5 i.toNatClampNeg v → HP kM E s σ1 H1 locs1 → W p l e R s m args below meth c H1 locs1 0 0 Q (F0 m (pc + 1) ls rest)) : W p l e R s m args below meth c H locs 0 0 Q (F0 m pc ls (.int v :: .int i :: .ref (eA E 5) :: rest)) := w_ast hF hH 5 (by decide) (fun _ => rfl) hin hdg kk
theorem alM_6 (hF : Fx kM E p s m args meth c cc own nL ret) (hH : HP kM E s σ H locs) (hin : vp_in i 6) (hdg : decode cc pc = .ok (.iaload, 1)) (kk : W p l e R s m args below meth c H locs 0 0 Q (F0 m (pc + 1) ls (.int (σ 6 i.toNatClampNeg) :: rest))) : W p l e R s m args below meth c H locs 0 0 Q (F0 m pc ls (.int i :: .ref (eA E 6) :: rest)) := w_ald hF hH 6 (by decide) (fun _ => rfl) hin hdg kk
theorem asM_6 (hF : Fx kM E p s m args meth c cc own nL ret) (hH : HP kM E s σ H locs) (hin : vp_in i 6) (hdg : decode cc pc = .ok (.iastore, 1)) (kk : ∀ (σ1 : Sg) (H1 : Heap) (locs1 : List Loc), σ1 = wr σ 6 i.toNatClampNeg v → HP kM E s σ1 H1 locs1 → W p l e R s m args below meth c H1 locs1 0 0 Q (F0 m (pc + 1) ls rest)) : W p l e R s m args below meth c H locs 0 0 Q (F0 m pc ls (.int v :: .int i :: .ref (eA E 6) :: rest)) := w_ast hF hH 6 (by decide) (fun _ => rfl) hin hdg kk
theorem alM_7 (hF : Fx kM E p s m args meth c cc own nL ret) (hH : HP kM E s σ H locs) (hin : vp_in i 6) (hdg : decode cc pc = .ok (.iaload, 1)) (kk : W p l e R s m args below meth c H locs 0 0 Q (F0 m (pc + 1) ls (.int (σ 7 i.toNatClampNeg) :: rest))) : W p l e R s m args below meth c H locs 0 0 Q (F0 m pc ls (.int i :: .ref (eA E 7) :: rest)) := w_ald hF hH 7 (by decide) (fun _ => rfl) hin hdg kk
theorem asM_7 (hF : Fx kM E p s m args meth c cc own nL ret) (hH : HP kM E s σ H locs) (hin : vp_in i 6) (hdg : decode cc pc = .ok (.iastore, 1)) (kk : ∀ (σ1 : Sg) (H1 : Heap) (locs1 : List Loc), σ1 = wr σ 7 i.toNatClampNeg v → HP kM E s σ1 H1 locs1 → W p l e R s m args below meth c H1 locs1 0 0 Q (F0 m (pc + 1) ls rest)) : W p l e R s m args below meth c H locs 0 0 Q (F0 m pc ls (.int v :: .int i :: .ref (eA E 7) :: rest)) := w_ast hF hH 7 (by decide) (fun _ => rfl) hin hdg kk
theorem alM_8 (hF : Fx kM E p s m args meth c cc own nL ret) (hH : HP kM E s σ H locs) (hin : vp_in i 6) (hdg : decode cc pc = .ok (.baload, 1)) (kk : W p l e R s m args below meth c H locs 0 0 Q (F0 m (pc + 1) ls (.int (σ 8 i.toNatClampNeg) :: rest))) : W p l e R s m args below meth c H locs 0 0 Q (F0 m pc ls (.int i :: .ref (eA E 8) :: rest)) := w_zld hF hH 8 (by decide) (fun _ => rfl) hin hdg kk
theorem asM_8 (hF : Fx kM E p s m args meth c cc own nL ret) (hH : HP kM E s σ H locs) (hin : vp_in i 6) (hdg : decode cc pc = .ok (.bastore, 1)) (kk : ∀ (σ1 : Sg) (H1 : Heap) (locs1 : List Loc), σ1 = wr σ 8 i.toNatClampNeg (vp_nar .boolean v) → HP kM E s σ1 H1 locs1 → W p l e R s m args below meth c H1 locs1 0 0 Q (F0 m (pc + 1) ls rest)) : W p l e R s m args below meth c H locs 0 0 Q (F0 m pc ls (.int v :: .int i :: .ref (eA E 8) :: rest)) := w_zst hF hH 8 (by decide) (fun _ => rfl) hin hdg kk
theorem alM_9 (hF : Fx kM E p s m args meth c cc own nL ret) (hH : HP kM E s σ H locs) (hin : vp_in i 8000) (hdg : decode cc pc = .ok (.iaload, 1)) (kk : W p l e R s m args below meth c H locs 0 0 Q (F0 m (pc + 1) ls (.int (σ 9 i.toNatClampNeg) :: rest))) : W p l e R s m args below meth c H locs 0 0 Q (F0 m pc ls (.int i :: .ref (eA E 9) :: rest)) := w_ald hF hH 9 (by decide) (fun _ => rfl) hin hdg kk
theorem asM_9 (hF : Fx kM E p s m args meth c cc own nL ret) (hH : HP kM E s σ H locs) (hin : vp_in i 8000) (hdg : decode cc pc = .ok (.iastore, 1)) (kk : ∀ (σ1 : Sg) (H1 : Heap) (locs1 : List Loc), σ1 = wr σ 9 i.toNatClampNeg v → HP kM E s σ1 H1 locs1 → W p l e R s m args below meth c H1 locs1 0 0 Q (F0 m (pc + 1) ls rest)) : W p l e R s m args below meth c H locs 0 0 Q (F0 m pc ls (.int v :: .int i :: .ref (eA E 9) :: rest)) := w_ast hF hH 9 (by decide) (fun _ => rfl) hin hdg kk
theorem alM_10 (hF : Fx kM E p s m args meth c cc own nL ret) (hH : HP kM E s σ H locs) (hin : vp_in i 8000) (hdg : decode cc pc = .ok (.baload, 1)) (kk : W p l e R s m args below meth c H locs 0 0 Q (F0 m (pc + 1) ls (.int (σ 10 i.toNatClampNeg) :: rest))) : W p l e R s m args below meth c H locs 0 0 Q (F0 m pc ls (.int i :: .ref (eA E 10) :: rest)) := w_zld hF hH 10 (by decide) (fun _ => rfl) hin hdg kk
theorem asM_10 (hF : Fx kM E p s m args meth c cc own nL ret) (hH : HP kM E s σ H locs) (hin : vp_in i 8000) (hdg : decode cc pc = .ok (.bastore, 1)) (kk : ∀ (σ1 : Sg) (H1 : Heap) (locs1 : List Loc), σ1 = wr σ 10 i.toNatClampNeg (vp_nar .boolean v) → HP kM E s σ1 H1 locs1 → W p l e R s m args below meth c H1 locs1 0 0 Q (F0 m (pc + 1) ls rest)) : W p l e R s m args below meth c H locs 0 0 Q (F0 m pc ls (.int v :: .int i :: .ref (eA E 10) :: rest)) := w_zst hF hH 10 (by decide) (fun _ => rfl) hin hdg kk
theorem alM_11 (hF : Fx kM E p s m args meth c cc own nL ret) (hH : HP kM E s σ H locs) (hin : vp_in i 8000) (hdg : decode cc pc = .ok (.iaload, 1)) (kk : W p l e R s m args below meth c H locs 0 0 Q (F0 m (pc + 1) ls (.int (σ 11 i.toNatClampNeg) :: rest))) : W p l e R s m args below meth c H locs 0 0 Q (F0 m pc ls (.int i :: .ref (eA E 11) :: rest)) := w_ald hF hH 11 (by decide) (fun _ => rfl) hin hdg kk
theorem asM_11 (hF : Fx kM E p s m args meth c cc own nL ret) (hH : HP kM E s σ H locs) (hin : vp_in i 8000) (hdg : decode cc pc = .ok (.iastore, 1)) (kk : ∀ (σ1 : Sg) (H1 : Heap) (locs1 : List Loc), σ1 = wr σ 11 i.toNatClampNeg v → HP kM E s σ1 H1 locs1 → W p l e R s m args below meth c H1 locs1 0 0 Q (F0 m (pc + 1) ls rest)) : W p l e R s m args below meth c H locs 0 0 Q (F0 m pc ls (.int v :: .int i :: .ref (eA E 11) :: rest)) := w_ast hF hH 11 (by decide) (fun _ => rfl) hin hdg kk
end Rw
end
section
def fX0_closed (a0 : Int32) (σ : Sg) : Rs :=
  some ((a0 &&& (63 : Int32)), σ)
def fX0_running (a0 : Int32) (σ : Sg) : Rs :=
  some (((a0 >>> ((6 : Int32) &&& 31)) &&& (7 : Int32)), σ)
def fX5_bit (a0 : Int32) (a1 : Int32) (σ : Sg) : Rs :=
  some (((a0 >>> (a1 &&& 31)) &&& (1 : Int32)), σ)
def fX0_isRunning_16 (t0 : Int32) (σ : Sg) : Rs :=
  zr t0 σ
def fX0_isRunning (a0 : Int32) (a1 : Int32) (σ : Sg) : Rs :=
  bd (fX0_running a0 σ) fun v1 σ2 =>
  bd (fX5_bit v1 a1 σ2) fun v3 σ4 =>
  if v3 = 0 then
  (fX0_isRunning_16 0 σ4)
  else
  (fX0_isRunning_16 1 σ4)
def fX0_leftAt (a0 : Int32) (σ : Sg) : Rs :=
  some (((9 : Int32) + ((2 : Int32) * a0)), σ)
def fX0_left (a0 : Int32) (a1 : Int32) (σ : Sg) : Rs :=
  bd (fX0_leftAt a1 σ) fun v1 σ2 =>
  some (((a0 >>> (v1 &&& 31)) &&& (3 : Int32)), σ2)
def fX0_ready_28 (k7 : Int32 → Int32 → Int32 → Sg → Rs) (x0 x1 x2 : Int32) (σ : Sg) : Rs :=
  sv (x2 + 1) fun y1 =>
  k7 x0 x1 y1 σ
def fX0_ready_L7 (k7 : Int32 → Int32 → Int32 → Sg → Rs) (x0 x1 x2 : Int32) (σ : Sg) : Rs :=
  if 3 ≤ x2 then
  (some (x1, σ))
  else
  (bd (fX0_left x0 x2 σ) fun v3 σ4 =>
  if v3 ≤ 0 then
  (fX0_ready_28 k7 x0 x1 x2 σ4)
  else
  (sv (x1 &&& (((1 : Int32) <<< (x2 &&& 31)) ^^^ (-1 : Int32))) fun y6 =>
  fX0_ready_28 k7 x0 y6 x2 σ4))
def fX0_ready (a0 : Int32) (σ : Sg) : Rs :=
  bd (fX0_running a0 σ) fun v7 σ8 =>
  it fX0_ready_L7 (fun _ _ _ _ => none) FU a0 v7 0 σ8
def fX0_ticked_26 (k4 : Int32 → Int32 → Int32 → Sg → Rs) (x0 x1 x2 : Int32) (σ : Sg) : Rs :=
  sv (x2 + 1) fun y1 =>
  k4 x0 x1 y1 σ
def fX0_ticked_L4 (k4 : Int32 → Int32 → Int32 → Sg → Rs) (x0 x1 x2 : Int32) (σ : Sg) : Rs :=
  if 3 ≤ x2 then
  (some (x1, σ))
  else
  (bd (fX0_left x0 x2 σ) fun v3 σ4 =>
  if v3 ≤ 0 then
  (fX0_ticked_26 k4 x0 x1 x2 σ4)
  else
  (bd (fX0_leftAt x2 σ4) fun v6 σ7 =>
  sv (x1 - ((1 : Int32) <<< (v6 &&& 31))) fun y8 =>
  fX0_ticked_26 k4 x0 y8 x2 σ7))
def fX0_ticked (a0 : Int32) (σ : Sg) : Rs :=
  it fX0_ticked_L4 (fun _ _ _ _ => none) FU a0 a0 0 σ
def fX0_withStarted (a0 : Int32) (a1 : Int32) (a2 : Int32) (σ : Sg) : Rs :=
  bd (fX0_leftAt a1 σ) fun v1 σ2 =>
  some (((a0 ||| ((1 : Int32) <<< (((6 : Int32) + a1) &&& 31))) ||| (a2 <<< (v1 &&& 31))), σ2)
def fX0_withStopped (a0 : Int32) (a1 : Int32) (σ : Sg) : Rs :=
  bd (fX0_leftAt a1 σ) fun v1 σ2 =>
  some (((a0 &&& (((1 : Int32) <<< (((6 : Int32) + a1) &&& 31)) ^^^ (-1 : Int32))) &&& (((3 : Int32) <<< (v1 &&& 31)) ^^^ (-1 : Int32))), σ2)
def fX0_withClosed (a0 : Int32) (a1 : Int32) (σ : Sg) : Rs :=
  some ((a0 ||| ((1 : Int32) <<< (a1 &&& 31))), σ)
def fX0_withOpened (a0 : Int32) (a1 : Int32) (σ : Sg) : Rs :=
  some ((a0 &&& (a1 ^^^ (-1 : Int32))), σ)
def fX5_setOfFirst (a0 : Int32) (σ : Sg) : Rs :=
  some ((((1 : Int32) <<< (a0 &&& 31)) - (1 : Int32)), σ)
def fX5_isWithin_14 (t0 : Int32) (σ : Sg) : Rs :=
  zr t0 σ
def fX5_isWithin_13 (σ : Sg) : Rs :=
  fX5_isWithin_14 0 σ
def fX5_isWithin (a0 : Int32) (a1 : Int32) (σ : Sg) : Rs :=
  if a0 < 0 then
  (fX5_isWithin_13 σ)
  else
  (if a1 < a0 then
  (fX5_isWithin_13 σ)
  else
  (fX5_isWithin_14 1 σ))
def fX5_isBus (a0 : Int32) (σ : Sg) : Rs :=
  bd (fX5_isWithin a0 5 σ) fun v1 σ2 =>
  zr v1 σ2
def fJ6_bitCount_0f7a4 (a0 : Int32) (σ : Sg) : Rs :=
  sv (a0 - (((a0).toUInt32 >>> (((1 : Int32)).toUInt32 &&& Int32.toUInt32 31)).toInt32 &&& (1431655765 : Int32))) fun y1 =>
  sv ((y1 &&& (858993459 : Int32)) + (((y1).toUInt32 >>> (((2 : Int32)).toUInt32 &&& Int32.toUInt32 31)).toInt32 &&& (858993459 : Int32))) fun y2 =>
  sv ((y2 + ((y2).toUInt32 >>> (((4 : Int32)).toUInt32 &&& Int32.toUInt32 31)).toInt32) &&& (252645135 : Int32)) fun y3 =>
  sv (y3 + ((y3).toUInt32 >>> (((8 : Int32)).toUInt32 &&& Int32.toUInt32 31)).toInt32) fun y4 =>
  sv (y4 + ((y4).toUInt32 >>> (((16 : Int32)).toUInt32 &&& Int32.toUInt32 31)).toInt32) fun y5 =>
  some ((y5 &&& (63 : Int32)), σ)
def fX1_hasLine_17 (t0 : Int32) (σ : Sg) : Rs :=
  zr t0 σ
def fX1_hasLine_16 (σ : Sg) : Rs :=
  fX1_hasLine_17 0 σ
def fX1_hasLine (a1 : Int32) (σ : Sg) : Rs :=
  if a1 < 0 then
  (fX1_hasLine_16 σ)
  else
  (if (σ 1 0) ≤ a1 then
  (fX1_hasLine_16 σ)
  else
  (fX1_hasLine_17 1 σ))
def fX1_hasMachine_17 (t0 : Int32) (σ : Sg) : Rs :=
  zr t0 σ
def fX1_hasMachine_16 (σ : Sg) : Rs :=
  fX1_hasMachine_17 0 σ
def fX1_hasMachine (a1 : Int32) (σ : Sg) : Rs :=
  if a1 < 0 then
  (fX1_hasMachine_16 σ)
  else
  (if (σ 1 4) ≤ a1 then
  (fX1_hasMachine_16 σ)
  else
  (fX1_hasMachine_17 1 σ))
def fX1_addLine (a1 : Int32) (a2 : Int32) (a3 : Int32) (σ : Sg) : Rs :=
  sv (σ 1 0) fun y1 =>
  gd y1 6 <|
  sv (wr σ 2 (Int32.toNatClampNeg y1) a1) fun σ2 =>
  gd y1 6 <|
  sv (wr σ2 3 (Int32.toNatClampNeg y1) a2) fun σ3 =>
  gd y1 6 <|
  sv (wr σ3 4 (Int32.toNatClampNeg y1) a3) fun σ4 =>
  sv (wr σ4 1 0 ((σ4 1 0) + (1 : Int32))) fun σ5 =>
  some (y1, σ5)
def fX1_addMachine (a1 : Int32) (a2 : Int32) (a3 : Int32) (a4 : Int32) (σ : Sg) : Rs :=
  sv (σ 1 4) fun y1 =>
  gd y1 3 <|
  sv (wr σ 5 (Int32.toNatClampNeg y1) a1) fun σ2 =>
  gd y1 3 <|
  sv (wr σ2 6 (Int32.toNatClampNeg y1) a2) fun σ3 =>
  gd y1 3 <|
  sv (wr σ3 7 (Int32.toNatClampNeg y1) a3) fun σ4 =>
  gd y1 3 <|
  sv (wr σ4 8 (Int32.toNatClampNeg y1) a4) fun σ5 =>
  sv (wr σ5 1 4 ((σ5 1 4) + (1 : Int32))) fun σ6 =>
  some (y1, σ6)
def fX1_copyFrom_18_1 (σ : Sg) : Rs :=
  sv (wr σ 18 0 (σ 1 0)) fun σ1 =>
  sv (wr σ1 18 4 (σ1 1 4)) fun σ2 =>
  sv (wr σ2 18 9 (σ2 1 9)) fun σ3 =>
  sv (wr σ3 18 10 (σ3 1 10)) fun σ4 =>
  sv (ups σ4 19 (va_cpy (σ4 2) (σ4 19) 0 0 (6 : Int32).toNatClampNeg)) fun σ5 =>
  sv (ups σ5 20 (va_cpy (σ5 3) (σ5 20) 0 0 (6 : Int32).toNatClampNeg)) fun σ6 =>
  sv (ups σ6 21 (va_cpy (σ6 4) (σ6 21) 0 0 (6 : Int32).toNatClampNeg)) fun σ7 =>
  sv (ups σ7 22 (va_cpy (σ7 5) (σ7 22) 0 0 (3 : Int32).toNatClampNeg)) fun σ8 =>
  sv (ups σ8 23 (va_cpy (σ8 6) (σ8 23) 0 0 (3 : Int32).toNatClampNeg)) fun σ9 =>
  sv (ups σ9 24 (va_cpy (σ9 7) (σ9 24) 0 0 (3 : Int32).toNatClampNeg)) fun σ10 =>
  sv (ups σ10 25 (va_cpy (σ10 8) (σ10 25) 0 0 (3 : Int32).toNatClampNeg)) fun σ11 =>
  some (0, σ11)
def fX1_copyFrom_26_1 (σ : Sg) : Rs :=
  sv (wr σ 26 0 (σ 1 0)) fun σ1 =>
  sv (wr σ1 26 4 (σ1 1 4)) fun σ2 =>
  sv (wr σ2 26 9 (σ2 1 9)) fun σ3 =>
  sv (wr σ3 26 10 (σ3 1 10)) fun σ4 =>
  sv (ups σ4 27 (va_cpy (σ4 2) (σ4 27) 0 0 (6 : Int32).toNatClampNeg)) fun σ5 =>
  sv (ups σ5 28 (va_cpy (σ5 3) (σ5 28) 0 0 (6 : Int32).toNatClampNeg)) fun σ6 =>
  sv (ups σ6 29 (va_cpy (σ6 4) (σ6 29) 0 0 (6 : Int32).toNatClampNeg)) fun σ7 =>
  sv (ups σ7 30 (va_cpy (σ7 5) (σ7 30) 0 0 (3 : Int32).toNatClampNeg)) fun σ8 =>
  sv (ups σ8 31 (va_cpy (σ8 6) (σ8 31) 0 0 (3 : Int32).toNatClampNeg)) fun σ9 =>
  sv (ups σ9 32 (va_cpy (σ9 7) (σ9 32) 0 0 (3 : Int32).toNatClampNeg)) fun σ10 =>
  sv (ups σ10 33 (va_cpy (σ10 8) (σ10 33) 0 0 (3 : Int32).toNatClampNeg)) fun σ11 =>
  some (0, σ11)
def fX1_copyFrom_1_18 (σ : Sg) : Rs :=
  sv (wr σ 1 0 (σ 18 0)) fun σ1 =>
  sv (wr σ1 1 4 (σ1 18 4)) fun σ2 =>
  sv (wr σ2 1 9 (σ2 18 9)) fun σ3 =>
  sv (wr σ3 1 10 (σ3 18 10)) fun σ4 =>
  sv (ups σ4 2 (va_cpy (σ4 19) (σ4 2) 0 0 (6 : Int32).toNatClampNeg)) fun σ5 =>
  sv (ups σ5 3 (va_cpy (σ5 20) (σ5 3) 0 0 (6 : Int32).toNatClampNeg)) fun σ6 =>
  sv (ups σ6 4 (va_cpy (σ6 21) (σ6 4) 0 0 (6 : Int32).toNatClampNeg)) fun σ7 =>
  sv (ups σ7 5 (va_cpy (σ7 22) (σ7 5) 0 0 (3 : Int32).toNatClampNeg)) fun σ8 =>
  sv (ups σ8 6 (va_cpy (σ8 23) (σ8 6) 0 0 (3 : Int32).toNatClampNeg)) fun σ9 =>
  sv (ups σ9 7 (va_cpy (σ9 24) (σ9 7) 0 0 (3 : Int32).toNatClampNeg)) fun σ10 =>
  sv (ups σ10 8 (va_cpy (σ10 25) (σ10 8) 0 0 (3 : Int32).toNatClampNeg)) fun σ11 =>
  some (0, σ11)
def fX1_copyFrom_1_26 (σ : Sg) : Rs :=
  sv (wr σ 1 0 (σ 26 0)) fun σ1 =>
  sv (wr σ1 1 4 (σ1 26 4)) fun σ2 =>
  sv (wr σ2 1 9 (σ2 26 9)) fun σ3 =>
  sv (wr σ3 1 10 (σ3 26 10)) fun σ4 =>
  sv (ups σ4 2 (va_cpy (σ4 27) (σ4 2) 0 0 (6 : Int32).toNatClampNeg)) fun σ5 =>
  sv (ups σ5 3 (va_cpy (σ5 28) (σ5 3) 0 0 (6 : Int32).toNatClampNeg)) fun σ6 =>
  sv (ups σ6 4 (va_cpy (σ6 29) (σ6 4) 0 0 (6 : Int32).toNatClampNeg)) fun σ7 =>
  sv (ups σ7 5 (va_cpy (σ7 30) (σ7 5) 0 0 (3 : Int32).toNatClampNeg)) fun σ8 =>
  sv (ups σ8 6 (va_cpy (σ8 31) (σ8 6) 0 0 (3 : Int32).toNatClampNeg)) fun σ9 =>
  sv (ups σ9 7 (va_cpy (σ9 32) (σ9 7) 0 0 (3 : Int32).toNatClampNeg)) fun σ10 =>
  sv (ups σ10 8 (va_cpy (σ10 33) (σ10 8) 0 0 (3 : Int32).toNatClampNeg)) fun σ11 =>
  some (0, σ11)
def fX2_busesWith (a1 : Int32) (a2 : Int32) (σ : Sg) : Rs :=
  gd ((a1 * (6 : Int32)) + a2) 384 <|
  some ((σ 10 (Int32.toNatClampNeg ((a1 * (6 : Int32)) + a2))), σ)
def fX2_drawAround (a1 : Int32) (a2 : Int32) (σ : Sg) : Rs :=
  gd ((a1 * (6 : Int32)) + a2) 384 <|
  some ((σ 11 (Int32.toNatClampNeg ((a1 * (6 : Int32)) + a2))), σ)
def fX2_join_163 (k82 : Int32 → Int32 → Int32 → Int32 → Int32 → Sg → Rs) (x1 x2 x7 x8 x9 t0 t1 : Int32) (σ : Sg) : Rs :=
  gd t1 384 <|
  sv (wr σ 11 (Int32.toNatClampNeg t1) t0) fun σ1 =>
  sv (x9 + 1) fun y2 =>
  k82 x1 x2 x7 x8 y2 σ1
def fX2_join_134 (k82 : Int32 → Int32 → Int32 → Int32 → Int32 → Sg → Rs) (x1 x2 x7 x8 x9 x10 t0 t1 : Int32) (σ : Sg) : Rs :=
  gd t1 384 <|
  sv (wr σ 10 (Int32.toNatClampNeg t1) t0) fun σ3 =>
  if x10 = 0 then
  (bd (fX2_drawAround x1 x9 σ3) fun v5 σ6 =>
  fX2_join_163 k82 x1 x2 x7 x8 x9 v5 ((x2 * (6 : Int32)) + x9) σ6)
  else
  (fX2_join_163 k82 x1 x2 x7 x8 x9 x8 ((x2 * (6 : Int32)) + x9) σ3)
def fX2_join_104 (k82 : Int32 → Int32 → Int32 → Int32 → Int32 → Sg → Rs) (x1 x2 x7 x8 x9 t0 : Int32) (σ : Sg) : Rs :=
  if t0 = 0 then
  (bd (fX2_busesWith x1 x9 σ) fun v8 σ9 =>
  fX2_join_134 k82 x1 x2 x7 x8 x9 t0 v8 ((x2 * (6 : Int32)) + x9) σ9)
  else
  (fX2_join_134 k82 x1 x2 x7 x8 x9 t0 x7 ((x2 * (6 : Int32)) + x9) σ)
def fX2_join_L82 (k82 : Int32 → Int32 → Int32 → Int32 → Int32 → Sg → Rs) (x1 x2 x7 x8 x9 : Int32) (σ : Sg) : Rs :=
  if 6 ≤ x9 then
  (some (0, σ))
  else
  (bd (fX5_bit x7 x9 σ) fun v11 σ12 =>
  if v11 = 0 then
  (fX2_join_104 k82 x1 x2 x7 x8 x9 0 σ12)
  else
  (fX2_join_104 k82 x1 x2 x7 x8 x9 1 σ12))
def fX2_join_79 (x1 x2 x7 x8 : Int32) (σ : Sg) : Rs :=
  it fX2_join_L82 (fun _ _ _ _ _ _ => none) FU x1 x2 x7 x8 0 σ
def fX2_join (a1 : Int32) (a2 : Int32) (a4 : Int32) (σ : Sg) : Rs :=
  gd a4 6 <|
  sv (σ 2 (Int32.toNatClampNeg a4)) fun y14 =>
  gd a4 6 <|
  sv (σ 3 (Int32.toNatClampNeg a4)) fun y15 =>
  bd (fX2_busesWith a1 y14 σ) fun v16 σ17 =>
  bd (fX2_busesWith a1 y15 σ17) fun v18 σ19 =>
  sv (v16 ||| v18) fun y20 =>
  gd a4 6 <|
  bd (fX2_drawAround a1 y14 σ19) fun v21 σ22 =>
  sv ((σ19 4 (Int32.toNatClampNeg a4)) + v21) fun y23 =>
  bd (fX2_busesWith a1 y14 σ22) fun v24 σ25 =>
  bd (fX5_bit v24 y15 σ25) fun v26 σ27 =>
  if v26 = 0 then
  (bd (fX2_drawAround a1 y15 σ27) fun v29 σ30 =>
  sv (y23 + v29) fun y31 =>
  fX2_join_79 a1 a2 y20 y31 σ30)
  else
  (fX2_join_79 a1 a2 y20 y23 σ27)
def fX2_learnLine_L9 (k9 : Int32 → Int32 → Int32 → Sg → Rs) (x2 x3 x4 : Int32) (σ : Sg) : Rs :=
  if x3 ≤ x4 then
  (some (0, σ))
  else
  (bd (fX2_join (x4 - ((1 : Int32) <<< (x2 &&& 31))) x4 x2 σ) fun v2 σ3 =>
  sv (x4 + 1) fun y4 =>
  k9 x2 x3 y4 σ3)
def fX2_learnLine (a2 : Int32) (σ : Sg) : Rs :=
  sv ((2 : Int32) <<< (a2 &&& 31)) fun y5 =>
  sv ((1 : Int32) <<< (a2 &&& 31)) fun y6 =>
  it fX2_learnLine_L9 (fun _ _ _ _ => none) FU a2 y5 y6 σ
def fX3_liveBuses_46 (k4 : Int32 → Int32 → Int32 → Sg → Rs) (x1 x2 x3 : Int32) (σ : Sg) : Rs :=
  sv (x3 + 1) fun y1 =>
  k4 x1 x2 y1 σ
def fX3_liveBuses_L4 (k4 : Int32 → Int32 → Int32 → Sg → Rs) (x1 x2 x3 : Int32) (σ : Sg) : Rs :=
  if (σ 1 4) ≤ x3 then
  (some (x2, σ))
  else
  (bd (fX0_isRunning x1 x3 σ) fun v3 σ4 =>
  if v3 = 0 then
  (fX3_liveBuses_46 k4 x1 x2 x3 σ4)
  else
  (bd (fX0_closed x1 σ4) fun v6 σ7 =>
  gd x3 3 <|
  bd (fX2_busesWith v6 (σ7 5 (Int32.toNatClampNeg x3)) σ7) fun v8 σ9 =>
  sv (x2 ||| v8) fun y10 =>
  fX3_liveBuses_46 k4 x1 y10 x3 σ9))
def fX3_liveBuses (a1 : Int32) (σ : Sg) : Rs :=
  it fX3_liveBuses_L4 (fun _ _ _ _ => none) FU a1 0 0 σ
def fX3_countLiveIslands_68 (k11 : Int32 → Int32 → Int32 → Int32 → Sg → Rs) (x1 x2 x3 x4 : Int32) (σ : Sg) : Rs :=
  sv (x4 + 1) fun y1 =>
  k11 x1 x2 x3 y1 σ
def fX3_countLiveIslands_49 (k11 : Int32 → Int32 → Int32 → Int32 → Sg → Rs) (x1 x2 x3 x4 t0 : Int32) (σ : Sg) : Rs :=
  if t0 = 0 then
  (fX3_countLiveIslands_68 k11 x1 x2 x3 x4 σ)
  else
  (bd (fX5_bit x2 x4 σ) fun v3 σ4 =>
  if v3 = 0 then
  (fX3_countLiveIslands_68 k11 x1 x2 x3 x4 σ4)
  else
  (sv (x3 + 1) fun y6 =>
  fX3_countLiveIslands_68 k11 x1 x2 y6 x4 σ4))
def fX3_countLiveIslands_L11 (k11 : Int32 → Int32 → Int32 → Int32 → Sg → Rs) (x1 x2 x3 x4 : Int32) (σ : Sg) : Rs :=
  if 6 ≤ x4 then
  (some (x3, σ))
  else
  (bd (fX0_closed x1 σ) fun v8 σ9 =>
  bd (fX2_busesWith v8 x4 σ9) fun v10 σ11 =>
  bd (fX5_setOfFirst x4 σ11) fun v12 σ13 =>
  if (v10 &&& v12) = 0 then
  (fX3_countLiveIslands_49 k11 x1 x2 x3 x4 1 σ13)
  else
  (fX3_countLiveIslands_49 k11 x1 x2 x3 x4 0 σ13))
def fX3_countLiveIslands (a1 : Int32) (σ : Sg) : Rs :=
  bd (fX3_liveBuses a1 σ) fun v15 σ16 =>
  it fX3_countLiveIslands_L11 (fun _ _ _ _ _ => none) FU a1 v15 0 0 σ16
def fX3_spareOf_80 (k26 : Int32 → Int32 → Int32 → Int32 → Sg → Rs) (x2 x4 x5 x6 : Int32) (σ : Sg) : Rs :=
  sv (x6 + 1) fun y1 =>
  k26 x2 x4 x5 y1 σ
def fX3_spareOf_L26 (k26 : Int32 → Int32 → Int32 → Int32 → Sg → Rs) (x2 x4 x5 x6 : Int32) (σ : Sg) : Rs :=
  if (σ 1 4) ≤ x6 then
  (some (x5, σ))
  else
  (bd (fX5_bit x2 x6 σ) fun v3 σ4 =>
  if v3 = 0 then
  (fX3_spareOf_80 k26 x2 x4 x5 x6 σ4)
  else
  (gd x6 3 <|
  bd (fX5_bit x4 (σ4 5 (Int32.toNatClampNeg x6)) σ4) fun v6 σ7 =>
  if v6 = 0 then
  (fX3_spareOf_80 k26 x2 x4 x5 x6 σ7)
  else
  (gd x6 3 <|
  sv (x5 + (σ7 7 (Int32.toNatClampNeg x6))) fun y9 =>
  fX3_spareOf_80 k26 x2 x4 y9 x6 σ7)))
def fX3_spareOf (a1 : Int32) (a2 : Int32) (a3 : Int32) (σ : Sg) : Rs :=
  bd (fX2_busesWith a1 a3 σ) fun v10 σ11 =>
  bd (fX2_drawAround a1 a3 σ11) fun v12 σ13 =>
  sv (-v12) fun y14 =>
  it fX3_spareOf_L26 (fun _ _ _ _ _ => none) FU a2 v10 y14 0 σ13
def fX3_spare (a1 : Int32) (a2 : Int32) (σ : Sg) : Rs :=
  bd (fX0_closed a1 σ) fun v1 σ2 =>
  bd (fX0_ready a1 σ2) fun v3 σ4 =>
  bd (fX3_spareOf v1 v3 a2 σ4) fun v5 σ6 =>
  some (v5, σ6)
def fX3_isTold_39 (t0 : Int32) (σ : Sg) : Rs :=
  zr t0 σ
def fX3_isTold_34 (σ : Sg) : Rs :=
  fX3_isTold_39 1 σ
def fX3_isTold (a1 : Int32) (σ : Sg) : Rs :=
  if a1 < 4 then
  (if a1 < 1 then
  (fX3_isTold_34 σ)
  else
  (bd (fX1_hasMachine (a1 - (1 : Int32)) σ) fun v3 σ4 =>
  if v3 = 0 then
  (fX3_isTold_39 0 σ4)
  else
  (fX3_isTold_34 σ4)))
  else
  (bd (fX1_hasLine (a1 - (4 : Int32)) σ) fun v6 σ7 =>
  zr v6 σ7)
def fX3_canCrank_56 (t0 : Int32) (σ : Sg) : Rs :=
  zr t0 σ
def fX3_canCrank_51 (σ : Sg) : Rs :=
  fX3_canCrank_56 1 σ
def fX3_canCrank_55 (σ : Sg) : Rs :=
  fX3_canCrank_56 0 σ
def fX3_canCrank (a1 : Int32) (a2 : Int32) (a3 : Int32) (a4 : Int32) (σ : Sg) : Rs :=
  gd a4 3 <|
  sv (σ 6 (Int32.toNatClampNeg a4)) fun y1 =>
  gd a4 3 <|
  sv (σ 5 (Int32.toNatClampNeg a4)) fun y2 =>
  if y1 = 0 then
  (fX3_canCrank_51 σ)
  else
  (bd (fX5_bit a3 y2 σ) fun v4 σ5 =>
  if v4 = 0 then
  (fX3_canCrank_55 σ5)
  else
  (bd (fX3_spareOf a1 a2 y2 σ5) fun v7 σ8 =>
  if v7 < y1 then
  (fX3_canCrank_55 σ8)
  else
  (fX3_canCrank_51 σ8)))
def fX3_canCarry_71 (t0 : Int32) (σ : Sg) : Rs :=
  zr t0 σ
def fX3_canCarry_70 (σ : Sg) : Rs :=
  fX3_canCarry_71 0 σ
def fX3_canCarry_43 (x1 x2 x4 x5 t0 : Int32) (σ : Sg) : Rs :=
  if t0 = 0 then
  (fX3_canCarry_70 σ)
  else
  (bd (fX3_spareOf (x1 ||| ((1 : Int32) <<< (x4 &&& 31))) x2 x5 σ) fun v2 σ3 =>
  if v2 < 0 then
  (fX3_canCarry_70 σ3)
  else
  (fX3_canCarry_71 1 σ3))
def fX3_canCarry_38 (x1 x2 x4 x5 : Int32) (σ : Sg) : Rs :=
  fX3_canCarry_43 x1 x2 x4 x5 1 σ
def fX3_canCarry (a1 : Int32) (a2 : Int32) (a3 : Int32) (a4 : Int32) (σ : Sg) : Rs :=
  gd a4 6 <|
  sv (σ 2 (Int32.toNatClampNeg a4)) fun y5 =>
  bd (fX5_bit a3 y5 σ) fun v6 σ7 =>
  if v6 = 0 then
  (gd a4 6 <|
  bd (fX5_bit a3 (σ7 3 (Int32.toNatClampNeg a4)) σ7) fun v9 σ10 =>
  if v9 = 0 then
  (fX3_canCarry_43 a1 a2 a4 y5 0 σ10)
  else
  (fX3_canCarry_38 a1 a2 a4 y5 σ10))
  else
  (fX3_canCarry_38 a1 a2 a4 y5 σ7)
def fX3_stepsFrom_130 (k84 : Int32 → Int32 → Int32 → Int32 → Int32 → Sg → Rs) (x2 x4 x5 x6 x7 : Int32) (σ : Sg) : Rs :=
  sv (x7 + 1) fun y1 =>
  k84 x2 x4 x5 x6 y1 σ
def fX3_stepsFrom_L84 (k84 : Int32 → Int32 → Int32 → Int32 → Int32 → Sg → Rs) (x2 x4 x5 x6 x7 : Int32) (σ : Sg) : Rs :=
  if (σ 1 0) ≤ x7 then
  (some (x6, σ))
  else
  (bd (fX5_bit x2 x7 σ) fun v3 σ4 =>
  if v3 = 0 then
  (bd (fX3_canCarry x2 x4 x5 x7 σ4) fun v6 σ7 =>
  if v6 = 0 then
  (fX3_stepsFrom_130 k84 x2 x4 x5 x6 x7 σ7)
  else
  (sv (x6 ||| ((1 : Int32) <<< (((4 : Int32) + x7) &&& 31))) fun y9 =>
  fX3_stepsFrom_130 k84 x2 x4 x5 y9 x7 σ7))
  else
  (fX3_stepsFrom_130 k84 x2 x4 x5 x6 x7 σ4))
def fX3_stepsFrom_75 (k29 : Int32 → Int32 → Int32 → Int32 → Int32 → Int32 → Sg → Rs) (x2 x3 x4 x5 x6 x7 : Int32) (σ : Sg) : Rs :=
  sv (x7 + 1) fun y10 =>
  k29 x2 x3 x4 x5 x6 y10 σ
def fX3_stepsFrom_L29 (k29 : Int32 → Int32 → Int32 → Int32 → Int32 → Int32 → Sg → Rs) (x2 x3 x4 x5 x6 x7 : Int32) (σ : Sg) : Rs :=
  if (σ 1 4) ≤ x7 then
  (it fX3_stepsFrom_L84 (fun _ _ _ _ _ _ => none) FU x2 x4 x5 x6 0 σ)
  else
  (bd (fX5_bit x3 x7 σ) fun v12 σ13 =>
  if v12 = 0 then
  (bd (fX3_canCrank x2 x4 x5 x7 σ13) fun v15 σ16 =>
  if v15 = 0 then
  (fX3_stepsFrom_75 k29 x2 x3 x4 x5 x6 x7 σ16)
  else
  (sv (x6 ||| ((1 : Int32) <<< (((1 : Int32) + x7) &&& 31))) fun y18 =>
  fX3_stepsFrom_75 k29 x2 x3 x4 x5 y18 x7 σ16))
  else
  (fX3_stepsFrom_75 k29 x2 x3 x4 x5 x6 x7 σ13))
def fX3_stepsFrom (a1 : Int32) (σ : Sg) : Rs :=
  bd (fX0_closed a1 σ) fun v19 σ20 =>
  bd (fX0_running a1 σ20) fun v21 σ22 =>
  bd (fX0_ready a1 σ22) fun v23 σ24 =>
  bd (fX3_liveBuses a1 σ24) fun v25 σ26 =>
  it fX3_stepsFrom_L29 (fun _ _ _ _ _ _ _ => none) FU v19 v21 v23 v25 1 0 σ26
def fX3_withStep (a1 : Int32) (a2 : Int32) (σ : Sg) : Rs :=
  if a2 < 4 then
  (if a2 < 1 then
  (some (a1, σ))
  else
  (sv (a2 - (1 : Int32)) fun y3 =>
  gd y3 3 <|
  bd (fX0_withStarted a1 y3 (σ 8 (Int32.toNatClampNeg y3)) σ) fun v4 σ5 =>
  some (v4, σ5)))
  else
  (bd (fX0_withClosed a1 (a2 - (4 : Int32)) σ) fun v6 σ7 =>
  some (v6, σ7))
def fX3_isReached_28 (t0 : Int32) (σ : Sg) : Rs :=
  zr t0 σ
def fX3_isReached_27 (σ : Sg) : Rs :=
  fX3_isReached_28 0 σ
def fX3_isReached (a1 : Int32) (a2 : Int32) (a3 : Int32) (σ : Sg) : Rs :=
  bd (fX0_ready a1 σ) fun v1 σ2 =>
  if (a2 &&& (v1 ^^^ (-1 : Int32))) = 0 then
  (bd (fX3_liveBuses a1 σ2) fun v4 σ5 =>
  if (a3 &&& (v4 ^^^ (-1 : Int32))) = 0 then
  (fX3_isReached_28 1 σ5)
  else
  (fX3_isReached_27 σ5))
  else
  (fX3_isReached_27 σ2)
def fX3_lostLines_78 (k17 : Int32 → Int32 → Int32 → Int32 → Int32 → Sg → Rs) (x1 x2 x3 x4 x5 : Int32) (σ : Sg) : Rs :=
  sv (x5 + 1) fun y1 =>
  k17 x1 x2 x3 x4 y1 σ
def fX3_lostLines_69 (k17 : Int32 → Int32 → Int32 → Int32 → Int32 → Sg → Rs) (x1 x2 x3 x4 x5 : Int32) (σ : Sg) : Rs :=
  sv (x4 ||| ((1 : Int32) <<< (x5 &&& 31))) fun y2 =>
  fX3_lostLines_78 k17 x1 x2 x3 y2 x5 σ
def fX3_lostLines_L17 (k17 : Int32 → Int32 → Int32 → Int32 → Int32 → Sg → Rs) (x1 x2 x3 x4 x5 : Int32) (σ : Sg) : Rs :=
  if (σ 1 0) ≤ x5 then
  (some (x4, σ))
  else
  (gd x5 6 <|
  sv (σ 2 (Int32.toNatClampNeg x5)) fun y4 =>
  bd (fX5_bit x2 x5 σ) fun v5 σ6 =>
  if v5 = 0 then
  (fX3_lostLines_78 k17 x1 x2 x3 x4 x5 σ6)
  else
  (bd (fX5_bit x3 y4 σ6) fun v8 σ9 =>
  if v8 = 0 then
  (fX3_lostLines_69 k17 x1 x2 x3 x4 x5 σ9)
  else
  (bd (fX3_spare x1 y4 σ9) fun v11 σ12 =>
  if 0 ≤ v11 then
  (fX3_lostLines_78 k17 x1 x2 x3 x4 x5 σ12)
  else
  (fX3_lostLines_69 k17 x1 x2 x3 x4 x5 σ12))))
def fX3_lostLines (a1 : Int32) (σ : Sg) : Rs :=
  bd (fX0_closed a1 σ) fun v14 σ15 =>
  bd (fX3_liveBuses a1 σ15) fun v16 σ17 =>
  it fX3_lostLines_L17 (fun _ _ _ _ _ _ => none) FU a1 v14 v16 0 0 σ17
def fX4_forget_L6 (k6 : Int32 → Int32 → Sg → Rs) (x2 x3 : Int32) (σ : Sg) : Rs :=
  if x2 < x3 then
  (sv (wr σ 13 4 0) fun σ2 =>
  some (0, σ2))
  else
  (gd x3 1024 <|
  sv (wr σ 16 (Int32.toNatClampNeg x3) 0) fun σ3 =>
  sv (x3 + 1) fun y4 =>
  k6 x2 y4 σ3)
def fX4_forget (a1 : Int32) (σ : Sg) : Rs :=
  sv (a1 >>> ((5 : Int32) &&& 31)) fun y5 =>
  it fX4_forget_L6 (fun _ _ _ => none) FU y5 0 σ
def fX4_add_36 (σ : Sg) : Rs :=
  zr 0 σ
def fX4_add (a1 : Int32) (a2 : Int32) (σ : Sg) : Rs :=
  sv (a1 >>> ((5 : Int32) &&& 31)) fun y1 =>
  bd (fX5_setOfFirst 5 σ) fun v2 σ3 =>
  sv ((1 : Int32) <<< ((a1 &&& v2) &&& 31)) fun y4 =>
  gd y1 1024 <|
  if ((σ3 16 (Int32.toNatClampNeg y1)) &&& y4) = 0 then
  (if (σ3 13 4) < 8000 then
  (gd y1 1024 <|
  gd y1 1024 <|
  sv (wr σ3 16 (Int32.toNatClampNeg y1) ((σ3 16 (Int32.toNatClampNeg y1)) ||| y4)) fun σ7 =>
  gd (σ7 13 4) 8000 <|
  sv (wr σ7 14 (Int32.toNatClampNeg (σ7 13 4)) a1) fun σ8 =>
  gd (σ8 13 4) 8000 <|
  sv (wr σ8 15 (Int32.toNatClampNeg (σ8 13 4)) a2) fun σ9 =>
  sv (wr σ9 13 4 ((σ9 13 4) + (1 : Int32))) fun σ10 =>
  zr 1 σ10)
  else
  (fX4_add_36 σ3))
  else
  (fX4_add_36 σ3)
def fX4_explore_175 (σ : Sg) : Rs :=
  some ((-1), σ)
def fX4_explore_163 (k39 : Int32 → Int32 → Int32 → Int32 → Int32 → Sg → Rs) (k89 : Int32 → Int32 → Int32 → Int32 → Int32 → Int32 → Int32 → Int32 → Sg → Rs) (x2 x3 x4 x5 x7 x8 x9 x10 : Int32) (σ : Sg) : Rs :=
  sv (x10 + 1) fun y1 =>
  k89 x2 x3 x4 x5 x7 x8 x9 y1 σ
def fX4_explore_L89 (k39 : Int32 → Int32 → Int32 → Int32 → Int32 → Sg → Rs) (k89 : Int32 → Int32 → Int32 → Int32 → Int32 → Int32 → Int32 → Int32 → Sg → Rs) (x2 x3 x4 x5 x7 x8 x9 x10 : Int32) (σ : Sg) : Rs :=
  if 10 ≤ x10 then
  (sv (x7 + 1) fun y3 =>
  k39 x2 x3 x4 x5 y3 σ)
  else
  (bd (fX5_bit x8 x10 σ) fun v4 σ5 =>
  if v4 = 0 then
  (fX4_explore_163 k39 k89 x2 x3 x4 x5 x7 x8 x9 x10 σ5)
  else
  (bd (fX3_withStep x9 x10 σ5) fun v7 σ8 =>
  sv (v7 &&& x2) fun y9 =>
  bd (fX4_add y9 ((x7 <<< ((4 : Int32) &&& 31)) ||| x10) σ8) fun v10 σ11 =>
  if v10 = 0 then
  (fX4_explore_163 k39 k89 x2 x3 x4 x5 x7 x8 x9 x10 σ11)
  else
  (bd (fX3_isReached y9 x4 x5 σ11) fun v13 σ14 =>
  if v13 = 0 then
  (fX4_explore_163 k39 k89 x2 x3 x4 x5 x7 x8 x9 x10 σ14)
  else
  (some (((σ14 13 4) - (1 : Int32)), σ14)))))
def fX4_explore_L39 (k39 : Int32 → Int32 → Int32 → Int32 → Int32 → Sg → Rs) (x2 x3 x4 x5 x7 : Int32) (σ : Sg) : Rs :=
  if (σ 13 4) ≤ x7 then
  (fX4_explore_175 σ)
  else
  (if 8000 ≤ x7 then
  (fX4_explore_175 σ)
  else
  (gd x7 8000 <|
  bd (fX3_stepsFrom (σ 14 (Int32.toNatClampNeg x7)) σ) fun v18 σ19 =>
  sv (v18 &&& x3) fun y20 =>
  gd x7 8000 <|
  bd (fX0_ticked (σ19 14 (Int32.toNatClampNeg x7)) σ19) fun v21 σ22 =>
  it (fX4_explore_L89 k39) (fun _ _ _ _ _ _ _ _ _ => none) FU x2 x3 x4 x5 x7 y20 v21 0 σ22))
def fX4_explore (a1 : Int32) (a2 : Int32) (a3 : Int32) (a4 : Int32) (a5 : Int32) (σ : Sg) : Rs :=
  sv (a1 &&& a2) fun y23 =>
  bd (fX4_forget a2 σ) fun v24 σ25 =>
  bd (fX4_add y23 0 σ25) fun v26 σ27 =>
  bd (fX3_isReached y23 a4 a5 σ27) fun v28 σ29 =>
  if v28 = 0 then
  (it fX4_explore_L39 (fun _ _ _ _ _ _ => none) FU a2 a3 a4 a5 0 σ29)
  else
  (some (0, σ29))
def fX4_plan (a1 : Int32) (a2 : Int32) (a3 : Int32) (σ : Sg) : Rs :=
  bd (fX4_explore a1 511 1023 a2 a3 σ) fun v1 σ2 =>
  if v1 = (-1) then
  (some ((-1), σ2))
  else
  (bd (fX4_explore a1 32767 1023 a2 a3 σ2) fun v4 σ5 =>
  some (v4, σ5))
def fX4_codeAt (a1 : Int32) (σ : Sg) : Rs :=
  gd a1 8000 <|
  some ((σ 14 (Int32.toNatClampNeg a1)), σ)
def fX4_ticksTo_30 (x2 : Int32) (σ : Sg) : Rs :=
  some (x2, σ)
def fX4_ticksTo_L4 (k4 : Int32 → Int32 → Sg → Rs) (x2 x3 : Int32) (σ : Sg) : Rs :=
  if x3 ≤ 0 then
  (fX4_ticksTo_30 x2 σ)
  else
  (if 8000 ≤ x2 then
  (fX4_ticksTo_30 x2 σ)
  else
  (sv (x2 + 1) fun y3 =>
  gd x3 8000 <|
  sv ((σ 15 (Int32.toNatClampNeg x3)) >>> ((4 : Int32) &&& 31)) fun y4 =>
  k4 y3 y4 σ))
def fX4_ticksTo (a1 : Int32) (σ : Sg) : Rs :=
  it fX4_ticksTo_L4 (fun _ _ _ => none) FU 0 a1 σ
def fX4_stepBefore_L5 (k5 : Int32 → Int32 → Int32 → Sg → Rs) (x2 x3 x4 : Int32) (σ : Sg) : Rs :=
  if x2 ≤ x4 then
  (gd x3 8000 <|
  bd (fX5_setOfFirst 4 σ) fun v2 σ3 =>
  some (((σ 15 (Int32.toNatClampNeg x3)) &&& v2), σ3))
  else
  (gd x3 8000 <|
  sv ((σ 15 (Int32.toNatClampNeg x3)) >>> ((4 : Int32) &&& 31)) fun y4 =>
  sv (x4 + 1) fun y5 =>
  k5 x2 y4 y5 σ)
def fX4_stepBefore (a1 : Int32) (a2 : Int32) (σ : Sg) : Rs :=
  it fX4_stepBefore_L5 (fun _ _ _ _ => none) FU a2 a1 0 σ
def fX4_canReach_22 (t0 : Int32) (σ : Sg) : Rs :=
  zr t0 σ
def fX4_canReach (a1 : Int32) (a2 : Int32) (a3 : Int32) (σ : Sg) : Rs :=
  bd (fX4_explore a1 511 1023 a2 a3 σ) fun v1 σ2 =>
  if v1 = (-1) then
  (fX4_canReach_22 0 σ2)
  else
  (fX4_canReach_22 1 σ2)
def fX4_neededAmong_60 (k6 : Int32 → Int32 → Int32 → Int32 → Int32 → Int32 → Sg → Rs) (x1 x2 x3 x4 x5 x6 : Int32) (σ : Sg) : Rs :=
  sv (x6 + 1) fun y1 =>
  k6 x1 x2 x3 x4 x5 y1 σ
def fX4_neededAmong_L6 (k6 : Int32 → Int32 → Int32 → Int32 → Int32 → Int32 → Sg → Rs) (x1 x2 x3 x4 x5 x6 : Int32) (σ : Sg) : Rs :=
  if 10 ≤ x6 then
  (some (x5, σ))
  else
  (sv ((1023 : Int32) &&& (((1 : Int32) <<< (x6 &&& 31)) ^^^ (-1 : Int32))) fun y3 =>
  bd (fX5_bit x1 x6 σ) fun v4 σ5 =>
  if v4 = 0 then
  (fX4_neededAmong_60 k6 x1 x2 x3 x4 x5 x6 σ5)
  else
  (bd (fX4_explore x2 511 y3 x3 x4 σ5) fun v7 σ8 =>
  if v7 = (-1) then
  (sv (x5 ||| ((1 : Int32) <<< (x6 &&& 31))) fun y10 =>
  fX4_neededAmong_60 k6 x1 x2 x3 x4 y10 x6 σ8)
  else
  (fX4_neededAmong_60 k6 x1 x2 x3 x4 x5 x6 σ8)))
def fX4_neededAmong (a1 : Int32) (a2 : Int32) (a3 : Int32) (a4 : Int32) (σ : Sg) : Rs :=
  it fX4_neededAmong_L6 (fun _ _ _ _ _ _ _ => none) FU a1 a2 a3 a4 0 0 σ
def fX4_everReady_38 (k5 : Int32 → Int32 → Int32 → Int32 → Sg → Rs) (x1 x2 x3 x4 : Int32) (σ : Sg) : Rs :=
  sv (x4 + 1) fun y1 =>
  k5 x1 x2 x3 y1 σ
def fX4_everReady_L5 (k5 : Int32 → Int32 → Int32 → Int32 → Sg → Rs) (x1 x2 x3 x4 : Int32) (σ : Sg) : Rs :=
  if x2 ≤ x4 then
  (some (x3, σ))
  else
  (bd (fX4_explore x1 511 1023 ((1 : Int32) <<< (x4 &&& 31)) 0 σ) fun v3 σ4 =>
  if v3 = (-1) then
  (fX4_everReady_38 k5 x1 x2 x3 x4 σ4)
  else
  (sv (x3 ||| ((1 : Int32) <<< (x4 &&& 31))) fun y6 =>
  fX4_everReady_38 k5 x1 x2 y6 x4 σ4))
def fX4_everReady (a1 : Int32) (a2 : Int32) (σ : Sg) : Rs :=
  it fX4_everReady_L5 (fun _ _ _ _ _ => none) FU a1 a2 0 0 σ
def fX4_everLive_35 (k4 : Int32 → Int32 → Int32 → Sg → Rs) (x1 x2 x3 : Int32) (σ : Sg) : Rs :=
  sv (x3 + 1) fun y1 =>
  k4 x1 x2 y1 σ
def fX4_everLive_L4 (k4 : Int32 → Int32 → Int32 → Sg → Rs) (x1 x2 x3 : Int32) (σ : Sg) : Rs :=
  if 6 ≤ x3 then
  (some (x2, σ))
  else
  (bd (fX4_explore x1 511 1023 0 ((1 : Int32) <<< (x3 &&& 31)) σ) fun v3 σ4 =>
  if v3 = (-1) then
  (fX4_everLive_35 k4 x1 x2 x3 σ4)
  else
  (sv (x2 ||| ((1 : Int32) <<< (x3 &&& 31))) fun y6 =>
  fX4_everLive_35 k4 x1 y6 x3 σ4))
def fX4_everLive (a1 : Int32) (σ : Sg) : Rs :=
  it fX4_everLive_L4 (fun _ _ _ _ => none) FU a1 0 0 σ
def fX5_line_19 (σ : Sg) : Rs :=
  some ((-1), σ)
def fX5_line (a1 : Int32) (a2 : Int32) (a3 : Int32) (σ : Sg) : Rs :=
  bd (fX5_isBus a1 σ) fun v1 σ2 =>
  if v1 = 0 then
  (fX5_line_19 σ2)
  else
  (bd (fX5_isBus a2 σ2) fun v4 σ5 =>
  if v4 = 0 then
  (fX5_line_19 σ5)
  else
  (if a1 = a2 then
  (fX5_line_19 σ5)
  else
  (bd (fX5_isWithin a3 9 σ5) fun v8 σ9 =>
  if v8 = 0 then
  (some ((-2), σ9))
  else
  (if (σ9 1 0) < 6 then
  (bd (fX1_addLine (if a2 < a1 then a2 else a1) (if a1 < a2 then a2 else a1) a3 σ9) fun v12 σ13 =>
  bd (fX2_learnLine v12 σ13) fun v14 σ15 =>
  some (v12, σ15))
  else
  (some ((-4), σ9))))))
def fX5_machine_36 (σ : Sg) : Rs :=
  some ((-2), σ)
def fX5_machine (a1 : Int32) (a2 : Int32) (a3 : Int32) (a4 : Int32) (σ : Sg) : Rs :=
  bd (fX5_isBus a1 σ) fun v1 σ2 =>
  if v1 = 0 then
  (some ((-1), σ2))
  else
  (bd (fX5_isWithin a2 20 σ2) fun v4 σ5 =>
  if v4 = 0 then
  (fX5_machine_36 σ5)
  else
  (bd (fX5_isWithin a3 40 σ5) fun v7 σ8 =>
  if v7 = 0 then
  (fX5_machine_36 σ8)
  else
  (bd (fX5_isWithin a4 3 σ8) fun v10 σ11 =>
  if v10 = 0 then
  (fX5_machine_36 σ11)
  else
  (if (σ11 1 4) < 3 then
  (bd (fX1_addMachine a1 a2 a3 a4 σ11) fun v14 σ15 =>
  some (v14, σ15))
  else
  (some ((-4), σ11))))))
def fX5_dark (σ : Sg) : Rs :=
  bd (fX0_running (σ 1 9) σ) fun v1 σ2 =>
  bd (fJ6_bitCount_0f7a4 v1 σ2) fun v3 σ4 =>
  sv (wr σ4 1 9 0) fun σ5 =>
  sv (wr σ5 1 10 0) fun σ6 =>
  some (v3, σ6)
def fX5_of (a1 : Int32) (a2 : Int32) (σ : Sg) : Rs :=
  bd (fX1_hasLine a1 σ) fun v1 σ2 =>
  if v1 = 0 then
  (some ((-1), σ2))
  else
  (if a2 = 0 then
  (gd a1 6 <|
  some ((σ2 2 (Int32.toNatClampNeg a1)), σ2))
  else
  if a2 = 1 then
  (gd a1 6 <|
  some ((σ2 3 (Int32.toNatClampNeg a1)), σ2))
  else
  if a2 = 2 then
  (gd a1 6 <|
  some ((σ2 4 (Int32.toNatClampNeg a1)), σ2))
  else
  if a2 = 3 then
  (bd (fX0_closed (σ2 1 9) σ2) fun v8 σ9 =>
  bd (fX5_bit v8 a1 σ9) fun v10 σ11 =>
  some (v10, σ11))
  else
  (some ((-2), σ2)))
def fX5_at_118 (t0 : Int32) (σ : Sg) : Rs :=
  some (t0, σ)
def fX5_at (a1 : Int32) (a2 : Int32) (σ : Sg) : Rs :=
  bd (fX1_hasMachine a1 σ) fun v1 σ2 =>
  if v1 = 0 then
  (some ((-1), σ2))
  else
  (if a2 = 0 then
  (gd a1 3 <|
  some ((σ2 5 (Int32.toNatClampNeg a1)), σ2))
  else
  if a2 = 1 then
  (gd a1 3 <|
  some ((σ2 6 (Int32.toNatClampNeg a1)), σ2))
  else
  if a2 = 2 then
  (gd a1 3 <|
  some ((σ2 7 (Int32.toNatClampNeg a1)), σ2))
  else
  if a2 = 3 then
  (gd a1 3 <|
  some ((σ2 8 (Int32.toNatClampNeg a1)), σ2))
  else
  if a2 = 4 then
  (bd (fX0_isRunning (σ2 1 9) a1 σ2) fun v9 σ10 =>
  if v9 = 0 then
  (fX5_at_118 (-6) σ10)
  else
  (bd (fX0_left (σ10 1 9) a1 σ10) fun v12 σ13 =>
  fX5_at_118 v12 σ13))
  else
  (some ((-2), σ2)))
def fX5_bus (a1 : Int32) (a2 : Int32) (σ : Sg) : Rs :=
  bd (fX5_isBus a1 σ) fun v1 σ2 =>
  if v1 = 0 then
  (some ((-1), σ2))
  else
  (if a2 = 0 then
  (bd (fX0_closed (σ2 1 9) σ2) fun v5 σ6 =>
  bd (fX2_busesWith v5 a1 σ6) fun v7 σ8 =>
  some (v7, σ8))
  else
  if a2 = 1 then
  (bd (fX3_liveBuses (σ2 1 9) σ2) fun v10 σ11 =>
  bd (fX5_bit v10 a1 σ11) fun v12 σ13 =>
  some (v12, σ13))
  else
  if a2 = 2 then
  (bd (fX3_spare (σ2 1 9) a1 σ2) fun v15 σ16 =>
  some ((v15 + (100 : Int32)), σ16))
  else
  (some ((-2), σ2)))
def fX5_can (σ : Sg) : Rs :=
  bd (fX3_stepsFrom (σ 1 9) σ) fun v1 σ2 =>
  some (v1, σ2)
def fX5_tick (a1 : Int32) (σ : Sg) : Rs :=
  bd (fX5_isWithin a1 9 σ) fun v1 σ2 =>
  if v1 = 0 then
  (some ((-2), σ2))
  else
  (bd (fX3_isTold a1 σ2) fun v4 σ5 =>
  if v4 = 0 then
  (some ((-1), σ5))
  else
  (bd (fX3_stepsFrom (σ5 1 9) σ5) fun v7 σ8 =>
  bd (fX5_bit v7 a1 σ8) fun v9 σ10 =>
  if v9 = 0 then
  (some ((-5), σ10))
  else
  (bd (fX0_ticked (σ10 1 9) σ10) fun v12 σ13 =>
  bd (fX3_withStep v12 a1 σ13) fun v14 σ15 =>
  sv (wr σ15 1 9 v14) fun σ16 =>
  sv (wr σ16 1 10 ((σ16 1 10) + (1 : Int32))) fun σ17 =>
  some ((σ17 1 10), σ17))))
def fX5_openLost (σ : Sg) : Rs :=
  bd (fX3_lostLines (σ 1 9) σ) fun v1 σ2 =>
  bd (fX0_withOpened (σ2 1 9) v1 σ2) fun v3 σ4 =>
  sv (wr σ4 1 9 v3) fun σ5 =>
  bd (fJ6_bitCount_0f7a4 v1 σ5) fun v6 σ7 =>
  some (v6, σ7)
def fX5_fail (a1 : Int32) (σ : Sg) : Rs :=
  bd (fX1_hasMachine a1 σ) fun v1 σ2 =>
  if v1 = 0 then
  (some ((-1), σ2))
  else
  (bd (fX0_isRunning (σ2 1 9) a1 σ2) fun v4 σ5 =>
  if v4 = 0 then
  (some ((-3), σ5))
  else
  (bd (fX0_withStopped (σ5 1 9) a1 σ5) fun v7 σ8 =>
  sv (wr σ8 1 9 v7) fun σ9 =>
  bd (fX5_openLost σ9) fun v10 σ11 =>
  some (v10, σ11)))
def fX5_trip (a1 : Int32) (σ : Sg) : Rs :=
  bd (fX1_hasLine a1 σ) fun v1 σ2 =>
  if v1 = 0 then
  (some ((-1), σ2))
  else
  (bd (fX0_closed (σ2 1 9) σ2) fun v4 σ5 =>
  bd (fX5_bit v4 a1 σ5) fun v6 σ7 =>
  if v6 = 0 then
  (some ((-3), σ7))
  else
  (bd (fX0_withOpened (σ7 1 9) ((1 : Int32) <<< (a1 &&& 31)) σ7) fun v9 σ10 =>
  sv (wr σ10 1 9 v9) fun σ11 =>
  bd (fX5_openLost σ11) fun v12 σ13 =>
  some (((1 : Int32) + v12), σ13)))
def fX5_isGoal_34 (t0 : Int32) (σ : Sg) : Rs :=
  zr t0 σ
def fX5_isGoal_33 (σ : Sg) : Rs :=
  fX5_isGoal_34 0 σ
def fX5_isGoal (a1 : Int32) (a2 : Int32) (σ : Sg) : Rs :=
  bd (fX5_setOfFirst (σ 1 4) σ) fun v1 σ2 =>
  bd (fX5_isWithin a1 v1 σ2) fun v3 σ4 =>
  if v3 = 0 then
  (fX5_isGoal_33 σ4)
  else
  (bd (fX5_setOfFirst 6 σ4) fun v6 σ7 =>
  bd (fX5_isWithin a2 v6 σ7) fun v8 σ9 =>
  if v8 = 0 then
  (fX5_isGoal_33 σ9)
  else
  (fX5_isGoal_34 1 σ9))
def fX5_way_14 (σ : Sg) : Rs :=
  some ((-2), σ)
def fX5_way_89 (t0 : Int32) (σ : Sg) : Rs :=
  some (t0, σ)
def fX5_way (a1 : Int32) (a2 : Int32) (a3 : Int32) (σ : Sg) : Rs :=
  bd (fX5_isGoal a1 a2 σ) fun v1 σ2 =>
  if v1 = 0 then
  (fX5_way_14 σ2)
  else
  (if (-1) ≤ a3 then
  (bd (fX4_plan (σ2 1 9) a1 a2 σ2) fun v5 σ6 =>
  if v5 = (-1) then
  (some ((-6), σ6))
  else
  (bd (fX4_ticksTo v5 σ6) fun v8 σ9 =>
  if a3 = (-1) then
  (some (v8, σ9))
  else
  (if v8 ≤ a3 then
  (fX5_way_89 (-6) σ9)
  else
  (bd (fX4_stepBefore v5 ((v8 - (1 : Int32)) - a3) σ9) fun v12 σ13 =>
  fX5_way_89 v12 σ13))))
  else
  (fX5_way_14 σ2))
def fX5_go (a1 : Int32) (a2 : Int32) (σ : Sg) : Rs :=
  bd (fX5_isGoal a1 a2 σ) fun v1 σ2 =>
  if v1 = 0 then
  (some ((-2), σ2))
  else
  (bd (fX4_plan (σ2 1 9) a1 a2 σ2) fun v4 σ5 =>
  if v4 = (-1) then
  (some ((-5), σ5))
  else
  (bd (fX4_codeAt v4 σ5) fun v7 σ8 =>
  sv (wr σ8 1 9 v7) fun σ9 =>
  bd (fX4_ticksTo v4 σ9) fun v10 σ11 =>
  sv (wr σ11 1 10 ((σ9 1 10) + v10)) fun σ12 =>
  some ((σ12 1 10), σ12)))
def fX5_needed_17 (σ : Sg) : Rs :=
  some ((-2), σ)
def fX5_needed (a1 : Int32) (a2 : Int32) (a3 : Int32) (σ : Sg) : Rs :=
  bd (fX5_isGoal a1 a2 σ) fun v1 σ2 =>
  if v1 = 0 then
  (fX5_needed_17 σ2)
  else
  (bd (fX5_isWithin a3 1 σ2) fun v4 σ5 =>
  if v4 = 0 then
  (fX5_needed_17 σ5)
  else
  (bd (fX4_canReach (σ5 1 9) a1 a2 σ5) fun v7 σ8 =>
  if v7 = 0 then
  (some ((-6), σ8))
  else
  (if a3 = 0 then
  (bd (fX5_setOfFirst (σ8 1 0) σ8) fun v18 σ19 =>
  bd (fX0_closed (σ19 1 9) σ19) fun v20 σ21 =>
  sv (v18 &&& (v20 ^^^ (-1 : Int32))) fun y22 =>
  bd (fX4_neededAmong (y22 <<< ((4 : Int32) &&& 31)) (σ21 1 9) a1 a2 σ21) fun v23 σ24 =>
  some ((v23 >>> ((4 : Int32) &&& 31)), σ24))
  else
  (bd (fX5_setOfFirst (σ8 1 4) σ8) fun v11 σ12 =>
  bd (fX0_running (σ12 1 9) σ12) fun v13 σ14 =>
  sv (v11 &&& (v13 ^^^ (-1 : Int32))) fun y15 =>
  bd (fX4_neededAmong (y15 <<< ((1 : Int32) &&& 31)) (σ14 1 9) a1 a2 σ14) fun v16 σ17 =>
  some ((v16 >>> ((1 : Int32) &&& 31)), σ17)))))
def fX5_ever (a1 : Int32) (σ : Sg) : Rs :=
  if a1 = 0 then
  (bd (fX4_everReady (σ 1 9) (σ 1 4) σ) fun v2 σ3 =>
  some (v2, σ3))
  else
  if a1 = 1 then
  (bd (fX4_everLive (σ 1 9) σ) fun v5 σ6 =>
  some (v5, σ6))
  else
  (some ((-2), σ))
def fX5_image (a1 : Int32) (σ : Sg) : Rs :=
  bd (fX5_isWithin a1 1 σ) fun v1 σ2 =>
  if v1 = 0 then
  (some ((-2), σ2))
  else
  (gd a1 2 <|
  if a1 = 0 then
  (bd (fX1_copyFrom_18_1 σ2) fun v5 σ6 =>
  sv (wr σ6 0 5 ((σ6 0 5) ||| ((1 : Int32) <<< (a1 &&& 31)))) fun σ7 =>
  some (1, σ7))
  else
  (bd (fX1_copyFrom_26_1 σ2) fun v8 σ9 =>
  sv (wr σ9 0 5 ((σ9 0 5) ||| ((1 : Int32) <<< (a1 &&& 31)))) fun σ10 =>
  some (1, σ10)))
def fX5_restore_L40 (k40 : Int32 → Sg → Rs) (x2 : Int32) (σ : Sg) : Rs :=
  if (σ 1 0) ≤ x2 then
  (some (1, σ))
  else
  (bd (fX2_learnLine x2 σ) fun v2 σ3 =>
  sv (x2 + 1) fun y4 =>
  k40 y4 σ3)
def fX5_restore (a1 : Int32) (σ : Sg) : Rs :=
  bd (fX5_isWithin a1 1 σ) fun v5 σ6 =>
  if v5 = 0 then
  (some ((-2), σ6))
  else
  (bd (fX5_bit (σ6 0 5) a1 σ6) fun v8 σ9 =>
  if v8 = 0 then
  (some ((-3), σ9))
  else
  (gd a1 2 <|
  if a1 = 0 then
  (bd (fX1_copyFrom_1_18 σ9) fun v12 σ13 =>
  it fX5_restore_L40 (fun _ _ => none) FU 0 σ13)
  else
  (bd (fX1_copyFrom_1_26 σ9) fun v14 σ15 =>
  it fX5_restore_L40 (fun _ _ => none) FU 0 σ15)))
def fX5_count (a1 : Int32) (σ : Sg) : Rs :=
  if a1 = 0 then
  (some ((σ 1 0), σ))
  else
  if a1 = 1 then
  (some ((σ 1 4), σ))
  else
  if a1 = 2 then
  (bd (fX0_closed (σ 1 9) σ) fun v4 σ5 =>
  bd (fJ6_bitCount_0f7a4 v4 σ5) fun v6 σ7 =>
  some (v6, σ7))
  else
  if a1 = 3 then
  (bd (fX0_running (σ 1 9) σ) fun v9 σ10 =>
  bd (fJ6_bitCount_0f7a4 v9 σ10) fun v11 σ12 =>
  some (v11, σ12))
  else
  if a1 = 4 then
  (bd (fX0_ready (σ 1 9) σ) fun v14 σ15 =>
  bd (fJ6_bitCount_0f7a4 v14 σ15) fun v16 σ17 =>
  some (v16, σ17))
  else
  if a1 = 5 then
  (bd (fX3_liveBuses (σ 1 9) σ) fun v19 σ20 =>
  bd (fJ6_bitCount_0f7a4 v19 σ20) fun v21 σ22 =>
  some (v21, σ22))
  else
  if a1 = 6 then
  (bd (fX3_countLiveIslands (σ 1 9) σ) fun v24 σ25 =>
  some (v24, σ25))
  else
  if a1 = 7 then
  (some ((σ 1 10), σ))
  else
  if a1 = 8 then
  (some ((σ 0 5), σ))
  else
  (some ((-2), σ))
end
section
def fX6_in_15 (t0 : Int32) (σ : Sg) : Rs :=
  zr t0 σ
def fX6_in_14 (σ : Sg) : Rs :=
  fX6_in_15 0 σ
def fX6_in (a0 : Int32) (a1 : Int32) (a2 : Int32) (σ : Sg) : Rs :=
  if a0 < a1 then
  (fX6_in_14 σ)
  else
  (if a2 < a0 then
  (fX6_in_14 σ)
  else
  (fX6_in_15 1 σ))
def fX6_isBus (a0 : Int32) (σ : Sg) : Rs :=
  bd (fX6_in a0 0 5 σ) fun v1 σ2 =>
  zr v1 σ2
def fX6_isLine (a1 : Int32) (σ : Sg) : Rs :=
  gd 39 42 <|
  bd (fX6_in a1 0 ((σ 1 (Int32.toNatClampNeg 39)) - (1 : Int32)) σ) fun v1 σ2 =>
  zr v1 σ2
def fX6_isMachine (a1 : Int32) (σ : Sg) : Rs :=
  gd 40 42 <|
  bd (fX6_in a1 0 ((σ 1 (Int32.toNatClampNeg 40)) - (1 : Int32)) σ) fun v1 σ2 =>
  zr v1 σ2
def fX6_line_19 (σ : Sg) : Rs :=
  some ((-1), σ)
def fX6_line_91 (x3 x4 t0 t1 : Int32) (σ : Sg) : Rs :=
  gd t1 42 <|
  sv (wr σ 1 (Int32.toNatClampNeg t1) t0) fun σ1 =>
  gd ((12 : Int32) + x4) 42 <|
  sv (wr σ1 1 (Int32.toNatClampNeg ((12 : Int32) + x4)) x3) fun σ2 =>
  gd ((18 : Int32) + x4) 42 <|
  sv (wr σ2 1 (Int32.toNatClampNeg ((18 : Int32) + x4)) 0) fun σ3 =>
  gd 39 42 <|
  gd 39 42 <|
  sv (wr σ3 1 (Int32.toNatClampNeg 39) ((σ3 1 (Int32.toNatClampNeg 39)) + (1 : Int32))) fun σ4 =>
  some (x4, σ4)
def fX6_line_71 (x1 x2 x3 x4 t0 t1 : Int32) (σ : Sg) : Rs :=
  gd t1 42 <|
  sv (wr σ 1 (Int32.toNatClampNeg t1) t0) fun σ5 =>
  if x2 ≤ x1 then
  (fX6_line_91 x3 x4 x1 ((6 : Int32) + x4) σ5)
  else
  (fX6_line_91 x3 x4 x2 ((6 : Int32) + x4) σ5)
def fX6_line (a1 : Int32) (a2 : Int32) (a3 : Int32) (σ : Sg) : Rs :=
  bd (fX6_isBus a1 σ) fun v7 σ8 =>
  if v7 = 0 then
  (fX6_line_19 σ8)
  else
  (bd (fX6_isBus a2 σ8) fun v10 σ11 =>
  if v10 = 0 then
  (fX6_line_19 σ11)
  else
  (if a1 = a2 then
  (fX6_line_19 σ11)
  else
  (bd (fX6_in a3 0 9 σ11) fun v14 σ15 =>
  if v14 = 0 then
  (some ((-2), σ15))
  else
  (gd 39 42 <|
  sv (σ15 1 (Int32.toNatClampNeg 39)) fun y17 =>
  if y17 = 6 then
  (some ((-4), σ15))
  else
  (if a2 ≤ a1 then
  (fX6_line_71 a1 a2 a3 y17 a2 ((0 : Int32) + y17) σ15)
  else
  (fX6_line_71 a1 a2 a3 y17 a1 ((0 : Int32) + y17) σ15))))))
def fX6_machine_39 (σ : Sg) : Rs :=
  some ((-2), σ)
def fX6_machine (a1 : Int32) (a2 : Int32) (a3 : Int32) (a4 : Int32) (σ : Sg) : Rs :=
  bd (fX6_isBus a1 σ) fun v1 σ2 =>
  if v1 = 0 then
  (some ((-1), σ2))
  else
  (bd (fX6_in a2 0 20 σ2) fun v4 σ5 =>
  if v4 = 0 then
  (fX6_machine_39 σ5)
  else
  (bd (fX6_in a3 0 40 σ5) fun v7 σ8 =>
  if v7 = 0 then
  (fX6_machine_39 σ8)
  else
  (bd (fX6_in a4 0 3 σ8) fun v10 σ11 =>
  if v10 = 0 then
  (fX6_machine_39 σ11)
  else
  (gd 40 42 <|
  sv (σ11 1 (Int32.toNatClampNeg 40)) fun y13 =>
  if y13 = 3 then
  (some ((-4), σ11))
  else
  (gd ((24 : Int32) + y13) 42 <|
  sv (wr σ11 1 (Int32.toNatClampNeg ((24 : Int32) + y13)) a1) fun σ15 =>
  gd ((27 : Int32) + y13) 42 <|
  sv (wr σ15 1 (Int32.toNatClampNeg ((27 : Int32) + y13)) a2) fun σ16 =>
  gd ((30 : Int32) + y13) 42 <|
  sv (wr σ16 1 (Int32.toNatClampNeg ((30 : Int32) + y13)) a3) fun σ17 =>
  gd ((33 : Int32) + y13) 42 <|
  sv (wr σ17 1 (Int32.toNatClampNeg ((33 : Int32) + y13)) a4) fun σ18 =>
  gd ((36 : Int32) + y13) 42 <|
  sv (wr σ18 1 (Int32.toNatClampNeg ((36 : Int32) + y13)) 0) fun σ19 =>
  gd 40 42 <|
  gd 40 42 <|
  sv (wr σ19 1 (Int32.toNatClampNeg 40) ((σ19 1 (Int32.toNatClampNeg 40)) + (1 : Int32))) fun σ20 =>
  some (y13, σ20))))))
def fX6_dark_L53 (k53 : Int32 → Int32 → Sg → Rs) (x1 x2 : Int32) (σ : Sg) : Rs :=
  gd 39 42 <|
  if (σ 1 (Int32.toNatClampNeg 39)) ≤ x2 then
  (gd 41 42 <|
  sv (wr σ 1 (Int32.toNatClampNeg 41) 0) fun σ2 =>
  some (x1, σ2))
  else
  (gd ((18 : Int32) + x2) 42 <|
  sv (wr σ 1 (Int32.toNatClampNeg ((18 : Int32) + x2)) 0) fun σ3 =>
  sv (x2 + 1) fun y4 =>
  k53 x1 y4 σ3)
def fX6_dark_33 (k4 : Int32 → Int32 → Sg → Rs) (x2 t0 t1 : Int32) (σ : Sg) : Rs :=
  sv (t1 + t0) fun y5 =>
  gd ((36 : Int32) + x2) 42 <|
  sv (wr σ 1 (Int32.toNatClampNeg ((36 : Int32) + x2)) 0) fun σ6 =>
  sv (x2 + 1) fun y7 =>
  k4 y5 y7 σ6
def fX6_dark_L4 (k4 : Int32 → Int32 → Sg → Rs) (x1 x2 : Int32) (σ : Sg) : Rs :=
  gd 40 42 <|
  if (σ 1 (Int32.toNatClampNeg 40)) ≤ x2 then
  (it fX6_dark_L53 (fun _ _ _ => none) FU x1 0 σ)
  else
  (gd ((36 : Int32) + x2) 42 <|
  if (σ 1 (Int32.toNatClampNeg ((36 : Int32) + x2))) ≤ 0 then
  (fX6_dark_33 k4 x2 0 x1 σ)
  else
  (fX6_dark_33 k4 x2 1 x1 σ))
def fX6_dark (σ : Sg) : Rs :=
  it fX6_dark_L4 (fun _ _ _ => none) FU 0 0 σ
def fX6_of_35 (t0 : Int32) (σ : Sg) : Rs :=
  some (t0, σ)
def fX6_of (a1 : Int32) (a2 : Int32) (σ : Sg) : Rs :=
  bd (fX6_isLine a1 σ) fun v1 σ2 =>
  if v1 = 0 then
  (some ((-1), σ2))
  else
  (bd (fX6_in a2 0 3 σ2) fun v4 σ5 =>
  if v4 = 0 then
  (fX6_of_35 (-2) σ5)
  else
  (gd (((6 : Int32) * a2) + a1) 42 <|
  fX6_of_35 (σ5 1 (Int32.toNatClampNeg (((6 : Int32) * a2) + a1))) σ5))
def fX6_at_71 (t0 : Int32) (σ : Sg) : Rs :=
  some (t0, σ)
def fX6_at (a1 : Int32) (a2 : Int32) (σ : Sg) : Rs :=
  bd (fX6_isMachine a1 σ) fun v1 σ2 =>
  if v1 = 0 then
  (some ((-1), σ2))
  else
  (bd (fX6_in a2 0 4 σ2) fun v4 σ5 =>
  if v4 = 0 then
  (some ((-2), σ5))
  else
  (if 4 ≤ a2 then
  (gd ((36 : Int32) + a1) 42 <|
  if (σ5 1 (Int32.toNatClampNeg ((36 : Int32) + a1))) = 0 then
  (fX6_at_71 (-6) σ5)
  else
  (gd ((36 : Int32) + a1) 42 <|
  fX6_at_71 ((σ5 1 (Int32.toNatClampNeg ((36 : Int32) + a1))) - (1 : Int32)) σ5))
  else
  (gd (((24 : Int32) + ((3 : Int32) * a2)) + a1) 42 <|
  fX6_at_71 (σ5 1 (Int32.toNatClampNeg (((24 : Int32) + ((3 : Int32) * a2)) + a1))) σ5)))
def fX6_joinOnce_116 (k4 : Int32 → Int32 → Sg → Rs) (x1 x2 : Int32) (σ : Sg) : Rs :=
  sv (x2 + 1) fun y1 =>
  k4 x1 y1 σ
def fX6_joinOnce_84 (k4 : Int32 → Int32 → Sg → Rs) (x2 x5 t0 : Int32) (σ : Sg) : Rs :=
  gd ((0 : Int32) + x2) 42 <|
  gd (σ 1 (Int32.toNatClampNeg ((0 : Int32) + x2))) 6 <|
  sv (wr σ 6 (Int32.toNatClampNeg (σ 1 (Int32.toNatClampNeg ((0 : Int32) + x2)))) x5) fun σ2 =>
  gd ((6 : Int32) + x2) 42 <|
  gd (σ2 1 (Int32.toNatClampNeg ((6 : Int32) + x2))) 6 <|
  sv (wr σ2 6 (Int32.toNatClampNeg (σ2 1 (Int32.toNatClampNeg ((6 : Int32) + x2)))) x5) fun σ3 =>
  fX6_joinOnce_116 k4 t0 x2 σ3
def fX6_joinOnce_79 (k4 : Int32 → Int32 → Sg → Rs) (x2 x5 : Int32) (σ : Sg) : Rs :=
  fX6_joinOnce_84 k4 x2 x5 1 σ
def fX6_joinOnce_67 (k4 : Int32 → Int32 → Sg → Rs) (x1 x2 x3 x4 t0 : Int32) (σ : Sg) : Rs :=
  if x1 = 0 then
  (if x3 = x4 then
  (fX6_joinOnce_84 k4 x2 t0 0 σ)
  else
  (fX6_joinOnce_79 k4 x2 t0 σ))
  else
  (fX6_joinOnce_79 k4 x2 t0 σ)
def fX6_joinOnce_L4 (k4 : Int32 → Int32 → Sg → Rs) (x1 x2 : Int32) (σ : Sg) : Rs :=
  gd 39 42 <|
  if (σ 1 (Int32.toNatClampNeg 39)) ≤ x2 then
  (zr x1 σ)
  else
  (gd x2 6 <|
  if (σ 4 (Int32.toNatClampNeg x2)) = 1 then
  (gd ((0 : Int32) + x2) 42 <|
  gd (σ 1 (Int32.toNatClampNeg ((0 : Int32) + x2))) 6 <|
  sv (σ 6 (Int32.toNatClampNeg (σ 1 (Int32.toNatClampNeg ((0 : Int32) + x2))))) fun y8 =>
  gd ((6 : Int32) + x2) 42 <|
  gd (σ 1 (Int32.toNatClampNeg ((6 : Int32) + x2))) 6 <|
  sv (σ 6 (Int32.toNatClampNeg (σ 1 (Int32.toNatClampNeg ((6 : Int32) + x2))))) fun y9 =>
  if y9 ≤ y8 then
  (fX6_joinOnce_67 k4 x1 x2 y8 y9 y9 σ)
  else
  (fX6_joinOnce_67 k4 x1 x2 y8 y9 y8 σ))
  else
  (fX6_joinOnce_116 k4 x1 x2 σ))
def fX6_joinOnce (σ : Sg) : Rs :=
  it fX6_joinOnce_L4 (fun _ _ _ => none) FU 0 0 σ
def fX6_layIslands_200 (k114 : Int32 → Sg → Rs) (x2 t0 t1 : Int32) (σ : Sg) : Rs :=
  gd t1 6 <|
  sv (wr σ 8 (Int32.toNatClampNeg t1) (vp_nar .boolean t0)) fun σ1 =>
  sv (x2 + 1) fun y2 =>
  k114 y2 σ1
def fX6_layIslands_195 (k114 : Int32 → Sg → Rs) (x2 t0 : Int32) (σ : Sg) : Rs :=
  fX6_layIslands_200 k114 x2 1 t0 σ
def fX6_layIslands_170 (k114 : Int32 → Sg → Rs) (x2 x3 t0 t1 t2 : Int32) (σ : Sg) : Rs :=
  gd t2 6 <|
  sv (wr σ 7 (Int32.toNatClampNeg t2) (t1 + t0)) fun σ3 =>
  gd x3 6 <|
  if (σ3 8 (Int32.toNatClampNeg x3)) = 0 then
  (gd x2 3 <|
  if (σ3 5 (Int32.toNatClampNeg x2)) ≤ 0 then
  (fX6_layIslands_200 k114 x2 0 x3 σ3)
  else
  (fX6_layIslands_195 k114 x2 x3 σ3))
  else
  (fX6_layIslands_195 k114 x2 x3 σ3)
def fX6_layIslands_L114 (k114 : Int32 → Sg → Rs) (x2 : Int32) (σ : Sg) : Rs :=
  gd 40 42 <|
  if (σ 1 (Int32.toNatClampNeg 40)) ≤ x2 then
  (some (0, σ))
  else
  (gd ((24 : Int32) + x2) 42 <|
  gd (σ 1 (Int32.toNatClampNeg ((24 : Int32) + x2))) 6 <|
  sv (σ 6 (Int32.toNatClampNeg (σ 1 (Int32.toNatClampNeg ((24 : Int32) + x2))))) fun y7 =>
  gd y7 6 <|
  gd x2 3 <|
  if (σ 5 (Int32.toNatClampNeg x2)) = 1 then
  (gd ((30 : Int32) + x2) 42 <|
  fX6_layIslands_170 k114 x2 y7 (σ 1 (Int32.toNatClampNeg ((30 : Int32) + x2))) (σ 7 (Int32.toNatClampNeg y7)) y7 σ)
  else
  (fX6_layIslands_170 k114 x2 y7 0 (σ 7 (Int32.toNatClampNeg y7)) y7 σ))
def fX6_layIslands_104 (k51 : Int32 → Sg → Rs) (x2 t0 t1 t2 : Int32) (σ : Sg) : Rs :=
  gd t2 6 <|
  sv (wr σ 7 (Int32.toNatClampNeg t2) (t1 - t0)) fun σ9 =>
  sv (x2 + 1) fun y10 =>
  k51 y10 σ9
def fX6_layIslands_L51 (k51 : Int32 → Sg → Rs) (x2 : Int32) (σ : Sg) : Rs :=
  gd 39 42 <|
  if (σ 1 (Int32.toNatClampNeg 39)) ≤ x2 then
  (it fX6_layIslands_L114 (fun _ _ => none) FU 0 σ)
  else
  (gd ((0 : Int32) + x2) 42 <|
  gd (σ 1 (Int32.toNatClampNeg ((0 : Int32) + x2))) 6 <|
  sv (σ 6 (Int32.toNatClampNeg (σ 1 (Int32.toNatClampNeg ((0 : Int32) + x2))))) fun y12 =>
  gd y12 6 <|
  gd x2 6 <|
  if (σ 4 (Int32.toNatClampNeg x2)) = 1 then
  (gd ((12 : Int32) + x2) 42 <|
  fX6_layIslands_104 k51 x2 (σ 1 (Int32.toNatClampNeg ((12 : Int32) + x2))) (σ 7 (Int32.toNatClampNeg y12)) y12 σ)
  else
  (fX6_layIslands_104 k51 x2 0 (σ 7 (Int32.toNatClampNeg y12)) y12 σ))
def fX6_layIslands_L37 (k37 : Int32 → Sg → Rs) (x1 : Int32) (σ : Sg) : Rs :=
  if x1 = 0 then
  (it fX6_layIslands_L51 (fun _ _ => none) FU 0 σ)
  else
  (bd (fX6_joinOnce σ) fun v15 σ16 =>
  k37 v15 σ16)
def fX6_layIslands_L2 (k2 : Int32 → Sg → Rs) (x1 : Int32) (σ : Sg) : Rs :=
  if 6 ≤ x1 then
  (it fX6_layIslands_L37 (fun _ _ => none) FU 1 σ)
  else
  (gd x1 6 <|
  sv (wr σ 6 (Int32.toNatClampNeg x1) x1) fun σ18 =>
  gd x1 6 <|
  sv (wr σ18 7 (Int32.toNatClampNeg x1) 0) fun σ19 =>
  gd x1 6 <|
  sv (wr σ19 8 (Int32.toNatClampNeg x1) (vp_nar .boolean 0)) fun σ20 =>
  sv (x1 + 1) fun y21 =>
  k2 y21 σ20)
def fX6_layIslands (σ : Sg) : Rs :=
  it fX6_layIslands_L2 (fun _ _ => none) FU 0 σ
def fX6_layNow_L31 (k31 : Int32 → Sg → Rs) (x1 : Int32) (σ : Sg) : Rs :=
  if 3 ≤ x1 then
  (bd (fX6_layIslands σ) fun v2 σ3 =>
  some (0, σ3))
  else
  (gd ((36 : Int32) + x1) 42 <|
  gd x1 3 <|
  sv (wr σ 5 (Int32.toNatClampNeg x1) (σ 1 (Int32.toNatClampNeg ((36 : Int32) + x1)))) fun σ4 =>
  sv (x1 + 1) fun y5 =>
  k31 y5 σ4)
def fX6_layNow_L2 (k2 : Int32 → Sg → Rs) (x1 : Int32) (σ : Sg) : Rs :=
  if 6 ≤ x1 then
  (it fX6_layNow_L31 (fun _ _ => none) FU 0 σ)
  else
  (gd ((18 : Int32) + x1) 42 <|
  gd x1 6 <|
  sv (wr σ 4 (Int32.toNatClampNeg x1) (σ 1 (Int32.toNatClampNeg ((18 : Int32) + x1)))) fun σ7 =>
  sv (x1 + 1) fun y8 =>
  k2 y8 σ7)
def fX6_layNow (σ : Sg) : Rs :=
  it fX6_layNow_L2 (fun _ _ => none) FU 0 σ
def fX6_isLive (a1 : Int32) (σ : Sg) : Rs :=
  gd a1 6 <|
  gd (σ 6 (Int32.toNatClampNeg a1)) 6 <|
  zr (σ 8 (Int32.toNatClampNeg (σ 6 (Int32.toNatClampNeg a1)))) σ
def fX6_islandSet_33 (k4 : Int32 → Int32 → Int32 → Sg → Rs) (x1 x3 t0 t1 : Int32) (σ : Sg) : Rs :=
  sv (t1 ||| t0) fun y1 =>
  sv (x3 + 1) fun y2 =>
  k4 x1 y1 y2 σ
def fX6_islandSet_L4 (k4 : Int32 → Int32 → Int32 → Sg → Rs) (x1 x2 x3 : Int32) (σ : Sg) : Rs :=
  if 6 ≤ x3 then
  (some (x2, σ))
  else
  (gd x3 6 <|
  gd x1 6 <|
  if (σ 6 (Int32.toNatClampNeg x3)) = (σ 6 (Int32.toNatClampNeg x1)) then
  (fX6_islandSet_33 k4 x1 x3 ((1 : Int32) <<< (x3 &&& 31)) x2 σ)
  else
  (fX6_islandSet_33 k4 x1 x3 0 x2 σ))
def fX6_islandSet (a1 : Int32) (σ : Sg) : Rs :=
  it fX6_islandSet_L4 (fun _ _ _ _ => none) FU a1 0 0 σ
def fX6_bus_72 (t0 : Int32) (σ : Sg) : Rs :=
  some (t0, σ)
def fX6_bus (a1 : Int32) (a2 : Int32) (σ : Sg) : Rs :=
  bd (fX6_isBus a1 σ) fun v1 σ2 =>
  if v1 = 0 then
  (some ((-1), σ2))
  else
  (bd (fX6_in a2 0 2 σ2) fun v4 σ5 =>
  if v4 = 0 then
  (some ((-2), σ5))
  else
  (bd (fX6_layNow σ5) fun v7 σ8 =>
  if a2 = 0 then
  (bd (fX6_islandSet a1 σ8) fun v14 σ15 =>
  fX6_bus_72 v14 σ15)
  else
  (if a2 = 1 then
  (bd (fX6_isLive a1 σ8) fun v11 σ12 =>
  if v11 = 0 then
  (fX6_bus_72 0 σ12)
  else
  (fX6_bus_72 1 σ12))
  else
  (gd a1 6 <|
  gd (σ8 6 (Int32.toNatClampNeg a1)) 6 <|
  fX6_bus_72 ((σ8 7 (Int32.toNatClampNeg (σ8 6 (Int32.toNatClampNeg a1)))) + (100 : Int32)) σ8))))
def fX6_canStart_67 (t0 : Int32) (σ : Sg) : Rs :=
  zr t0 σ
def fX6_canStart_62 (σ : Sg) : Rs :=
  fX6_canStart_67 1 σ
def fX6_canStart_66 (σ : Sg) : Rs :=
  fX6_canStart_67 0 σ
def fX6_canStart (a1 : Int32) (σ : Sg) : Rs :=
  gd ((24 : Int32) + a1) 42 <|
  sv (σ 1 (Int32.toNatClampNeg ((24 : Int32) + a1))) fun y1 =>
  gd a1 3 <|
  if (σ 5 (Int32.toNatClampNeg a1)) = 0 then
  (gd ((27 : Int32) + a1) 42 <|
  if (σ 1 (Int32.toNatClampNeg ((27 : Int32) + a1))) = 0 then
  (fX6_canStart_62 σ)
  else
  (bd (fX6_isLive y1 σ) fun v4 σ5 =>
  if v4 = 0 then
  (fX6_canStart_66 σ5)
  else
  (gd y1 6 <|
  gd (σ5 6 (Int32.toNatClampNeg y1)) 6 <|
  gd ((27 : Int32) + a1) 42 <|
  if (σ5 7 (Int32.toNatClampNeg (σ5 6 (Int32.toNatClampNeg y1)))) < (σ5 1 (Int32.toNatClampNeg ((27 : Int32) + a1))) then
  (fX6_canStart_66 σ5)
  else
  (fX6_canStart_62 σ5))))
  else
  (fX6_canStart_66 σ)
def fX6_canClose_104 (t0 : Int32) (σ : Sg) : Rs :=
  zr t0 σ
def fX6_canClose_103 (σ : Sg) : Rs :=
  fX6_canClose_104 0 σ
def fX6_canClose_85 (x1 x4 : Int32) (σ : Sg) : Rs :=
  gd ((12 : Int32) + x1) 42 <|
  if x4 < (σ 1 (Int32.toNatClampNeg ((12 : Int32) + x1))) then
  (fX6_canClose_103 σ)
  else
  (fX6_canClose_104 1 σ)
def fX6_canClose_56 (x1 x2 x3 t0 : Int32) (σ : Sg) : Rs :=
  gd x1 6 <|
  if (σ 4 (Int32.toNatClampNeg x1)) = 0 then
  (gd x2 6 <|
  if (σ 8 (Int32.toNatClampNeg x2)) = 0 then
  (gd x3 6 <|
  if (σ 8 (Int32.toNatClampNeg x3)) = 0 then
  (fX6_canClose_103 σ)
  else
  (fX6_canClose_85 x1 t0 σ))
  else
  (fX6_canClose_85 x1 t0 σ))
  else
  (fX6_canClose_103 σ)
def fX6_canClose (a1 : Int32) (σ : Sg) : Rs :=
  gd ((0 : Int32) + a1) 42 <|
  gd (σ 1 (Int32.toNatClampNeg ((0 : Int32) + a1))) 6 <|
  sv (σ 6 (Int32.toNatClampNeg (σ 1 (Int32.toNatClampNeg ((0 : Int32) + a1))))) fun y5 =>
  gd ((6 : Int32) + a1) 42 <|
  gd (σ 1 (Int32.toNatClampNeg ((6 : Int32) + a1))) 6 <|
  sv (σ 6 (Int32.toNatClampNeg (σ 1 (Int32.toNatClampNeg ((6 : Int32) + a1))))) fun y6 =>
  if y5 = y6 then
  (gd y5 6 <|
  fX6_canClose_56 a1 y5 y6 (σ 7 (Int32.toNatClampNeg y5)) σ)
  else
  (gd y5 6 <|
  gd y6 6 <|
  fX6_canClose_56 a1 y5 y6 ((σ 7 (Int32.toNatClampNeg y5)) + (σ 7 (Int32.toNatClampNeg y6))) σ)
def fX6_canStep_64 (t0 : Int32) (σ : Sg) : Rs :=
  zr t0 σ
def fX6_canStep_35 (σ : Sg) : Rs :=
  fX6_canStep_64 0 σ
def fX6_canStep_63 (σ : Sg) : Rs :=
  fX6_canStep_64 0 σ
def fX6_canStep (a1 : Int32) (σ : Sg) : Rs :=
  if a1 = 0 then
  (zr 1 σ)
  else
  (if 4 ≤ a1 then
  (bd (fX6_isLine (a1 - (4 : Int32)) σ) fun v3 σ4 =>
  if v3 = 0 then
  (fX6_canStep_63 σ4)
  else
  (bd (fX6_canClose (a1 - (4 : Int32)) σ4) fun v6 σ7 =>
  if v6 = 0 then
  (fX6_canStep_63 σ7)
  else
  (fX6_canStep_64 1 σ7)))
  else
  (bd (fX6_isMachine (a1 - (1 : Int32)) σ) fun v9 σ10 =>
  if v9 = 0 then
  (fX6_canStep_35 σ10)
  else
  (bd (fX6_canStart (a1 - (1 : Int32)) σ10) fun v12 σ13 =>
  if v12 = 0 then
  (fX6_canStep_35 σ13)
  else
  (fX6_canStep_64 1 σ13))))
def fX6_can_30 (k8 : Int32 → Int32 → Sg → Rs) (x2 t0 t1 : Int32) (σ : Sg) : Rs :=
  sv (t1 ||| t0) fun y1 =>
  sv (x2 + 1) fun y2 =>
  k8 y1 y2 σ
def fX6_can_L8 (k8 : Int32 → Int32 → Sg → Rs) (x1 x2 : Int32) (σ : Sg) : Rs :=
  if 10 ≤ x2 then
  (some (x1, σ))
  else
  (bd (fX6_canStep x2 σ) fun v4 σ5 =>
  if v4 = 0 then
  (fX6_can_30 k8 x2 0 x1 σ5)
  else
  (fX6_can_30 k8 x2 ((1 : Int32) <<< (x2 &&& 31)) x1 σ5))
def fX6_can (σ : Sg) : Rs :=
  bd (fX6_layNow σ) fun v7 σ8 =>
  it fX6_can_L8 (fun _ _ _ => none) FU 0 0 σ8
def fX6_ranOn_48 (t0 : Int32) (σ : Sg) : Rs :=
  some (t0, σ)
def fX6_ranOn (a1 : Int32) (a2 : Int32) (σ : Sg) : Rs :=
  if a2 = (a1 + (1 : Int32)) then
  (gd ((33 : Int32) + a1) 42 <|
  fX6_ranOn_48 ((σ 1 (Int32.toNatClampNeg ((33 : Int32) + a1))) + (1 : Int32)) σ)
  else
  (gd a1 3 <|
  if (σ 5 (Int32.toNatClampNeg a1)) ≤ 1 then
  (gd a1 3 <|
  fX6_ranOn_48 (σ 5 (Int32.toNatClampNeg a1)) σ)
  else
  (gd a1 3 <|
  fX6_ranOn_48 ((σ 5 (Int32.toNatClampNeg a1)) - (1 : Int32)) σ))
def fX6_numberBehind_35 (k4 : Int32 → Int32 → Int32 → Sg → Rs) (x1 x3 t0 t1 : Int32) (σ : Sg) : Rs :=
  sv (t1 ||| t0) fun y1 =>
  sv (x3 + 1) fun y2 =>
  k4 x1 y1 y2 σ
def fX6_numberBehind_28 (k4 : Int32 → Int32 → Int32 → Sg → Rs) (x1 x3 t0 : Int32) (σ : Sg) : Rs :=
  fX6_numberBehind_35 k4 x1 x3 ((1 : Int32) <<< (x3 &&& 31)) t0 σ
def fX6_numberBehind_L4 (k4 : Int32 → Int32 → Int32 → Sg → Rs) (x1 x2 x3 : Int32) (σ : Sg) : Rs :=
  if 6 ≤ x3 then
  (bd (fX6_ranOn 0 x1 σ) fun v4 σ5 =>
  bd (fX6_ranOn 1 x1 σ5) fun v6 σ7 =>
  bd (fX6_ranOn 2 x1 σ7) fun v8 σ9 =>
  some ((x2 + ((64 : Int32) * ((v4 + ((5 : Int32) * v6)) + ((25 : Int32) * v8)))), σ9))
  else
  (gd x3 6 <|
  if (σ 4 (Int32.toNatClampNeg x3)) = 1 then
  (fX6_numberBehind_28 k4 x1 x3 x2 σ)
  else
  (if x1 = (x3 + (4 : Int32)) then
  (fX6_numberBehind_28 k4 x1 x3 x2 σ)
  else
  (fX6_numberBehind_35 k4 x1 x3 0 x2 σ)))
def fX6_numberBehind (a1 : Int32) (σ : Sg) : Rs :=
  it fX6_numberBehind_L4 (fun _ _ _ _ => none) FU a1 0 0 σ
def fX6_numberNow_L4 (k4 : Int32 → Int32 → Sg → Rs) (x1 x2 : Int32) (σ : Sg) : Rs :=
  if 6 ≤ x2 then
  (gd 36 42 <|
  gd 37 42 <|
  gd 38 42 <|
  some ((x1 + ((64 : Int32) * (((σ 1 (Int32.toNatClampNeg 36)) + ((5 : Int32) * (σ 1 (Int32.toNatClampNeg 37)))) + ((25 : Int32) * (σ 1 (Int32.toNatClampNeg 38)))))), σ))
  else
  (gd ((18 : Int32) + x2) 42 <|
  sv (x1 ||| ((σ 1 (Int32.toNatClampNeg ((18 : Int32) + x2))) <<< (x2 &&& 31))) fun y2 =>
  sv (x2 + 1) fun y3 =>
  k4 y2 y3 σ)
def fX6_numberNow (σ : Sg) : Rs :=
  it fX6_numberNow_L4 (fun _ _ _ => none) FU 0 0 σ
def fX6_layNumber_L32 (k32 : Int32 → Int32 → Sg → Rs) (x2 x3 : Int32) (σ : Sg) : Rs :=
  if 3 ≤ x3 then
  (bd (fX6_layIslands σ) fun v2 σ3 =>
  some (0, σ3))
  else
  (gd x3 3 <|
  sv (wr σ 5 (Int32.toNatClampNeg x3) (x2 - x2 / (5 : Int32) * (5 : Int32))) fun σ4 =>
  sv (x2 / (5 : Int32)) fun y5 =>
  sv (x3 + 1) fun y6 =>
  k32 y5 y6 σ4)
def fX6_layNumber_L2 (k2 : Int32 → Int32 → Sg → Rs) (x1 x2 : Int32) (σ : Sg) : Rs :=
  if 6 ≤ x2 then
  (sv (x1 / (64 : Int32)) fun y8 =>
  it fX6_layNumber_L32 (fun _ _ _ => none) FU y8 0 σ)
  else
  (gd x2 6 <|
  sv (wr σ 4 (Int32.toNatClampNeg x2) ((x1 >>> (x2 &&& 31)) &&& (1 : Int32))) fun σ9 =>
  sv (x2 + 1) fun y10 =>
  k2 x1 y10 σ9)
def fX6_layNumber (a1 : Int32) (σ : Sg) : Rs :=
  it fX6_layNumber_L2 (fun _ _ _ => none) FU a1 0 σ
def fX6_become_L35 (k35 : Int32 → Int32 → Sg → Rs) (x2 x3 : Int32) (σ : Sg) : Rs :=
  if 3 ≤ x3 then
  (some (0, σ))
  else
  (gd ((36 : Int32) + x3) 42 <|
  sv (wr σ 1 (Int32.toNatClampNeg ((36 : Int32) + x3)) (x2 - x2 / (5 : Int32) * (5 : Int32))) fun σ2 =>
  sv (x2 / (5 : Int32)) fun y3 =>
  sv (x3 + 1) fun y4 =>
  k35 y3 y4 σ2)
def fX6_become_L2 (k2 : Int32 → Int32 → Sg → Rs) (x1 x2 : Int32) (σ : Sg) : Rs :=
  if 6 ≤ x2 then
  (sv (x1 / (64 : Int32)) fun y6 =>
  it fX6_become_L35 (fun _ _ _ => none) FU y6 0 σ)
  else
  (gd ((18 : Int32) + x2) 42 <|
  sv (wr σ 1 (Int32.toNatClampNeg ((18 : Int32) + x2)) ((x1 >>> (x2 &&& 31)) &&& (1 : Int32))) fun σ7 =>
  sv (x2 + 1) fun y8 =>
  k2 x1 y8 σ7)
def fX6_become (a1 : Int32) (σ : Sg) : Rs :=
  it fX6_become_L2 (fun _ _ _ => none) FU a1 0 σ
def fX6_tick_45 (σ : Sg) : Rs :=
  some ((-1), σ)
def fX6_tick_47 (x1 : Int32) (σ : Sg) : Rs :=
  bd (fX6_layNow σ) fun v1 σ2 =>
  bd (fX6_canStep x1 σ2) fun v3 σ4 =>
  if v3 = 0 then
  (some ((-5), σ4))
  else
  (bd (fX6_numberBehind x1 σ4) fun v6 σ7 =>
  bd (fX6_become v6 σ7) fun v8 σ9 =>
  gd 41 42 <|
  gd 41 42 <|
  sv (wr σ9 1 (Int32.toNatClampNeg 41) ((σ9 1 (Int32.toNatClampNeg 41)) + (1 : Int32))) fun σ10 =>
  gd 41 42 <|
  some ((σ10 1 (Int32.toNatClampNeg 41)), σ10))
def fX6_tick (a1 : Int32) (σ : Sg) : Rs :=
  bd (fX6_in a1 0 9 σ) fun v11 σ12 =>
  if v11 = 0 then
  (some ((-2), σ12))
  else
  (if a1 ≤ 0 then
  (fX6_tick_47 a1 σ12)
  else
  (if 4 ≤ a1 then
  (bd (fX6_isLine (a1 - (4 : Int32)) σ12) fun v16 σ17 =>
  if v16 = 0 then
  (fX6_tick_45 σ17)
  else
  (fX6_tick_47 a1 σ17))
  else
  (bd (fX6_isMachine (a1 - (1 : Int32)) σ12) fun v19 σ20 =>
  if v19 = 0 then
  (fX6_tick_45 σ20)
  else
  (fX6_tick_47 a1 σ20))))
def fX6_openAll_74 (k8 : Int32 → Int32 → Sg → Rs) (x1 x2 : Int32) (σ : Sg) : Rs :=
  sv (x2 + 1) fun y1 =>
  k8 x1 y1 σ
def fX6_openAll_61 (k8 : Int32 → Int32 → Sg → Rs) (x1 x2 : Int32) (σ : Sg) : Rs :=
  gd ((18 : Int32) + x2) 42 <|
  sv (wr σ 1 (Int32.toNatClampNeg ((18 : Int32) + x2)) 0) fun σ2 =>
  sv (x1 + 1) fun y3 =>
  fX6_openAll_74 k8 y3 x2 σ2
def fX6_openAll_L8 (k8 : Int32 → Int32 → Sg → Rs) (x1 x2 : Int32) (σ : Sg) : Rs :=
  gd 39 42 <|
  if (σ 1 (Int32.toNatClampNeg 39)) ≤ x2 then
  (some (x1, σ))
  else
  (gd ((0 : Int32) + x2) 42 <|
  gd (σ 1 (Int32.toNatClampNeg ((0 : Int32) + x2))) 6 <|
  sv (σ 6 (Int32.toNatClampNeg (σ 1 (Int32.toNatClampNeg ((0 : Int32) + x2))))) fun y5 =>
  gd x2 6 <|
  if (σ 4 (Int32.toNatClampNeg x2)) = 1 then
  (gd y5 6 <|
  if (σ 8 (Int32.toNatClampNeg y5)) = 0 then
  (fX6_openAll_61 k8 x1 x2 σ)
  else
  (gd y5 6 <|
  if 0 ≤ (σ 7 (Int32.toNatClampNeg y5)) then
  (fX6_openAll_74 k8 x1 x2 σ)
  else
  (fX6_openAll_61 k8 x1 x2 σ)))
  else
  (fX6_openAll_74 k8 x1 x2 σ))
def fX6_openAll (σ : Sg) : Rs :=
  bd (fX6_layNow σ) fun v9 σ10 =>
  it fX6_openAll_L8 (fun _ _ _ => none) FU 0 0 σ10
def fX6_fail (a1 : Int32) (σ : Sg) : Rs :=
  bd (fX6_isMachine a1 σ) fun v1 σ2 =>
  if v1 = 0 then
  (some ((-1), σ2))
  else
  (gd ((36 : Int32) + a1) 42 <|
  if (σ2 1 (Int32.toNatClampNeg ((36 : Int32) + a1))) = 0 then
  (some ((-3), σ2))
  else
  (gd ((36 : Int32) + a1) 42 <|
  sv (wr σ2 1 (Int32.toNatClampNeg ((36 : Int32) + a1)) 0) fun σ5 =>
  bd (fX6_openAll σ5) fun v6 σ7 =>
  some (v6, σ7)))
def fX6_trip (a1 : Int32) (σ : Sg) : Rs :=
  bd (fX6_isLine a1 σ) fun v1 σ2 =>
  if v1 = 0 then
  (some ((-1), σ2))
  else
  (gd ((18 : Int32) + a1) 42 <|
  if (σ2 1 (Int32.toNatClampNeg ((18 : Int32) + a1))) = 0 then
  (some ((-3), σ2))
  else
  (gd ((18 : Int32) + a1) 42 <|
  sv (wr σ2 1 (Int32.toNatClampNeg ((18 : Int32) + a1)) 0) fun σ5 =>
  bd (fX6_openAll σ5) fun v6 σ7 =>
  some ((v6 + (1 : Int32)), σ7)))
def fX6_goOn_119 (k5 : Int32 → Int32 → Int32 → Int32 → Sg → Rs) (x1 x2 x3 x4 : Int32) (σ : Sg) : Rs :=
  sv (x4 + 1) fun y1 =>
  k5 x1 x2 x3 y1 σ
def fX6_goOn_113 (k5 : Int32 → Int32 → Int32 → Int32 → Sg → Rs) (k33 : Int32 → Int32 → Int32 → Int32 → Int32 → Sg → Rs) (x1 x2 x3 x4 x5 : Int32) (σ : Sg) : Rs :=
  sv (x5 + 1) fun y2 =>
  k33 x1 x2 x3 x4 y2 σ
def fX6_goOn_112 (k5 : Int32 → Int32 → Int32 → Int32 → Sg → Rs) (k33 : Int32 → Int32 → Int32 → Int32 → Int32 → Sg → Rs) (x1 x2 x3 x4 x5 t0 t1 : Int32) (σ : Sg) : Rs :=
  gd t1 8000 <|
  sv (wr σ 9 (Int32.toNatClampNeg t1) t0) fun σ3 =>
  fX6_goOn_113 k5 k33 x1 x2 x3 x4 x5 σ3
def fX6_goOn_82 (k5 : Int32 → Int32 → Int32 → Int32 → Sg → Rs) (k33 : Int32 → Int32 → Int32 → Int32 → Int32 → Sg → Rs) (x1 x2 x4 x5 x6 t0 : Int32) (σ : Sg) : Rs :=
  gd x6 8000 <|
  if 0 ≤ (σ 9 (Int32.toNatClampNeg x6)) then
  (gd x6 8000 <|
  fX6_goOn_112 k5 k33 x1 x2 t0 x4 x5 (σ 9 (Int32.toNatClampNeg x6)) x6 σ)
  else
  (fX6_goOn_112 k5 k33 x1 x2 t0 x4 x5 (x1 + (1 : Int32)) x6 σ)
def fX6_goOn_77 (k5 : Int32 → Int32 → Int32 → Int32 → Sg → Rs) (k33 : Int32 → Int32 → Int32 → Int32 → Int32 → Sg → Rs) (x1 x2 x4 x5 x6 : Int32) (σ : Sg) : Rs :=
  fX6_goOn_82 k5 k33 x1 x2 x4 x5 x6 1 σ
def fX6_goOn_L33 (k5 : Int32 → Int32 → Int32 → Int32 → Sg → Rs) (k33 : Int32 → Int32 → Int32 → Int32 → Int32 → Sg → Rs) (x1 x2 x3 x4 x5 : Int32) (σ : Sg) : Rs :=
  if 10 ≤ x5 then
  (fX6_goOn_119 k5 x1 x2 x3 x4 σ)
  else
  (if x5 = x2 then
  (fX6_goOn_113 k5 k33 x1 x2 x3 x4 x5 σ)
  else
  (bd (fX6_canStep x5 σ) fun v7 σ8 =>
  if v7 = 0 then
  (fX6_goOn_113 k5 k33 x1 x2 x3 x4 x5 σ8)
  else
  (bd (fX6_numberBehind x5 σ8) fun v10 σ11 =>
  if x3 = 0 then
  (gd v10 8000 <|
  if 0 ≤ (σ11 9 (Int32.toNatClampNeg v10)) then
  (fX6_goOn_82 k5 k33 x1 x2 x4 x5 v10 0 σ11)
  else
  (fX6_goOn_77 k5 k33 x1 x2 x4 x5 v10 σ11))
  else
  (fX6_goOn_77 k5 k33 x1 x2 x4 x5 v10 σ11))))
def fX6_goOn_L5 (k5 : Int32 → Int32 → Int32 → Int32 → Sg → Rs) (x1 x2 x3 x4 : Int32) (σ : Sg) : Rs :=
  if 8000 ≤ x4 then
  (zr x3 σ)
  else
  (gd x4 8000 <|
  if (σ 9 (Int32.toNatClampNeg x4)) = x1 then
  (bd (fX6_layNumber x4 σ) fun v16 σ17 =>
  it (fX6_goOn_L33 k5) (fun _ _ _ _ _ _ => none) FU x1 x2 x3 x4 0 σ17)
  else
  (fX6_goOn_119 k5 x1 x2 x3 x4 σ))
def fX6_goOn (a1 : Int32) (a2 : Int32) (σ : Sg) : Rs :=
  it fX6_goOn_L5 (fun _ _ _ _ _ => none) FU a1 a2 0 0 σ
def fX6_layAll_L37 (k37 : Int32 → Int32 → Int32 → Sg → Rs) (x1 x2 x3 : Int32) (σ : Sg) : Rs :=
  if x3 = 0 then
  (some (0, σ))
  else
  (bd (fX6_goOn x2 x1 σ) fun v2 σ3 =>
  sv (x2 + 1) fun y4 =>
  k37 x1 y4 v2 σ3)
def fX6_layAll_L2 (k2 : Int32 → Int32 → Sg → Rs) (x1 x2 : Int32) (σ : Sg) : Rs :=
  if 8000 ≤ x2 then
  (bd (fX6_numberNow σ) fun v6 σ7 =>
  gd v6 8000 <|
  sv (wr σ7 9 (Int32.toNatClampNeg v6) 0) fun σ8 =>
  it fX6_layAll_L37 (fun _ _ _ _ => none) FU x1 0 1 σ8)
  else
  (gd x2 8000 <|
  sv (wr σ 9 (Int32.toNatClampNeg x2) (-6)) fun σ9 =>
  sv (x2 + 1) fun y10 =>
  k2 x1 y10 σ9)
def fX6_layAll (a1 : Int32) (σ : Sg) : Rs :=
  it fX6_layAll_L2 (fun _ _ _ => none) FU a1 0 σ
def fX6_readySet_33 (k4 : Int32 → Int32 → Sg → Rs) (x2 t0 t1 : Int32) (σ : Sg) : Rs :=
  sv (t1 ||| t0) fun y1 =>
  sv (x2 + 1) fun y2 =>
  k4 y1 y2 σ
def fX6_readySet_L4 (k4 : Int32 → Int32 → Sg → Rs) (x1 x2 : Int32) (σ : Sg) : Rs :=
  gd 40 42 <|
  if (σ 1 (Int32.toNatClampNeg 40)) ≤ x2 then
  (some (x1, σ))
  else
  (gd x2 3 <|
  if (σ 5 (Int32.toNatClampNeg x2)) = 1 then
  (fX6_readySet_33 k4 x2 ((1 : Int32) <<< (x2 &&& 31)) x1 σ)
  else
  (fX6_readySet_33 k4 x2 0 x1 σ))
def fX6_readySet (σ : Sg) : Rs :=
  it fX6_readySet_L4 (fun _ _ _ => none) FU 0 0 σ
def fX6_liveSet_26 (k4 : Int32 → Int32 → Sg → Rs) (x2 t0 t1 : Int32) (σ : Sg) : Rs :=
  sv (t1 ||| t0) fun y1 =>
  sv (x2 + 1) fun y2 =>
  k4 y1 y2 σ
def fX6_liveSet_L4 (k4 : Int32 → Int32 → Sg → Rs) (x1 x2 : Int32) (σ : Sg) : Rs :=
  if 6 ≤ x2 then
  (some (x1, σ))
  else
  (bd (fX6_isLive x2 σ) fun v4 σ5 =>
  if v4 = 0 then
  (fX6_liveSet_26 k4 x2 0 x1 σ5)
  else
  (fX6_liveSet_26 k4 x2 ((1 : Int32) <<< (x2 &&& 31)) x1 σ5))
def fX6_liveSet (σ : Sg) : Rs :=
  it fX6_liveSet_L4 (fun _ _ _ => none) FU 0 0 σ
def fX6_isGoal_32 (t0 : Int32) (σ : Sg) : Rs :=
  zr t0 σ
def fX6_isGoal_31 (σ : Sg) : Rs :=
  fX6_isGoal_32 0 σ
def fX6_isGoal (a1 : Int32) (a2 : Int32) (a3 : Int32) (σ : Sg) : Rs :=
  bd (fX6_layNumber a1 σ) fun v1 σ2 =>
  bd (fX6_readySet σ2) fun v3 σ4 =>
  if (a2 &&& (v3 ^^^ (-1 : Int32))) = 0 then
  (bd (fX6_liveSet σ4) fun v6 σ7 =>
  if (a3 &&& (v6 ^^^ (-1 : Int32))) = 0 then
  (fX6_isGoal_32 1 σ7)
  else
  (fX6_isGoal_31 σ7))
  else
  (fX6_isGoal_31 σ4)
def fX6_reached_58 (k6 : Int32 → Int32 → Int32 → Int32 → Sg → Rs) (x1 x2 x3 x4 : Int32) (σ : Sg) : Rs :=
  sv (x4 + 1) fun y1 =>
  k6 x1 x2 x3 y1 σ
def fX6_reached_39 (k6 : Int32 → Int32 → Int32 → Int32 → Sg → Rs) (x1 x2 x3 x4 : Int32) (σ : Sg) : Rs :=
  bd (fX6_isGoal x4 x1 x2 σ) fun v2 σ3 =>
  if v2 = 0 then
  (fX6_reached_58 k6 x1 x2 x3 x4 σ3)
  else
  (gd x4 8000 <|
  sv (σ3 9 (Int32.toNatClampNeg x4)) fun y5 =>
  fX6_reached_58 k6 x1 x2 y5 x4 σ3)
def fX6_reached_L6 (k6 : Int32 → Int32 → Int32 → Int32 → Sg → Rs) (x1 x2 x3 x4 : Int32) (σ : Sg) : Rs :=
  if 8000 ≤ x4 then
  (some (x3, σ))
  else
  (gd x4 8000 <|
  if (σ 9 (Int32.toNatClampNeg x4)) < 0 then
  (fX6_reached_58 k6 x1 x2 x3 x4 σ)
  else
  (if x3 < 0 then
  (fX6_reached_39 k6 x1 x2 x3 x4 σ)
  else
  (gd x4 8000 <|
  if x3 ≤ (σ 9 (Int32.toNatClampNeg x4)) then
  (fX6_reached_58 k6 x1 x2 x3 x4 σ)
  else
  (fX6_reached_39 k6 x1 x2 x3 x4 σ))))
def fX6_reached (a1 : Int32) (a2 : Int32) (σ : Sg) : Rs :=
  it fX6_reached_L6 (fun _ _ _ _ _ => none) FU a1 a2 (-6) 0 σ
def fX6_stepOn_55 (k7 : Int32 → Int32 → Sg → Rs) (x1 x2 : Int32) (σ : Sg) : Rs :=
  sv (x2 + 1) fun y1 =>
  k7 x1 y1 σ
def fX6_stepOn_L7 (k7 : Int32 → Int32 → Sg → Rs) (x1 x2 : Int32) (σ : Sg) : Rs :=
  if 10 ≤ x2 then
  (some ((-6), σ))
  else
  (bd (fX6_canStep x2 σ) fun v3 σ4 =>
  if v3 = 0 then
  (fX6_stepOn_55 k7 x1 x2 σ4)
  else
  (bd (fX6_numberBehind x2 σ4) fun v6 σ7 =>
  gd v6 8000 <|
  gd x1 8000 <|
  if (σ7 9 (Int32.toNatClampNeg v6)) = ((σ7 9 (Int32.toNatClampNeg x1)) + (1 : Int32)) then
  (gd v6 8000 <|
  if (σ7 10 (Int32.toNatClampNeg v6)) = 0 then
  (fX6_stepOn_55 k7 x1 x2 σ7)
  else
  (some (x2, σ7)))
  else
  (fX6_stepOn_55 k7 x1 x2 σ7)))
def fX6_stepOn (a1 : Int32) (σ : Sg) : Rs :=
  bd (fX6_layNumber a1 σ) fun v10 σ11 =>
  it fX6_stepOn_L7 (fun _ _ _ => none) FU a1 0 σ11
def fX6_layLeads_105 (k56 : Int32 → Sg → Rs) (k64 : Int32 → Int32 → Sg → Rs) (x4 x5 : Int32) (σ : Sg) : Rs :=
  sv (x5 + 1) fun y1 =>
  k64 x4 y1 σ
def fX6_layLeads_104 (k56 : Int32 → Sg → Rs) (k64 : Int32 → Int32 → Sg → Rs) (x4 x5 t0 t1 : Int32) (σ : Sg) : Rs :=
  gd t1 8000 <|
  sv (wr σ 10 (Int32.toNatClampNeg t1) (vp_nar .boolean t0)) fun σ2 =>
  fX6_layLeads_105 k56 k64 x4 x5 σ2
def fX6_layLeads_L64 (k56 : Int32 → Sg → Rs) (k64 : Int32 → Int32 → Sg → Rs) (x4 x5 : Int32) (σ : Sg) : Rs :=
  if 8000 ≤ x5 then
  (sv (x4 + (-1)) fun y4 =>
  k56 y4 σ)
  else
  (gd x5 8000 <|
  if (σ 9 (Int32.toNatClampNeg x5)) = x4 then
  (bd (fX6_stepOn x5 σ) fun v6 σ7 =>
  if v6 < 0 then
  (fX6_layLeads_104 k56 k64 x4 x5 0 x5 σ7)
  else
  (fX6_layLeads_104 k56 k64 x4 x5 1 x5 σ7))
  else
  (fX6_layLeads_105 k56 k64 x4 x5 σ))
def fX6_layLeads_L56 (k56 : Int32 → Sg → Rs) (x4 : Int32) (σ : Sg) : Rs :=
  if x4 < 0 then
  (some (0, σ))
  else
  (it (fX6_layLeads_L64 k56) (fun _ _ _ => none) FU x4 0 σ)
def fX6_layLeads_44 (k3 : Int32 → Int32 → Int32 → Int32 → Sg → Rs) (x1 x2 x3 x4 t0 t1 : Int32) (σ : Sg) : Rs :=
  gd t1 8000 <|
  sv (wr σ 10 (Int32.toNatClampNeg t1) (vp_nar .boolean t0)) fun σ10 =>
  sv (x4 + 1) fun y11 =>
  k3 x1 x2 x3 y11 σ10
def fX6_layLeads_43 (k3 : Int32 → Int32 → Int32 → Int32 → Sg → Rs) (x1 x2 x3 x4 t0 : Int32) (σ : Sg) : Rs :=
  fX6_layLeads_44 k3 x1 x2 x3 x4 0 t0 σ
def fX6_layLeads_L3 (k3 : Int32 → Int32 → Int32 → Int32 → Sg → Rs) (x1 x2 x3 x4 : Int32) (σ : Sg) : Rs :=
  if 8000 ≤ x4 then
  (sv (x1 - (1 : Int32)) fun y13 =>
  it fX6_layLeads_L56 (fun _ _ => none) FU y13 σ)
  else
  (gd x4 8000 <|
  if (σ 9 (Int32.toNatClampNeg x4)) = x1 then
  (bd (fX6_isGoal x4 x2 x3 σ) fun v15 σ16 =>
  if v15 = 0 then
  (fX6_layLeads_43 k3 x1 x2 x3 x4 x4 σ16)
  else
  (fX6_layLeads_44 k3 x1 x2 x3 x4 1 x4 σ16))
  else
  (fX6_layLeads_43 k3 x1 x2 x3 x4 x4 σ))
def fX6_layLeads (a1 : Int32) (a2 : Int32) (a3 : Int32) (σ : Sg) : Rs :=
  it fX6_layLeads_L3 (fun _ _ _ _ _ => none) FU a1 a2 a3 0 σ
def fX6_layWay_L36 (k36 : Int32 → Int32 → Int32 → Sg → Rs) (x3 x4 x5 : Int32) (σ : Sg) : Rs :=
  if x3 ≤ x5 then
  (sv (wr σ 0 11 x4) fun σ2 =>
  some (x3, σ2))
  else
  (bd (fX6_stepOn x4 σ) fun v3 σ4 =>
  gd x5 8000 <|
  sv (wr σ4 11 (Int32.toNatClampNeg x5) v3) fun σ5 =>
  bd (fX6_layNumber x4 σ5) fun v6 σ7 =>
  gd x5 8000 <|
  bd (fX6_numberBehind (σ7 11 (Int32.toNatClampNeg x5)) σ7) fun v8 σ9 =>
  sv (x5 + 1) fun y10 =>
  k36 x3 v8 y10 σ9)
def fX6_layWay (a1 : Int32) (a2 : Int32) (σ : Sg) : Rs :=
  bd (fX6_layAll (-6) σ) fun v11 σ12 =>
  bd (fX6_reached a1 a2 σ12) fun v13 σ14 =>
  if 0 ≤ v13 then
  (bd (fX6_layLeads v13 a1 a2 σ14) fun v16 σ17 =>
  bd (fX6_numberNow σ17) fun v18 σ19 =>
  it fX6_layWay_L36 (fun _ _ _ _ => none) FU v13 v18 0 σ19)
  else
  (some ((-6), σ14))
def fX6_areSets_34 (t0 : Int32) (σ : Sg) : Rs :=
  zr t0 σ
def fX6_areSets_33 (σ : Sg) : Rs :=
  fX6_areSets_34 0 σ
def fX6_areSets (a1 : Int32) (a2 : Int32) (σ : Sg) : Rs :=
  gd 40 42 <|
  bd (fX6_in a1 0 (((1 : Int32) <<< ((σ 1 (Int32.toNatClampNeg 40)) &&& 31)) - (1 : Int32)) σ) fun v1 σ2 =>
  if v1 = 0 then
  (fX6_areSets_33 σ2)
  else
  (bd (fX6_in a2 0 63 σ2) fun v4 σ5 =>
  if v4 = 0 then
  (fX6_areSets_33 σ5)
  else
  (fX6_areSets_34 1 σ5))
def fX6_way_14 (σ : Sg) : Rs :=
  some ((-2), σ)
def fX6_way_57 (t0 : Int32) (σ : Sg) : Rs :=
  some (t0, σ)
def fX6_way_35 (x4 : Int32) (σ : Sg) : Rs :=
  fX6_way_57 x4 σ
def fX6_way (a1 : Int32) (a2 : Int32) (a3 : Int32) (σ : Sg) : Rs :=
  bd (fX6_areSets a1 a2 σ) fun v1 σ2 =>
  if v1 = 0 then
  (fX6_way_14 σ2)
  else
  (if (-1) ≤ a3 then
  (bd (fX6_layWay a1 a2 σ2) fun v5 σ6 =>
  if v5 < 0 then
  (fX6_way_35 v5 σ6)
  else
  (if a3 = (-1) then
  (fX6_way_35 v5 σ6)
  else
  (if v5 ≤ a3 then
  (fX6_way_57 (-6) σ6)
  else
  (gd a3 8000 <|
  fX6_way_57 (σ6 11 (Int32.toNatClampNeg a3)) σ6))))
  else
  (fX6_way_14 σ2))
def fX6_go (a1 : Int32) (a2 : Int32) (σ : Sg) : Rs :=
  bd (fX6_areSets a1 a2 σ) fun v1 σ2 =>
  if v1 = 0 then
  (some ((-2), σ2))
  else
  (bd (fX6_layWay a1 a2 σ2) fun v4 σ5 =>
  if 0 ≤ v4 then
  (bd (fX6_become (σ5 0 11) σ5) fun v7 σ8 =>
  gd 41 42 <|
  gd 41 42 <|
  sv (wr σ8 1 (Int32.toNatClampNeg 41) ((σ8 1 (Int32.toNatClampNeg 41)) + v4)) fun σ9 =>
  gd 41 42 <|
  some ((σ9 1 (Int32.toNatClampNeg 41)), σ9))
  else
  (some ((-5), σ5)))
def fX6_canWithout_19 (t0 : Int32) (σ : Sg) : Rs :=
  zr t0 σ
def fX6_canWithout (a1 : Int32) (a2 : Int32) (a3 : Int32) (σ : Sg) : Rs :=
  bd (fX6_layAll a1 σ) fun v1 σ2 =>
  bd (fX6_reached a2 a3 σ2) fun v3 σ4 =>
  if v3 < 0 then
  (fX6_canWithout_19 0 σ4)
  else
  (fX6_canWithout_19 1 σ4)
def fX6_neededLines_52 (k5 : Int32 → Int32 → Int32 → Int32 → Sg → Rs) (x1 x2 x4 t0 t1 : Int32) (σ : Sg) : Rs :=
  sv (t1 ||| t0) fun y1 =>
  sv (x4 + 1) fun y2 =>
  k5 x1 x2 y1 y2 σ
def fX6_neededLines_51 (k5 : Int32 → Int32 → Int32 → Int32 → Sg → Rs) (x1 x2 x4 t0 : Int32) (σ : Sg) : Rs :=
  fX6_neededLines_52 k5 x1 x2 x4 0 t0 σ
def fX6_neededLines_L5 (k5 : Int32 → Int32 → Int32 → Int32 → Sg → Rs) (x1 x2 x3 x4 : Int32) (σ : Sg) : Rs :=
  gd 39 42 <|
  if (σ 1 (Int32.toNatClampNeg 39)) ≤ x4 then
  (some (x3, σ))
  else
  (gd ((18 : Int32) + x4) 42 <|
  if (σ 1 (Int32.toNatClampNeg ((18 : Int32) + x4))) = 0 then
  (bd (fX6_canWithout (x4 + (4 : Int32)) x1 x2 σ) fun v5 σ6 =>
  if v5 = 0 then
  (fX6_neededLines_52 k5 x1 x2 x4 ((1 : Int32) <<< (x4 &&& 31)) x3 σ6)
  else
  (fX6_neededLines_51 k5 x1 x2 x4 x3 σ6))
  else
  (fX6_neededLines_51 k5 x1 x2 x4 x3 σ))
def fX6_neededLines (a1 : Int32) (a2 : Int32) (σ : Sg) : Rs :=
  it fX6_neededLines_L5 (fun _ _ _ _ _ => none) FU a1 a2 0 0 σ
def fX6_neededMachines_52 (k5 : Int32 → Int32 → Int32 → Int32 → Sg → Rs) (x1 x2 x4 t0 t1 : Int32) (σ : Sg) : Rs :=
  sv (t1 ||| t0) fun y1 =>
  sv (x4 + 1) fun y2 =>
  k5 x1 x2 y1 y2 σ
def fX6_neededMachines_51 (k5 : Int32 → Int32 → Int32 → Int32 → Sg → Rs) (x1 x2 x4 t0 : Int32) (σ : Sg) : Rs :=
  fX6_neededMachines_52 k5 x1 x2 x4 0 t0 σ
def fX6_neededMachines_L5 (k5 : Int32 → Int32 → Int32 → Int32 → Sg → Rs) (x1 x2 x3 x4 : Int32) (σ : Sg) : Rs :=
  gd 40 42 <|
  if (σ 1 (Int32.toNatClampNeg 40)) ≤ x4 then
  (some (x3, σ))
  else
  (gd ((36 : Int32) + x4) 42 <|
  if (σ 1 (Int32.toNatClampNeg ((36 : Int32) + x4))) = 0 then
  (bd (fX6_canWithout (x4 + (1 : Int32)) x1 x2 σ) fun v5 σ6 =>
  if v5 = 0 then
  (fX6_neededMachines_52 k5 x1 x2 x4 ((1 : Int32) <<< (x4 &&& 31)) x3 σ6)
  else
  (fX6_neededMachines_51 k5 x1 x2 x4 x3 σ6))
  else
  (fX6_neededMachines_51 k5 x1 x2 x4 x3 σ))
def fX6_neededMachines (a1 : Int32) (a2 : Int32) (σ : Sg) : Rs :=
  it fX6_neededMachines_L5 (fun _ _ _ _ _ => none) FU a1 a2 0 0 σ
def fX6_needed_18 (σ : Sg) : Rs :=
  some ((-2), σ)
def fX6_needed_54 (t0 : Int32) (σ : Sg) : Rs :=
  some (t0, σ)
def fX6_needed (a1 : Int32) (a2 : Int32) (a3 : Int32) (σ : Sg) : Rs :=
  bd (fX6_areSets a1 a2 σ) fun v1 σ2 =>
  if v1 = 0 then
  (fX6_needed_18 σ2)
  else
  (bd (fX6_in a3 0 1 σ2) fun v4 σ5 =>
  if v4 = 0 then
  (fX6_needed_18 σ5)
  else
  (bd (fX6_canWithout (-6) a1 a2 σ5) fun v7 σ8 =>
  if v7 = 0 then
  (some ((-6), σ8))
  else
  (if a3 = 0 then
  (bd (fX6_neededLines a1 a2 σ8) fun v13 σ14 =>
  fX6_needed_54 v13 σ14)
  else
  (bd (fX6_neededMachines a1 a2 σ8) fun v11 σ12 =>
  fX6_needed_54 v11 σ12))))
def fX6_ever_61 (k22 : Int32 → Int32 → Int32 → Sg → Rs) (x1 x2 x3 : Int32) (σ : Sg) : Rs :=
  sv (x3 + 1) fun y1 =>
  k22 x1 x2 y1 σ
def fX6_ever_59 (k22 : Int32 → Int32 → Int32 → Sg → Rs) (x1 x3 t0 t1 : Int32) (σ : Sg) : Rs :=
  sv (t1 ||| t0) fun y2 =>
  fX6_ever_61 k22 x1 y2 x3 σ
def fX6_ever_L22 (k22 : Int32 → Int32 → Int32 → Sg → Rs) (x1 x2 x3 : Int32) (σ : Sg) : Rs :=
  if 8000 ≤ x3 then
  (some (x2, σ))
  else
  (gd x3 8000 <|
  if (σ 9 (Int32.toNatClampNeg x3)) < 0 then
  (fX6_ever_61 k22 x1 x2 x3 σ)
  else
  (bd (fX6_layNumber x3 σ) fun v5 σ6 =>
  if x1 = 0 then
  (bd (fX6_readySet σ6) fun v10 σ11 =>
  fX6_ever_59 k22 x1 x3 v10 x2 σ11)
  else
  (bd (fX6_liveSet σ6) fun v8 σ9 =>
  fX6_ever_59 k22 x1 x3 v8 x2 σ9)))
def fX6_ever (a1 : Int32) (σ : Sg) : Rs :=
  bd (fX6_in a1 0 1 σ) fun v12 σ13 =>
  if v12 = 0 then
  (some ((-2), σ13))
  else
  (bd (fX6_layAll (-6) σ13) fun v15 σ16 =>
  it fX6_ever_L22 (fun _ _ _ _ => none) FU a1 0 0 σ16)
def fX6_image_L14 (k14 : Int32 → Int32 → Sg → Rs) (x1 x2 : Int32) (σ : Sg) : Rs :=
  if 42 ≤ x2 then
  (gd x1 2 <|
  sv (wr σ 3 (Int32.toNatClampNeg x1) (vp_nar .boolean 1)) fun σ2 =>
  some (1, σ2))
  else
  (gd x2 42 <|
  gd (((42 : Int32) * x1) + x2) 84 <|
  sv (wr σ 2 (Int32.toNatClampNeg (((42 : Int32) * x1) + x2)) (σ 1 (Int32.toNatClampNeg x2))) fun σ3 =>
  sv (x2 + 1) fun y4 =>
  k14 x1 y4 σ3)
def fX6_image (a1 : Int32) (σ : Sg) : Rs :=
  bd (fX6_in a1 0 1 σ) fun v5 σ6 =>
  if v5 = 0 then
  (some ((-2), σ6))
  else
  (it fX6_image_L14 (fun _ _ _ => none) FU a1 0 σ6)
def fX6_restore_L26 (k26 : Int32 → Int32 → Sg → Rs) (x1 x2 : Int32) (σ : Sg) : Rs :=
  if 42 ≤ x2 then
  (some (1, σ))
  else
  (gd (((42 : Int32) * x1) + x2) 84 <|
  gd x2 42 <|
  sv (wr σ 1 (Int32.toNatClampNeg x2) (σ 2 (Int32.toNatClampNeg (((42 : Int32) * x1) + x2)))) fun σ2 =>
  sv (x2 + 1) fun y3 =>
  k26 x1 y3 σ2)
def fX6_restore (a1 : Int32) (σ : Sg) : Rs :=
  bd (fX6_in a1 0 1 σ) fun v4 σ5 =>
  if v4 = 0 then
  (some ((-2), σ5))
  else
  (gd a1 2 <|
  if (σ5 3 (Int32.toNatClampNeg a1)) = 0 then
  (some ((-3), σ5))
  else
  (it fX6_restore_L26 (fun _ _ _ => none) FU a1 0 σ5))
def fX6_size_L4 (k4 : Int32 → Int32 → Int32 → Sg → Rs) (x0 x1 x2 : Int32) (σ : Sg) : Rs :=
  if 6 ≤ x2 then
  (some (x1, σ))
  else
  (sv (x1 + ((x0 >>> (x2 &&& 31)) &&& (1 : Int32))) fun y2 =>
  sv (x2 + 1) fun y3 =>
  k4 x0 y2 y3 σ)
def fX6_size (a0 : Int32) (σ : Sg) : Rs :=
  it fX6_size_L4 (fun _ _ _ _ => none) FU a0 0 0 σ
def fX6_sumOf_29 (k5 : Int32 → Int32 → Int32 → Int32 → Sg → Rs) (x1 x2 x4 t0 t1 : Int32) (σ : Sg) : Rs :=
  sv (t1 + t0) fun y1 =>
  sv (x4 + 1) fun y2 =>
  k5 x1 x2 y1 y2 σ
def fX6_sumOf_L5 (k5 : Int32 → Int32 → Int32 → Int32 → Sg → Rs) (x1 x2 x3 x4 : Int32) (σ : Sg) : Rs :=
  if x2 ≤ x4 then
  (some (x3, σ))
  else
  (gd (x1 + x4) 42 <|
  if (σ 1 (Int32.toNatClampNeg (x1 + x4))) ≤ 0 then
  (fX6_sumOf_29 k5 x1 x2 x4 0 x3 σ)
  else
  (fX6_sumOf_29 k5 x1 x2 x4 1 x3 σ))
def fX6_sumOf (a1 : Int32) (a2 : Int32) (σ : Sg) : Rs :=
  it fX6_sumOf_L5 (fun _ _ _ _ _ => none) FU a1 a2 0 0 σ
def fX6_liveIslands_35 (k4 : Int32 → Int32 → Sg → Rs) (x2 t0 t1 : Int32) (σ : Sg) : Rs :=
  sv (t1 + t0) fun y1 =>
  sv (x2 + 1) fun y2 =>
  k4 y1 y2 σ
def fX6_liveIslands_34 (k4 : Int32 → Int32 → Sg → Rs) (x2 t0 : Int32) (σ : Sg) : Rs :=
  fX6_liveIslands_35 k4 x2 0 t0 σ
def fX6_liveIslands_L4 (k4 : Int32 → Int32 → Sg → Rs) (x1 x2 : Int32) (σ : Sg) : Rs :=
  if 6 ≤ x2 then
  (some (x1, σ))
  else
  (gd x2 6 <|
  if (σ 6 (Int32.toNatClampNeg x2)) = x2 then
  (gd x2 6 <|
  if (σ 8 (Int32.toNatClampNeg x2)) = 0 then
  (fX6_liveIslands_34 k4 x2 x1 σ)
  else
  (fX6_liveIslands_35 k4 x2 1 x1 σ))
  else
  (fX6_liveIslands_34 k4 x2 x1 σ))
def fX6_liveIslands (σ : Sg) : Rs :=
  it fX6_liveIslands_L4 (fun _ _ _ => none) FU 0 0 σ
def fX6_count_157 (t0 t1 : Int32) (σ : Sg) : Rs :=
  some ((t1 + t0), σ)
def fX6_count_143 (t0 : Int32) (σ : Sg) : Rs :=
  gd 1 2 <|
  if (σ 3 (Int32.toNatClampNeg 1)) = 0 then
  (fX6_count_157 0 t0 σ)
  else
  (fX6_count_157 2 t0 σ)
def fX6_count (a1 : Int32) (σ : Sg) : Rs :=
  bd (fX6_layNow σ) fun v2 σ3 =>
  if a1 = 0 then
  (gd 39 42 <|
  some ((σ3 1 (Int32.toNatClampNeg 39)), σ3))
  else
  if a1 = 1 then
  (gd 40 42 <|
  some ((σ3 1 (Int32.toNatClampNeg 40)), σ3))
  else
  if a1 = 2 then
  (gd 39 42 <|
  bd (fX6_sumOf 18 (σ3 1 (Int32.toNatClampNeg 39)) σ3) fun v7 σ8 =>
  some (v7, σ8))
  else
  if a1 = 3 then
  (gd 40 42 <|
  bd (fX6_sumOf 36 (σ3 1 (Int32.toNatClampNeg 40)) σ3) fun v10 σ11 =>
  some (v10, σ11))
  else
  if a1 = 4 then
  (bd (fX6_readySet σ3) fun v13 σ14 =>
  bd (fX6_size v13 σ14) fun v15 σ16 =>
  some (v15, σ16))
  else
  if a1 = 5 then
  (bd (fX6_liveSet σ3) fun v18 σ19 =>
  bd (fX6_size v18 σ19) fun v20 σ21 =>
  some (v20, σ21))
  else
  if a1 = 6 then
  (bd (fX6_liveIslands σ3) fun v23 σ24 =>
  some (v23, σ24))
  else
  if a1 = 7 then
  (gd 41 42 <|
  some ((σ3 1 (Int32.toNatClampNeg 41)), σ3))
  else
  if a1 = 8 then
  (gd 0 2 <|
  if (σ3 3 (Int32.toNatClampNeg 0)) = 0 then
  (fX6_count_143 0 σ3)
  else
  (fX6_count_143 1 σ3))
  else
  (some ((-2), σ3))
end
section
theorem hdX0_closed : yX0_closed.cls ≠ "java/lang/invoke/MethodHandle" ∧ yX0_closed.cls ≠ "java/lang/invoke/VarHandle" ∧ (parseMethodDescriptor yX0_closed.desc).map (fun d => d.parameters.length) = some 1 := by decide +kernel
set_option maxHeartbeats 4000000 in
set_option maxRecDepth 100000 in
theorem tX0_closed (l : Launch) (E : Ev) (hj : Inj kC E) (a0 : Int32) (σ : Sg) (r : Int32 × Sg) (h : fX0_closed a0 σ = some r) : CI l yX0_closed cX0_closed 1 (some FieldType.int) (rmk 0 0) kC E [.int a0] σ r := by
  refine CI_i (lv := [(0, .int a0)]) (by decide) hj (Nat.le_of_ble_eq_true rfl) rfl (fun p e s m args below meth c ls Q hF hret hH hl => ?_)
  unfold fX0_closed at h
  refine lv_iload_n hF.x hF.b dX0_closed_0 rfl (lv_at hl 0 rfl) ?_
  refine lv_bipush (v := 63) hF.x hF.b dX0_closed_1 (by decide) ?_
  refine lv_iand hF.x hF.b dX0_closed_3 ?_
  exact hret _ _ _ _ _ _ hH h dX0_closed_4
theorem hdX0_running : yX0_running.cls ≠ "java/lang/invoke/MethodHandle" ∧ yX0_running.cls ≠ "java/lang/invoke/VarHandle" ∧ (parseMethodDescriptor yX0_running.desc).map (fun d => d.parameters.length) = some 1 := by decide +kernel
set_option maxHeartbeats 4000000 in
set_option maxRecDepth 100000 in
theorem tX0_running (l : Launch) (E : Ev) (hj : Inj kC E) (a0 : Int32) (σ : Sg) (r : Int32 × Sg) (h : fX0_running a0 σ = some r) : CI l yX0_running cX0_running 1 (some FieldType.int) (rmk 0 0) kC E [.int a0] σ r := by
  refine CI_i (lv := [(0, .int a0)]) (by decide) hj (Nat.le_of_ble_eq_true rfl) rfl (fun p e s m args below meth c ls Q hF hret hH hl => ?_)
  unfold fX0_running at h
  refine lv_iload_n hF.x hF.b dX0_running_0 rfl (lv_at hl 0 rfl) ?_
  refine lv_bipush (v := 6) hF.x hF.b dX0_running_1 (by decide) ?_
  refine lv_ishr hF.x hF.b dX0_running_3 ?_
  refine lv_bipush (v := 7) hF.x hF.b dX0_running_4 (by decide) ?_
  refine lv_iand hF.x hF.b dX0_running_6 ?_
  exact hret _ _ _ _ _ _ hH h dX0_running_7
theorem hdX5_bit : yX5_bit.cls ≠ "java/lang/invoke/MethodHandle" ∧ yX5_bit.cls ≠ "java/lang/invoke/VarHandle" ∧ (parseMethodDescriptor yX5_bit.desc).map (fun d => d.parameters.length) = some 2 := by decide +kernel
set_option maxHeartbeats 4000000 in
set_option maxRecDepth 100000 in
theorem tX5_bit (l : Launch) (E : Ev) (hj : Inj kC E) (a0 : Int32) (a1 : Int32) (σ : Sg) (r : Int32 × Sg) (h : fX5_bit a0 a1 σ = some r) : CI l yX5_bit cX5_bit 2 (some FieldType.int) (rmk 0 0) kC E [.int a0, .int a1] σ r := by
  refine CI_i (lv := [(0, .int a0), (1, .int a1)]) (by decide) hj (Nat.le_of_ble_eq_true rfl) rfl (fun p e s m args below meth c ls Q hF hret hH hl => ?_)
  unfold fX5_bit at h
  refine lv_iload_n hF.x hF.b dX5_bit_0 rfl (lv_at hl 0 rfl) ?_
  refine lv_iload_n hF.x hF.b dX5_bit_1 rfl (lv_at hl 1 rfl) ?_
  refine lv_ishr hF.x hF.b dX5_bit_2 ?_
  refine lv_iconst (v := 1) hF.x hF.b dX5_bit_3 (by decide) ?_
  refine lv_iand hF.x hF.b dX5_bit_4 ?_
  exact hret _ _ _ _ _ _ hH h dX5_bit_5
theorem hdX0_isRunning : yX0_isRunning.cls ≠ "java/lang/invoke/MethodHandle" ∧ yX0_isRunning.cls ≠ "java/lang/invoke/VarHandle" ∧ (parseMethodDescriptor yX0_isRunning.desc).map (fun d => d.parameters.length) = some 2 := by decide +kernel
set_option maxHeartbeats 4000000 in
set_option maxRecDepth 100000 in
theorem tX0_isRunning (l : Launch) (E : Ev) (hj : Inj kC E) (a0 : Int32) (a1 : Int32) (σ : Sg) (r : Int32 × Sg) (h : fX0_isRunning a0 a1 σ = some r) : CI l yX0_isRunning cX0_isRunning 2 (some FieldType.boolean) (rmk 1 21) kC E [.int a0, .int a1] σ r := by
  refine CI_z (lv := [(0, .int a0), (1, .int a1)]) (by decide) hj (Nat.le_of_ble_eq_true rfl) rfl (fun p e s m args below meth c ls Q hF hret hH hl => ?_)
  have w16 : ∀ (t0 : Int32) (σ : Sg) (H : Heap) (locs : List Loc) (ls : Array Slot), fX0_isRunning_16 t0 σ = some r → HP kC E s σ H locs → lv_has ls 2 [] → W p l e (rmk 1 21) s m args below meth c H locs 0 0 Q (F0 m 16 ls [.int t0]) := by
    intro t0 σ H locs ls h hH hl
    unfold fX0_isRunning_16 at h
    exact hret _ _ _ _ _ _ hH h dX0_isRunning_16
  unfold fX0_isRunning at h
  refine lv_iload_n hF.x hF.b dX0_isRunning_0 rfl (lv_at hl 0 rfl) ?_
  replace h := bd_some h
  obtain ⟨v1, σ2, hv1, h⟩ := h
  refine w_cSi (As := [.int a0]) (rest := []) hF hH hl (tX0_running l E hF.j _ _ _ hv1) tk_273 tk_242 tk_48 tk_243 rfl rfl hdX0_running ⟨Nat.le_of_ble_eq_true rfl, Nat.le_of_ble_eq_true rfl⟩ rfl rfl (Nat.le_of_ble_eq_true rfl) dX0_isRunning_1 (fun H locs hH => ?_)
  refine lv_iload_n hF.x hF.b dX0_isRunning_4 rfl (lv_at hl 1 rfl) ?_
  replace h := bd_some h
  obtain ⟨v3, σ4, hv3, h⟩ := h
  refine w_cNi (As := [.int v1, .int a1]) (rest := []) hF hH hl (tX5_bit l E hF.j _ _ _ _ hv3) (List.mem_of_getElem? (l := nestW) (i := 2) rfl) tk_227 tk_41 tk_228 rfl rfl hdX5_bit ⟨Nat.le_of_ble_eq_true rfl, Nat.le_of_ble_eq_true rfl⟩ rfl rfl (Nat.le_of_ble_eq_true rfl) dX0_isRunning_5 (fun H locs hH => ?_)
  refine lv_if_eq (tgt := 15) hF.x hF.b dX0_isRunning_8 (by decide) (fun c5 => ?_) (fun c5 => ?_)
  · rw [if_pos c5] at h
    refine lv_iconst (v := 0) hF.x hF.b dX0_isRunning_15 (by decide) ?_
    exact w16 _ _ _ _ _ h hH (lv_sub hl [] rfl)
  · rw [if_neg c5] at h
    refine lv_iconst (v := 1) hF.x hF.b dX0_isRunning_11 (by decide) ?_
    refine lv_goto (tgt := 16) hF.x hF.b dX0_isRunning_12 (by decide) ?_
    exact w16 _ _ _ _ _ h hH (lv_sub hl [] rfl)
theorem hdX0_leftAt : yX0_leftAt.cls ≠ "java/lang/invoke/MethodHandle" ∧ yX0_leftAt.cls ≠ "java/lang/invoke/VarHandle" ∧ (parseMethodDescriptor yX0_leftAt.desc).map (fun d => d.parameters.length) = some 1 := by decide +kernel
set_option maxHeartbeats 4000000 in
set_option maxRecDepth 100000 in
theorem tX0_leftAt (l : Launch) (E : Ev) (hj : Inj kC E) (a0 : Int32) (σ : Sg) (r : Int32 × Sg) (h : fX0_leftAt a0 σ = some r) : CI l yX0_leftAt cX0_leftAt 1 (some FieldType.int) (rmk 0 0) kC E [.int a0] σ r := by
  refine CI_i (lv := [(0, .int a0)]) (by decide) hj (Nat.le_of_ble_eq_true rfl) rfl (fun p e s m args below meth c ls Q hF hret hH hl => ?_)
  unfold fX0_leftAt at h
  refine lv_bipush (v := 9) hF.x hF.b dX0_leftAt_0 (by decide) ?_
  refine lv_iconst (v := 2) hF.x hF.b dX0_leftAt_2 (by decide) ?_
  refine lv_iload_n hF.x hF.b dX0_leftAt_3 rfl (lv_at hl 0 rfl) ?_
  refine lv_imul hF.x hF.b dX0_leftAt_4 ?_
  refine lv_iadd hF.x hF.b dX0_leftAt_5 ?_
  exact hret _ _ _ _ _ _ hH h dX0_leftAt_6
theorem hdX0_left : yX0_left.cls ≠ "java/lang/invoke/MethodHandle" ∧ yX0_left.cls ≠ "java/lang/invoke/VarHandle" ∧ (parseMethodDescriptor yX0_left.desc).map (fun d => d.parameters.length) = some 2 := by decide +kernel
set_option maxHeartbeats 4000000 in
set_option maxRecDepth 100000 in
theorem tX0_left (l : Launch) (E : Ev) (hj : Inj kC E) (a0 : Int32) (a1 : Int32) (σ : Sg) (r : Int32 × Sg) (h : fX0_left a0 a1 σ = some r) : CI l yX0_left cX0_left 2 (some FieldType.int) (rmk 1 20) kC E [.int a0, .int a1] σ r := by
  refine CI_i (lv := [(0, .int a0), (1, .int a1)]) (by decide) hj (Nat.le_of_ble_eq_true rfl) rfl (fun p e s m args below meth c ls Q hF hret hH hl => ?_)
  unfold fX0_left at h
  refine lv_iload_n hF.x hF.b dX0_left_0 rfl (lv_at hl 0 rfl) ?_
  refine lv_iload_n hF.x hF.b dX0_left_1 rfl (lv_at hl 1 rfl) ?_
  replace h := bd_some h
  obtain ⟨v1, σ2, hv1, h⟩ := h
  refine w_cSi (As := [.int a1]) (rest := [.int a0]) hF hH hl (tX0_leftAt l E hF.j _ _ _ hv1) tk_278 tk_279 tk_48 tk_280 rfl rfl hdX0_leftAt ⟨Nat.le_of_ble_eq_true rfl, Nat.le_of_ble_eq_true rfl⟩ rfl rfl (Nat.le_of_ble_eq_true rfl) dX0_left_2 (fun H locs hH => ?_)
  refine lv_ishr hF.x hF.b dX0_left_5 ?_
  refine lv_iconst (v := 3) hF.x hF.b dX0_left_6 (by decide) ?_
  refine lv_iand hF.x hF.b dX0_left_7 ?_
  exact hret _ _ _ _ _ _ hH h dX0_left_8
theorem hdX0_ready : yX0_ready.cls ≠ "java/lang/invoke/MethodHandle" ∧ yX0_ready.cls ≠ "java/lang/invoke/VarHandle" ∧ (parseMethodDescriptor yX0_ready.desc).map (fun d => d.parameters.length) = some 1 := by decide +kernel
set_option maxHeartbeats 4000000 in
set_option maxRecDepth 100000 in
theorem tX0_ready (l : Launch) (E : Ev) (hj : Inj kC E) (a0 : Int32) (σ : Sg) (r : Int32 × Sg) (h : fX0_ready a0 σ = some r) : CI l yX0_ready cX0_ready 3 (some FieldType.int) (rmk 2 41) kC E [.int a0] σ r := by
  refine CI_i (lv := [(0, .int a0)]) (by decide) hj (Nat.le_of_ble_eq_true rfl) rfl (fun p e s m args below meth c ls Q hF hret hH hl => ?_)
  have w7 : ∀ (n : Nat) (x0 x1 x2 : Int32) (σ : Sg) (H : Heap) (locs : List Loc) (ls : Array Slot), it fX0_ready_L7 (fun _ _ _ _ => none) n x0 x1 x2 σ = some r → HP kC E s σ H locs → lv_has ls 3 [(0, .int x0), (1, .int x1), (2, .int x2)] → W p l e (rmk 2 41) s m args below meth c H locs 0 0 Q (F0 m 7 ls []) := by
    intro n7
    induction n7 with
    | zero =>
      intro x0 x1 x2 σ H locs ls h hH hl
      cases (show (none : Rs) = some r from h)
    | succ n7 ih7 =>
      have w28 : ∀ (x0 x1 x2 : Int32) (σ : Sg) (H : Heap) (locs : List Loc) (ls : Array Slot), fX0_ready_28 (it fX0_ready_L7 (fun _ _ _ _ => none) n7) x0 x1 x2 σ = some r → HP kC E s σ H locs → lv_has ls 3 [(0, .int x0), (1, .int x1), (2, .int x2)] → W p l e (rmk 2 41) s m args below meth c H locs 0 0 Q (F0 m 28 ls []) := by
        intro x0 x1 x2 σ H locs ls h hH hl
        unfold fX0_ready_28 at h
        obtain ⟨y1, ey1⟩ : ∃ z : Int32, z = (x2 + 1) := ⟨_, rfl⟩
        replace h := sv_at h ey1
        refine lv_iinc (v := y1) (lv' := [(2, .int y1), (0, .int x0), (1, .int x1)]) hF.x hF.b dX0_ready_28 hl (k := 2) rfl (by rw [ey1]; rfl) (by decide) rfl (fun ls hl => ?_)
        clear ey1
        refine lv_goto (tgt := 7) hF.x hF.b dX0_ready_31 (by decide) ?_
        exact ih7 _ _ _ _ _ _ _ h hH (lv_sub hl [1, 2, 0] rfl)
      intro x0 x1 x2 σ H locs ls h hH hl
      replace h : fX0_ready_L7 (it fX0_ready_L7 (fun _ _ _ _ => none) n7) x0 x1 x2 σ = some r := h
      unfold fX0_ready_L7 at h
      refine lv_iload_n hF.x hF.b dX0_ready_7 rfl (lv_at hl 2 rfl) ?_
      refine lv_iconst (v := 3) hF.x hF.b dX0_ready_8 (by decide) ?_
      refine lv_icmp_ge (tgt := 34) hF.x hF.b dX0_ready_9 (by decide) (fun c2 => ?_) (fun c2 => ?_)
      · rw [if_pos c2] at h
        refine lv_iload_n hF.x hF.b dX0_ready_34 rfl (lv_at hl 1 rfl) ?_
        exact hret _ _ _ _ _ _ hH h dX0_ready_35
      · rw [if_neg c2] at h
        refine lv_iload_n hF.x hF.b dX0_ready_12 rfl (lv_at hl 0 rfl) ?_
        refine lv_iload_n hF.x hF.b dX0_ready_13 rfl (lv_at hl 2 rfl) ?_
        replace h := bd_some h
        obtain ⟨v3, σ4, hv3, h⟩ := h
        refine w_cSi (As := [.int x0, .int x2]) (rest := []) hF hH hl (tX0_left l E hF.j _ _ _ _ hv3) tk_300 tk_276 tk_48 tk_277 rfl rfl hdX0_left ⟨Nat.le_of_ble_eq_true rfl, Nat.le_of_ble_eq_true rfl⟩ rfl rfl (Nat.le_of_ble_eq_true rfl) dX0_ready_14 (fun H locs hH => ?_)
        refine lv_if_le (tgt := 28) hF.x hF.b dX0_ready_17 (by decide) (fun c5 => ?_) (fun c5 => ?_)
        · rw [if_pos c5] at h
          exact w28 _ _ _ _ _ _ _ h hH (lv_sub hl [0, 1, 2] rfl)
        · rw [if_neg c5] at h
          refine lv_iload_n hF.x hF.b dX0_ready_20 rfl (lv_at hl 1 rfl) ?_
          refine lv_iconst (v := 1) hF.x hF.b dX0_ready_21 (by decide) ?_
          refine lv_iload_n hF.x hF.b dX0_ready_22 rfl (lv_at hl 2 rfl) ?_
          refine lv_ishl hF.x hF.b dX0_ready_23 ?_
          refine lv_iconst (v := (-1)) hF.x hF.b dX0_ready_24 (by decide) ?_
          refine lv_ixor hF.x hF.b dX0_ready_25 ?_
          refine lv_iand hF.x hF.b dX0_ready_26 ?_
          refine lv_topi (fun y6 ey6 => ?_)
          replace h := sv_at h ey6
          clear ey6
          refine lv_istore_n (lv' := [(1, .int y6), (0, .int x0), (2, .int x2)]) hF.x hF.b dX0_ready_27 rfl hl (by decide) rfl (fun ls hl => ?_)
          exact w28 _ _ _ _ _ _ _ h hH (lv_sub hl [1, 0, 2] rfl)
  unfold fX0_ready at h
  refine lv_iload_n hF.x hF.b dX0_ready_0 rfl (lv_at hl 0 rfl) ?_
  replace h := bd_some h
  obtain ⟨v7, σ8, hv7, h⟩ := h
  refine w_cSi (As := [.int a0]) (rest := []) hF hH hl (tX0_running l E hF.j _ _ _ hv7) tk_273 tk_242 tk_48 tk_243 rfl rfl hdX0_running ⟨Nat.le_of_ble_eq_true rfl, Nat.le_of_ble_eq_true rfl⟩ rfl rfl (Nat.le_of_ble_eq_true rfl) dX0_ready_1 (fun H locs hH => ?_)
  refine lv_istore_n (lv' := [(1, .int v7), (0, .int a0)]) hF.x hF.b dX0_ready_4 rfl hl (by decide) rfl (fun ls hl => ?_)
  refine lv_iconst (v := 0) hF.x hF.b dX0_ready_5 (by decide) ?_
  refine lv_istore_n (lv' := [(2, .int 0), (1, .int v7), (0, .int a0)]) hF.x hF.b dX0_ready_6 rfl hl (by decide) rfl (fun ls hl => ?_)
  exact w7 _ _ _ _ _ _ _ _ h hH (lv_sub hl [2, 1, 0] rfl)
theorem hdX0_ticked : yX0_ticked.cls ≠ "java/lang/invoke/MethodHandle" ∧ yX0_ticked.cls ≠ "java/lang/invoke/VarHandle" ∧ (parseMethodDescriptor yX0_ticked.desc).map (fun d => d.parameters.length) = some 1 := by decide +kernel
set_option maxHeartbeats 4000000 in
set_option maxRecDepth 100000 in
theorem tX0_ticked (l : Launch) (E : Ev) (hj : Inj kC E) (a0 : Int32) (σ : Sg) (r : Int32 × Sg) (h : fX0_ticked a0 σ = some r) : CI l yX0_ticked cX0_ticked 3 (some FieldType.int) (rmk 2 41) kC E [.int a0] σ r := by
  refine CI_i (lv := [(0, .int a0)]) (by decide) hj (Nat.le_of_ble_eq_true rfl) rfl (fun p e s m args below meth c ls Q hF hret hH hl => ?_)
  have w4 : ∀ (n : Nat) (x0 x1 x2 : Int32) (σ : Sg) (H : Heap) (locs : List Loc) (ls : Array Slot), it fX0_ticked_L4 (fun _ _ _ _ => none) n x0 x1 x2 σ = some r → HP kC E s σ H locs → lv_has ls 3 [(0, .int x0), (1, .int x1), (2, .int x2)] → W p l e (rmk 2 41) s m args below meth c H locs 0 0 Q (F0 m 4 ls []) := by
    intro n4
    induction n4 with
    | zero =>
      intro x0 x1 x2 σ H locs ls h hH hl
      cases (show (none : Rs) = some r from h)
    | succ n4 ih4 =>
      have w26 : ∀ (x0 x1 x2 : Int32) (σ : Sg) (H : Heap) (locs : List Loc) (ls : Array Slot), fX0_ticked_26 (it fX0_ticked_L4 (fun _ _ _ _ => none) n4) x0 x1 x2 σ = some r → HP kC E s σ H locs → lv_has ls 3 [(0, .int x0), (1, .int x1), (2, .int x2)] → W p l e (rmk 2 41) s m args below meth c H locs 0 0 Q (F0 m 26 ls []) := by
        intro x0 x1 x2 σ H locs ls h hH hl
        unfold fX0_ticked_26 at h
        obtain ⟨y1, ey1⟩ : ∃ z : Int32, z = (x2 + 1) := ⟨_, rfl⟩
        replace h := sv_at h ey1
        refine lv_iinc (v := y1) (lv' := [(2, .int y1), (0, .int x0), (1, .int x1)]) hF.x hF.b dX0_ticked_26 hl (k := 2) rfl (by rw [ey1]; rfl) (by decide) rfl (fun ls hl => ?_)
        clear ey1
        refine lv_goto (tgt := 4) hF.x hF.b dX0_ticked_29 (by decide) ?_
        exact ih4 _ _ _ _ _ _ _ h hH (lv_sub hl [1, 2, 0] rfl)
      intro x0 x1 x2 σ H locs ls h hH hl
      replace h : fX0_ticked_L4 (it fX0_ticked_L4 (fun _ _ _ _ => none) n4) x0 x1 x2 σ = some r := h
      unfold fX0_ticked_L4 at h
      refine lv_iload_n hF.x hF.b dX0_ticked_4 rfl (lv_at hl 2 rfl) ?_
      refine lv_iconst (v := 3) hF.x hF.b dX0_ticked_5 (by decide) ?_
      refine lv_icmp_ge (tgt := 32) hF.x hF.b dX0_ticked_6 (by decide) (fun c2 => ?_) (fun c2 => ?_)
      · rw [if_pos c2] at h
        refine lv_iload_n hF.x hF.b dX0_ticked_32 rfl (lv_at hl 1 rfl) ?_
        exact hret _ _ _ _ _ _ hH h dX0_ticked_33
      · rw [if_neg c2] at h
        refine lv_iload_n hF.x hF.b dX0_ticked_9 rfl (lv_at hl 0 rfl) ?_
        refine lv_iload_n hF.x hF.b dX0_ticked_10 rfl (lv_at hl 2 rfl) ?_
        replace h := bd_some h
        obtain ⟨v3, σ4, hv3, h⟩ := h
        refine w_cSi (As := [.int x0, .int x2]) (rest := []) hF hH hl (tX0_left l E hF.j _ _ _ _ hv3) tk_300 tk_276 tk_48 tk_277 rfl rfl hdX0_left ⟨Nat.le_of_ble_eq_true rfl, Nat.le_of_ble_eq_true rfl⟩ rfl rfl (Nat.le_of_ble_eq_true rfl) dX0_ticked_11 (fun H locs hH => ?_)
        refine lv_if_le (tgt := 26) hF.x hF.b dX0_ticked_14 (by decide) (fun c5 => ?_) (fun c5 => ?_)
        · rw [if_pos c5] at h
          exact w26 _ _ _ _ _ _ _ h hH (lv_sub hl [0, 1, 2] rfl)
        · rw [if_neg c5] at h
          refine lv_iload_n hF.x hF.b dX0_ticked_17 rfl (lv_at hl 1 rfl) ?_
          refine lv_iconst (v := 1) hF.x hF.b dX0_ticked_18 (by decide) ?_
          refine lv_iload_n hF.x hF.b dX0_ticked_19 rfl (lv_at hl 2 rfl) ?_
          replace h := bd_some h
          obtain ⟨v6, σ7, hv6, h⟩ := h
          refine w_cSi (As := [.int x2]) (rest := [.int 1, .int x1]) hF hH hl (tX0_leftAt l E hF.j _ _ _ hv6) tk_278 tk_279 tk_48 tk_280 rfl rfl hdX0_leftAt ⟨Nat.le_of_ble_eq_true rfl, Nat.le_of_ble_eq_true rfl⟩ rfl rfl (Nat.le_of_ble_eq_true rfl) dX0_ticked_20 (fun H locs hH => ?_)
          refine lv_ishl hF.x hF.b dX0_ticked_23 ?_
          refine lv_isub hF.x hF.b dX0_ticked_24 ?_
          refine lv_topi (fun y8 ey8 => ?_)
          replace h := sv_at h ey8
          clear ey8
          refine lv_istore_n (lv' := [(1, .int y8), (0, .int x0), (2, .int x2)]) hF.x hF.b dX0_ticked_25 rfl hl (by decide) rfl (fun ls hl => ?_)
          exact w26 _ _ _ _ _ _ _ h hH (lv_sub hl [1, 0, 2] rfl)
  unfold fX0_ticked at h
  refine lv_iload_n hF.x hF.b dX0_ticked_0 rfl (lv_at hl 0 rfl) ?_
  refine lv_istore_n (lv' := [(1, .int a0), (0, .int a0)]) hF.x hF.b dX0_ticked_1 rfl hl (by decide) rfl (fun ls hl => ?_)
  refine lv_iconst (v := 0) hF.x hF.b dX0_ticked_2 (by decide) ?_
  refine lv_istore_n (lv' := [(2, .int 0), (1, .int a0), (0, .int a0)]) hF.x hF.b dX0_ticked_3 rfl hl (by decide) rfl (fun ls hl => ?_)
  exact w4 _ _ _ _ _ _ _ _ h hH (lv_sub hl [2, 1, 0] rfl)
theorem hdX0_withStarted : yX0_withStarted.cls ≠ "java/lang/invoke/MethodHandle" ∧ yX0_withStarted.cls ≠ "java/lang/invoke/VarHandle" ∧ (parseMethodDescriptor yX0_withStarted.desc).map (fun d => d.parameters.length) = some 3 := by decide +kernel
set_option maxHeartbeats 4000000 in
set_option maxRecDepth 100000 in
theorem tX0_withStarted (l : Launch) (E : Ev) (hj : Inj kC E) (a0 : Int32) (a1 : Int32) (a2 : Int32) (σ : Sg) (r : Int32 × Sg) (h : fX0_withStarted a0 a1 a2 σ = some r) : CI l yX0_withStarted cX0_withStarted 3 (some FieldType.int) (rmk 1 20) kC E [.int a0, .int a1, .int a2] σ r := by
  refine CI_i (lv := [(0, .int a0), (1, .int a1), (2, .int a2)]) (by decide) hj (Nat.le_of_ble_eq_true rfl) rfl (fun p e s m args below meth c ls Q hF hret hH hl => ?_)
  unfold fX0_withStarted at h
  refine lv_iload_n hF.x hF.b dX0_withStarted_0 rfl (lv_at hl 0 rfl) ?_
  refine lv_iconst (v := 1) hF.x hF.b dX0_withStarted_1 (by decide) ?_
  refine lv_bipush (v := 6) hF.x hF.b dX0_withStarted_2 (by decide) ?_
  refine lv_iload_n hF.x hF.b dX0_withStarted_4 rfl (lv_at hl 1 rfl) ?_
  refine lv_iadd hF.x hF.b dX0_withStarted_5 ?_
  refine lv_ishl hF.x hF.b dX0_withStarted_6 ?_
  refine lv_ior hF.x hF.b dX0_withStarted_7 ?_
  refine lv_iload_n hF.x hF.b dX0_withStarted_8 rfl (lv_at hl 2 rfl) ?_
  refine lv_iload_n hF.x hF.b dX0_withStarted_9 rfl (lv_at hl 1 rfl) ?_
  replace h := bd_some h
  obtain ⟨v1, σ2, hv1, h⟩ := h
  refine w_cSi (As := [.int a1]) (rest := [.int a2, .int (a0 ||| ((1 : Int32) <<< (((6 : Int32) + a1) &&& 31)))]) hF hH hl (tX0_leftAt l E hF.j _ _ _ hv1) tk_278 tk_279 tk_48 tk_280 rfl rfl hdX0_leftAt ⟨Nat.le_of_ble_eq_true rfl, Nat.le_of_ble_eq_true rfl⟩ rfl rfl (Nat.le_of_ble_eq_true rfl) dX0_withStarted_10 (fun H locs hH => ?_)
  refine lv_ishl hF.x hF.b dX0_withStarted_13 ?_
  refine lv_ior hF.x hF.b dX0_withStarted_14 ?_
  exact hret _ _ _ _ _ _ hH h dX0_withStarted_15
theorem hdX0_withStopped : yX0_withStopped.cls ≠ "java/lang/invoke/MethodHandle" ∧ yX0_withStopped.cls ≠ "java/lang/invoke/VarHandle" ∧ (parseMethodDescriptor yX0_withStopped.desc).map (fun d => d.parameters.length) = some 2 := by decide +kernel
set_option maxHeartbeats 4000000 in
set_option maxRecDepth 100000 in
theorem tX0_withStopped (l : Launch) (E : Ev) (hj : Inj kC E) (a0 : Int32) (a1 : Int32) (σ : Sg) (r : Int32 × Sg) (h : fX0_withStopped a0 a1 σ = some r) : CI l yX0_withStopped cX0_withStopped 2 (some FieldType.int) (rmk 1 20) kC E [.int a0, .int a1] σ r := by
  refine CI_i (lv := [(0, .int a0), (1, .int a1)]) (by decide) hj (Nat.le_of_ble_eq_true rfl) rfl (fun p e s m args below meth c ls Q hF hret hH hl => ?_)
  unfold fX0_withStopped at h
  refine lv_iload_n hF.x hF.b dX0_withStopped_0 rfl (lv_at hl 0 rfl) ?_
  refine lv_iconst (v := 1) hF.x hF.b dX0_withStopped_1 (by decide) ?_
  refine lv_bipush (v := 6) hF.x hF.b dX0_withStopped_2 (by decide) ?_
  refine lv_iload_n hF.x hF.b dX0_withStopped_4 rfl (lv_at hl 1 rfl) ?_
  refine lv_iadd hF.x hF.b dX0_withStopped_5 ?_
  refine lv_ishl hF.x hF.b dX0_withStopped_6 ?_
  refine lv_iconst (v := (-1)) hF.x hF.b dX0_withStopped_7 (by decide) ?_
  refine lv_ixor hF.x hF.b dX0_withStopped_8 ?_
  refine lv_iand hF.x hF.b dX0_withStopped_9 ?_
  refine lv_iconst (v := 3) hF.x hF.b dX0_withStopped_10 (by decide) ?_
  refine lv_iload_n hF.x hF.b dX0_withStopped_11 rfl (lv_at hl 1 rfl) ?_
  replace h := bd_some h
  obtain ⟨v1, σ2, hv1, h⟩ := h
  refine w_cSi (As := [.int a1]) (rest := [.int 3, .int (a0 &&& (((1 : Int32) <<< (((6 : Int32) + a1) &&& 31)) ^^^ (-1 : Int32)))]) hF hH hl (tX0_leftAt l E hF.j _ _ _ hv1) tk_278 tk_279 tk_48 tk_280 rfl rfl hdX0_leftAt ⟨Nat.le_of_ble_eq_true rfl, Nat.le_of_ble_eq_true rfl⟩ rfl rfl (Nat.le_of_ble_eq_true rfl) dX0_withStopped_12 (fun H locs hH => ?_)
  refine lv_ishl hF.x hF.b dX0_withStopped_15 ?_
  refine lv_iconst (v := (-1)) hF.x hF.b dX0_withStopped_16 (by decide) ?_
  refine lv_ixor hF.x hF.b dX0_withStopped_17 ?_
  refine lv_iand hF.x hF.b dX0_withStopped_18 ?_
  exact hret _ _ _ _ _ _ hH h dX0_withStopped_19
theorem hdX0_withClosed : yX0_withClosed.cls ≠ "java/lang/invoke/MethodHandle" ∧ yX0_withClosed.cls ≠ "java/lang/invoke/VarHandle" ∧ (parseMethodDescriptor yX0_withClosed.desc).map (fun d => d.parameters.length) = some 2 := by decide +kernel
set_option maxHeartbeats 4000000 in
set_option maxRecDepth 100000 in
theorem tX0_withClosed (l : Launch) (E : Ev) (hj : Inj kC E) (a0 : Int32) (a1 : Int32) (σ : Sg) (r : Int32 × Sg) (h : fX0_withClosed a0 a1 σ = some r) : CI l yX0_withClosed cX0_withClosed 2 (some FieldType.int) (rmk 0 0) kC E [.int a0, .int a1] σ r := by
  refine CI_i (lv := [(0, .int a0), (1, .int a1)]) (by decide) hj (Nat.le_of_ble_eq_true rfl) rfl (fun p e s m args below meth c ls Q hF hret hH hl => ?_)
  unfold fX0_withClosed at h
  refine lv_iload_n hF.x hF.b dX0_withClosed_0 rfl (lv_at hl 0 rfl) ?_
  refine lv_iconst (v := 1) hF.x hF.b dX0_withClosed_1 (by decide) ?_
  refine lv_iload_n hF.x hF.b dX0_withClosed_2 rfl (lv_at hl 1 rfl) ?_
  refine lv_ishl hF.x hF.b dX0_withClosed_3 ?_
  refine lv_ior hF.x hF.b dX0_withClosed_4 ?_
  exact hret _ _ _ _ _ _ hH h dX0_withClosed_5
theorem hdX0_withOpened : yX0_withOpened.cls ≠ "java/lang/invoke/MethodHandle" ∧ yX0_withOpened.cls ≠ "java/lang/invoke/VarHandle" ∧ (parseMethodDescriptor yX0_withOpened.desc).map (fun d => d.parameters.length) = some 2 := by decide +kernel
set_option maxHeartbeats 4000000 in
set_option maxRecDepth 100000 in
theorem tX0_withOpened (l : Launch) (E : Ev) (hj : Inj kC E) (a0 : Int32) (a1 : Int32) (σ : Sg) (r : Int32 × Sg) (h : fX0_withOpened a0 a1 σ = some r) : CI l yX0_withOpened cX0_withOpened 2 (some FieldType.int) (rmk 0 0) kC E [.int a0, .int a1] σ r := by
  refine CI_i (lv := [(0, .int a0), (1, .int a1)]) (by decide) hj (Nat.le_of_ble_eq_true rfl) rfl (fun p e s m args below meth c ls Q hF hret hH hl => ?_)
  unfold fX0_withOpened at h
  refine lv_iload_n hF.x hF.b dX0_withOpened_0 rfl (lv_at hl 0 rfl) ?_
  refine lv_iload_n hF.x hF.b dX0_withOpened_1 rfl (lv_at hl 1 rfl) ?_
  refine lv_iconst (v := (-1)) hF.x hF.b dX0_withOpened_2 (by decide) ?_
  refine lv_ixor hF.x hF.b dX0_withOpened_3 ?_
  refine lv_iand hF.x hF.b dX0_withOpened_4 ?_
  exact hret _ _ _ _ _ _ hH h dX0_withOpened_5
theorem hdX5_setOfFirst : yX5_setOfFirst.cls ≠ "java/lang/invoke/MethodHandle" ∧ yX5_setOfFirst.cls ≠ "java/lang/invoke/VarHandle" ∧ (parseMethodDescriptor yX5_setOfFirst.desc).map (fun d => d.parameters.length) = some 1 := by decide +kernel
set_option maxHeartbeats 4000000 in
set_option maxRecDepth 100000 in
theorem tX5_setOfFirst (l : Launch) (E : Ev) (hj : Inj kC E) (a0 : Int32) (σ : Sg) (r : Int32 × Sg) (h : fX5_setOfFirst a0 σ = some r) : CI l yX5_setOfFirst cX5_setOfFirst 1 (some FieldType.int) (rmk 0 0) kC E [.int a0] σ r := by
  refine CI_i (lv := [(0, .int a0)]) (by decide) hj (Nat.le_of_ble_eq_true rfl) rfl (fun p e s m args below meth c ls Q hF hret hH hl => ?_)
  unfold fX5_setOfFirst at h
  refine lv_iconst (v := 1) hF.x hF.b dX5_setOfFirst_0 (by decide) ?_
  refine lv_iload_n hF.x hF.b dX5_setOfFirst_1 rfl (lv_at hl 0 rfl) ?_
  refine lv_ishl hF.x hF.b dX5_setOfFirst_2 ?_
  refine lv_iconst (v := 1) hF.x hF.b dX5_setOfFirst_3 (by decide) ?_
  refine lv_isub hF.x hF.b dX5_setOfFirst_4 ?_
  exact hret _ _ _ _ _ _ hH h dX5_setOfFirst_5
theorem hdX5_isWithin : yX5_isWithin.cls ≠ "java/lang/invoke/MethodHandle" ∧ yX5_isWithin.cls ≠ "java/lang/invoke/VarHandle" ∧ (parseMethodDescriptor yX5_isWithin.desc).map (fun d => d.parameters.length) = some 2 := by decide +kernel
set_option maxHeartbeats 4000000 in
set_option maxRecDepth 100000 in
theorem tX5_isWithin (l : Launch) (E : Ev) (hj : Inj kC E) (a0 : Int32) (a1 : Int32) (σ : Sg) (r : Int32 × Sg) (h : fX5_isWithin a0 a1 σ = some r) : CI l yX5_isWithin cX5_isWithin 2 (some FieldType.boolean) (rmk 0 0) kC E [.int a0, .int a1] σ r := by
  refine CI_z (lv := [(0, .int a0), (1, .int a1)]) (by decide) hj (Nat.le_of_ble_eq_true rfl) rfl (fun p e s m args below meth c ls Q hF hret hH hl => ?_)
  have w14 : ∀ (t0 : Int32) (σ : Sg) (H : Heap) (locs : List Loc) (ls : Array Slot), fX5_isWithin_14 t0 σ = some r → HP kC E s σ H locs → lv_has ls 2 [] → W p l e (rmk 0 0) s m args below meth c H locs 0 0 Q (F0 m 14 ls [.int t0]) := by
    intro t0 σ H locs ls h hH hl
    unfold fX5_isWithin_14 at h
    exact hret _ _ _ _ _ _ hH h dX5_isWithin_14
  have w13 : ∀ (σ : Sg) (H : Heap) (locs : List Loc) (ls : Array Slot), fX5_isWithin_13 σ = some r → HP kC E s σ H locs → lv_has ls 2 [] → W p l e (rmk 0 0) s m args below meth c H locs 0 0 Q (F0 m 13 ls []) := by
    intro σ H locs ls h hH hl
    unfold fX5_isWithin_13 at h
    refine lv_iconst (v := 0) hF.x hF.b dX5_isWithin_13 (by decide) ?_
    exact w14 _ _ _ _ _ h hH (lv_sub hl [] rfl)
  unfold fX5_isWithin at h
  refine lv_iload_n hF.x hF.b dX5_isWithin_0 rfl (lv_at hl 0 rfl) ?_
  refine lv_if_lt (tgt := 13) hF.x hF.b dX5_isWithin_1 (by decide) (fun c1 => ?_) (fun c1 => ?_)
  · rw [if_pos c1] at h
    exact w13 _ _ _ _ h hH (lv_sub hl [] rfl)
  · rw [if_neg c1] at h
    refine lv_iload_n hF.x hF.b dX5_isWithin_4 rfl (lv_at hl 0 rfl) ?_
    refine lv_iload_n hF.x hF.b dX5_isWithin_5 rfl (lv_at hl 1 rfl) ?_
    refine lv_icmp_gt (tgt := 13) hF.x hF.b dX5_isWithin_6 (by decide) (fun c2 => ?_) (fun c2 => ?_)
    · rw [if_pos c2] at h
      exact w13 _ _ _ _ h hH (lv_sub hl [] rfl)
    · rw [if_neg c2] at h
      refine lv_iconst (v := 1) hF.x hF.b dX5_isWithin_9 (by decide) ?_
      refine lv_goto (tgt := 14) hF.x hF.b dX5_isWithin_10 (by decide) ?_
      exact w14 _ _ _ _ _ h hH (lv_sub hl [] rfl)
theorem hdX5_isBus : yX5_isBus.cls ≠ "java/lang/invoke/MethodHandle" ∧ yX5_isBus.cls ≠ "java/lang/invoke/VarHandle" ∧ (parseMethodDescriptor yX5_isBus.desc).map (fun d => d.parameters.length) = some 1 := by decide +kernel
set_option maxHeartbeats 4000000 in
set_option maxRecDepth 100000 in
theorem tX5_isBus (l : Launch) (E : Ev) (hj : Inj kC E) (a0 : Int32) (σ : Sg) (r : Int32 × Sg) (h : fX5_isBus a0 σ = some r) : CI l yX5_isBus cX5_isBus 1 (some FieldType.boolean) (rmk 1 21) kC E [.int a0] σ r := by
  refine CI_z (lv := [(0, .int a0)]) (by decide) hj (Nat.le_of_ble_eq_true rfl) rfl (fun p e s m args below meth c ls Q hF hret hH hl => ?_)
  unfold fX5_isBus at h
  refine lv_iload_n hF.x hF.b dX5_isBus_0 rfl (lv_at hl 0 rfl) ?_
  refine lv_iconst (v := 5) hF.x hF.b dX5_isBus_1 (by decide) ?_
  replace h := bd_some h
  obtain ⟨v1, σ2, hv1, h⟩ := h
  refine w_cSi (As := [.int a0, .int 5]) (rest := []) hF hH hl (tX5_isWithin l E hF.j _ _ _ _ hv1) tk_197 tk_198 tk_41 tk_199 rfl rfl hdX5_isWithin ⟨Nat.le_of_ble_eq_true rfl, Nat.le_of_ble_eq_true rfl⟩ rfl rfl (Nat.le_of_ble_eq_true rfl) dX5_isBus_2 (fun H locs hH => ?_)
  exact hret _ _ _ _ _ _ hH h dX5_isBus_5
theorem hdJ6_bitCount_0f7a4 : yJ6_bitCount_0f7a4.cls ≠ "java/lang/invoke/MethodHandle" ∧ yJ6_bitCount_0f7a4.cls ≠ "java/lang/invoke/VarHandle" ∧ (parseMethodDescriptor yJ6_bitCount_0f7a4.desc).map (fun d => d.parameters.length) = some 1 := by decide +kernel
set_option maxHeartbeats 4000000 in
set_option maxRecDepth 100000 in
theorem tJ6_bitCount_0f7a4 (l : Launch) (E : Ev) (hj : Inj kC E) (a0 : Int32) (σ : Sg) (r : Int32 × Sg) (h : fJ6_bitCount_0f7a4 a0 σ = some r) : CI l yJ6_bitCount_0f7a4 cJ6_bitCount_0f7a4 1 (some FieldType.int) (rmk 0 0) kC E [.int a0] σ r := by
  refine CI_i (lv := [(0, .int a0)]) (by decide) hj (Nat.le_of_ble_eq_true rfl) rfl (fun p e s m args below meth c ls Q hF hret hH hl => ?_)
  unfold fJ6_bitCount_0f7a4 at h
  refine lv_iload_n hF.x hF.b dJ6_bitCount_0f7a4_0 rfl (lv_at hl 0 rfl) ?_
  refine lv_iload_n hF.x hF.b dJ6_bitCount_0f7a4_1 rfl (lv_at hl 0 rfl) ?_
  refine lv_iconst (v := 1) hF.x hF.b dJ6_bitCount_0f7a4_2 (by decide) ?_
  refine lv_iushr hF.x hF.b dJ6_bitCount_0f7a4_3 rfl ?_
  refine lv_ldcw (v := 1431655765) hF.x hF.b hF.o (hF.t _ tk_247) dJ6_bitCount_0f7a4_4 ?_
  refine lv_iand hF.x hF.b dJ6_bitCount_0f7a4_7 ?_
  refine lv_isub hF.x hF.b dJ6_bitCount_0f7a4_8 ?_
  refine lv_topi (fun y1 ey1 => ?_)
  replace h := sv_at h ey1
  clear ey1
  refine lv_istore_n (lv' := [(0, .int y1)]) hF.x hF.b dJ6_bitCount_0f7a4_9 rfl hl (by decide) rfl (fun ls hl => ?_)
  refine lv_iload_n hF.x hF.b dJ6_bitCount_0f7a4_10 rfl (lv_at hl 0 rfl) ?_
  refine lv_ldcw (v := 858993459) hF.x hF.b hF.o (hF.t _ tk_248) dJ6_bitCount_0f7a4_11 ?_
  refine lv_iand hF.x hF.b dJ6_bitCount_0f7a4_14 ?_
  refine lv_iload_n hF.x hF.b dJ6_bitCount_0f7a4_15 rfl (lv_at hl 0 rfl) ?_
  refine lv_iconst (v := 2) hF.x hF.b dJ6_bitCount_0f7a4_16 (by decide) ?_
  refine lv_iushr hF.x hF.b dJ6_bitCount_0f7a4_17 rfl ?_
  refine lv_ldcw (v := 858993459) hF.x hF.b hF.o (hF.t _ tk_248) dJ6_bitCount_0f7a4_18 ?_
  refine lv_iand hF.x hF.b dJ6_bitCount_0f7a4_21 ?_
  refine lv_iadd hF.x hF.b dJ6_bitCount_0f7a4_22 ?_
  refine lv_topi (fun y2 ey2 => ?_)
  replace h := sv_at h ey2
  clear ey2
  refine lv_istore_n (lv' := [(0, .int y2)]) hF.x hF.b dJ6_bitCount_0f7a4_23 rfl hl (by decide) rfl (fun ls hl => ?_)
  refine lv_iload_n hF.x hF.b dJ6_bitCount_0f7a4_24 rfl (lv_at hl 0 rfl) ?_
  refine lv_iload_n hF.x hF.b dJ6_bitCount_0f7a4_25 rfl (lv_at hl 0 rfl) ?_
  refine lv_iconst (v := 4) hF.x hF.b dJ6_bitCount_0f7a4_26 (by decide) ?_
  refine lv_iushr hF.x hF.b dJ6_bitCount_0f7a4_27 rfl ?_
  refine lv_iadd hF.x hF.b dJ6_bitCount_0f7a4_28 ?_
  refine lv_ldcw (v := 252645135) hF.x hF.b hF.o (hF.t _ tk_249) dJ6_bitCount_0f7a4_29 ?_
  refine lv_iand hF.x hF.b dJ6_bitCount_0f7a4_32 ?_
  refine lv_topi (fun y3 ey3 => ?_)
  replace h := sv_at h ey3
  clear ey3
  refine lv_istore_n (lv' := [(0, .int y3)]) hF.x hF.b dJ6_bitCount_0f7a4_33 rfl hl (by decide) rfl (fun ls hl => ?_)
  refine lv_iload_n hF.x hF.b dJ6_bitCount_0f7a4_34 rfl (lv_at hl 0 rfl) ?_
  refine lv_iload_n hF.x hF.b dJ6_bitCount_0f7a4_35 rfl (lv_at hl 0 rfl) ?_
  refine lv_bipush (v := 8) hF.x hF.b dJ6_bitCount_0f7a4_36 (by decide) ?_
  refine lv_iushr hF.x hF.b dJ6_bitCount_0f7a4_38 rfl ?_
  refine lv_iadd hF.x hF.b dJ6_bitCount_0f7a4_39 ?_
  refine lv_topi (fun y4 ey4 => ?_)
  replace h := sv_at h ey4
  clear ey4
  refine lv_istore_n (lv' := [(0, .int y4)]) hF.x hF.b dJ6_bitCount_0f7a4_40 rfl hl (by decide) rfl (fun ls hl => ?_)
  refine lv_iload_n hF.x hF.b dJ6_bitCount_0f7a4_41 rfl (lv_at hl 0 rfl) ?_
  refine lv_iload_n hF.x hF.b dJ6_bitCount_0f7a4_42 rfl (lv_at hl 0 rfl) ?_
  refine lv_bipush (v := 16) hF.x hF.b dJ6_bitCount_0f7a4_43 (by decide) ?_
  refine lv_iushr hF.x hF.b dJ6_bitCount_0f7a4_45 rfl ?_
  refine lv_iadd hF.x hF.b dJ6_bitCount_0f7a4_46 ?_
  refine lv_topi (fun y5 ey5 => ?_)
  replace h := sv_at h ey5
  clear ey5
  refine lv_istore_n (lv' := [(0, .int y5)]) hF.x hF.b dJ6_bitCount_0f7a4_47 rfl hl (by decide) rfl (fun ls hl => ?_)
  refine lv_iload_n hF.x hF.b dJ6_bitCount_0f7a4_48 rfl (lv_at hl 0 rfl) ?_
  refine lv_bipush (v := 63) hF.x hF.b dJ6_bitCount_0f7a4_49 (by decide) ?_
  refine lv_iand hF.x hF.b dJ6_bitCount_0f7a4_51 ?_
  exact hret _ _ _ _ _ _ hH h dJ6_bitCount_0f7a4_52
end
section
theorem hdX1_hasLine : yX1_hasLine.cls = RX1 ∧ yX1_hasLine.cls ≠ "java/lang/invoke/MethodHandle" ∧ yX1_hasLine.cls ≠ "java/lang/invoke/VarHandle" ∧ (parseMethodDescriptor yX1_hasLine.desc).map (fun d => d.parameters.length) = some 1 := by decide +kernel
set_option maxHeartbeats 4000000 in
set_option maxRecDepth 100000 in
theorem tX1_hasLine (l : Launch) (E : Ev) (hj : Inj kC E) (a1 : Int32) (σ : Sg) (r : Int32 × Sg) (h : fX1_hasLine a1 σ = some r) : CI l yX1_hasLine cX1_hasLine 2 (some FieldType.boolean) (rmk 0 0) kC E [.ref (eA E 1), .int a1] σ r := by
  refine CI_z (lv := [(0, .ref (eA E 1)), (1, .int a1)]) (by decide) hj (Nat.le_of_ble_eq_true rfl) rfl (fun p e s m args below meth c ls Q hF hret hH hl => ?_)
  have w17 : ∀ (t0 : Int32) (σ : Sg) (H : Heap) (locs : List Loc) (ls : Array Slot), fX1_hasLine_17 t0 σ = some r → HP kC E s σ H locs → lv_has ls 2 [(0, .ref (eA E 1))] → W p l e (rmk 0 0) s m args below meth c H locs 0 0 Q (F0 m 17 ls [.int t0]) := by
    intro t0 σ H locs ls h hH hl
    unfold fX1_hasLine_17 at h
    exact hret _ _ _ _ _ _ hH h dX1_hasLine_17
  have w16 : ∀ (σ : Sg) (H : Heap) (locs : List Loc) (ls : Array Slot), fX1_hasLine_16 σ = some r → HP kC E s σ H locs → lv_has ls 2 [(0, .ref (eA E 1))] → W p l e (rmk 0 0) s m args below meth c H locs 0 0 Q (F0 m 16 ls []) := by
    intro σ H locs ls h hH hl
    unfold fX1_hasLine_16 at h
    refine lv_iconst (v := 0) hF.x hF.b dX1_hasLine_16 (by decide) ?_
    exact w17 _ _ _ _ _ h hH (lv_sub hl [0] rfl)
  unfold fX1_hasLine at h
  refine lv_iload_n hF.x hF.b dX1_hasLine_0 rfl (lv_at hl 1 rfl) ?_
  refine lv_if_lt (tgt := 16) hF.x hF.b dX1_hasLine_1 (by decide) (fun c1 => ?_) (fun c1 => ?_)
  · rw [if_pos c1] at h
    exact w16 _ _ _ _ h hH (lv_sub hl [0] rfl)
  · rw [if_neg c1] at h
    refine lv_iload_n hF.x hF.b dX1_hasLine_4 rfl (lv_at hl 1 rfl) ?_
    refine lv_aload_n hF.x hF.b dX1_hasLine_5 rfl (lv_at hl 0 rfl) ?_
    refine gfC_1_0 hF hH tk_65 dX1_hasLine_6 ?_
    refine lv_icmp_ge (tgt := 16) hF.x hF.b dX1_hasLine_9 (by decide) (fun c2 => ?_) (fun c2 => ?_)
    · rw [if_pos c2] at h
      exact w16 _ _ _ _ h hH (lv_sub hl [0] rfl)
    · rw [if_neg c2] at h
      refine lv_iconst (v := 1) hF.x hF.b dX1_hasLine_12 (by decide) ?_
      refine lv_goto (tgt := 17) hF.x hF.b dX1_hasLine_13 (by decide) ?_
      exact w17 _ _ _ _ _ h hH (lv_sub hl [0] rfl)
theorem hdX1_hasMachine : yX1_hasMachine.cls = RX1 ∧ yX1_hasMachine.cls ≠ "java/lang/invoke/MethodHandle" ∧ yX1_hasMachine.cls ≠ "java/lang/invoke/VarHandle" ∧ (parseMethodDescriptor yX1_hasMachine.desc).map (fun d => d.parameters.length) = some 1 := by decide +kernel
set_option maxHeartbeats 4000000 in
set_option maxRecDepth 100000 in
theorem tX1_hasMachine (l : Launch) (E : Ev) (hj : Inj kC E) (a1 : Int32) (σ : Sg) (r : Int32 × Sg) (h : fX1_hasMachine a1 σ = some r) : CI l yX1_hasMachine cX1_hasMachine 2 (some FieldType.boolean) (rmk 0 0) kC E [.ref (eA E 1), .int a1] σ r := by
  refine CI_z (lv := [(0, .ref (eA E 1)), (1, .int a1)]) (by decide) hj (Nat.le_of_ble_eq_true rfl) rfl (fun p e s m args below meth c ls Q hF hret hH hl => ?_)
  have w17 : ∀ (t0 : Int32) (σ : Sg) (H : Heap) (locs : List Loc) (ls : Array Slot), fX1_hasMachine_17 t0 σ = some r → HP kC E s σ H locs → lv_has ls 2 [(0, .ref (eA E 1))] → W p l e (rmk 0 0) s m args below meth c H locs 0 0 Q (F0 m 17 ls [.int t0]) := by
    intro t0 σ H locs ls h hH hl
    unfold fX1_hasMachine_17 at h
    exact hret _ _ _ _ _ _ hH h dX1_hasMachine_17
  have w16 : ∀ (σ : Sg) (H : Heap) (locs : List Loc) (ls : Array Slot), fX1_hasMachine_16 σ = some r → HP kC E s σ H locs → lv_has ls 2 [(0, .ref (eA E 1))] → W p l e (rmk 0 0) s m args below meth c H locs 0 0 Q (F0 m 16 ls []) := by
    intro σ H locs ls h hH hl
    unfold fX1_hasMachine_16 at h
    refine lv_iconst (v := 0) hF.x hF.b dX1_hasMachine_16 (by decide) ?_
    exact w17 _ _ _ _ _ h hH (lv_sub hl [0] rfl)
  unfold fX1_hasMachine at h
  refine lv_iload_n hF.x hF.b dX1_hasMachine_0 rfl (lv_at hl 1 rfl) ?_
  refine lv_if_lt (tgt := 16) hF.x hF.b dX1_hasMachine_1 (by decide) (fun c1 => ?_) (fun c1 => ?_)
  · rw [if_pos c1] at h
    exact w16 _ _ _ _ h hH (lv_sub hl [0] rfl)
  · rw [if_neg c1] at h
    refine lv_iload_n hF.x hF.b dX1_hasMachine_4 rfl (lv_at hl 1 rfl) ?_
    refine lv_aload_n hF.x hF.b dX1_hasMachine_5 rfl (lv_at hl 0 rfl) ?_
    refine gfC_1_4 hF hH tk_80 dX1_hasMachine_6 ?_
    refine lv_icmp_ge (tgt := 16) hF.x hF.b dX1_hasMachine_9 (by decide) (fun c2 => ?_) (fun c2 => ?_)
    · rw [if_pos c2] at h
      exact w16 _ _ _ _ h hH (lv_sub hl [0] rfl)
    · rw [if_neg c2] at h
      refine lv_iconst (v := 1) hF.x hF.b dX1_hasMachine_12 (by decide) ?_
      refine lv_goto (tgt := 17) hF.x hF.b dX1_hasMachine_13 (by decide) ?_
      exact w17 _ _ _ _ _ h hH (lv_sub hl [0] rfl)
theorem hdX1_addLine : yX1_addLine.cls = RX1 ∧ yX1_addLine.cls ≠ "java/lang/invoke/MethodHandle" ∧ yX1_addLine.cls ≠ "java/lang/invoke/VarHandle" ∧ (parseMethodDescriptor yX1_addLine.desc).map (fun d => d.parameters.length) = some 3 := by decide +kernel
set_option maxHeartbeats 4000000 in
set_option maxRecDepth 100000 in
theorem tX1_addLine (l : Launch) (E : Ev) (hj : Inj kC E) (a1 : Int32) (a2 : Int32) (a3 : Int32) (σ : Sg) (r : Int32 × Sg) (h : fX1_addLine a1 a2 a3 σ = some r) : CI l yX1_addLine cX1_addLine 5 (some FieldType.int) (rmk 0 0) kC E [.ref (eA E 1), .int a1, .int a2, .int a3] σ r := by
  refine CI_i (lv := [(0, .ref (eA E 1)), (1, .int a1), (2, .int a2), (3, .int a3)]) (by decide) hj (Nat.le_of_ble_eq_true rfl) rfl (fun p e s m args below meth c ls Q hF hret hH hl => ?_)
  unfold fX1_addLine at h
  refine lv_aload_n hF.x hF.b dX1_addLine_0 rfl (lv_at hl 0 rfl) ?_
  refine gfC_1_0 hF hH tk_65 dX1_addLine_1 ?_
  refine lv_topi (fun y1 ey1 => ?_)
  replace h := sv_at h ey1
  clear ey1
  refine lv_istore (lv' := [(4, .int y1), (0, .ref (eA E 1)), (1, .int a1), (2, .int a2), (3, .int a3)]) hF.x hF.b dX1_addLine_4 hl (by decide) rfl (fun ls hl => ?_)
  refine lv_aload_n hF.x hF.b dX1_addLine_6 rfl (lv_at hl 1 rfl) ?_
  refine gfC_1_1 hF hH tk_68 dX1_addLine_7 ?_
  refine lv_iload hF.x hF.b dX1_addLine_10 (lv_at hl 0 rfl) ?_
  refine lv_iload_n hF.x hF.b dX1_addLine_12 rfl (lv_at hl 2 rfl) ?_
  refine asC_2 hF hH (gd_some h).1 dX1_addLine_13 (fun σ2 H locs eσ2 hH => ?_)
  replace h := sv_at (gd_some h).2 eσ2
  clear eσ2
  refine lv_aload_n hF.x hF.b dX1_addLine_14 rfl (lv_at hl 1 rfl) ?_
  refine gfC_1_2 hF hH tk_72 dX1_addLine_15 ?_
  refine lv_iload hF.x hF.b dX1_addLine_18 (lv_at hl 0 rfl) ?_
  refine lv_iload_n hF.x hF.b dX1_addLine_20 rfl (lv_at hl 3 rfl) ?_
  refine asC_3 hF hH (gd_some h).1 dX1_addLine_21 (fun σ3 H locs eσ3 hH => ?_)
  replace h := sv_at (gd_some h).2 eσ3
  clear eσ3
  refine lv_aload_n hF.x hF.b dX1_addLine_22 rfl (lv_at hl 1 rfl) ?_
  refine gfC_1_3 hF hH tk_76 dX1_addLine_23 ?_
  refine lv_iload hF.x hF.b dX1_addLine_26 (lv_at hl 0 rfl) ?_
  refine lv_iload_n hF.x hF.b dX1_addLine_28 rfl (lv_at hl 4 rfl) ?_
  refine asC_4 hF hH (gd_some h).1 dX1_addLine_29 (fun σ4 H locs eσ4 hH => ?_)
  replace h := sv_at (gd_some h).2 eσ4
  clear eσ4
  refine lv_aload_n hF.x hF.b dX1_addLine_30 rfl (lv_at hl 1 rfl) ?_
  refine lv_dup hF.x hF.b dX1_addLine_31 rfl ?_
  refine gfC_1_0 hF hH tk_65 dX1_addLine_32 ?_
  refine lv_iconst (v := 1) hF.x hF.b dX1_addLine_35 (by decide) ?_
  refine lv_iadd hF.x hF.b dX1_addLine_36 ?_
  refine pfC_1_0 hF hH tk_65 dX1_addLine_37 (fun σ5 H locs eσ5 hH => ?_)
  replace h := sv_at h eσ5
  clear eσ5
  refine lv_iload hF.x hF.b dX1_addLine_40 (lv_at hl 0 rfl) ?_
  exact hret _ _ _ _ _ _ hH h dX1_addLine_42
theorem hdX1_addMachine : yX1_addMachine.cls = RX1 ∧ yX1_addMachine.cls ≠ "java/lang/invoke/MethodHandle" ∧ yX1_addMachine.cls ≠ "java/lang/invoke/VarHandle" ∧ (parseMethodDescriptor yX1_addMachine.desc).map (fun d => d.parameters.length) = some 4 := by decide +kernel
set_option maxHeartbeats 4000000 in
set_option maxRecDepth 100000 in
theorem tX1_addMachine (l : Launch) (E : Ev) (hj : Inj kC E) (a1 : Int32) (a2 : Int32) (a3 : Int32) (a4 : Int32) (σ : Sg) (r : Int32 × Sg) (h : fX1_addMachine a1 a2 a3 a4 σ = some r) : CI l yX1_addMachine cX1_addMachine 6 (some FieldType.int) (rmk 0 0) kC E [.ref (eA E 1), .int a1, .int a2, .int a3, .int a4] σ r := by
  refine CI_i (lv := [(0, .ref (eA E 1)), (1, .int a1), (2, .int a2), (3, .int a3), (4, .int a4)]) (by decide) hj (Nat.le_of_ble_eq_true rfl) rfl (fun p e s m args below meth c ls Q hF hret hH hl => ?_)
  unfold fX1_addMachine at h
  refine lv_aload_n hF.x hF.b dX1_addMachine_0 rfl (lv_at hl 0 rfl) ?_
  refine gfC_1_4 hF hH tk_80 dX1_addMachine_1 ?_
  refine lv_topi (fun y1 ey1 => ?_)
  replace h := sv_at h ey1
  clear ey1
  refine lv_istore (lv' := [(5, .int y1), (0, .ref (eA E 1)), (1, .int a1), (2, .int a2), (3, .int a3), (4, .int a4)]) hF.x hF.b dX1_addMachine_4 hl (by decide) rfl (fun ls hl => ?_)
  refine lv_aload_n hF.x hF.b dX1_addMachine_6 rfl (lv_at hl 1 rfl) ?_
  refine gfC_1_5 hF hH tk_82 dX1_addMachine_7 ?_
  refine lv_iload hF.x hF.b dX1_addMachine_10 (lv_at hl 0 rfl) ?_
  refine lv_iload_n hF.x hF.b dX1_addMachine_12 rfl (lv_at hl 2 rfl) ?_
  refine asC_5 hF hH (gd_some h).1 dX1_addMachine_13 (fun σ2 H locs eσ2 hH => ?_)
  replace h := sv_at (gd_some h).2 eσ2
  clear eσ2
  refine lv_aload_n hF.x hF.b dX1_addMachine_14 rfl (lv_at hl 1 rfl) ?_
  refine gfC_1_6 hF hH tk_85 dX1_addMachine_15 ?_
  refine lv_iload hF.x hF.b dX1_addMachine_18 (lv_at hl 0 rfl) ?_
  refine lv_iload_n hF.x hF.b dX1_addMachine_20 rfl (lv_at hl 3 rfl) ?_
  refine asC_6 hF hH (gd_some h).1 dX1_addMachine_21 (fun σ3 H locs eσ3 hH => ?_)
  replace h := sv_at (gd_some h).2 eσ3
  clear eσ3
  refine lv_aload_n hF.x hF.b dX1_addMachine_22 rfl (lv_at hl 1 rfl) ?_
  refine gfC_1_7 hF hH tk_88 dX1_addMachine_23 ?_
  refine lv_iload hF.x hF.b dX1_addMachine_26 (lv_at hl 0 rfl) ?_
  refine lv_iload_n hF.x hF.b dX1_addMachine_28 rfl (lv_at hl 4 rfl) ?_
  refine asC_7 hF hH (gd_some h).1 dX1_addMachine_29 (fun σ4 H locs eσ4 hH => ?_)
  replace h := sv_at (gd_some h).2 eσ4
  clear eσ4
  refine lv_aload_n hF.x hF.b dX1_addMachine_30 rfl (lv_at hl 1 rfl) ?_
  refine gfC_1_8 hF hH tk_91 dX1_addMachine_31 ?_
  refine lv_iload hF.x hF.b dX1_addMachine_34 (lv_at hl 0 rfl) ?_
  refine lv_iload hF.x hF.b dX1_addMachine_36 (lv_at hl 5 rfl) ?_
  refine asC_8 hF hH (gd_some h).1 dX1_addMachine_38 (fun σ5 H locs eσ5 hH => ?_)
  replace h := sv_at (gd_some h).2 eσ5
  clear eσ5
  refine lv_aload_n hF.x hF.b dX1_addMachine_39 rfl (lv_at hl 1 rfl) ?_
  refine lv_dup hF.x hF.b dX1_addMachine_40 rfl ?_
  refine gfC_1_4 hF hH tk_80 dX1_addMachine_41 ?_
  refine lv_iconst (v := 1) hF.x hF.b dX1_addMachine_44 (by decide) ?_
  refine lv_iadd hF.x hF.b dX1_addMachine_45 ?_
  refine pfC_1_4 hF hH tk_80 dX1_addMachine_46 (fun σ6 H locs eσ6 hH => ?_)
  replace h := sv_at h eσ6
  clear eσ6
  refine lv_iload hF.x hF.b dX1_addMachine_49 (lv_at hl 0 rfl) ?_
  exact hret _ _ _ _ _ _ hH h dX1_addMachine_51
theorem hdX1_copyFrom : yX1_copyFrom.cls = RX1 ∧ yX1_copyFrom.cls ≠ "java/lang/invoke/MethodHandle" ∧ yX1_copyFrom.cls ≠ "java/lang/invoke/VarHandle" ∧ (parseMethodDescriptor yX1_copyFrom.desc).map (fun d => d.parameters.length) = some 1 := by decide +kernel
set_option maxHeartbeats 4000000 in
set_option maxRecDepth 100000 in
theorem tX1_copyFrom_18_1 (l : Launch) (E : Ev) (hj : Inj kC E) (σ : Sg) (r : Int32 × Sg) (h : fX1_copyFrom_18_1 σ = some r) : CV l yX1_copyFrom cX1_copyFrom 2 (rmk 1 40) kC E [.ref (eA E 18), .ref (eA E 1)] σ r := by
  refine CV_v (lv := [(0, .ref (eA E 18)), (1, .ref (eA E 1))]) (by decide) hj (Nat.le_of_ble_eq_true rfl) rfl (fun p e s m args below meth c ls Q hF hret hH hl => ?_)
  unfold fX1_copyFrom_18_1 at h
  refine lv_aload_n hF.x hF.b dX1_copyFrom_0 rfl (lv_at hl 0 rfl) ?_
  refine lv_aload_n hF.x hF.b dX1_copyFrom_1 rfl (lv_at hl 1 rfl) ?_
  refine gfC_1_0 hF hH tk_65 dX1_copyFrom_2 ?_
  refine pfC_18_0 hF hH tk_65 dX1_copyFrom_5 (fun σ1 H locs eσ1 hH => ?_)
  replace h := sv_at h eσ1
  clear eσ1
  refine lv_aload_n hF.x hF.b dX1_copyFrom_8 rfl (lv_at hl 0 rfl) ?_
  refine lv_aload_n hF.x hF.b dX1_copyFrom_9 rfl (lv_at hl 1 rfl) ?_
  refine gfC_1_4 hF hH tk_80 dX1_copyFrom_10 ?_
  refine pfC_18_4 hF hH tk_80 dX1_copyFrom_13 (fun σ2 H locs eσ2 hH => ?_)
  replace h := sv_at h eσ2
  clear eσ2
  refine lv_aload_n hF.x hF.b dX1_copyFrom_16 rfl (lv_at hl 0 rfl) ?_
  refine lv_aload_n hF.x hF.b dX1_copyFrom_17 rfl (lv_at hl 1 rfl) ?_
  refine gfC_1_9 hF hH tk_94 dX1_copyFrom_18 ?_
  refine pfC_18_9 hF hH tk_94 dX1_copyFrom_21 (fun σ3 H locs eσ3 hH => ?_)
  replace h := sv_at h eσ3
  clear eσ3
  refine lv_aload_n hF.x hF.b dX1_copyFrom_24 rfl (lv_at hl 0 rfl) ?_
  refine lv_aload_n hF.x hF.b dX1_copyFrom_25 rfl (lv_at hl 1 rfl) ?_
  refine gfC_1_10 hF hH tk_97 dX1_copyFrom_26 ?_
  refine pfC_18_10 hF hH tk_97 dX1_copyFrom_29 (fun σ4 H locs eσ4 hH => ?_)
  replace h := sv_at h eσ4
  clear eσ4
  refine lv_aload_n hF.x hF.b dX1_copyFrom_32 rfl (lv_at hl 1 rfl) ?_
  refine gfC_1_1 hF hH tk_68 dX1_copyFrom_33 ?_
  refine lv_iconst (v := 0) hF.x hF.b dX1_copyFrom_36 (by decide) ?_
  refine lv_aload_n hF.x hF.b dX1_copyFrom_37 rfl (lv_at hl 0 rfl) ?_
  refine gfC_18_1 hF hH tk_68 dX1_copyFrom_38 ?_
  refine lv_iconst (v := 0) hF.x hF.b dX1_copyFrom_41 (by decide) ?_
  refine lv_bipush (v := 6) hF.x hF.b dX1_copyFrom_42 (by decide) ?_
  refine w_cpy (n := 6) hF hH hl 2 19 (by decide) (by decide) (fun _ => rfl) (fun _ => rfl) tk_455 tk_457 tk_456 tk_50 (by decide) (by decide) (by decide) (Nat.le_of_ble_eq_true rfl) (by decide +kernel) dX1_copyFrom_44 (fun σ5 H locs eσ5 hH => ?_)
  replace h := sv_at h eσ5
  clear eσ5
  refine lv_aload_n hF.x hF.b dX1_copyFrom_47 rfl (lv_at hl 1 rfl) ?_
  refine gfC_1_2 hF hH tk_72 dX1_copyFrom_48 ?_
  refine lv_iconst (v := 0) hF.x hF.b dX1_copyFrom_51 (by decide) ?_
  refine lv_aload_n hF.x hF.b dX1_copyFrom_52 rfl (lv_at hl 0 rfl) ?_
  refine gfC_18_2 hF hH tk_72 dX1_copyFrom_53 ?_
  refine lv_iconst (v := 0) hF.x hF.b dX1_copyFrom_56 (by decide) ?_
  refine lv_bipush (v := 6) hF.x hF.b dX1_copyFrom_57 (by decide) ?_
  refine w_cpy (n := 6) hF hH hl 3 20 (by decide) (by decide) (fun _ => rfl) (fun _ => rfl) tk_455 tk_457 tk_456 tk_50 (by decide) (by decide) (by decide) (Nat.le_of_ble_eq_true rfl) (by decide +kernel) dX1_copyFrom_59 (fun σ6 H locs eσ6 hH => ?_)
  replace h := sv_at h eσ6
  clear eσ6
  refine lv_aload_n hF.x hF.b dX1_copyFrom_62 rfl (lv_at hl 1 rfl) ?_
  refine gfC_1_3 hF hH tk_76 dX1_copyFrom_63 ?_
  refine lv_iconst (v := 0) hF.x hF.b dX1_copyFrom_66 (by decide) ?_
  refine lv_aload_n hF.x hF.b dX1_copyFrom_67 rfl (lv_at hl 0 rfl) ?_
  refine gfC_18_3 hF hH tk_76 dX1_copyFrom_68 ?_
  refine lv_iconst (v := 0) hF.x hF.b dX1_copyFrom_71 (by decide) ?_
  refine lv_bipush (v := 6) hF.x hF.b dX1_copyFrom_72 (by decide) ?_
  refine w_cpy (n := 6) hF hH hl 4 21 (by decide) (by decide) (fun _ => rfl) (fun _ => rfl) tk_455 tk_457 tk_456 tk_50 (by decide) (by decide) (by decide) (Nat.le_of_ble_eq_true rfl) (by decide +kernel) dX1_copyFrom_74 (fun σ7 H locs eσ7 hH => ?_)
  replace h := sv_at h eσ7
  clear eσ7
  refine lv_aload_n hF.x hF.b dX1_copyFrom_77 rfl (lv_at hl 1 rfl) ?_
  refine gfC_1_5 hF hH tk_82 dX1_copyFrom_78 ?_
  refine lv_iconst (v := 0) hF.x hF.b dX1_copyFrom_81 (by decide) ?_
  refine lv_aload_n hF.x hF.b dX1_copyFrom_82 rfl (lv_at hl 0 rfl) ?_
  refine gfC_18_5 hF hH tk_82 dX1_copyFrom_83 ?_
  refine lv_iconst (v := 0) hF.x hF.b dX1_copyFrom_86 (by decide) ?_
  refine lv_iconst (v := 3) hF.x hF.b dX1_copyFrom_87 (by decide) ?_
  refine w_cpy (n := 3) hF hH hl 5 22 (by decide) (by decide) (fun _ => rfl) (fun _ => rfl) tk_455 tk_457 tk_456 tk_50 (by decide) (by decide) (by decide) (Nat.le_of_ble_eq_true rfl) (by decide +kernel) dX1_copyFrom_88 (fun σ8 H locs eσ8 hH => ?_)
  replace h := sv_at h eσ8
  clear eσ8
  refine lv_aload_n hF.x hF.b dX1_copyFrom_91 rfl (lv_at hl 1 rfl) ?_
  refine gfC_1_6 hF hH tk_85 dX1_copyFrom_92 ?_
  refine lv_iconst (v := 0) hF.x hF.b dX1_copyFrom_95 (by decide) ?_
  refine lv_aload_n hF.x hF.b dX1_copyFrom_96 rfl (lv_at hl 0 rfl) ?_
  refine gfC_18_6 hF hH tk_85 dX1_copyFrom_97 ?_
  refine lv_iconst (v := 0) hF.x hF.b dX1_copyFrom_100 (by decide) ?_
  refine lv_iconst (v := 3) hF.x hF.b dX1_copyFrom_101 (by decide) ?_
  refine w_cpy (n := 3) hF hH hl 6 23 (by decide) (by decide) (fun _ => rfl) (fun _ => rfl) tk_455 tk_457 tk_456 tk_50 (by decide) (by decide) (by decide) (Nat.le_of_ble_eq_true rfl) (by decide +kernel) dX1_copyFrom_102 (fun σ9 H locs eσ9 hH => ?_)
  replace h := sv_at h eσ9
  clear eσ9
  refine lv_aload_n hF.x hF.b dX1_copyFrom_105 rfl (lv_at hl 1 rfl) ?_
  refine gfC_1_7 hF hH tk_88 dX1_copyFrom_106 ?_
  refine lv_iconst (v := 0) hF.x hF.b dX1_copyFrom_109 (by decide) ?_
  refine lv_aload_n hF.x hF.b dX1_copyFrom_110 rfl (lv_at hl 0 rfl) ?_
  refine gfC_18_7 hF hH tk_88 dX1_copyFrom_111 ?_
  refine lv_iconst (v := 0) hF.x hF.b dX1_copyFrom_114 (by decide) ?_
  refine lv_iconst (v := 3) hF.x hF.b dX1_copyFrom_115 (by decide) ?_
  refine w_cpy (n := 3) hF hH hl 7 24 (by decide) (by decide) (fun _ => rfl) (fun _ => rfl) tk_455 tk_457 tk_456 tk_50 (by decide) (by decide) (by decide) (Nat.le_of_ble_eq_true rfl) (by decide +kernel) dX1_copyFrom_116 (fun σ10 H locs eσ10 hH => ?_)
  replace h := sv_at h eσ10
  clear eσ10
  refine lv_aload_n hF.x hF.b dX1_copyFrom_119 rfl (lv_at hl 1 rfl) ?_
  refine gfC_1_8 hF hH tk_91 dX1_copyFrom_120 ?_
  refine lv_iconst (v := 0) hF.x hF.b dX1_copyFrom_123 (by decide) ?_
  refine lv_aload_n hF.x hF.b dX1_copyFrom_124 rfl (lv_at hl 0 rfl) ?_
  refine gfC_18_8 hF hH tk_91 dX1_copyFrom_125 ?_
  refine lv_iconst (v := 0) hF.x hF.b dX1_copyFrom_128 (by decide) ?_
  refine lv_iconst (v := 3) hF.x hF.b dX1_copyFrom_129 (by decide) ?_
  refine w_cpy (n := 3) hF hH hl 8 25 (by decide) (by decide) (fun _ => rfl) (fun _ => rfl) tk_455 tk_457 tk_456 tk_50 (by decide) (by decide) (by decide) (Nat.le_of_ble_eq_true rfl) (by decide +kernel) dX1_copyFrom_130 (fun σ11 H locs eσ11 hH => ?_)
  replace h := sv_at h eσ11
  clear eσ11
  exact hret _ _ _ _ _ hH h dX1_copyFrom_133
set_option maxHeartbeats 4000000 in
set_option maxRecDepth 100000 in
theorem tX1_copyFrom_26_1 (l : Launch) (E : Ev) (hj : Inj kC E) (σ : Sg) (r : Int32 × Sg) (h : fX1_copyFrom_26_1 σ = some r) : CV l yX1_copyFrom cX1_copyFrom 2 (rmk 1 40) kC E [.ref (eA E 26), .ref (eA E 1)] σ r := by
  refine CV_v (lv := [(0, .ref (eA E 26)), (1, .ref (eA E 1))]) (by decide) hj (Nat.le_of_ble_eq_true rfl) rfl (fun p e s m args below meth c ls Q hF hret hH hl => ?_)
  unfold fX1_copyFrom_26_1 at h
  refine lv_aload_n hF.x hF.b dX1_copyFrom_0 rfl (lv_at hl 0 rfl) ?_
  refine lv_aload_n hF.x hF.b dX1_copyFrom_1 rfl (lv_at hl 1 rfl) ?_
  refine gfC_1_0 hF hH tk_65 dX1_copyFrom_2 ?_
  refine pfC_26_0 hF hH tk_65 dX1_copyFrom_5 (fun σ1 H locs eσ1 hH => ?_)
  replace h := sv_at h eσ1
  clear eσ1
  refine lv_aload_n hF.x hF.b dX1_copyFrom_8 rfl (lv_at hl 0 rfl) ?_
  refine lv_aload_n hF.x hF.b dX1_copyFrom_9 rfl (lv_at hl 1 rfl) ?_
  refine gfC_1_4 hF hH tk_80 dX1_copyFrom_10 ?_
  refine pfC_26_4 hF hH tk_80 dX1_copyFrom_13 (fun σ2 H locs eσ2 hH => ?_)
  replace h := sv_at h eσ2
  clear eσ2
  refine lv_aload_n hF.x hF.b dX1_copyFrom_16 rfl (lv_at hl 0 rfl) ?_
  refine lv_aload_n hF.x hF.b dX1_copyFrom_17 rfl (lv_at hl 1 rfl) ?_
  refine gfC_1_9 hF hH tk_94 dX1_copyFrom_18 ?_
  refine pfC_26_9 hF hH tk_94 dX1_copyFrom_21 (fun σ3 H locs eσ3 hH => ?_)
  replace h := sv_at h eσ3
  clear eσ3
  refine lv_aload_n hF.x hF.b dX1_copyFrom_24 rfl (lv_at hl 0 rfl) ?_
  refine lv_aload_n hF.x hF.b dX1_copyFrom_25 rfl (lv_at hl 1 rfl) ?_
  refine gfC_1_10 hF hH tk_97 dX1_copyFrom_26 ?_
  refine pfC_26_10 hF hH tk_97 dX1_copyFrom_29 (fun σ4 H locs eσ4 hH => ?_)
  replace h := sv_at h eσ4
  clear eσ4
  refine lv_aload_n hF.x hF.b dX1_copyFrom_32 rfl (lv_at hl 1 rfl) ?_
  refine gfC_1_1 hF hH tk_68 dX1_copyFrom_33 ?_
  refine lv_iconst (v := 0) hF.x hF.b dX1_copyFrom_36 (by decide) ?_
  refine lv_aload_n hF.x hF.b dX1_copyFrom_37 rfl (lv_at hl 0 rfl) ?_
  refine gfC_26_1 hF hH tk_68 dX1_copyFrom_38 ?_
  refine lv_iconst (v := 0) hF.x hF.b dX1_copyFrom_41 (by decide) ?_
  refine lv_bipush (v := 6) hF.x hF.b dX1_copyFrom_42 (by decide) ?_
  refine w_cpy (n := 6) hF hH hl 2 27 (by decide) (by decide) (fun _ => rfl) (fun _ => rfl) tk_455 tk_457 tk_456 tk_50 (by decide) (by decide) (by decide) (Nat.le_of_ble_eq_true rfl) (by decide +kernel) dX1_copyFrom_44 (fun σ5 H locs eσ5 hH => ?_)
  replace h := sv_at h eσ5
  clear eσ5
  refine lv_aload_n hF.x hF.b dX1_copyFrom_47 rfl (lv_at hl 1 rfl) ?_
  refine gfC_1_2 hF hH tk_72 dX1_copyFrom_48 ?_
  refine lv_iconst (v := 0) hF.x hF.b dX1_copyFrom_51 (by decide) ?_
  refine lv_aload_n hF.x hF.b dX1_copyFrom_52 rfl (lv_at hl 0 rfl) ?_
  refine gfC_26_2 hF hH tk_72 dX1_copyFrom_53 ?_
  refine lv_iconst (v := 0) hF.x hF.b dX1_copyFrom_56 (by decide) ?_
  refine lv_bipush (v := 6) hF.x hF.b dX1_copyFrom_57 (by decide) ?_
  refine w_cpy (n := 6) hF hH hl 3 28 (by decide) (by decide) (fun _ => rfl) (fun _ => rfl) tk_455 tk_457 tk_456 tk_50 (by decide) (by decide) (by decide) (Nat.le_of_ble_eq_true rfl) (by decide +kernel) dX1_copyFrom_59 (fun σ6 H locs eσ6 hH => ?_)
  replace h := sv_at h eσ6
  clear eσ6
  refine lv_aload_n hF.x hF.b dX1_copyFrom_62 rfl (lv_at hl 1 rfl) ?_
  refine gfC_1_3 hF hH tk_76 dX1_copyFrom_63 ?_
  refine lv_iconst (v := 0) hF.x hF.b dX1_copyFrom_66 (by decide) ?_
  refine lv_aload_n hF.x hF.b dX1_copyFrom_67 rfl (lv_at hl 0 rfl) ?_
  refine gfC_26_3 hF hH tk_76 dX1_copyFrom_68 ?_
  refine lv_iconst (v := 0) hF.x hF.b dX1_copyFrom_71 (by decide) ?_
  refine lv_bipush (v := 6) hF.x hF.b dX1_copyFrom_72 (by decide) ?_
  refine w_cpy (n := 6) hF hH hl 4 29 (by decide) (by decide) (fun _ => rfl) (fun _ => rfl) tk_455 tk_457 tk_456 tk_50 (by decide) (by decide) (by decide) (Nat.le_of_ble_eq_true rfl) (by decide +kernel) dX1_copyFrom_74 (fun σ7 H locs eσ7 hH => ?_)
  replace h := sv_at h eσ7
  clear eσ7
  refine lv_aload_n hF.x hF.b dX1_copyFrom_77 rfl (lv_at hl 1 rfl) ?_
  refine gfC_1_5 hF hH tk_82 dX1_copyFrom_78 ?_
  refine lv_iconst (v := 0) hF.x hF.b dX1_copyFrom_81 (by decide) ?_
  refine lv_aload_n hF.x hF.b dX1_copyFrom_82 rfl (lv_at hl 0 rfl) ?_
  refine gfC_26_5 hF hH tk_82 dX1_copyFrom_83 ?_
  refine lv_iconst (v := 0) hF.x hF.b dX1_copyFrom_86 (by decide) ?_
  refine lv_iconst (v := 3) hF.x hF.b dX1_copyFrom_87 (by decide) ?_
  refine w_cpy (n := 3) hF hH hl 5 30 (by decide) (by decide) (fun _ => rfl) (fun _ => rfl) tk_455 tk_457 tk_456 tk_50 (by decide) (by decide) (by decide) (Nat.le_of_ble_eq_true rfl) (by decide +kernel) dX1_copyFrom_88 (fun σ8 H locs eσ8 hH => ?_)
  replace h := sv_at h eσ8
  clear eσ8
  refine lv_aload_n hF.x hF.b dX1_copyFrom_91 rfl (lv_at hl 1 rfl) ?_
  refine gfC_1_6 hF hH tk_85 dX1_copyFrom_92 ?_
  refine lv_iconst (v := 0) hF.x hF.b dX1_copyFrom_95 (by decide) ?_
  refine lv_aload_n hF.x hF.b dX1_copyFrom_96 rfl (lv_at hl 0 rfl) ?_
  refine gfC_26_6 hF hH tk_85 dX1_copyFrom_97 ?_
  refine lv_iconst (v := 0) hF.x hF.b dX1_copyFrom_100 (by decide) ?_
  refine lv_iconst (v := 3) hF.x hF.b dX1_copyFrom_101 (by decide) ?_
  refine w_cpy (n := 3) hF hH hl 6 31 (by decide) (by decide) (fun _ => rfl) (fun _ => rfl) tk_455 tk_457 tk_456 tk_50 (by decide) (by decide) (by decide) (Nat.le_of_ble_eq_true rfl) (by decide +kernel) dX1_copyFrom_102 (fun σ9 H locs eσ9 hH => ?_)
  replace h := sv_at h eσ9
  clear eσ9
  refine lv_aload_n hF.x hF.b dX1_copyFrom_105 rfl (lv_at hl 1 rfl) ?_
  refine gfC_1_7 hF hH tk_88 dX1_copyFrom_106 ?_
  refine lv_iconst (v := 0) hF.x hF.b dX1_copyFrom_109 (by decide) ?_
  refine lv_aload_n hF.x hF.b dX1_copyFrom_110 rfl (lv_at hl 0 rfl) ?_
  refine gfC_26_7 hF hH tk_88 dX1_copyFrom_111 ?_
  refine lv_iconst (v := 0) hF.x hF.b dX1_copyFrom_114 (by decide) ?_
  refine lv_iconst (v := 3) hF.x hF.b dX1_copyFrom_115 (by decide) ?_
  refine w_cpy (n := 3) hF hH hl 7 32 (by decide) (by decide) (fun _ => rfl) (fun _ => rfl) tk_455 tk_457 tk_456 tk_50 (by decide) (by decide) (by decide) (Nat.le_of_ble_eq_true rfl) (by decide +kernel) dX1_copyFrom_116 (fun σ10 H locs eσ10 hH => ?_)
  replace h := sv_at h eσ10
  clear eσ10
  refine lv_aload_n hF.x hF.b dX1_copyFrom_119 rfl (lv_at hl 1 rfl) ?_
  refine gfC_1_8 hF hH tk_91 dX1_copyFrom_120 ?_
  refine lv_iconst (v := 0) hF.x hF.b dX1_copyFrom_123 (by decide) ?_
  refine lv_aload_n hF.x hF.b dX1_copyFrom_124 rfl (lv_at hl 0 rfl) ?_
  refine gfC_26_8 hF hH tk_91 dX1_copyFrom_125 ?_
  refine lv_iconst (v := 0) hF.x hF.b dX1_copyFrom_128 (by decide) ?_
  refine lv_iconst (v := 3) hF.x hF.b dX1_copyFrom_129 (by decide) ?_
  refine w_cpy (n := 3) hF hH hl 8 33 (by decide) (by decide) (fun _ => rfl) (fun _ => rfl) tk_455 tk_457 tk_456 tk_50 (by decide) (by decide) (by decide) (Nat.le_of_ble_eq_true rfl) (by decide +kernel) dX1_copyFrom_130 (fun σ11 H locs eσ11 hH => ?_)
  replace h := sv_at h eσ11
  clear eσ11
  exact hret _ _ _ _ _ hH h dX1_copyFrom_133
set_option maxHeartbeats 4000000 in
set_option maxRecDepth 100000 in
theorem tX1_copyFrom_1_18 (l : Launch) (E : Ev) (hj : Inj kC E) (σ : Sg) (r : Int32 × Sg) (h : fX1_copyFrom_1_18 σ = some r) : CV l yX1_copyFrom cX1_copyFrom 2 (rmk 1 40) kC E [.ref (eA E 1), .ref (eA E 18)] σ r := by
  refine CV_v (lv := [(0, .ref (eA E 1)), (1, .ref (eA E 18))]) (by decide) hj (Nat.le_of_ble_eq_true rfl) rfl (fun p e s m args below meth c ls Q hF hret hH hl => ?_)
  unfold fX1_copyFrom_1_18 at h
  refine lv_aload_n hF.x hF.b dX1_copyFrom_0 rfl (lv_at hl 0 rfl) ?_
  refine lv_aload_n hF.x hF.b dX1_copyFrom_1 rfl (lv_at hl 1 rfl) ?_
  refine gfC_18_0 hF hH tk_65 dX1_copyFrom_2 ?_
  refine pfC_1_0 hF hH tk_65 dX1_copyFrom_5 (fun σ1 H locs eσ1 hH => ?_)
  replace h := sv_at h eσ1
  clear eσ1
  refine lv_aload_n hF.x hF.b dX1_copyFrom_8 rfl (lv_at hl 0 rfl) ?_
  refine lv_aload_n hF.x hF.b dX1_copyFrom_9 rfl (lv_at hl 1 rfl) ?_
  refine gfC_18_4 hF hH tk_80 dX1_copyFrom_10 ?_
  refine pfC_1_4 hF hH tk_80 dX1_copyFrom_13 (fun σ2 H locs eσ2 hH => ?_)
  replace h := sv_at h eσ2
  clear eσ2
  refine lv_aload_n hF.x hF.b dX1_copyFrom_16 rfl (lv_at hl 0 rfl) ?_
  refine lv_aload_n hF.x hF.b dX1_copyFrom_17 rfl (lv_at hl 1 rfl) ?_
  refine gfC_18_9 hF hH tk_94 dX1_copyFrom_18 ?_
  refine pfC_1_9 hF hH tk_94 dX1_copyFrom_21 (fun σ3 H locs eσ3 hH => ?_)
  replace h := sv_at h eσ3
  clear eσ3
  refine lv_aload_n hF.x hF.b dX1_copyFrom_24 rfl (lv_at hl 0 rfl) ?_
  refine lv_aload_n hF.x hF.b dX1_copyFrom_25 rfl (lv_at hl 1 rfl) ?_
  refine gfC_18_10 hF hH tk_97 dX1_copyFrom_26 ?_
  refine pfC_1_10 hF hH tk_97 dX1_copyFrom_29 (fun σ4 H locs eσ4 hH => ?_)
  replace h := sv_at h eσ4
  clear eσ4
  refine lv_aload_n hF.x hF.b dX1_copyFrom_32 rfl (lv_at hl 1 rfl) ?_
  refine gfC_18_1 hF hH tk_68 dX1_copyFrom_33 ?_
  refine lv_iconst (v := 0) hF.x hF.b dX1_copyFrom_36 (by decide) ?_
  refine lv_aload_n hF.x hF.b dX1_copyFrom_37 rfl (lv_at hl 0 rfl) ?_
  refine gfC_1_1 hF hH tk_68 dX1_copyFrom_38 ?_
  refine lv_iconst (v := 0) hF.x hF.b dX1_copyFrom_41 (by decide) ?_
  refine lv_bipush (v := 6) hF.x hF.b dX1_copyFrom_42 (by decide) ?_
  refine w_cpy (n := 6) hF hH hl 19 2 (by decide) (by decide) (fun _ => rfl) (fun _ => rfl) tk_455 tk_457 tk_456 tk_50 (by decide) (by decide) (by decide) (Nat.le_of_ble_eq_true rfl) (by decide +kernel) dX1_copyFrom_44 (fun σ5 H locs eσ5 hH => ?_)
  replace h := sv_at h eσ5
  clear eσ5
  refine lv_aload_n hF.x hF.b dX1_copyFrom_47 rfl (lv_at hl 1 rfl) ?_
  refine gfC_18_2 hF hH tk_72 dX1_copyFrom_48 ?_
  refine lv_iconst (v := 0) hF.x hF.b dX1_copyFrom_51 (by decide) ?_
  refine lv_aload_n hF.x hF.b dX1_copyFrom_52 rfl (lv_at hl 0 rfl) ?_
  refine gfC_1_2 hF hH tk_72 dX1_copyFrom_53 ?_
  refine lv_iconst (v := 0) hF.x hF.b dX1_copyFrom_56 (by decide) ?_
  refine lv_bipush (v := 6) hF.x hF.b dX1_copyFrom_57 (by decide) ?_
  refine w_cpy (n := 6) hF hH hl 20 3 (by decide) (by decide) (fun _ => rfl) (fun _ => rfl) tk_455 tk_457 tk_456 tk_50 (by decide) (by decide) (by decide) (Nat.le_of_ble_eq_true rfl) (by decide +kernel) dX1_copyFrom_59 (fun σ6 H locs eσ6 hH => ?_)
  replace h := sv_at h eσ6
  clear eσ6
  refine lv_aload_n hF.x hF.b dX1_copyFrom_62 rfl (lv_at hl 1 rfl) ?_
  refine gfC_18_3 hF hH tk_76 dX1_copyFrom_63 ?_
  refine lv_iconst (v := 0) hF.x hF.b dX1_copyFrom_66 (by decide) ?_
  refine lv_aload_n hF.x hF.b dX1_copyFrom_67 rfl (lv_at hl 0 rfl) ?_
  refine gfC_1_3 hF hH tk_76 dX1_copyFrom_68 ?_
  refine lv_iconst (v := 0) hF.x hF.b dX1_copyFrom_71 (by decide) ?_
  refine lv_bipush (v := 6) hF.x hF.b dX1_copyFrom_72 (by decide) ?_
  refine w_cpy (n := 6) hF hH hl 21 4 (by decide) (by decide) (fun _ => rfl) (fun _ => rfl) tk_455 tk_457 tk_456 tk_50 (by decide) (by decide) (by decide) (Nat.le_of_ble_eq_true rfl) (by decide +kernel) dX1_copyFrom_74 (fun σ7 H locs eσ7 hH => ?_)
  replace h := sv_at h eσ7
  clear eσ7
  refine lv_aload_n hF.x hF.b dX1_copyFrom_77 rfl (lv_at hl 1 rfl) ?_
  refine gfC_18_5 hF hH tk_82 dX1_copyFrom_78 ?_
  refine lv_iconst (v := 0) hF.x hF.b dX1_copyFrom_81 (by decide) ?_
  refine lv_aload_n hF.x hF.b dX1_copyFrom_82 rfl (lv_at hl 0 rfl) ?_
  refine gfC_1_5 hF hH tk_82 dX1_copyFrom_83 ?_
  refine lv_iconst (v := 0) hF.x hF.b dX1_copyFrom_86 (by decide) ?_
  refine lv_iconst (v := 3) hF.x hF.b dX1_copyFrom_87 (by decide) ?_
  refine w_cpy (n := 3) hF hH hl 22 5 (by decide) (by decide) (fun _ => rfl) (fun _ => rfl) tk_455 tk_457 tk_456 tk_50 (by decide) (by decide) (by decide) (Nat.le_of_ble_eq_true rfl) (by decide +kernel) dX1_copyFrom_88 (fun σ8 H locs eσ8 hH => ?_)
  replace h := sv_at h eσ8
  clear eσ8
  refine lv_aload_n hF.x hF.b dX1_copyFrom_91 rfl (lv_at hl 1 rfl) ?_
  refine gfC_18_6 hF hH tk_85 dX1_copyFrom_92 ?_
  refine lv_iconst (v := 0) hF.x hF.b dX1_copyFrom_95 (by decide) ?_
  refine lv_aload_n hF.x hF.b dX1_copyFrom_96 rfl (lv_at hl 0 rfl) ?_
  refine gfC_1_6 hF hH tk_85 dX1_copyFrom_97 ?_
  refine lv_iconst (v := 0) hF.x hF.b dX1_copyFrom_100 (by decide) ?_
  refine lv_iconst (v := 3) hF.x hF.b dX1_copyFrom_101 (by decide) ?_
  refine w_cpy (n := 3) hF hH hl 23 6 (by decide) (by decide) (fun _ => rfl) (fun _ => rfl) tk_455 tk_457 tk_456 tk_50 (by decide) (by decide) (by decide) (Nat.le_of_ble_eq_true rfl) (by decide +kernel) dX1_copyFrom_102 (fun σ9 H locs eσ9 hH => ?_)
  replace h := sv_at h eσ9
  clear eσ9
  refine lv_aload_n hF.x hF.b dX1_copyFrom_105 rfl (lv_at hl 1 rfl) ?_
  refine gfC_18_7 hF hH tk_88 dX1_copyFrom_106 ?_
  refine lv_iconst (v := 0) hF.x hF.b dX1_copyFrom_109 (by decide) ?_
  refine lv_aload_n hF.x hF.b dX1_copyFrom_110 rfl (lv_at hl 0 rfl) ?_
  refine gfC_1_7 hF hH tk_88 dX1_copyFrom_111 ?_
  refine lv_iconst (v := 0) hF.x hF.b dX1_copyFrom_114 (by decide) ?_
  refine lv_iconst (v := 3) hF.x hF.b dX1_copyFrom_115 (by decide) ?_
  refine w_cpy (n := 3) hF hH hl 24 7 (by decide) (by decide) (fun _ => rfl) (fun _ => rfl) tk_455 tk_457 tk_456 tk_50 (by decide) (by decide) (by decide) (Nat.le_of_ble_eq_true rfl) (by decide +kernel) dX1_copyFrom_116 (fun σ10 H locs eσ10 hH => ?_)
  replace h := sv_at h eσ10
  clear eσ10
  refine lv_aload_n hF.x hF.b dX1_copyFrom_119 rfl (lv_at hl 1 rfl) ?_
  refine gfC_18_8 hF hH tk_91 dX1_copyFrom_120 ?_
  refine lv_iconst (v := 0) hF.x hF.b dX1_copyFrom_123 (by decide) ?_
  refine lv_aload_n hF.x hF.b dX1_copyFrom_124 rfl (lv_at hl 0 rfl) ?_
  refine gfC_1_8 hF hH tk_91 dX1_copyFrom_125 ?_
  refine lv_iconst (v := 0) hF.x hF.b dX1_copyFrom_128 (by decide) ?_
  refine lv_iconst (v := 3) hF.x hF.b dX1_copyFrom_129 (by decide) ?_
  refine w_cpy (n := 3) hF hH hl 25 8 (by decide) (by decide) (fun _ => rfl) (fun _ => rfl) tk_455 tk_457 tk_456 tk_50 (by decide) (by decide) (by decide) (Nat.le_of_ble_eq_true rfl) (by decide +kernel) dX1_copyFrom_130 (fun σ11 H locs eσ11 hH => ?_)
  replace h := sv_at h eσ11
  clear eσ11
  exact hret _ _ _ _ _ hH h dX1_copyFrom_133
set_option maxHeartbeats 4000000 in
set_option maxRecDepth 100000 in
theorem tX1_copyFrom_1_26 (l : Launch) (E : Ev) (hj : Inj kC E) (σ : Sg) (r : Int32 × Sg) (h : fX1_copyFrom_1_26 σ = some r) : CV l yX1_copyFrom cX1_copyFrom 2 (rmk 1 40) kC E [.ref (eA E 1), .ref (eA E 26)] σ r := by
  refine CV_v (lv := [(0, .ref (eA E 1)), (1, .ref (eA E 26))]) (by decide) hj (Nat.le_of_ble_eq_true rfl) rfl (fun p e s m args below meth c ls Q hF hret hH hl => ?_)
  unfold fX1_copyFrom_1_26 at h
  refine lv_aload_n hF.x hF.b dX1_copyFrom_0 rfl (lv_at hl 0 rfl) ?_
  refine lv_aload_n hF.x hF.b dX1_copyFrom_1 rfl (lv_at hl 1 rfl) ?_
  refine gfC_26_0 hF hH tk_65 dX1_copyFrom_2 ?_
  refine pfC_1_0 hF hH tk_65 dX1_copyFrom_5 (fun σ1 H locs eσ1 hH => ?_)
  replace h := sv_at h eσ1
  clear eσ1
  refine lv_aload_n hF.x hF.b dX1_copyFrom_8 rfl (lv_at hl 0 rfl) ?_
  refine lv_aload_n hF.x hF.b dX1_copyFrom_9 rfl (lv_at hl 1 rfl) ?_
  refine gfC_26_4 hF hH tk_80 dX1_copyFrom_10 ?_
  refine pfC_1_4 hF hH tk_80 dX1_copyFrom_13 (fun σ2 H locs eσ2 hH => ?_)
  replace h := sv_at h eσ2
  clear eσ2
  refine lv_aload_n hF.x hF.b dX1_copyFrom_16 rfl (lv_at hl 0 rfl) ?_
  refine lv_aload_n hF.x hF.b dX1_copyFrom_17 rfl (lv_at hl 1 rfl) ?_
  refine gfC_26_9 hF hH tk_94 dX1_copyFrom_18 ?_
  refine pfC_1_9 hF hH tk_94 dX1_copyFrom_21 (fun σ3 H locs eσ3 hH => ?_)
  replace h := sv_at h eσ3
  clear eσ3
  refine lv_aload_n hF.x hF.b dX1_copyFrom_24 rfl (lv_at hl 0 rfl) ?_
  refine lv_aload_n hF.x hF.b dX1_copyFrom_25 rfl (lv_at hl 1 rfl) ?_
  refine gfC_26_10 hF hH tk_97 dX1_copyFrom_26 ?_
  refine pfC_1_10 hF hH tk_97 dX1_copyFrom_29 (fun σ4 H locs eσ4 hH => ?_)
  replace h := sv_at h eσ4
  clear eσ4
  refine lv_aload_n hF.x hF.b dX1_copyFrom_32 rfl (lv_at hl 1 rfl) ?_
  refine gfC_26_1 hF hH tk_68 dX1_copyFrom_33 ?_
  refine lv_iconst (v := 0) hF.x hF.b dX1_copyFrom_36 (by decide) ?_
  refine lv_aload_n hF.x hF.b dX1_copyFrom_37 rfl (lv_at hl 0 rfl) ?_
  refine gfC_1_1 hF hH tk_68 dX1_copyFrom_38 ?_
  refine lv_iconst (v := 0) hF.x hF.b dX1_copyFrom_41 (by decide) ?_
  refine lv_bipush (v := 6) hF.x hF.b dX1_copyFrom_42 (by decide) ?_
  refine w_cpy (n := 6) hF hH hl 27 2 (by decide) (by decide) (fun _ => rfl) (fun _ => rfl) tk_455 tk_457 tk_456 tk_50 (by decide) (by decide) (by decide) (Nat.le_of_ble_eq_true rfl) (by decide +kernel) dX1_copyFrom_44 (fun σ5 H locs eσ5 hH => ?_)
  replace h := sv_at h eσ5
  clear eσ5
  refine lv_aload_n hF.x hF.b dX1_copyFrom_47 rfl (lv_at hl 1 rfl) ?_
  refine gfC_26_2 hF hH tk_72 dX1_copyFrom_48 ?_
  refine lv_iconst (v := 0) hF.x hF.b dX1_copyFrom_51 (by decide) ?_
  refine lv_aload_n hF.x hF.b dX1_copyFrom_52 rfl (lv_at hl 0 rfl) ?_
  refine gfC_1_2 hF hH tk_72 dX1_copyFrom_53 ?_
  refine lv_iconst (v := 0) hF.x hF.b dX1_copyFrom_56 (by decide) ?_
  refine lv_bipush (v := 6) hF.x hF.b dX1_copyFrom_57 (by decide) ?_
  refine w_cpy (n := 6) hF hH hl 28 3 (by decide) (by decide) (fun _ => rfl) (fun _ => rfl) tk_455 tk_457 tk_456 tk_50 (by decide) (by decide) (by decide) (Nat.le_of_ble_eq_true rfl) (by decide +kernel) dX1_copyFrom_59 (fun σ6 H locs eσ6 hH => ?_)
  replace h := sv_at h eσ6
  clear eσ6
  refine lv_aload_n hF.x hF.b dX1_copyFrom_62 rfl (lv_at hl 1 rfl) ?_
  refine gfC_26_3 hF hH tk_76 dX1_copyFrom_63 ?_
  refine lv_iconst (v := 0) hF.x hF.b dX1_copyFrom_66 (by decide) ?_
  refine lv_aload_n hF.x hF.b dX1_copyFrom_67 rfl (lv_at hl 0 rfl) ?_
  refine gfC_1_3 hF hH tk_76 dX1_copyFrom_68 ?_
  refine lv_iconst (v := 0) hF.x hF.b dX1_copyFrom_71 (by decide) ?_
  refine lv_bipush (v := 6) hF.x hF.b dX1_copyFrom_72 (by decide) ?_
  refine w_cpy (n := 6) hF hH hl 29 4 (by decide) (by decide) (fun _ => rfl) (fun _ => rfl) tk_455 tk_457 tk_456 tk_50 (by decide) (by decide) (by decide) (Nat.le_of_ble_eq_true rfl) (by decide +kernel) dX1_copyFrom_74 (fun σ7 H locs eσ7 hH => ?_)
  replace h := sv_at h eσ7
  clear eσ7
  refine lv_aload_n hF.x hF.b dX1_copyFrom_77 rfl (lv_at hl 1 rfl) ?_
  refine gfC_26_5 hF hH tk_82 dX1_copyFrom_78 ?_
  refine lv_iconst (v := 0) hF.x hF.b dX1_copyFrom_81 (by decide) ?_
  refine lv_aload_n hF.x hF.b dX1_copyFrom_82 rfl (lv_at hl 0 rfl) ?_
  refine gfC_1_5 hF hH tk_82 dX1_copyFrom_83 ?_
  refine lv_iconst (v := 0) hF.x hF.b dX1_copyFrom_86 (by decide) ?_
  refine lv_iconst (v := 3) hF.x hF.b dX1_copyFrom_87 (by decide) ?_
  refine w_cpy (n := 3) hF hH hl 30 5 (by decide) (by decide) (fun _ => rfl) (fun _ => rfl) tk_455 tk_457 tk_456 tk_50 (by decide) (by decide) (by decide) (Nat.le_of_ble_eq_true rfl) (by decide +kernel) dX1_copyFrom_88 (fun σ8 H locs eσ8 hH => ?_)
  replace h := sv_at h eσ8
  clear eσ8
  refine lv_aload_n hF.x hF.b dX1_copyFrom_91 rfl (lv_at hl 1 rfl) ?_
  refine gfC_26_6 hF hH tk_85 dX1_copyFrom_92 ?_
  refine lv_iconst (v := 0) hF.x hF.b dX1_copyFrom_95 (by decide) ?_
  refine lv_aload_n hF.x hF.b dX1_copyFrom_96 rfl (lv_at hl 0 rfl) ?_
  refine gfC_1_6 hF hH tk_85 dX1_copyFrom_97 ?_
  refine lv_iconst (v := 0) hF.x hF.b dX1_copyFrom_100 (by decide) ?_
  refine lv_iconst (v := 3) hF.x hF.b dX1_copyFrom_101 (by decide) ?_
  refine w_cpy (n := 3) hF hH hl 31 6 (by decide) (by decide) (fun _ => rfl) (fun _ => rfl) tk_455 tk_457 tk_456 tk_50 (by decide) (by decide) (by decide) (Nat.le_of_ble_eq_true rfl) (by decide +kernel) dX1_copyFrom_102 (fun σ9 H locs eσ9 hH => ?_)
  replace h := sv_at h eσ9
  clear eσ9
  refine lv_aload_n hF.x hF.b dX1_copyFrom_105 rfl (lv_at hl 1 rfl) ?_
  refine gfC_26_7 hF hH tk_88 dX1_copyFrom_106 ?_
  refine lv_iconst (v := 0) hF.x hF.b dX1_copyFrom_109 (by decide) ?_
  refine lv_aload_n hF.x hF.b dX1_copyFrom_110 rfl (lv_at hl 0 rfl) ?_
  refine gfC_1_7 hF hH tk_88 dX1_copyFrom_111 ?_
  refine lv_iconst (v := 0) hF.x hF.b dX1_copyFrom_114 (by decide) ?_
  refine lv_iconst (v := 3) hF.x hF.b dX1_copyFrom_115 (by decide) ?_
  refine w_cpy (n := 3) hF hH hl 32 7 (by decide) (by decide) (fun _ => rfl) (fun _ => rfl) tk_455 tk_457 tk_456 tk_50 (by decide) (by decide) (by decide) (Nat.le_of_ble_eq_true rfl) (by decide +kernel) dX1_copyFrom_116 (fun σ10 H locs eσ10 hH => ?_)
  replace h := sv_at h eσ10
  clear eσ10
  refine lv_aload_n hF.x hF.b dX1_copyFrom_119 rfl (lv_at hl 1 rfl) ?_
  refine gfC_26_8 hF hH tk_91 dX1_copyFrom_120 ?_
  refine lv_iconst (v := 0) hF.x hF.b dX1_copyFrom_123 (by decide) ?_
  refine lv_aload_n hF.x hF.b dX1_copyFrom_124 rfl (lv_at hl 0 rfl) ?_
  refine gfC_1_8 hF hH tk_91 dX1_copyFrom_125 ?_
  refine lv_iconst (v := 0) hF.x hF.b dX1_copyFrom_128 (by decide) ?_
  refine lv_iconst (v := 3) hF.x hF.b dX1_copyFrom_129 (by decide) ?_
  refine w_cpy (n := 3) hF hH hl 33 8 (by decide) (by decide) (fun _ => rfl) (fun _ => rfl) tk_455 tk_457 tk_456 tk_50 (by decide) (by decide) (by decide) (Nat.le_of_ble_eq_true rfl) (by decide +kernel) dX1_copyFrom_130 (fun σ11 H locs eσ11 hH => ?_)
  replace h := sv_at h eσ11
  clear eσ11
  exact hret _ _ _ _ _ hH h dX1_copyFrom_133
theorem hdX2_busesWith : yX2_busesWith.cls = RX2 ∧ yX2_busesWith.cls ≠ "java/lang/invoke/MethodHandle" ∧ yX2_busesWith.cls ≠ "java/lang/invoke/VarHandle" ∧ (parseMethodDescriptor yX2_busesWith.desc).map (fun d => d.parameters.length) = some 2 := by decide +kernel
set_option maxHeartbeats 4000000 in
set_option maxRecDepth 100000 in
theorem tX2_busesWith (l : Launch) (E : Ev) (hj : Inj kC E) (a1 : Int32) (a2 : Int32) (σ : Sg) (r : Int32 × Sg) (h : fX2_busesWith a1 a2 σ = some r) : CI l yX2_busesWith cX2_busesWith 3 (some FieldType.int) (rmk 0 0) kC E [.ref (eA E 9), .int a1, .int a2] σ r := by
  refine CI_i (lv := [(0, .ref (eA E 9)), (1, .int a1), (2, .int a2)]) (by decide) hj (Nat.le_of_ble_eq_true rfl) rfl (fun p e s m args below meth c ls Q hF hret hH hl => ?_)
  unfold fX2_busesWith at h
  refine lv_aload_n hF.x hF.b dX2_busesWith_0 rfl (lv_at hl 0 rfl) ?_
  refine gfC_9_0 hF hH tk_128 dX2_busesWith_1 ?_
  refine lv_iload_n hF.x hF.b dX2_busesWith_4 rfl (lv_at hl 1 rfl) ?_
  refine lv_bipush (v := 6) hF.x hF.b dX2_busesWith_5 (by decide) ?_
  refine lv_imul hF.x hF.b dX2_busesWith_7 ?_
  refine lv_iload_n hF.x hF.b dX2_busesWith_8 rfl (lv_at hl 2 rfl) ?_
  refine lv_iadd hF.x hF.b dX2_busesWith_9 ?_
  refine alC_10 hF hH (gd_some h).1 dX2_busesWith_10 ?_
  replace h := (gd_some h).2
  exact hret _ _ _ _ _ _ hH h dX2_busesWith_11
theorem hdX2_drawAround : yX2_drawAround.cls = RX2 ∧ yX2_drawAround.cls ≠ "java/lang/invoke/MethodHandle" ∧ yX2_drawAround.cls ≠ "java/lang/invoke/VarHandle" ∧ (parseMethodDescriptor yX2_drawAround.desc).map (fun d => d.parameters.length) = some 2 := by decide +kernel
set_option maxHeartbeats 4000000 in
set_option maxRecDepth 100000 in
theorem tX2_drawAround (l : Launch) (E : Ev) (hj : Inj kC E) (a1 : Int32) (a2 : Int32) (σ : Sg) (r : Int32 × Sg) (h : fX2_drawAround a1 a2 σ = some r) : CI l yX2_drawAround cX2_drawAround 3 (some FieldType.int) (rmk 0 0) kC E [.ref (eA E 9), .int a1, .int a2] σ r := by
  refine CI_i (lv := [(0, .ref (eA E 9)), (1, .int a1), (2, .int a2)]) (by decide) hj (Nat.le_of_ble_eq_true rfl) rfl (fun p e s m args below meth c ls Q hF hret hH hl => ?_)
  unfold fX2_drawAround at h
  refine lv_aload_n hF.x hF.b dX2_drawAround_0 rfl (lv_at hl 0 rfl) ?_
  refine gfC_9_1 hF hH tk_129 dX2_drawAround_1 ?_
  refine lv_iload_n hF.x hF.b dX2_drawAround_4 rfl (lv_at hl 1 rfl) ?_
  refine lv_bipush (v := 6) hF.x hF.b dX2_drawAround_5 (by decide) ?_
  refine lv_imul hF.x hF.b dX2_drawAround_7 ?_
  refine lv_iload_n hF.x hF.b dX2_drawAround_8 rfl (lv_at hl 2 rfl) ?_
  refine lv_iadd hF.x hF.b dX2_drawAround_9 ?_
  refine alC_11 hF hH (gd_some h).1 dX2_drawAround_10 ?_
  replace h := (gd_some h).2
  exact hret _ _ _ _ _ _ hH h dX2_drawAround_11
theorem hdX2_join : yX2_join.cls = RX2 ∧ yX2_join.cls ≠ "java/lang/invoke/MethodHandle" ∧ yX2_join.cls ≠ "java/lang/invoke/VarHandle" ∧ (parseMethodDescriptor yX2_join.desc).map (fun d => d.parameters.length) = some 4 := by decide +kernel
set_option maxHeartbeats 4000000 in
set_option maxRecDepth 100000 in
theorem tX2_join (l : Launch) (E : Ev) (hj : Inj kC E) (a1 : Int32) (a2 : Int32) (a4 : Int32) (σ : Sg) (r : Int32 × Sg) (h : fX2_join a1 a2 a4 σ = some r) : CV l yX2_join cX2_join 11 (rmk 1 22) kC E [.ref (eA E 9), .int a1, .int a2, .ref (eA E 1), .int a4] σ r := by
  refine CV_v (lv := [(0, .ref (eA E 9)), (1, .int a1), (2, .int a2), (3, .ref (eA E 1)), (4, .int a4)]) (by decide) hj (Nat.le_of_ble_eq_true rfl) rfl (fun p e s m args below meth c ls Q hF hret hH hl => ?_)
  have w82 : ∀ (n : Nat) (x1 x2 x7 x8 x9 : Int32) (σ : Sg) (H : Heap) (locs : List Loc) (ls : Array Slot), it fX2_join_L82 (fun _ _ _ _ _ _ => none) n x1 x2 x7 x8 x9 σ = some r → HP kC E s σ H locs → lv_has ls 11 [(0, .ref (eA E 9)), (1, .int x1), (2, .int x2), (3, .ref (eA E 1)), (7, .int x7), (8, .int x8), (9, .int x9)] → W p l e (rmk 1 22) s m args below meth c H locs 0 0 Q (F0 m 82 ls []) := by
    intro n82
    induction n82 with
    | zero =>
      intro x1 x2 x7 x8 x9 σ H locs ls h hH hl
      cases (show (none : Rs) = some r from h)
    | succ n82 ih82 =>
      have w163 : ∀ (x1 x2 x7 x8 x9 t0 t1 : Int32) (σ : Sg) (H : Heap) (locs : List Loc) (ls : Array Slot), fX2_join_163 (it fX2_join_L82 (fun _ _ _ _ _ _ => none) n82) x1 x2 x7 x8 x9 t0 t1 σ = some r → HP kC E s σ H locs → lv_has ls 11 [(0, .ref (eA E 9)), (1, .int x1), (2, .int x2), (3, .ref (eA E 1)), (7, .int x7), (8, .int x8), (9, .int x9)] → W p l e (rmk 1 22) s m args below meth c H locs 0 0 Q (F0 m 163 ls [.int t0, .int t1, .ref (eA E 11)]) := by
        intro x1 x2 x7 x8 x9 t0 t1 σ H locs ls h hH hl
        unfold fX2_join_163 at h
        refine asC_11 hF hH (gd_some h).1 dX2_join_163 (fun σ1 H locs eσ1 hH => ?_)
        replace h := sv_at (gd_some h).2 eσ1
        clear eσ1
        obtain ⟨y2, ey2⟩ : ∃ z : Int32, z = (x9 + 1) := ⟨_, rfl⟩
        replace h := sv_at h ey2
        refine lv_iinc (v := y2) (lv' := [(9, .int y2), (0, .ref (eA E 9)), (1, .int x1), (2, .int x2), (3, .ref (eA E 1)), (7, .int x7), (8, .int x8)]) hF.x hF.b dX2_join_164 hl (k := 6) rfl (by rw [ey2]; rfl) (by decide) rfl (fun ls hl => ?_)
        clear ey2
        refine lv_goto (tgt := 82) hF.x hF.b dX2_join_167 (by decide) ?_
        exact ih82 _ _ _ _ _ _ _ _ _ h hH (lv_sub hl [1, 2, 3, 4, 5, 6, 0] rfl)
      have w134 : ∀ (x1 x2 x7 x8 x9 x10 t0 t1 : Int32) (σ : Sg) (H : Heap) (locs : List Loc) (ls : Array Slot), fX2_join_134 (it fX2_join_L82 (fun _ _ _ _ _ _ => none) n82) x1 x2 x7 x8 x9 x10 t0 t1 σ = some r → HP kC E s σ H locs → lv_has ls 11 [(0, .ref (eA E 9)), (1, .int x1), (2, .int x2), (3, .ref (eA E 1)), (7, .int x7), (8, .int x8), (9, .int x9), (10, .int x10)] → W p l e (rmk 1 22) s m args below meth c H locs 0 0 Q (F0 m 134 ls [.int t0, .int t1, .ref (eA E 10)]) := by
        intro x1 x2 x7 x8 x9 x10 t0 t1 σ H locs ls h hH hl
        unfold fX2_join_134 at h
        refine asC_10 hF hH (gd_some h).1 dX2_join_134 (fun σ3 H locs eσ3 hH => ?_)
        replace h := sv_at (gd_some h).2 eσ3
        clear eσ3
        refine lv_aload_n hF.x hF.b dX2_join_135 rfl (lv_at hl 0 rfl) ?_
        refine gfC_9_1 hF hH tk_129 dX2_join_136 ?_
        refine lv_iload_n hF.x hF.b dX2_join_139 rfl (lv_at hl 2 rfl) ?_
        refine lv_bipush (v := 6) hF.x hF.b dX2_join_140 (by decide) ?_
        refine lv_imul hF.x hF.b dX2_join_142 ?_
        refine lv_iload hF.x hF.b dX2_join_143 (lv_at hl 6 rfl) ?_
        refine lv_iadd hF.x hF.b dX2_join_145 ?_
        refine lv_iload hF.x hF.b dX2_join_146 (lv_at hl 7 rfl) ?_
        refine lv_if_eq (tgt := 156) hF.x hF.b dX2_join_148 (by decide) (fun c4 => ?_) (fun c4 => ?_)
        · rw [if_pos c4] at h
          refine lv_aload_n hF.x hF.b dX2_join_156 rfl (lv_at hl 0 rfl) ?_
          refine lv_iload_n hF.x hF.b dX2_join_157 rfl (lv_at hl 1 rfl) ?_
          refine lv_iload hF.x hF.b dX2_join_158 (lv_at hl 6 rfl) ?_
          replace h := bd_some h
          obtain ⟨v5, σ6, hv5, h⟩ := h
          refine w_cVi (As := [.int x1, .int x9]) (rest := [.int ((x2 * (6 : Int32)) + x9), .ref (eA E 11)]) hF hH hl 9 (by decide) rfl rfl (tX2_drawAround l E hF.j _ _ _ _ hv5) tk_222 tk_223 tk_224 tk_43 tk_225 rfl rfl hdX2_drawAround ⟨Nat.le_of_ble_eq_true rfl, Nat.le_of_ble_eq_true rfl⟩ rfl rfl (Nat.le_of_ble_eq_true rfl) dX2_join_160 (fun H locs hH => ?_)
          exact w163 _ _ _ _ _ _ _ _ _ _ _ h hH (lv_sub hl [0, 1, 2, 3, 4, 5, 6] rfl)
        · rw [if_neg c4] at h
          refine lv_iload hF.x hF.b dX2_join_151 (lv_at hl 5 rfl) ?_
          refine lv_goto (tgt := 163) hF.x hF.b dX2_join_153 (by decide) ?_
          exact w163 _ _ _ _ _ _ _ _ _ _ _ h hH (lv_sub hl [0, 1, 2, 3, 4, 5, 6] rfl)
      have w104 : ∀ (x1 x2 x7 x8 x9 t0 : Int32) (σ : Sg) (H : Heap) (locs : List Loc) (ls : Array Slot), fX2_join_104 (it fX2_join_L82 (fun _ _ _ _ _ _ => none) n82) x1 x2 x7 x8 x9 t0 σ = some r → HP kC E s σ H locs → lv_has ls 11 [(0, .ref (eA E 9)), (1, .int x1), (2, .int x2), (3, .ref (eA E 1)), (7, .int x7), (8, .int x8), (9, .int x9)] → W p l e (rmk 1 22) s m args below meth c H locs 0 0 Q (F0 m 104 ls [.int t0]) := by
        intro x1 x2 x7 x8 x9 t0 σ H locs ls h hH hl
        unfold fX2_join_104 at h
        refine lv_istore (lv' := [(10, .int t0), (0, .ref (eA E 9)), (1, .int x1), (2, .int x2), (3, .ref (eA E 1)), (7, .int x7), (8, .int x8), (9, .int x9)]) hF.x hF.b dX2_join_104 hl (by decide) rfl (fun ls hl => ?_)
        refine lv_aload_n hF.x hF.b dX2_join_106 rfl (lv_at hl 1 rfl) ?_
        refine gfC_9_0 hF hH tk_128 dX2_join_107 ?_
        refine lv_iload_n hF.x hF.b dX2_join_110 rfl (lv_at hl 3 rfl) ?_
        refine lv_bipush (v := 6) hF.x hF.b dX2_join_111 (by decide) ?_
        refine lv_imul hF.x hF.b dX2_join_113 ?_
        refine lv_iload hF.x hF.b dX2_join_114 (lv_at hl 7 rfl) ?_
        refine lv_iadd hF.x hF.b dX2_join_116 ?_
        refine lv_iload hF.x hF.b dX2_join_117 (lv_at hl 0 rfl) ?_
        refine lv_if_eq (tgt := 127) hF.x hF.b dX2_join_119 (by decide) (fun c7 => ?_) (fun c7 => ?_)
        · rw [if_pos c7] at h
          refine lv_aload_n hF.x hF.b dX2_join_127 rfl (lv_at hl 1 rfl) ?_
          refine lv_iload_n hF.x hF.b dX2_join_128 rfl (lv_at hl 2 rfl) ?_
          refine lv_iload hF.x hF.b dX2_join_129 (lv_at hl 7 rfl) ?_
          replace h := bd_some h
          obtain ⟨v8, σ9, hv8, h⟩ := h
          refine w_cVi (As := [.int x1, .int x9]) (rest := [.int ((x2 * (6 : Int32)) + x9), .ref (eA E 10)]) hF hH hl 9 (by decide) rfl rfl (tX2_busesWith l E hF.j _ _ _ _ hv8) tk_218 tk_219 tk_220 tk_43 tk_221 rfl rfl hdX2_busesWith ⟨Nat.le_of_ble_eq_true rfl, Nat.le_of_ble_eq_true rfl⟩ rfl rfl (Nat.le_of_ble_eq_true rfl) dX2_join_131 (fun H locs hH => ?_)
          exact w134 _ _ _ _ _ _ _ _ _ _ _ _ h hH (lv_sub hl [1, 2, 3, 4, 5, 6, 7, 0] rfl)
        · rw [if_neg c7] at h
          refine lv_iload hF.x hF.b dX2_join_122 (lv_at hl 5 rfl) ?_
          refine lv_goto (tgt := 134) hF.x hF.b dX2_join_124 (by decide) ?_
          exact w134 _ _ _ _ _ _ _ _ _ _ _ _ h hH (lv_sub hl [1, 2, 3, 4, 5, 6, 7, 0] rfl)
      intro x1 x2 x7 x8 x9 σ H locs ls h hH hl
      replace h : fX2_join_L82 (it fX2_join_L82 (fun _ _ _ _ _ _ => none) n82) x1 x2 x7 x8 x9 σ = some r := h
      unfold fX2_join_L82 at h
      refine lv_iload hF.x hF.b dX2_join_82 (lv_at hl 6 rfl) ?_
      refine lv_bipush (v := 6) hF.x hF.b dX2_join_84 (by decide) ?_
      refine lv_icmp_ge (tgt := 170) hF.x hF.b dX2_join_86 (by decide) (fun c10 => ?_) (fun c10 => ?_)
      · rw [if_pos c10] at h
        exact hret _ _ _ _ _ hH h dX2_join_170
      · rw [if_neg c10] at h
        refine lv_iload hF.x hF.b dX2_join_89 (lv_at hl 4 rfl) ?_
        refine lv_iload hF.x hF.b dX2_join_91 (lv_at hl 6 rfl) ?_
        replace h := bd_some h
        obtain ⟨v11, σ12, hv11, h⟩ := h
        refine w_cNi (As := [.int x7, .int x9]) (rest := []) hF hH hl (tX5_bit l E hF.j _ _ _ _ hv11) (List.mem_of_getElem? (l := nestW) (i := 1) rfl) tk_227 tk_41 tk_228 rfl rfl hdX5_bit ⟨Nat.le_of_ble_eq_true rfl, Nat.le_of_ble_eq_true rfl⟩ rfl rfl (Nat.le_of_ble_eq_true rfl) dX2_join_93 (fun H locs hH => ?_)
        refine lv_if_eq (tgt := 103) hF.x hF.b dX2_join_96 (by decide) (fun c13 => ?_) (fun c13 => ?_)
        · rw [if_pos c13] at h
          refine lv_iconst (v := 0) hF.x hF.b dX2_join_103 (by decide) ?_
          exact w104 _ _ _ _ _ _ _ _ _ _ h hH (lv_sub hl [0, 1, 2, 3, 4, 5, 6] rfl)
        · rw [if_neg c13] at h
          refine lv_iconst (v := 1) hF.x hF.b dX2_join_99 (by decide) ?_
          refine lv_goto (tgt := 104) hF.x hF.b dX2_join_100 (by decide) ?_
          exact w104 _ _ _ _ _ _ _ _ _ _ h hH (lv_sub hl [0, 1, 2, 3, 4, 5, 6] rfl)
  have w79 : ∀ (x1 x2 x7 x8 : Int32) (σ : Sg) (H : Heap) (locs : List Loc) (ls : Array Slot), fX2_join_79 x1 x2 x7 x8 σ = some r → HP kC E s σ H locs → lv_has ls 11 [(0, .ref (eA E 9)), (1, .int x1), (2, .int x2), (3, .ref (eA E 1)), (7, .int x7), (8, .int x8)] → W p l e (rmk 1 22) s m args below meth c H locs 0 0 Q (F0 m 79 ls []) := by
    intro x1 x2 x7 x8 σ H locs ls h hH hl
    unfold fX2_join_79 at h
    refine lv_iconst (v := 0) hF.x hF.b dX2_join_79 (by decide) ?_
    refine lv_istore (lv' := [(9, .int 0), (0, .ref (eA E 9)), (1, .int x1), (2, .int x2), (3, .ref (eA E 1)), (7, .int x7), (8, .int x8)]) hF.x hF.b dX2_join_80 hl (by decide) rfl (fun ls hl => ?_)
    exact w82 _ _ _ _ _ _ _ _ _ _ h hH (lv_sub hl [1, 2, 3, 4, 5, 6, 0] rfl)
  unfold fX2_join at h
  refine lv_aload_n hF.x hF.b dX2_join_0 rfl (lv_at hl 3 rfl) ?_
  refine gfC_1_1 hF hH tk_69 dX2_join_1 ?_
  refine lv_iload hF.x hF.b dX2_join_4 (lv_at hl 4 rfl) ?_
  refine alC_2 hF hH (gd_some h).1 dX2_join_6 ?_
  replace h := (gd_some h).2
  refine lv_topi (fun y14 ey14 => ?_)
  replace h := sv_at h ey14
  clear ey14
  refine lv_istore (lv' := [(5, .int y14), (0, .ref (eA E 9)), (1, .int a1), (2, .int a2), (3, .ref (eA E 1)), (4, .int a4)]) hF.x hF.b dX2_join_7 hl (by decide) rfl (fun ls hl => ?_)
  refine lv_aload_n hF.x hF.b dX2_join_9 rfl (lv_at hl 4 rfl) ?_
  refine gfC_1_2 hF hH tk_73 dX2_join_10 ?_
  refine lv_iload hF.x hF.b dX2_join_13 (lv_at hl 5 rfl) ?_
  refine alC_3 hF hH (gd_some h).1 dX2_join_15 ?_
  replace h := (gd_some h).2
  refine lv_topi (fun y15 ey15 => ?_)
  replace h := sv_at h ey15
  clear ey15
  refine lv_istore (lv' := [(6, .int y15), (5, .int y14), (0, .ref (eA E 9)), (1, .int a1), (2, .int a2), (3, .ref (eA E 1)), (4, .int a4)]) hF.x hF.b dX2_join_16 hl (by decide) rfl (fun ls hl => ?_)
  refine lv_aload_n hF.x hF.b dX2_join_18 rfl (lv_at hl 2 rfl) ?_
  refine lv_iload_n hF.x hF.b dX2_join_19 rfl (lv_at hl 3 rfl) ?_
  refine lv_iload hF.x hF.b dX2_join_20 (lv_at hl 1 rfl) ?_
  replace h := bd_some h
  obtain ⟨v16, σ17, hv16, h⟩ := h
  refine w_cVi (As := [.int a1, .int y14]) (rest := []) hF hH hl 9 (by decide) rfl rfl (tX2_busesWith l E hF.j _ _ _ _ hv16) tk_218 tk_219 tk_220 tk_43 tk_221 rfl rfl hdX2_busesWith ⟨Nat.le_of_ble_eq_true rfl, Nat.le_of_ble_eq_true rfl⟩ rfl rfl (Nat.le_of_ble_eq_true rfl) dX2_join_22 (fun H locs hH => ?_)
  refine lv_aload_n hF.x hF.b dX2_join_25 rfl (lv_at hl 2 rfl) ?_
  refine lv_iload_n hF.x hF.b dX2_join_26 rfl (lv_at hl 3 rfl) ?_
  refine lv_iload hF.x hF.b dX2_join_27 (lv_at hl 0 rfl) ?_
  replace h := bd_some h
  obtain ⟨v18, σ19, hv18, h⟩ := h
  refine w_cVi (As := [.int a1, .int y15]) (rest := [.int v16]) hF hH hl 9 (by decide) rfl rfl (tX2_busesWith l E hF.j _ _ _ _ hv18) tk_218 tk_219 tk_220 tk_43 tk_221 rfl rfl hdX2_busesWith ⟨Nat.le_of_ble_eq_true rfl, Nat.le_of_ble_eq_true rfl⟩ rfl rfl (Nat.le_of_ble_eq_true rfl) dX2_join_29 (fun H locs hH => ?_)
  refine lv_ior hF.x hF.b dX2_join_32 ?_
  refine lv_topi (fun y20 ey20 => ?_)
  replace h := sv_at h ey20
  clear ey20
  refine lv_istore (lv' := [(7, .int y20), (6, .int y15), (5, .int y14), (0, .ref (eA E 9)), (1, .int a1), (2, .int a2), (3, .ref (eA E 1)), (4, .int a4)]) hF.x hF.b dX2_join_33 hl (by decide) rfl (fun ls hl => ?_)
  refine lv_aload_n hF.x hF.b dX2_join_35 rfl (lv_at hl 6 rfl) ?_
  refine gfC_1_3 hF hH tk_77 dX2_join_36 ?_
  refine lv_iload hF.x hF.b dX2_join_39 (lv_at hl 7 rfl) ?_
  refine alC_4 hF hH (gd_some h).1 dX2_join_41 ?_
  replace h := (gd_some h).2
  refine lv_aload_n hF.x hF.b dX2_join_42 rfl (lv_at hl 3 rfl) ?_
  refine lv_iload_n hF.x hF.b dX2_join_43 rfl (lv_at hl 4 rfl) ?_
  refine lv_iload hF.x hF.b dX2_join_44 (lv_at hl 2 rfl) ?_
  replace h := bd_some h
  obtain ⟨v21, σ22, hv21, h⟩ := h
  refine w_cVi (As := [.int a1, .int y14]) (rest := [.int (σ19 4 (Int32.toNatClampNeg a4))]) hF hH hl 9 (by decide) rfl rfl (tX2_drawAround l E hF.j _ _ _ _ hv21) tk_222 tk_223 tk_224 tk_43 tk_225 rfl rfl hdX2_drawAround ⟨Nat.le_of_ble_eq_true rfl, Nat.le_of_ble_eq_true rfl⟩ rfl rfl (Nat.le_of_ble_eq_true rfl) dX2_join_46 (fun H locs hH => ?_)
  refine lv_iadd hF.x hF.b dX2_join_49 ?_
  refine lv_topi (fun y23 ey23 => ?_)
  replace h := sv_at h ey23
  clear ey23
  refine lv_istore (lv' := [(8, .int y23), (7, .int y20), (6, .int y15), (5, .int y14), (0, .ref (eA E 9)), (1, .int a1), (2, .int a2), (3, .ref (eA E 1)), (4, .int a4)]) hF.x hF.b dX2_join_50 hl (by decide) rfl (fun ls hl => ?_)
  refine lv_aload_n hF.x hF.b dX2_join_52 rfl (lv_at hl 4 rfl) ?_
  refine lv_iload_n hF.x hF.b dX2_join_53 rfl (lv_at hl 5 rfl) ?_
  refine lv_iload hF.x hF.b dX2_join_54 (lv_at hl 3 rfl) ?_
  replace h := bd_some h
  obtain ⟨v24, σ25, hv24, h⟩ := h
  refine w_cVi (As := [.int a1, .int y14]) (rest := []) hF hH hl 9 (by decide) rfl rfl (tX2_busesWith l E hF.j _ _ _ _ hv24) tk_218 tk_219 tk_220 tk_43 tk_221 rfl rfl hdX2_busesWith ⟨Nat.le_of_ble_eq_true rfl, Nat.le_of_ble_eq_true rfl⟩ rfl rfl (Nat.le_of_ble_eq_true rfl) dX2_join_56 (fun H locs hH => ?_)
  refine lv_iload hF.x hF.b dX2_join_59 (lv_at hl 2 rfl) ?_
  replace h := bd_some h
  obtain ⟨v26, σ27, hv26, h⟩ := h
  refine w_cNi (As := [.int v24, .int y15]) (rest := []) hF hH hl (tX5_bit l E hF.j _ _ _ _ hv26) (List.mem_of_getElem? (l := nestW) (i := 1) rfl) tk_227 tk_41 tk_228 rfl rfl hdX5_bit ⟨Nat.le_of_ble_eq_true rfl, Nat.le_of_ble_eq_true rfl⟩ rfl rfl (Nat.le_of_ble_eq_true rfl) dX2_join_61 (fun H locs hH => ?_)
  refine lv_if_ne (tgt := 79) hF.x hF.b dX2_join_64 (by decide) (fun c28 => ?_) (fun c28 => ?_)
  · rw [if_neg c28] at h
    exact w79 _ _ _ _ _ _ _ _ h hH (lv_sub hl [4, 5, 6, 7, 1, 0] rfl)
  · rw [if_pos c28] at h
    refine lv_iload hF.x hF.b dX2_join_67 (lv_at hl 0 rfl) ?_
    refine lv_aload_n hF.x hF.b dX2_join_69 rfl (lv_at hl 4 rfl) ?_
    refine lv_iload_n hF.x hF.b dX2_join_70 rfl (lv_at hl 5 rfl) ?_
    refine lv_iload hF.x hF.b dX2_join_71 (lv_at hl 2 rfl) ?_
    replace h := bd_some h
    obtain ⟨v29, σ30, hv29, h⟩ := h
    refine w_cVi (As := [.int a1, .int y15]) (rest := [.int y23]) hF hH hl 9 (by decide) rfl rfl (tX2_drawAround l E hF.j _ _ _ _ hv29) tk_222 tk_223 tk_224 tk_43 tk_225 rfl rfl hdX2_drawAround ⟨Nat.le_of_ble_eq_true rfl, Nat.le_of_ble_eq_true rfl⟩ rfl rfl (Nat.le_of_ble_eq_true rfl) dX2_join_73 (fun H locs hH => ?_)
    refine lv_iadd hF.x hF.b dX2_join_76 ?_
    refine lv_topi (fun y31 ey31 => ?_)
    replace h := sv_at h ey31
    clear ey31
    refine lv_istore (lv' := [(8, .int y31), (7, .int y20), (6, .int y15), (5, .int y14), (0, .ref (eA E 9)), (1, .int a1), (2, .int a2), (3, .ref (eA E 1)), (4, .int a4)]) hF.x hF.b dX2_join_77 hl (by decide) rfl (fun ls hl => ?_)
    exact w79 _ _ _ _ _ _ _ _ h hH (lv_sub hl [4, 5, 6, 7, 1, 0] rfl)
theorem hdX2_learnLine : yX2_learnLine.cls = RX2 ∧ yX2_learnLine.cls ≠ "java/lang/invoke/MethodHandle" ∧ yX2_learnLine.cls ≠ "java/lang/invoke/VarHandle" ∧ (parseMethodDescriptor yX2_learnLine.desc).map (fun d => d.parameters.length) = some 2 := by decide +kernel
set_option maxHeartbeats 4000000 in
set_option maxRecDepth 100000 in
theorem tX2_learnLine (l : Launch) (E : Ev) (hj : Inj kC E) (a2 : Int32) (σ : Sg) (r : Int32 × Sg) (h : fX2_learnLine a2 σ = some r) : CV l yX2_learnLine cX2_learnLine 5 (rmk 2 52) kC E [.ref (eA E 9), .ref (eA E 1), .int a2] σ r := by
  refine CV_v (lv := [(0, .ref (eA E 9)), (1, .ref (eA E 1)), (2, .int a2)]) (by decide) hj (Nat.le_of_ble_eq_true rfl) rfl (fun p e s m args below meth c ls Q hF hret hH hl => ?_)
  have w9 : ∀ (n : Nat) (x2 x3 x4 : Int32) (σ : Sg) (H : Heap) (locs : List Loc) (ls : Array Slot), it fX2_learnLine_L9 (fun _ _ _ _ => none) n x2 x3 x4 σ = some r → HP kC E s σ H locs → lv_has ls 5 [(0, .ref (eA E 9)), (1, .ref (eA E 1)), (2, .int x2), (3, .int x3), (4, .int x4)] → W p l e (rmk 2 52) s m args below meth c H locs 0 0 Q (F0 m 9 ls []) := by
    intro n9
    induction n9 with
    | zero =>
      intro x2 x3 x4 σ H locs ls h hH hl
      cases (show (none : Rs) = some r from h)
    | succ n9 ih9 =>
      intro x2 x3 x4 σ H locs ls h hH hl
      replace h : fX2_learnLine_L9 (it fX2_learnLine_L9 (fun _ _ _ _ => none) n9) x2 x3 x4 σ = some r := h
      unfold fX2_learnLine_L9 at h
      refine lv_iload hF.x hF.b dX2_learnLine_9 (lv_at hl 4 rfl) ?_
      refine lv_iload_n hF.x hF.b dX2_learnLine_11 rfl (lv_at hl 3 rfl) ?_
      refine lv_icmp_ge (tgt := 35) hF.x hF.b dX2_learnLine_12 (by decide) (fun c1 => ?_) (fun c1 => ?_)
      · rw [if_pos c1] at h
        exact hret _ _ _ _ _ hH h dX2_learnLine_35
      · rw [if_neg c1] at h
        refine lv_aload_n hF.x hF.b dX2_learnLine_15 rfl (lv_at hl 0 rfl) ?_
        refine lv_iload hF.x hF.b dX2_learnLine_16 (lv_at hl 4 rfl) ?_
        refine lv_iconst (v := 1) hF.x hF.b dX2_learnLine_18 (by decide) ?_
        refine lv_iload_n hF.x hF.b dX2_learnLine_19 rfl (lv_at hl 2 rfl) ?_
        refine lv_ishl hF.x hF.b dX2_learnLine_20 ?_
        refine lv_isub hF.x hF.b dX2_learnLine_21 ?_
        refine lv_iload hF.x hF.b dX2_learnLine_22 (lv_at hl 4 rfl) ?_
        refine lv_aload_n hF.x hF.b dX2_learnLine_24 rfl (lv_at hl 1 rfl) ?_
        refine lv_iload_n hF.x hF.b dX2_learnLine_25 rfl (lv_at hl 2 rfl) ?_
        replace h := bd_some h
        obtain ⟨v2, σ3, hv2, h⟩ := h
        refine w_cVv (As := [.int (x4 - ((1 : Int32) <<< (x2 &&& 31))), .int x4, .ref (eA E 1), .int x2]) (rest := []) hF hH hl 9 (by decide) rfl rfl (tX2_join l E hF.j _ _ _ _ _ hv2) tk_214 tk_216 tk_0 tk_43 tk_217 rfl rfl hdX2_join ⟨Nat.le_of_ble_eq_true rfl, Nat.le_of_ble_eq_true rfl⟩ rfl rfl (Nat.le_of_ble_eq_true rfl) dX2_learnLine_26 (fun H locs hH => ?_)
        obtain ⟨y4, ey4⟩ : ∃ z : Int32, z = (x4 + 1) := ⟨_, rfl⟩
        replace h := sv_at h ey4
        refine lv_iinc (v := y4) (lv' := [(4, .int y4), (0, .ref (eA E 9)), (1, .ref (eA E 1)), (2, .int x2), (3, .int x3)]) hF.x hF.b dX2_learnLine_29 hl (k := 4) rfl (by rw [ey4]; rfl) (by decide) rfl (fun ls hl => ?_)
        clear ey4
        refine lv_goto (tgt := 9) hF.x hF.b dX2_learnLine_32 (by decide) ?_
        exact ih9 _ _ _ _ _ _ _ h hH (lv_sub hl [1, 2, 3, 4, 0] rfl)
  unfold fX2_learnLine at h
  refine lv_iconst (v := 2) hF.x hF.b dX2_learnLine_0 (by decide) ?_
  refine lv_iload_n hF.x hF.b dX2_learnLine_1 rfl (lv_at hl 2 rfl) ?_
  refine lv_ishl hF.x hF.b dX2_learnLine_2 ?_
  refine lv_topi (fun y5 ey5 => ?_)
  replace h := sv_at h ey5
  clear ey5
  refine lv_istore_n (lv' := [(3, .int y5), (0, .ref (eA E 9)), (1, .ref (eA E 1)), (2, .int a2)]) hF.x hF.b dX2_learnLine_3 rfl hl (by decide) rfl (fun ls hl => ?_)
  refine lv_iconst (v := 1) hF.x hF.b dX2_learnLine_4 (by decide) ?_
  refine lv_iload_n hF.x hF.b dX2_learnLine_5 rfl (lv_at hl 3 rfl) ?_
  refine lv_ishl hF.x hF.b dX2_learnLine_6 ?_
  refine lv_topi (fun y6 ey6 => ?_)
  replace h := sv_at h ey6
  clear ey6
  refine lv_istore (lv' := [(4, .int y6), (3, .int y5), (0, .ref (eA E 9)), (1, .ref (eA E 1)), (2, .int a2)]) hF.x hF.b dX2_learnLine_7 hl (by decide) rfl (fun ls hl => ?_)
  exact w9 _ _ _ _ _ _ _ _ h hH (lv_sub hl [2, 3, 4, 1, 0] rfl)
end
section
theorem hdX3_liveBuses : yX3_liveBuses.cls = RX3 ∧ yX3_liveBuses.cls ≠ "java/lang/invoke/MethodHandle" ∧ yX3_liveBuses.cls ≠ "java/lang/invoke/VarHandle" ∧ (parseMethodDescriptor yX3_liveBuses.desc).map (fun d => d.parameters.length) = some 1 := by decide +kernel
set_option maxHeartbeats 4000000 in
set_option maxRecDepth 100000 in
theorem tX3_liveBuses (l : Launch) (E : Ev) (hj : Inj kC E) (a1 : Int32) (σ : Sg) (r : Int32 × Sg) (h : fX3_liveBuses a1 σ = some r) : CI l yX3_liveBuses cX3_liveBuses 4 (some FieldType.int) (rmk 2 42) kC E [.ref (eA E 12), .int a1] σ r := by
  refine CI_i (lv := [(0, .ref (eA E 12)), (1, .int a1)]) (by decide) hj (Nat.le_of_ble_eq_true rfl) rfl (fun p e s m args below meth c ls Q hF hret hH hl => ?_)
  have w4 : ∀ (n : Nat) (x1 x2 x3 : Int32) (σ : Sg) (H : Heap) (locs : List Loc) (ls : Array Slot), it fX3_liveBuses_L4 (fun _ _ _ _ => none) n x1 x2 x3 σ = some r → HP kC E s σ H locs → lv_has ls 4 [(0, .ref (eA E 12)), (1, .int x1), (2, .int x2), (3, .int x3)] → W p l e (rmk 2 42) s m args below meth c H locs 0 0 Q (F0 m 4 ls []) := by
    intro n4
    induction n4 with
    | zero =>
      intro x1 x2 x3 σ H locs ls h hH hl
      cases (show (none : Rs) = some r from h)
    | succ n4 ih4 =>
      have w46 : ∀ (x1 x2 x3 : Int32) (σ : Sg) (H : Heap) (locs : List Loc) (ls : Array Slot), fX3_liveBuses_46 (it fX3_liveBuses_L4 (fun _ _ _ _ => none) n4) x1 x2 x3 σ = some r → HP kC E s σ H locs → lv_has ls 4 [(0, .ref (eA E 12)), (1, .int x1), (2, .int x2), (3, .int x3)] → W p l e (rmk 2 42) s m args below meth c H locs 0 0 Q (F0 m 46 ls []) := by
        intro x1 x2 x3 σ H locs ls h hH hl
        unfold fX3_liveBuses_46 at h
        obtain ⟨y1, ey1⟩ : ∃ z : Int32, z = (x3 + 1) := ⟨_, rfl⟩
        replace h := sv_at h ey1
        refine lv_iinc (v := y1) (lv' := [(3, .int y1), (0, .ref (eA E 12)), (1, .int x1), (2, .int x2)]) hF.x hF.b dX3_liveBuses_46 hl (k := 3) rfl (by rw [ey1]; rfl) (by decide) rfl (fun ls hl => ?_)
        clear ey1
        refine lv_goto (tgt := 4) hF.x hF.b dX3_liveBuses_49 (by decide) ?_
        exact ih4 _ _ _ _ _ _ _ h hH (lv_sub hl [1, 2, 3, 0] rfl)
      intro x1 x2 x3 σ H locs ls h hH hl
      replace h : fX3_liveBuses_L4 (it fX3_liveBuses_L4 (fun _ _ _ _ => none) n4) x1 x2 x3 σ = some r := h
      unfold fX3_liveBuses_L4 at h
      refine lv_iload_n hF.x hF.b dX3_liveBuses_4 rfl (lv_at hl 3 rfl) ?_
      refine lv_aload_n hF.x hF.b dX3_liveBuses_5 rfl (lv_at hl 0 rfl) ?_
      refine gfC_12_0 hF hH tk_141 dX3_liveBuses_6 ?_
      refine gfC_1_4 hF hH tk_79 dX3_liveBuses_9 ?_
      refine lv_icmp_ge (tgt := 52) hF.x hF.b dX3_liveBuses_12 (by decide) (fun c2 => ?_) (fun c2 => ?_)
      · rw [if_pos c2] at h
        refine lv_iload_n hF.x hF.b dX3_liveBuses_52 rfl (lv_at hl 2 rfl) ?_
        exact hret _ _ _ _ _ _ hH h dX3_liveBuses_53
      · rw [if_neg c2] at h
        refine lv_iload_n hF.x hF.b dX3_liveBuses_15 rfl (lv_at hl 1 rfl) ?_
        refine lv_iload_n hF.x hF.b dX3_liveBuses_16 rfl (lv_at hl 3 rfl) ?_
        replace h := bd_some h
        obtain ⟨v3, σ4, hv3, h⟩ := h
        refine w_cSi (As := [.int x1, .int x3]) (rest := []) hF hH hl (tX0_isRunning l E hF.j _ _ _ _ hv3) tk_290 tk_271 tk_48 tk_272 rfl rfl hdX0_isRunning ⟨Nat.le_of_ble_eq_true rfl, Nat.le_of_ble_eq_true rfl⟩ rfl rfl (Nat.le_of_ble_eq_true rfl) dX3_liveBuses_17 (fun H locs hH => ?_)
        refine lv_if_eq (tgt := 46) hF.x hF.b dX3_liveBuses_20 (by decide) (fun c5 => ?_) (fun c5 => ?_)
        · rw [if_pos c5] at h
          exact w46 _ _ _ _ _ _ _ h hH (lv_sub hl [0, 1, 2, 3] rfl)
        · rw [if_neg c5] at h
          refine lv_iload_n hF.x hF.b dX3_liveBuses_23 rfl (lv_at hl 2 rfl) ?_
          refine lv_aload_n hF.x hF.b dX3_liveBuses_24 rfl (lv_at hl 0 rfl) ?_
          refine gfC_12_1 hF hH tk_142 dX3_liveBuses_25 ?_
          refine lv_iload_n hF.x hF.b dX3_liveBuses_28 rfl (lv_at hl 1 rfl) ?_
          replace h := bd_some h
          obtain ⟨v6, σ7, hv6, h⟩ := h
          refine w_cSi (As := [.int x1]) (rest := [.ref (eA E 9), .int x2]) hF hH hl (tX0_closed l E hF.j _ _ _ hv6) tk_291 tk_259 tk_48 tk_260 rfl rfl hdX0_closed ⟨Nat.le_of_ble_eq_true rfl, Nat.le_of_ble_eq_true rfl⟩ rfl rfl (Nat.le_of_ble_eq_true rfl) dX3_liveBuses_29 (fun H locs hH => ?_)
          refine lv_aload_n hF.x hF.b dX3_liveBuses_32 rfl (lv_at hl 0 rfl) ?_
          refine gfC_12_0 hF hH tk_141 dX3_liveBuses_33 ?_
          refine gfC_1_5 hF hH tk_83 dX3_liveBuses_36 ?_
          refine lv_iload_n hF.x hF.b dX3_liveBuses_39 rfl (lv_at hl 3 rfl) ?_
          refine alC_5 hF hH (gd_some h).1 dX3_liveBuses_40 ?_
          replace h := (gd_some h).2
          replace h := bd_some h
          obtain ⟨v8, σ9, hv8, h⟩ := h
          refine w_cVi (As := [.int v6, .int (σ7 5 (Int32.toNatClampNeg x3))]) (rest := [.int x2]) hF hH hl 9 (by decide) rfl rfl (tX2_busesWith l E hF.j _ _ _ _ hv8) tk_292 tk_219 tk_220 tk_43 tk_221 rfl rfl hdX2_busesWith ⟨Nat.le_of_ble_eq_true rfl, Nat.le_of_ble_eq_true rfl⟩ rfl rfl (Nat.le_of_ble_eq_true rfl) dX3_liveBuses_41 (fun H locs hH => ?_)
          refine lv_ior hF.x hF.b dX3_liveBuses_44 ?_
          refine lv_topi (fun y10 ey10 => ?_)
          replace h := sv_at h ey10
          clear ey10
          refine lv_istore_n (lv' := [(2, .int y10), (0, .ref (eA E 12)), (1, .int x1), (3, .int x3)]) hF.x hF.b dX3_liveBuses_45 rfl hl (by decide) rfl (fun ls hl => ?_)
          exact w46 _ _ _ _ _ _ _ h hH (lv_sub hl [1, 2, 0, 3] rfl)
  unfold fX3_liveBuses at h
  refine lv_iconst (v := 0) hF.x hF.b dX3_liveBuses_0 (by decide) ?_
  refine lv_istore_n (lv' := [(2, .int 0), (0, .ref (eA E 12)), (1, .int a1)]) hF.x hF.b dX3_liveBuses_1 rfl hl (by decide) rfl (fun ls hl => ?_)
  refine lv_iconst (v := 0) hF.x hF.b dX3_liveBuses_2 (by decide) ?_
  refine lv_istore_n (lv' := [(3, .int 0), (2, .int 0), (0, .ref (eA E 12)), (1, .int a1)]) hF.x hF.b dX3_liveBuses_3 rfl hl (by decide) rfl (fun ls hl => ?_)
  exact w4 _ _ _ _ _ _ _ _ h hH (lv_sub hl [2, 3, 1, 0] rfl)
theorem hdX3_countLiveIslands : yX3_countLiveIslands.cls = RX3 ∧ yX3_countLiveIslands.cls ≠ "java/lang/invoke/MethodHandle" ∧ yX3_countLiveIslands.cls ≠ "java/lang/invoke/VarHandle" ∧ (parseMethodDescriptor yX3_countLiveIslands.desc).map (fun d => d.parameters.length) = some 1 := by decide +kernel
set_option maxHeartbeats 4000000 in
set_option maxRecDepth 100000 in
theorem tX3_countLiveIslands (l : Launch) (E : Ev) (hj : Inj kC E) (a1 : Int32) (σ : Sg) (r : Int32 × Sg) (h : fX3_countLiveIslands a1 σ = some r) : CI l yX3_countLiveIslands cX3_countLiveIslands 7 (some FieldType.int) (rmk 3 65) kC E [.ref (eA E 12), .int a1] σ r := by
  refine CI_i (lv := [(0, .ref (eA E 12)), (1, .int a1)]) (by decide) hj (Nat.le_of_ble_eq_true rfl) rfl (fun p e s m args below meth c ls Q hF hret hH hl => ?_)
  have w11 : ∀ (n : Nat) (x1 x2 x3 x4 : Int32) (σ : Sg) (H : Heap) (locs : List Loc) (ls : Array Slot), it fX3_countLiveIslands_L11 (fun _ _ _ _ _ => none) n x1 x2 x3 x4 σ = some r → HP kC E s σ H locs → lv_has ls 7 [(0, .ref (eA E 12)), (1, .int x1), (2, .int x2), (3, .int x3), (4, .int x4)] → W p l e (rmk 3 65) s m args below meth c H locs 0 0 Q (F0 m 11 ls []) := by
    intro n11
    induction n11 with
    | zero =>
      intro x1 x2 x3 x4 σ H locs ls h hH hl
      cases (show (none : Rs) = some r from h)
    | succ n11 ih11 =>
      have w68 : ∀ (x1 x2 x3 x4 : Int32) (σ : Sg) (H : Heap) (locs : List Loc) (ls : Array Slot), fX3_countLiveIslands_68 (it fX3_countLiveIslands_L11 (fun _ _ _ _ _ => none) n11) x1 x2 x3 x4 σ = some r → HP kC E s σ H locs → lv_has ls 7 [(0, .ref (eA E 12)), (1, .int x1), (2, .int x2), (3, .int x3), (4, .int x4)] → W p l e (rmk 3 65) s m args below meth c H locs 0 0 Q (F0 m 68 ls []) := by
        intro x1 x2 x3 x4 σ H locs ls h hH hl
        unfold fX3_countLiveIslands_68 at h
        obtain ⟨y1, ey1⟩ : ∃ z : Int32, z = (x4 + 1) := ⟨_, rfl⟩
        replace h := sv_at h ey1
        refine lv_iinc (v := y1) (lv' := [(4, .int y1), (0, .ref (eA E 12)), (1, .int x1), (2, .int x2), (3, .int x3)]) hF.x hF.b dX3_countLiveIslands_68 hl (k := 4) rfl (by rw [ey1]; rfl) (by decide) rfl (fun ls hl => ?_)
        clear ey1
        refine lv_goto (tgt := 11) hF.x hF.b dX3_countLiveIslands_71 (by decide) ?_
        exact ih11 _ _ _ _ _ _ _ _ h hH (lv_sub hl [1, 2, 3, 4, 0] rfl)
      have w49 : ∀ (x1 x2 x3 x4 t0 : Int32) (σ : Sg) (H : Heap) (locs : List Loc) (ls : Array Slot), fX3_countLiveIslands_49 (it fX3_countLiveIslands_L11 (fun _ _ _ _ _ => none) n11) x1 x2 x3 x4 t0 σ = some r → HP kC E s σ H locs → lv_has ls 7 [(0, .ref (eA E 12)), (1, .int x1), (2, .int x2), (3, .int x3), (4, .int x4)] → W p l e (rmk 3 65) s m args below meth c H locs 0 0 Q (F0 m 49 ls [.int t0]) := by
        intro x1 x2 x3 x4 t0 σ H locs ls h hH hl
        unfold fX3_countLiveIslands_49 at h
        refine lv_istore (lv' := [(6, .int t0), (0, .ref (eA E 12)), (1, .int x1), (2, .int x2), (3, .int x3), (4, .int x4)]) hF.x hF.b dX3_countLiveIslands_49 hl (by decide) rfl (fun ls hl => ?_)
        refine lv_iload hF.x hF.b dX3_countLiveIslands_51 (lv_at hl 0 rfl) ?_
        refine lv_if_eq (tgt := 68) hF.x hF.b dX3_countLiveIslands_53 (by decide) (fun c2 => ?_) (fun c2 => ?_)
        · rw [if_pos c2] at h
          exact w68 _ _ _ _ _ _ _ _ h hH (lv_sub hl [1, 2, 3, 4, 5] rfl)
        · rw [if_neg c2] at h
          refine lv_iload_n hF.x hF.b dX3_countLiveIslands_56 rfl (lv_at hl 3 rfl) ?_
          refine lv_iload hF.x hF.b dX3_countLiveIslands_57 (lv_at hl 5 rfl) ?_
          replace h := bd_some h
          obtain ⟨v3, σ4, hv3, h⟩ := h
          refine w_cNi (As := [.int x2, .int x4]) (rest := []) hF hH hl (tX5_bit l E hF.j _ _ _ _ hv3) (List.mem_of_getElem? (l := nestW) (i := 3) rfl) tk_227 tk_41 tk_228 rfl rfl hdX5_bit ⟨Nat.le_of_ble_eq_true rfl, Nat.le_of_ble_eq_true rfl⟩ rfl rfl (Nat.le_of_ble_eq_true rfl) dX3_countLiveIslands_59 (fun H locs hH => ?_)
          refine lv_if_eq (tgt := 68) hF.x hF.b dX3_countLiveIslands_62 (by decide) (fun c5 => ?_) (fun c5 => ?_)
          · rw [if_pos c5] at h
            exact w68 _ _ _ _ _ _ _ _ h hH (lv_sub hl [1, 2, 3, 4, 5] rfl)
          · rw [if_neg c5] at h
            obtain ⟨y6, ey6⟩ : ∃ z : Int32, z = (x3 + 1) := ⟨_, rfl⟩
            replace h := sv_at h ey6
            refine lv_iinc (v := y6) (lv' := [(3, .int y6), (6, .int t0), (0, .ref (eA E 12)), (1, .int x1), (2, .int x2), (4, .int x4)]) hF.x hF.b dX3_countLiveIslands_65 hl (k := 4) rfl (by rw [ey6]; rfl) (by decide) rfl (fun ls hl => ?_)
            clear ey6
            exact w68 _ _ _ _ _ _ _ _ h hH (lv_sub hl [2, 3, 4, 0, 5] rfl)
      intro x1 x2 x3 x4 σ H locs ls h hH hl
      replace h : fX3_countLiveIslands_L11 (it fX3_countLiveIslands_L11 (fun _ _ _ _ _ => none) n11) x1 x2 x3 x4 σ = some r := h
      unfold fX3_countLiveIslands_L11 at h
      refine lv_iload hF.x hF.b dX3_countLiveIslands_11 (lv_at hl 4 rfl) ?_
      refine lv_bipush (v := 6) hF.x hF.b dX3_countLiveIslands_13 (by decide) ?_
      refine lv_icmp_ge (tgt := 74) hF.x hF.b dX3_countLiveIslands_15 (by decide) (fun c7 => ?_) (fun c7 => ?_)
      · rw [if_pos c7] at h
        refine lv_iload_n hF.x hF.b dX3_countLiveIslands_74 rfl (lv_at hl 3 rfl) ?_
        exact hret _ _ _ _ _ _ hH h dX3_countLiveIslands_75
      · rw [if_neg c7] at h
        refine lv_aload_n hF.x hF.b dX3_countLiveIslands_18 rfl (lv_at hl 0 rfl) ?_
        refine gfC_12_1 hF hH tk_142 dX3_countLiveIslands_19 ?_
        refine lv_iload_n hF.x hF.b dX3_countLiveIslands_22 rfl (lv_at hl 1 rfl) ?_
        replace h := bd_some h
        obtain ⟨v8, σ9, hv8, h⟩ := h
        refine w_cSi (As := [.int x1]) (rest := [.ref (eA E 9)]) hF hH hl (tX0_closed l E hF.j _ _ _ hv8) tk_291 tk_259 tk_48 tk_260 rfl rfl hdX0_closed ⟨Nat.le_of_ble_eq_true rfl, Nat.le_of_ble_eq_true rfl⟩ rfl rfl (Nat.le_of_ble_eq_true rfl) dX3_countLiveIslands_23 (fun H locs hH => ?_)
        refine lv_iload hF.x hF.b dX3_countLiveIslands_26 (lv_at hl 4 rfl) ?_
        replace h := bd_some h
        obtain ⟨v10, σ11, hv10, h⟩ := h
        refine w_cVi (As := [.int v8, .int x4]) (rest := []) hF hH hl 9 (by decide) rfl rfl (tX2_busesWith l E hF.j _ _ _ _ hv10) tk_292 tk_219 tk_220 tk_43 tk_221 rfl rfl hdX2_busesWith ⟨Nat.le_of_ble_eq_true rfl, Nat.le_of_ble_eq_true rfl⟩ rfl rfl (Nat.le_of_ble_eq_true rfl) dX3_countLiveIslands_28 (fun H locs hH => ?_)
        refine lv_istore (lv' := [(5, .int v10), (0, .ref (eA E 12)), (1, .int x1), (2, .int x2), (3, .int x3), (4, .int x4)]) hF.x hF.b dX3_countLiveIslands_31 hl (by decide) rfl (fun ls hl => ?_)
        refine lv_iload hF.x hF.b dX3_countLiveIslands_33 (lv_at hl 0 rfl) ?_
        refine lv_iload hF.x hF.b dX3_countLiveIslands_35 (lv_at hl 5 rfl) ?_
        replace h := bd_some h
        obtain ⟨v12, σ13, hv12, h⟩ := h
        refine w_cNi (As := [.int x4]) (rest := [.int v10]) hF hH hl (tX5_setOfFirst l E hF.j _ _ _ hv12) (List.mem_of_getElem? (l := nestW) (i := 6) rfl) tk_380 tk_41 tk_381 rfl rfl hdX5_setOfFirst ⟨Nat.le_of_ble_eq_true rfl, Nat.le_of_ble_eq_true rfl⟩ rfl rfl (Nat.le_of_ble_eq_true rfl) dX3_countLiveIslands_37 (fun H locs hH => ?_)
        refine lv_iand hF.x hF.b dX3_countLiveIslands_40 ?_
        refine lv_if_ne (tgt := 48) hF.x hF.b dX3_countLiveIslands_41 (by decide) (fun c14 => ?_) (fun c14 => ?_)
        · rw [if_neg c14] at h
          refine lv_iconst (v := 0) hF.x hF.b dX3_countLiveIslands_48 (by decide) ?_
          exact w49 _ _ _ _ _ _ _ _ _ h hH (lv_sub hl [1, 2, 3, 4, 5] rfl)
        · rw [if_pos c14] at h
          refine lv_iconst (v := 1) hF.x hF.b dX3_countLiveIslands_44 (by decide) ?_
          refine lv_goto (tgt := 49) hF.x hF.b dX3_countLiveIslands_45 (by decide) ?_
          exact w49 _ _ _ _ _ _ _ _ _ h hH (lv_sub hl [1, 2, 3, 4, 5] rfl)
  unfold fX3_countLiveIslands at h
  refine lv_aload_n hF.x hF.b dX3_countLiveIslands_0 rfl (lv_at hl 0 rfl) ?_
  refine lv_iload_n hF.x hF.b dX3_countLiveIslands_1 rfl (lv_at hl 1 rfl) ?_
  replace h := bd_some h
  obtain ⟨v15, σ16, hv15, h⟩ := h
  refine w_cVi (As := [.int a1]) (rest := []) hF hH hl 12 (by decide) rfl rfl (tX3_liveBuses l E hF.j _ _ _ hv15) tk_316 tk_287 tk_288 tk_44 tk_289 rfl rfl hdX3_liveBuses ⟨Nat.le_of_ble_eq_true rfl, Nat.le_of_ble_eq_true rfl⟩ rfl rfl (Nat.le_of_ble_eq_true rfl) dX3_countLiveIslands_2 (fun H locs hH => ?_)
  refine lv_istore_n (lv' := [(2, .int v15), (0, .ref (eA E 12)), (1, .int a1)]) hF.x hF.b dX3_countLiveIslands_5 rfl hl (by decide) rfl (fun ls hl => ?_)
  refine lv_iconst (v := 0) hF.x hF.b dX3_countLiveIslands_6 (by decide) ?_
  refine lv_istore_n (lv' := [(3, .int 0), (2, .int v15), (0, .ref (eA E 12)), (1, .int a1)]) hF.x hF.b dX3_countLiveIslands_7 rfl hl (by decide) rfl (fun ls hl => ?_)
  refine lv_iconst (v := 0) hF.x hF.b dX3_countLiveIslands_8 (by decide) ?_
  refine lv_istore (lv' := [(4, .int 0), (3, .int 0), (2, .int v15), (0, .ref (eA E 12)), (1, .int a1)]) hF.x hF.b dX3_countLiveIslands_9 hl (by decide) rfl (fun ls hl => ?_)
  exact w11 _ _ _ _ _ _ _ _ _ h hH (lv_sub hl [3, 4, 2, 1, 0] rfl)
theorem hdX3_spareOf : yX3_spareOf.cls = RX3 ∧ yX3_spareOf.cls ≠ "java/lang/invoke/MethodHandle" ∧ yX3_spareOf.cls ≠ "java/lang/invoke/VarHandle" ∧ (parseMethodDescriptor yX3_spareOf.desc).map (fun d => d.parameters.length) = some 3 := by decide +kernel
set_option maxHeartbeats 4000000 in
set_option maxRecDepth 100000 in
theorem tX3_spareOf (l : Launch) (E : Ev) (hj : Inj kC E) (a1 : Int32) (a2 : Int32) (a3 : Int32) (σ : Sg) (r : Int32 × Sg) (h : fX3_spareOf a1 a2 a3 σ = some r) : CI l yX3_spareOf cX3_spareOf 7 (some FieldType.int) (rmk 1 22) kC E [.ref (eA E 12), .int a1, .int a2, .int a3] σ r := by
  refine CI_i (lv := [(0, .ref (eA E 12)), (1, .int a1), (2, .int a2), (3, .int a3)]) (by decide) hj (Nat.le_of_ble_eq_true rfl) rfl (fun p e s m args below meth c ls Q hF hret hH hl => ?_)
  have w26 : ∀ (n : Nat) (x2 x4 x5 x6 : Int32) (σ : Sg) (H : Heap) (locs : List Loc) (ls : Array Slot), it fX3_spareOf_L26 (fun _ _ _ _ _ => none) n x2 x4 x5 x6 σ = some r → HP kC E s σ H locs → lv_has ls 7 [(0, .ref (eA E 12)), (2, .int x2), (4, .int x4), (5, .int x5), (6, .int x6)] → W p l e (rmk 1 22) s m args below meth c H locs 0 0 Q (F0 m 26 ls []) := by
    intro n26
    induction n26 with
    | zero =>
      intro x2 x4 x5 x6 σ H locs ls h hH hl
      cases (show (none : Rs) = some r from h)
    | succ n26 ih26 =>
      have w80 : ∀ (x2 x4 x5 x6 : Int32) (σ : Sg) (H : Heap) (locs : List Loc) (ls : Array Slot), fX3_spareOf_80 (it fX3_spareOf_L26 (fun _ _ _ _ _ => none) n26) x2 x4 x5 x6 σ = some r → HP kC E s σ H locs → lv_has ls 7 [(0, .ref (eA E 12)), (2, .int x2), (4, .int x4), (5, .int x5), (6, .int x6)] → W p l e (rmk 1 22) s m args below meth c H locs 0 0 Q (F0 m 80 ls []) := by
        intro x2 x4 x5 x6 σ H locs ls h hH hl
        unfold fX3_spareOf_80 at h
        obtain ⟨y1, ey1⟩ : ∃ z : Int32, z = (x6 + 1) := ⟨_, rfl⟩
        replace h := sv_at h ey1
        refine lv_iinc (v := y1) (lv' := [(6, .int y1), (0, .ref (eA E 12)), (2, .int x2), (4, .int x4), (5, .int x5)]) hF.x hF.b dX3_spareOf_80 hl (k := 4) rfl (by rw [ey1]; rfl) (by decide) rfl (fun ls hl => ?_)
        clear ey1
        refine lv_goto (tgt := 26) hF.x hF.b dX3_spareOf_83 (by decide) ?_
        exact ih26 _ _ _ _ _ _ _ _ h hH (lv_sub hl [1, 2, 3, 4, 0] rfl)
      intro x2 x4 x5 x6 σ H locs ls h hH hl
      replace h : fX3_spareOf_L26 (it fX3_spareOf_L26 (fun _ _ _ _ _ => none) n26) x2 x4 x5 x6 σ = some r := h
      unfold fX3_spareOf_L26 at h
      refine lv_iload hF.x hF.b dX3_spareOf_26 (lv_at hl 4 rfl) ?_
      refine lv_aload_n hF.x hF.b dX3_spareOf_28 rfl (lv_at hl 0 rfl) ?_
      refine gfC_12_0 hF hH tk_141 dX3_spareOf_29 ?_
      refine gfC_1_4 hF hH tk_79 dX3_spareOf_32 ?_
      refine lv_icmp_ge (tgt := 86) hF.x hF.b dX3_spareOf_35 (by decide) (fun c2 => ?_) (fun c2 => ?_)
      · rw [if_pos c2] at h
        refine lv_iload hF.x hF.b dX3_spareOf_86 (lv_at hl 3 rfl) ?_
        exact hret _ _ _ _ _ _ hH h dX3_spareOf_88
      · rw [if_neg c2] at h
        refine lv_iload_n hF.x hF.b dX3_spareOf_38 rfl (lv_at hl 1 rfl) ?_
        refine lv_iload hF.x hF.b dX3_spareOf_39 (lv_at hl 4 rfl) ?_
        replace h := bd_some h
        obtain ⟨v3, σ4, hv3, h⟩ := h
        refine w_cNi (As := [.int x2, .int x6]) (rest := []) hF hH hl (tX5_bit l E hF.j _ _ _ _ hv3) (List.mem_of_getElem? (l := nestW) (i := 3) rfl) tk_227 tk_41 tk_228 rfl rfl hdX5_bit ⟨Nat.le_of_ble_eq_true rfl, Nat.le_of_ble_eq_true rfl⟩ rfl rfl (Nat.le_of_ble_eq_true rfl) dX3_spareOf_41 (fun H locs hH => ?_)
        refine lv_if_eq (tgt := 80) hF.x hF.b dX3_spareOf_44 (by decide) (fun c5 => ?_) (fun c5 => ?_)
        · rw [if_pos c5] at h
          exact w80 _ _ _ _ _ _ _ _ h hH (lv_sub hl [0, 1, 2, 3, 4] rfl)
        · rw [if_neg c5] at h
          refine lv_iload hF.x hF.b dX3_spareOf_47 (lv_at hl 2 rfl) ?_
          refine lv_aload_n hF.x hF.b dX3_spareOf_49 rfl (lv_at hl 0 rfl) ?_
          refine gfC_12_0 hF hH tk_141 dX3_spareOf_50 ?_
          refine gfC_1_5 hF hH tk_83 dX3_spareOf_53 ?_
          refine lv_iload hF.x hF.b dX3_spareOf_56 (lv_at hl 4 rfl) ?_
          refine alC_5 hF hH (gd_some h).1 dX3_spareOf_58 ?_
          replace h := (gd_some h).2
          replace h := bd_some h
          obtain ⟨v6, σ7, hv6, h⟩ := h
          refine w_cNi (As := [.int x4, .int (σ4 5 (Int32.toNatClampNeg x6))]) (rest := []) hF hH hl (tX5_bit l E hF.j _ _ _ _ hv6) (List.mem_of_getElem? (l := nestW) (i := 3) rfl) tk_227 tk_41 tk_228 rfl rfl hdX5_bit ⟨Nat.le_of_ble_eq_true rfl, Nat.le_of_ble_eq_true rfl⟩ rfl rfl (Nat.le_of_ble_eq_true rfl) dX3_spareOf_59 (fun H locs hH => ?_)
          refine lv_if_eq (tgt := 80) hF.x hF.b dX3_spareOf_62 (by decide) (fun c8 => ?_) (fun c8 => ?_)
          · rw [if_pos c8] at h
            exact w80 _ _ _ _ _ _ _ _ h hH (lv_sub hl [0, 1, 2, 3, 4] rfl)
          · rw [if_neg c8] at h
            refine lv_iload hF.x hF.b dX3_spareOf_65 (lv_at hl 3 rfl) ?_
            refine lv_aload_n hF.x hF.b dX3_spareOf_67 rfl (lv_at hl 0 rfl) ?_
            refine gfC_12_0 hF hH tk_141 dX3_spareOf_68 ?_
            refine gfC_1_7 hF hH tk_89 dX3_spareOf_71 ?_
            refine lv_iload hF.x hF.b dX3_spareOf_74 (lv_at hl 4 rfl) ?_
            refine alC_7 hF hH (gd_some h).1 dX3_spareOf_76 ?_
            replace h := (gd_some h).2
            refine lv_iadd hF.x hF.b dX3_spareOf_77 ?_
            refine lv_topi (fun y9 ey9 => ?_)
            replace h := sv_at h ey9
            clear ey9
            refine lv_istore (lv' := [(5, .int y9), (0, .ref (eA E 12)), (2, .int x2), (4, .int x4), (6, .int x6)]) hF.x hF.b dX3_spareOf_78 hl (by decide) rfl (fun ls hl => ?_)
            exact w80 _ _ _ _ _ _ _ _ h hH (lv_sub hl [1, 2, 3, 0, 4] rfl)
  unfold fX3_spareOf at h
  refine lv_aload_n hF.x hF.b dX3_spareOf_0 rfl (lv_at hl 0 rfl) ?_
  refine gfC_12_1 hF hH tk_142 dX3_spareOf_1 ?_
  refine lv_iload_n hF.x hF.b dX3_spareOf_4 rfl (lv_at hl 1 rfl) ?_
  refine lv_iload_n hF.x hF.b dX3_spareOf_5 rfl (lv_at hl 3 rfl) ?_
  replace h := bd_some h
  obtain ⟨v10, σ11, hv10, h⟩ := h
  refine w_cVi (As := [.int a1, .int a3]) (rest := []) hF hH hl 9 (by decide) rfl rfl (tX2_busesWith l E hF.j _ _ _ _ hv10) tk_292 tk_219 tk_220 tk_43 tk_221 rfl rfl hdX2_busesWith ⟨Nat.le_of_ble_eq_true rfl, Nat.le_of_ble_eq_true rfl⟩ rfl rfl (Nat.le_of_ble_eq_true rfl) dX3_spareOf_6 (fun H locs hH => ?_)
  refine lv_istore (lv' := [(4, .int v10), (0, .ref (eA E 12)), (1, .int a1), (2, .int a2), (3, .int a3)]) hF.x hF.b dX3_spareOf_9 hl (by decide) rfl (fun ls hl => ?_)
  refine lv_aload_n hF.x hF.b dX3_spareOf_11 rfl (lv_at hl 1 rfl) ?_
  refine gfC_12_1 hF hH tk_142 dX3_spareOf_12 ?_
  refine lv_iload_n hF.x hF.b dX3_spareOf_15 rfl (lv_at hl 2 rfl) ?_
  refine lv_iload_n hF.x hF.b dX3_spareOf_16 rfl (lv_at hl 4 rfl) ?_
  replace h := bd_some h
  obtain ⟨v12, σ13, hv12, h⟩ := h
  refine w_cVi (As := [.int a1, .int a3]) (rest := []) hF hH hl 9 (by decide) rfl rfl (tX2_drawAround l E hF.j _ _ _ _ hv12) tk_305 tk_223 tk_224 tk_43 tk_225 rfl rfl hdX2_drawAround ⟨Nat.le_of_ble_eq_true rfl, Nat.le_of_ble_eq_true rfl⟩ rfl rfl (Nat.le_of_ble_eq_true rfl) dX3_spareOf_17 (fun H locs hH => ?_)
  refine lv_ineg hF.x hF.b dX3_spareOf_20 ?_
  refine lv_topi (fun y14 ey14 => ?_)
  replace h := sv_at h ey14
  clear ey14
  refine lv_istore (lv' := [(5, .int y14), (4, .int v10), (0, .ref (eA E 12)), (1, .int a1), (2, .int a2), (3, .int a3)]) hF.x hF.b dX3_spareOf_21 hl (by decide) rfl (fun ls hl => ?_)
  refine lv_iconst (v := 0) hF.x hF.b dX3_spareOf_23 (by decide) ?_
  refine lv_istore (lv' := [(6, .int 0), (5, .int y14), (4, .int v10), (0, .ref (eA E 12)), (1, .int a1), (2, .int a2), (3, .int a3)]) hF.x hF.b dX3_spareOf_24 hl (by decide) rfl (fun ls hl => ?_)
  exact w26 _ _ _ _ _ _ _ _ _ h hH (lv_sub hl [3, 5, 2, 1, 0] rfl)
theorem hdX3_spare : yX3_spare.cls = RX3 ∧ yX3_spare.cls ≠ "java/lang/invoke/MethodHandle" ∧ yX3_spare.cls ≠ "java/lang/invoke/VarHandle" ∧ (parseMethodDescriptor yX3_spare.desc).map (fun d => d.parameters.length) = some 2 := by decide +kernel
set_option maxHeartbeats 4000000 in
set_option maxRecDepth 100000 in
theorem tX3_spare (l : Launch) (E : Ev) (hj : Inj kC E) (a1 : Int32) (a2 : Int32) (σ : Sg) (r : Int32 × Sg) (h : fX3_spare a1 a2 σ = some r) : CI l yX3_spare cX3_spare 3 (some FieldType.int) (rmk 3 63) kC E [.ref (eA E 12), .int a1, .int a2] σ r := by
  refine CI_i (lv := [(0, .ref (eA E 12)), (1, .int a1), (2, .int a2)]) (by decide) hj (Nat.le_of_ble_eq_true rfl) rfl (fun p e s m args below meth c ls Q hF hret hH hl => ?_)
  unfold fX3_spare at h
  refine lv_aload_n hF.x hF.b dX3_spare_0 rfl (lv_at hl 0 rfl) ?_
  refine lv_iload_n hF.x hF.b dX3_spare_1 rfl (lv_at hl 1 rfl) ?_
  replace h := bd_some h
  obtain ⟨v1, σ2, hv1, h⟩ := h
  refine w_cSi (As := [.int a1]) (rest := [.ref (eA E 12)]) hF hH hl (tX0_closed l E hF.j _ _ _ hv1) tk_291 tk_259 tk_48 tk_260 rfl rfl hdX0_closed ⟨Nat.le_of_ble_eq_true rfl, Nat.le_of_ble_eq_true rfl⟩ rfl rfl (Nat.le_of_ble_eq_true rfl) dX3_spare_2 (fun H locs hH => ?_)
  refine lv_iload_n hF.x hF.b dX3_spare_5 rfl (lv_at hl 1 rfl) ?_
  replace h := bd_some h
  obtain ⟨v3, σ4, hv3, h⟩ := h
  refine w_cSi (As := [.int a1]) (rest := [.int v1, .ref (eA E 12)]) hF hH hl (tX0_ready l E hF.j _ _ _ hv3) tk_297 tk_298 tk_48 tk_299 rfl rfl hdX0_ready ⟨Nat.le_of_ble_eq_true rfl, Nat.le_of_ble_eq_true rfl⟩ rfl rfl (Nat.le_of_ble_eq_true rfl) dX3_spare_6 (fun H locs hH => ?_)
  refine lv_iload_n hF.x hF.b dX3_spare_9 rfl (lv_at hl 2 rfl) ?_
  replace h := bd_some h
  obtain ⟨v5, σ6, hv5, h⟩ := h
  refine w_cVi (As := [.int v1, .int v3, .int a2]) (rest := []) hF hH hl 12 (by decide) rfl rfl (tX3_spareOf l E hF.j _ _ _ _ _ hv5) tk_301 tk_303 tk_1 tk_44 tk_304 rfl rfl hdX3_spareOf ⟨Nat.le_of_ble_eq_true rfl, Nat.le_of_ble_eq_true rfl⟩ rfl rfl (Nat.le_of_ble_eq_true rfl) dX3_spare_10 (fun H locs hH => ?_)
  exact hret _ _ _ _ _ _ hH h dX3_spare_13
theorem hdX3_isTold : yX3_isTold.cls = RX3 ∧ yX3_isTold.cls ≠ "java/lang/invoke/MethodHandle" ∧ yX3_isTold.cls ≠ "java/lang/invoke/VarHandle" ∧ (parseMethodDescriptor yX3_isTold.desc).map (fun d => d.parameters.length) = some 1 := by decide +kernel
set_option maxHeartbeats 4000000 in
set_option maxRecDepth 100000 in
theorem tX3_isTold (l : Launch) (E : Ev) (hj : Inj kC E) (a1 : Int32) (σ : Sg) (r : Int32 × Sg) (h : fX3_isTold a1 σ = some r) : CI l yX3_isTold cX3_isTold 2 (some FieldType.boolean) (rmk 1 21) kC E [.ref (eA E 12), .int a1] σ r := by
  refine CI_z (lv := [(0, .ref (eA E 12)), (1, .int a1)]) (by decide) hj (Nat.le_of_ble_eq_true rfl) rfl (fun p e s m args below meth c ls Q hF hret hH hl => ?_)
  have w39 : ∀ (t0 : Int32) (σ : Sg) (H : Heap) (locs : List Loc) (ls : Array Slot), fX3_isTold_39 t0 σ = some r → HP kC E s σ H locs → lv_has ls 2 [(0, .ref (eA E 12))] → W p l e (rmk 1 21) s m args below meth c H locs 0 0 Q (F0 m 39 ls [.int t0]) := by
    intro t0 σ H locs ls h hH hl
    unfold fX3_isTold_39 at h
    exact hret _ _ _ _ _ _ hH h dX3_isTold_39
  have w34 : ∀ (σ : Sg) (H : Heap) (locs : List Loc) (ls : Array Slot), fX3_isTold_34 σ = some r → HP kC E s σ H locs → lv_has ls 2 [(0, .ref (eA E 12))] → W p l e (rmk 1 21) s m args below meth c H locs 0 0 Q (F0 m 34 ls []) := by
    intro σ H locs ls h hH hl
    unfold fX3_isTold_34 at h
    refine lv_iconst (v := 1) hF.x hF.b dX3_isTold_34 (by decide) ?_
    refine lv_goto (tgt := 39) hF.x hF.b dX3_isTold_35 (by decide) ?_
    exact w39 _ _ _ _ _ h hH (lv_sub hl [0] rfl)
  unfold fX3_isTold at h
  refine lv_iload_n hF.x hF.b dX3_isTold_0 rfl (lv_at hl 1 rfl) ?_
  refine lv_iconst (v := 4) hF.x hF.b dX3_isTold_1 (by decide) ?_
  refine lv_icmp_lt (tgt := 16) hF.x hF.b dX3_isTold_2 (by decide) (fun c1 => ?_) (fun c1 => ?_)
  · rw [if_pos c1] at h
    refine lv_iload_n hF.x hF.b dX3_isTold_16 rfl (lv_at hl 1 rfl) ?_
    refine lv_iconst (v := 1) hF.x hF.b dX3_isTold_17 (by decide) ?_
    refine lv_icmp_lt (tgt := 34) hF.x hF.b dX3_isTold_18 (by decide) (fun c2 => ?_) (fun c2 => ?_)
    · rw [if_pos c2] at h
      exact w34 _ _ _ _ h hH (lv_sub hl [0] rfl)
    · rw [if_neg c2] at h
      refine lv_aload_n hF.x hF.b dX3_isTold_21 rfl (lv_at hl 0 rfl) ?_
      refine gfC_12_0 hF hH tk_141 dX3_isTold_22 ?_
      refine lv_iload_n hF.x hF.b dX3_isTold_25 rfl (lv_at hl 1 rfl) ?_
      refine lv_iconst (v := 1) hF.x hF.b dX3_isTold_26 (by decide) ?_
      refine lv_isub hF.x hF.b dX3_isTold_27 ?_
      replace h := bd_some h
      obtain ⟨v3, σ4, hv3, h⟩ := h
      refine w_cVi (As := [.int (a1 - (1 : Int32))]) (rest := []) hF hH hl 1 (by decide) rfl rfl (tX1_hasMachine l E hF.j _ _ _ hv3) tk_334 tk_267 tk_268 tk_42 tk_269 rfl rfl hdX1_hasMachine ⟨Nat.le_of_ble_eq_true rfl, Nat.le_of_ble_eq_true rfl⟩ rfl rfl (Nat.le_of_ble_eq_true rfl) dX3_isTold_28 (fun H locs hH => ?_)
      refine lv_if_eq (tgt := 38) hF.x hF.b dX3_isTold_31 (by decide) (fun c5 => ?_) (fun c5 => ?_)
      · rw [if_pos c5] at h
        refine lv_iconst (v := 0) hF.x hF.b dX3_isTold_38 (by decide) ?_
        exact w39 _ _ _ _ _ h hH (lv_sub hl [0] rfl)
      · rw [if_neg c5] at h
        exact w34 _ _ _ _ h hH (lv_sub hl [0] rfl)
  · rw [if_neg c1] at h
    refine lv_aload_n hF.x hF.b dX3_isTold_5 rfl (lv_at hl 0 rfl) ?_
    refine gfC_12_0 hF hH tk_141 dX3_isTold_6 ?_
    refine lv_iload_n hF.x hF.b dX3_isTold_9 rfl (lv_at hl 1 rfl) ?_
    refine lv_iconst (v := 4) hF.x hF.b dX3_isTold_10 (by decide) ?_
    refine lv_isub hF.x hF.b dX3_isTold_11 ?_
    replace h := bd_some h
    obtain ⟨v6, σ7, hv6, h⟩ := h
    refine w_cVi (As := [.int (a1 - (4 : Int32))]) (rest := []) hF hH hl 1 (by decide) rfl rfl (tX1_hasLine l E hF.j _ _ _ hv6) tk_333 tk_255 tk_256 tk_42 tk_257 rfl rfl hdX1_hasLine ⟨Nat.le_of_ble_eq_true rfl, Nat.le_of_ble_eq_true rfl⟩ rfl rfl (Nat.le_of_ble_eq_true rfl) dX3_isTold_12 (fun H locs hH => ?_)
    exact hret _ _ _ _ _ _ hH h dX3_isTold_15
theorem hdX3_canCrank : yX3_canCrank.cls = RX3 ∧ yX3_canCrank.cls ≠ "java/lang/invoke/MethodHandle" ∧ yX3_canCrank.cls ≠ "java/lang/invoke/VarHandle" ∧ (parseMethodDescriptor yX3_canCrank.desc).map (fun d => d.parameters.length) = some 4 := by decide +kernel
set_option maxHeartbeats 4000000 in
set_option maxRecDepth 100000 in
theorem tX3_canCrank (l : Launch) (E : Ev) (hj : Inj kC E) (a1 : Int32) (a2 : Int32) (a3 : Int32) (a4 : Int32) (σ : Sg) (r : Int32 × Sg) (h : fX3_canCrank a1 a2 a3 a4 σ = some r) : CI l yX3_canCrank cX3_canCrank 7 (some FieldType.boolean) (rmk 2 48) kC E [.ref (eA E 12), .int a1, .int a2, .int a3, .int a4] σ r := by
  refine CI_z (lv := [(0, .ref (eA E 12)), (1, .int a1), (2, .int a2), (3, .int a3), (4, .int a4)]) (by decide) hj (Nat.le_of_ble_eq_true rfl) rfl (fun p e s m args below meth c ls Q hF hret hH hl => ?_)
  have w56 : ∀ (t0 : Int32) (σ : Sg) (H : Heap) (locs : List Loc) (ls : Array Slot), fX3_canCrank_56 t0 σ = some r → HP kC E s σ H locs → lv_has ls 7 [(0, .ref (eA E 12))] → W p l e (rmk 2 48) s m args below meth c H locs 0 0 Q (F0 m 56 ls [.int t0]) := by
    intro t0 σ H locs ls h hH hl
    unfold fX3_canCrank_56 at h
    exact hret _ _ _ _ _ _ hH h dX3_canCrank_56
  have w51 : ∀ (σ : Sg) (H : Heap) (locs : List Loc) (ls : Array Slot), fX3_canCrank_51 σ = some r → HP kC E s σ H locs → lv_has ls 7 [(0, .ref (eA E 12))] → W p l e (rmk 2 48) s m args below meth c H locs 0 0 Q (F0 m 51 ls []) := by
    intro σ H locs ls h hH hl
    unfold fX3_canCrank_51 at h
    refine lv_iconst (v := 1) hF.x hF.b dX3_canCrank_51 (by decide) ?_
    refine lv_goto (tgt := 56) hF.x hF.b dX3_canCrank_52 (by decide) ?_
    exact w56 _ _ _ _ _ h hH (lv_sub hl [0] rfl)
  have w55 : ∀ (σ : Sg) (H : Heap) (locs : List Loc) (ls : Array Slot), fX3_canCrank_55 σ = some r → HP kC E s σ H locs → lv_has ls 7 [(0, .ref (eA E 12))] → W p l e (rmk 2 48) s m args below meth c H locs 0 0 Q (F0 m 55 ls []) := by
    intro σ H locs ls h hH hl
    unfold fX3_canCrank_55 at h
    refine lv_iconst (v := 0) hF.x hF.b dX3_canCrank_55 (by decide) ?_
    exact w56 _ _ _ _ _ h hH (lv_sub hl [0] rfl)
  unfold fX3_canCrank at h
  refine lv_aload_n hF.x hF.b dX3_canCrank_0 rfl (lv_at hl 0 rfl) ?_
  refine gfC_12_0 hF hH tk_141 dX3_canCrank_1 ?_
  refine gfC_1_6 hF hH tk_87 dX3_canCrank_4 ?_
  refine lv_iload hF.x hF.b dX3_canCrank_7 (lv_at hl 4 rfl) ?_
  refine alC_6 hF hH (gd_some h).1 dX3_canCrank_9 ?_
  replace h := (gd_some h).2
  refine lv_topi (fun y1 ey1 => ?_)
  replace h := sv_at h ey1
  clear ey1
  refine lv_istore (lv' := [(5, .int y1), (0, .ref (eA E 12)), (1, .int a1), (2, .int a2), (3, .int a3), (4, .int a4)]) hF.x hF.b dX3_canCrank_10 hl (by decide) rfl (fun ls hl => ?_)
  refine lv_aload_n hF.x hF.b dX3_canCrank_12 rfl (lv_at hl 1 rfl) ?_
  refine gfC_12_0 hF hH tk_141 dX3_canCrank_13 ?_
  refine gfC_1_5 hF hH tk_83 dX3_canCrank_16 ?_
  refine lv_iload hF.x hF.b dX3_canCrank_19 (lv_at hl 5 rfl) ?_
  refine alC_5 hF hH (gd_some h).1 dX3_canCrank_21 ?_
  replace h := (gd_some h).2
  refine lv_topi (fun y2 ey2 => ?_)
  replace h := sv_at h ey2
  clear ey2
  refine lv_istore (lv' := [(6, .int y2), (5, .int y1), (0, .ref (eA E 12)), (1, .int a1), (2, .int a2), (3, .int a3), (4, .int a4)]) hF.x hF.b dX3_canCrank_22 hl (by decide) rfl (fun ls hl => ?_)
  refine lv_iload hF.x hF.b dX3_canCrank_24 (lv_at hl 1 rfl) ?_
  refine lv_if_eq (tgt := 51) hF.x hF.b dX3_canCrank_26 (by decide) (fun c3 => ?_) (fun c3 => ?_)
  · rw [if_pos c3] at h
    exact w51 _ _ _ _ h hH (lv_sub hl [2] rfl)
  · rw [if_neg c3] at h
    refine lv_iload_n hF.x hF.b dX3_canCrank_29 rfl (lv_at hl 5 rfl) ?_
    refine lv_iload hF.x hF.b dX3_canCrank_30 (lv_at hl 0 rfl) ?_
    replace h := bd_some h
    obtain ⟨v4, σ5, hv4, h⟩ := h
    refine w_cNi (As := [.int a3, .int y2]) (rest := []) hF hH hl (tX5_bit l E hF.j _ _ _ _ hv4) (List.mem_of_getElem? (l := nestW) (i := 3) rfl) tk_227 tk_41 tk_228 rfl rfl hdX5_bit ⟨Nat.le_of_ble_eq_true rfl, Nat.le_of_ble_eq_true rfl⟩ rfl rfl (Nat.le_of_ble_eq_true rfl) dX3_canCrank_32 (fun H locs hH => ?_)
    refine lv_if_eq (tgt := 55) hF.x hF.b dX3_canCrank_35 (by decide) (fun c6 => ?_) (fun c6 => ?_)
    · rw [if_pos c6] at h
      exact w55 _ _ _ _ h hH (lv_sub hl [2] rfl)
    · rw [if_neg c6] at h
      refine lv_aload_n hF.x hF.b dX3_canCrank_38 rfl (lv_at hl 2 rfl) ?_
      refine lv_iload_n hF.x hF.b dX3_canCrank_39 rfl (lv_at hl 3 rfl) ?_
      refine lv_iload_n hF.x hF.b dX3_canCrank_40 rfl (lv_at hl 4 rfl) ?_
      refine lv_iload hF.x hF.b dX3_canCrank_41 (lv_at hl 0 rfl) ?_
      replace h := bd_some h
      obtain ⟨v7, σ8, hv7, h⟩ := h
      refine w_cVi (As := [.int a1, .int a2, .int y2]) (rest := []) hF hH hl 12 (by decide) rfl rfl (tX3_spareOf l E hF.j _ _ _ _ _ hv7) tk_301 tk_303 tk_1 tk_44 tk_304 rfl rfl hdX3_spareOf ⟨Nat.le_of_ble_eq_true rfl, Nat.le_of_ble_eq_true rfl⟩ rfl rfl (Nat.le_of_ble_eq_true rfl) dX3_canCrank_43 (fun H locs hH => ?_)
      refine lv_iload hF.x hF.b dX3_canCrank_46 (lv_at hl 1 rfl) ?_
      refine lv_icmp_lt (tgt := 55) hF.x hF.b dX3_canCrank_48 (by decide) (fun c9 => ?_) (fun c9 => ?_)
      · rw [if_pos c9] at h
        exact w55 _ _ _ _ h hH (lv_sub hl [2] rfl)
      · rw [if_neg c9] at h
        exact w51 _ _ _ _ h hH (lv_sub hl [2] rfl)
theorem hdX3_canCarry : yX3_canCarry.cls = RX3 ∧ yX3_canCarry.cls ≠ "java/lang/invoke/MethodHandle" ∧ yX3_canCarry.cls ≠ "java/lang/invoke/VarHandle" ∧ (parseMethodDescriptor yX3_canCarry.desc).map (fun d => d.parameters.length) = some 4 := by decide +kernel
set_option maxHeartbeats 4000000 in
set_option maxRecDepth 100000 in
theorem tX3_canCarry (l : Launch) (E : Ev) (hj : Inj kC E) (a1 : Int32) (a2 : Int32) (a3 : Int32) (a4 : Int32) (σ : Sg) (r : Int32 × Sg) (h : fX3_canCarry a1 a2 a3 a4 σ = some r) : CI l yX3_canCarry cX3_canCarry 7 (some FieldType.boolean) (rmk 2 48) kC E [.ref (eA E 12), .int a1, .int a2, .int a3, .int a4] σ r := by
  refine CI_z (lv := [(0, .ref (eA E 12)), (1, .int a1), (2, .int a2), (3, .int a3), (4, .int a4)]) (by decide) hj (Nat.le_of_ble_eq_true rfl) rfl (fun p e s m args below meth c ls Q hF hret hH hl => ?_)
  have w71 : ∀ (t0 : Int32) (σ : Sg) (H : Heap) (locs : List Loc) (ls : Array Slot), fX3_canCarry_71 t0 σ = some r → HP kC E s σ H locs → lv_has ls 7 [(0, .ref (eA E 12))] → W p l e (rmk 2 48) s m args below meth c H locs 0 0 Q (F0 m 71 ls [.int t0]) := by
    intro t0 σ H locs ls h hH hl
    unfold fX3_canCarry_71 at h
    exact hret _ _ _ _ _ _ hH h dX3_canCarry_71
  have w70 : ∀ (σ : Sg) (H : Heap) (locs : List Loc) (ls : Array Slot), fX3_canCarry_70 σ = some r → HP kC E s σ H locs → lv_has ls 7 [(0, .ref (eA E 12))] → W p l e (rmk 2 48) s m args below meth c H locs 0 0 Q (F0 m 70 ls []) := by
    intro σ H locs ls h hH hl
    unfold fX3_canCarry_70 at h
    refine lv_iconst (v := 0) hF.x hF.b dX3_canCarry_70 (by decide) ?_
    exact w71 _ _ _ _ _ h hH (lv_sub hl [0] rfl)
  have w43 : ∀ (x1 x2 x4 x5 t0 : Int32) (σ : Sg) (H : Heap) (locs : List Loc) (ls : Array Slot), fX3_canCarry_43 x1 x2 x4 x5 t0 σ = some r → HP kC E s σ H locs → lv_has ls 7 [(0, .ref (eA E 12)), (1, .int x1), (2, .int x2), (4, .int x4), (5, .int x5)] → W p l e (rmk 2 48) s m args below meth c H locs 0 0 Q (F0 m 43 ls [.int t0]) := by
    intro x1 x2 x4 x5 t0 σ H locs ls h hH hl
    unfold fX3_canCarry_43 at h
    refine lv_istore (lv' := [(6, .int t0), (0, .ref (eA E 12)), (1, .int x1), (2, .int x2), (4, .int x4), (5, .int x5)]) hF.x hF.b dX3_canCarry_43 hl (by decide) rfl (fun ls hl => ?_)
    refine lv_iload hF.x hF.b dX3_canCarry_45 (lv_at hl 0 rfl) ?_
    refine lv_if_eq (tgt := 70) hF.x hF.b dX3_canCarry_47 (by decide) (fun c1 => ?_) (fun c1 => ?_)
    · rw [if_pos c1] at h
      exact w70 _ _ _ _ h hH (lv_sub hl [1] rfl)
    · rw [if_neg c1] at h
      refine lv_aload_n hF.x hF.b dX3_canCarry_50 rfl (lv_at hl 1 rfl) ?_
      refine lv_iload_n hF.x hF.b dX3_canCarry_51 rfl (lv_at hl 2 rfl) ?_
      refine lv_iconst (v := 1) hF.x hF.b dX3_canCarry_52 (by decide) ?_
      refine lv_iload hF.x hF.b dX3_canCarry_53 (lv_at hl 4 rfl) ?_
      refine lv_ishl hF.x hF.b dX3_canCarry_55 ?_
      refine lv_ior hF.x hF.b dX3_canCarry_56 ?_
      refine lv_iload_n hF.x hF.b dX3_canCarry_57 rfl (lv_at hl 3 rfl) ?_
      refine lv_iload hF.x hF.b dX3_canCarry_58 (lv_at hl 5 rfl) ?_
      replace h := bd_some h
      obtain ⟨v2, σ3, hv2, h⟩ := h
      refine w_cVi (As := [.int (x1 ||| ((1 : Int32) <<< (x4 &&& 31))), .int x2, .int x5]) (rest := []) hF hH hl 12 (by decide) rfl rfl (tX3_spareOf l E hF.j _ _ _ _ _ hv2) tk_301 tk_303 tk_1 tk_44 tk_304 rfl rfl hdX3_spareOf ⟨Nat.le_of_ble_eq_true rfl, Nat.le_of_ble_eq_true rfl⟩ rfl rfl (Nat.le_of_ble_eq_true rfl) dX3_canCarry_60 (fun H locs hH => ?_)
      refine lv_if_lt (tgt := 70) hF.x hF.b dX3_canCarry_63 (by decide) (fun c4 => ?_) (fun c4 => ?_)
      · rw [if_pos c4] at h
        exact w70 _ _ _ _ h hH (lv_sub hl [1] rfl)
      · rw [if_neg c4] at h
        refine lv_iconst (v := 1) hF.x hF.b dX3_canCarry_66 (by decide) ?_
        refine lv_goto (tgt := 71) hF.x hF.b dX3_canCarry_67 (by decide) ?_
        exact w71 _ _ _ _ _ h hH (lv_sub hl [1] rfl)
  have w38 : ∀ (x1 x2 x4 x5 : Int32) (σ : Sg) (H : Heap) (locs : List Loc) (ls : Array Slot), fX3_canCarry_38 x1 x2 x4 x5 σ = some r → HP kC E s σ H locs → lv_has ls 7 [(0, .ref (eA E 12)), (1, .int x1), (2, .int x2), (4, .int x4), (5, .int x5)] → W p l e (rmk 2 48) s m args below meth c H locs 0 0 Q (F0 m 38 ls []) := by
    intro x1 x2 x4 x5 σ H locs ls h hH hl
    unfold fX3_canCarry_38 at h
    refine lv_iconst (v := 1) hF.x hF.b dX3_canCarry_38 (by decide) ?_
    refine lv_goto (tgt := 43) hF.x hF.b dX3_canCarry_39 (by decide) ?_
    exact w43 _ _ _ _ _ _ _ _ _ h hH (lv_sub hl [0, 1, 2, 3, 4] rfl)
  unfold fX3_canCarry at h
  refine lv_aload_n hF.x hF.b dX3_canCarry_0 rfl (lv_at hl 0 rfl) ?_
  refine gfC_12_0 hF hH tk_141 dX3_canCarry_1 ?_
  refine gfC_1_1 hF hH tk_71 dX3_canCarry_4 ?_
  refine lv_iload hF.x hF.b dX3_canCarry_7 (lv_at hl 4 rfl) ?_
  refine alC_2 hF hH (gd_some h).1 dX3_canCarry_9 ?_
  replace h := (gd_some h).2
  refine lv_topi (fun y5 ey5 => ?_)
  replace h := sv_at h ey5
  clear ey5
  refine lv_istore (lv' := [(5, .int y5), (0, .ref (eA E 12)), (1, .int a1), (2, .int a2), (3, .int a3), (4, .int a4)]) hF.x hF.b dX3_canCarry_10 hl (by decide) rfl (fun ls hl => ?_)
  refine lv_iload_n hF.x hF.b dX3_canCarry_12 rfl (lv_at hl 4 rfl) ?_
  refine lv_iload hF.x hF.b dX3_canCarry_13 (lv_at hl 0 rfl) ?_
  replace h := bd_some h
  obtain ⟨v6, σ7, hv6, h⟩ := h
  refine w_cNi (As := [.int a3, .int y5]) (rest := []) hF hH hl (tX5_bit l E hF.j _ _ _ _ hv6) (List.mem_of_getElem? (l := nestW) (i := 3) rfl) tk_227 tk_41 tk_228 rfl rfl hdX5_bit ⟨Nat.le_of_ble_eq_true rfl, Nat.le_of_ble_eq_true rfl⟩ rfl rfl (Nat.le_of_ble_eq_true rfl) dX3_canCarry_15 (fun H locs hH => ?_)
  refine lv_if_ne (tgt := 38) hF.x hF.b dX3_canCarry_18 (by decide) (fun c8 => ?_) (fun c8 => ?_)
  · rw [if_neg c8] at h
    exact w38 _ _ _ _ _ _ _ _ h hH (lv_sub hl [1, 2, 3, 5, 0] rfl)
  · rw [if_pos c8] at h
    refine lv_iload_n hF.x hF.b dX3_canCarry_21 rfl (lv_at hl 4 rfl) ?_
    refine lv_aload_n hF.x hF.b dX3_canCarry_22 rfl (lv_at hl 1 rfl) ?_
    refine gfC_12_0 hF hH tk_141 dX3_canCarry_23 ?_
    refine gfC_1_2 hF hH tk_75 dX3_canCarry_26 ?_
    refine lv_iload hF.x hF.b dX3_canCarry_29 (lv_at hl 5 rfl) ?_
    refine alC_3 hF hH (gd_some h).1 dX3_canCarry_31 ?_
    replace h := (gd_some h).2
    replace h := bd_some h
    obtain ⟨v9, σ10, hv9, h⟩ := h
    refine w_cNi (As := [.int a3, .int (σ7 3 (Int32.toNatClampNeg a4))]) (rest := []) hF hH hl (tX5_bit l E hF.j _ _ _ _ hv9) (List.mem_of_getElem? (l := nestW) (i := 3) rfl) tk_227 tk_41 tk_228 rfl rfl hdX5_bit ⟨Nat.le_of_ble_eq_true rfl, Nat.le_of_ble_eq_true rfl⟩ rfl rfl (Nat.le_of_ble_eq_true rfl) dX3_canCarry_32 (fun H locs hH => ?_)
    refine lv_if_eq (tgt := 42) hF.x hF.b dX3_canCarry_35 (by decide) (fun c11 => ?_) (fun c11 => ?_)
    · rw [if_pos c11] at h
      refine lv_iconst (v := 0) hF.x hF.b dX3_canCarry_42 (by decide) ?_
      exact w43 _ _ _ _ _ _ _ _ _ h hH (lv_sub hl [1, 2, 3, 5, 0] rfl)
    · rw [if_neg c11] at h
      exact w38 _ _ _ _ _ _ _ _ h hH (lv_sub hl [1, 2, 3, 5, 0] rfl)
theorem hdX3_stepsFrom : yX3_stepsFrom.cls = RX3 ∧ yX3_stepsFrom.cls ≠ "java/lang/invoke/MethodHandle" ∧ yX3_stepsFrom.cls ≠ "java/lang/invoke/VarHandle" ∧ (parseMethodDescriptor yX3_stepsFrom.desc).map (fun d => d.parameters.length) = some 1 := by decide +kernel
set_option maxHeartbeats 4000000 in
set_option maxRecDepth 100000 in
theorem tX3_stepsFrom (l : Launch) (E : Ev) (hj : Inj kC E) (a1 : Int32) (σ : Sg) (r : Int32 × Sg) (h : fX3_stepsFrom a1 σ = some r) : CI l yX3_stepsFrom cX3_stepsFrom 8 (some FieldType.int) (rmk 3 74) kC E [.ref (eA E 12), .int a1] σ r := by
  refine CI_i (lv := [(0, .ref (eA E 12)), (1, .int a1)]) (by decide) hj (Nat.le_of_ble_eq_true rfl) rfl (fun p e s m args below meth c ls Q hF hret hH hl => ?_)
  have w84 : ∀ (n : Nat) (x2 x4 x5 x6 x7 : Int32) (σ : Sg) (H : Heap) (locs : List Loc) (ls : Array Slot), it fX3_stepsFrom_L84 (fun _ _ _ _ _ _ => none) n x2 x4 x5 x6 x7 σ = some r → HP kC E s σ H locs → lv_has ls 8 [(0, .ref (eA E 12)), (2, .int x2), (4, .int x4), (5, .int x5), (6, .int x6), (7, .int x7)] → W p l e (rmk 3 74) s m args below meth c H locs 0 0 Q (F0 m 84 ls []) := by
    intro n84
    induction n84 with
    | zero =>
      intro x2 x4 x5 x6 x7 σ H locs ls h hH hl
      cases (show (none : Rs) = some r from h)
    | succ n84 ih84 =>
      have w130 : ∀ (x2 x4 x5 x6 x7 : Int32) (σ : Sg) (H : Heap) (locs : List Loc) (ls : Array Slot), fX3_stepsFrom_130 (it fX3_stepsFrom_L84 (fun _ _ _ _ _ _ => none) n84) x2 x4 x5 x6 x7 σ = some r → HP kC E s σ H locs → lv_has ls 8 [(0, .ref (eA E 12)), (2, .int x2), (4, .int x4), (5, .int x5), (6, .int x6), (7, .int x7)] → W p l e (rmk 3 74) s m args below meth c H locs 0 0 Q (F0 m 130 ls []) := by
        intro x2 x4 x5 x6 x7 σ H locs ls h hH hl
        unfold fX3_stepsFrom_130 at h
        obtain ⟨y1, ey1⟩ : ∃ z : Int32, z = (x7 + 1) := ⟨_, rfl⟩
        replace h := sv_at h ey1
        refine lv_iinc (v := y1) (lv' := [(7, .int y1), (0, .ref (eA E 12)), (2, .int x2), (4, .int x4), (5, .int x5), (6, .int x6)]) hF.x hF.b dX3_stepsFrom_130 hl (k := 5) rfl (by rw [ey1]; rfl) (by decide) rfl (fun ls hl => ?_)
        clear ey1
        refine lv_goto (tgt := 84) hF.x hF.b dX3_stepsFrom_133 (by decide) ?_
        exact ih84 _ _ _ _ _ _ _ _ _ h hH (lv_sub hl [1, 2, 3, 4, 5, 0] rfl)
      intro x2 x4 x5 x6 x7 σ H locs ls h hH hl
      replace h : fX3_stepsFrom_L84 (it fX3_stepsFrom_L84 (fun _ _ _ _ _ _ => none) n84) x2 x4 x5 x6 x7 σ = some r := h
      unfold fX3_stepsFrom_L84 at h
      refine lv_iload hF.x hF.b dX3_stepsFrom_84 (lv_at hl 5 rfl) ?_
      refine lv_aload_n hF.x hF.b dX3_stepsFrom_86 rfl (lv_at hl 0 rfl) ?_
      refine gfC_12_0 hF hH tk_141 dX3_stepsFrom_87 ?_
      refine gfC_1_0 hF hH tk_67 dX3_stepsFrom_90 ?_
      refine lv_icmp_ge (tgt := 136) hF.x hF.b dX3_stepsFrom_93 (by decide) (fun c2 => ?_) (fun c2 => ?_)
      · rw [if_pos c2] at h
        refine lv_iload hF.x hF.b dX3_stepsFrom_136 (lv_at hl 4 rfl) ?_
        exact hret _ _ _ _ _ _ hH h dX3_stepsFrom_138
      · rw [if_neg c2] at h
        refine lv_iload_n hF.x hF.b dX3_stepsFrom_96 rfl (lv_at hl 1 rfl) ?_
        refine lv_iload hF.x hF.b dX3_stepsFrom_97 (lv_at hl 5 rfl) ?_
        replace h := bd_some h
        obtain ⟨v3, σ4, hv3, h⟩ := h
        refine w_cNi (As := [.int x2, .int x7]) (rest := []) hF hH hl (tX5_bit l E hF.j _ _ _ _ hv3) (List.mem_of_getElem? (l := nestW) (i := 3) rfl) tk_227 tk_41 tk_228 rfl rfl hdX5_bit ⟨Nat.le_of_ble_eq_true rfl, Nat.le_of_ble_eq_true rfl⟩ rfl rfl (Nat.le_of_ble_eq_true rfl) dX3_stepsFrom_99 (fun H locs hH => ?_)
        refine lv_if_ne (tgt := 130) hF.x hF.b dX3_stepsFrom_102 (by decide) (fun c5 => ?_) (fun c5 => ?_)
        · rw [if_neg c5] at h
          exact w130 _ _ _ _ _ _ _ _ _ h hH (lv_sub hl [0, 1, 2, 3, 4, 5] rfl)
        · rw [if_pos c5] at h
          refine lv_aload_n hF.x hF.b dX3_stepsFrom_105 rfl (lv_at hl 0 rfl) ?_
          refine lv_iload_n hF.x hF.b dX3_stepsFrom_106 rfl (lv_at hl 1 rfl) ?_
          refine lv_iload hF.x hF.b dX3_stepsFrom_107 (lv_at hl 2 rfl) ?_
          refine lv_iload hF.x hF.b dX3_stepsFrom_109 (lv_at hl 3 rfl) ?_
          refine lv_iload hF.x hF.b dX3_stepsFrom_111 (lv_at hl 5 rfl) ?_
          replace h := bd_some h
          obtain ⟨v6, σ7, hv6, h⟩ := h
          refine w_cVi (As := [.int x2, .int x4, .int x5, .int x7]) (rest := []) hF hH hl 12 (by decide) rfl rfl (tX3_canCarry l E hF.j _ _ _ _ _ _ hv6) tk_321 tk_323 tk_3 tk_44 tk_324 rfl rfl hdX3_canCarry ⟨Nat.le_of_ble_eq_true rfl, Nat.le_of_ble_eq_true rfl⟩ rfl rfl (Nat.le_of_ble_eq_true rfl) dX3_stepsFrom_113 (fun H locs hH => ?_)
          refine lv_if_eq (tgt := 130) hF.x hF.b dX3_stepsFrom_116 (by decide) (fun c8 => ?_) (fun c8 => ?_)
          · rw [if_pos c8] at h
            exact w130 _ _ _ _ _ _ _ _ _ h hH (lv_sub hl [0, 1, 2, 3, 4, 5] rfl)
          · rw [if_neg c8] at h
            refine lv_iload hF.x hF.b dX3_stepsFrom_119 (lv_at hl 4 rfl) ?_
            refine lv_iconst (v := 1) hF.x hF.b dX3_stepsFrom_121 (by decide) ?_
            refine lv_iconst (v := 4) hF.x hF.b dX3_stepsFrom_122 (by decide) ?_
            refine lv_iload hF.x hF.b dX3_stepsFrom_123 (lv_at hl 5 rfl) ?_
            refine lv_iadd hF.x hF.b dX3_stepsFrom_125 ?_
            refine lv_ishl hF.x hF.b dX3_stepsFrom_126 ?_
            refine lv_ior hF.x hF.b dX3_stepsFrom_127 ?_
            refine lv_topi (fun y9 ey9 => ?_)
            replace h := sv_at h ey9
            clear ey9
            refine lv_istore (lv' := [(6, .int y9), (0, .ref (eA E 12)), (2, .int x2), (4, .int x4), (5, .int x5), (7, .int x7)]) hF.x hF.b dX3_stepsFrom_128 hl (by decide) rfl (fun ls hl => ?_)
            exact w130 _ _ _ _ _ _ _ _ _ h hH (lv_sub hl [1, 2, 3, 4, 0, 5] rfl)
  have w29 : ∀ (n : Nat) (x2 x3 x4 x5 x6 x7 : Int32) (σ : Sg) (H : Heap) (locs : List Loc) (ls : Array Slot), it fX3_stepsFrom_L29 (fun _ _ _ _ _ _ _ => none) n x2 x3 x4 x5 x6 x7 σ = some r → HP kC E s σ H locs → lv_has ls 8 [(0, .ref (eA E 12)), (2, .int x2), (3, .int x3), (4, .int x4), (5, .int x5), (6, .int x6), (7, .int x7)] → W p l e (rmk 3 74) s m args below meth c H locs 0 0 Q (F0 m 29 ls []) := by
    intro n29
    induction n29 with
    | zero =>
      intro x2 x3 x4 x5 x6 x7 σ H locs ls h hH hl
      cases (show (none : Rs) = some r from h)
    | succ n29 ih29 =>
      have w75 : ∀ (x2 x3 x4 x5 x6 x7 : Int32) (σ : Sg) (H : Heap) (locs : List Loc) (ls : Array Slot), fX3_stepsFrom_75 (it fX3_stepsFrom_L29 (fun _ _ _ _ _ _ _ => none) n29) x2 x3 x4 x5 x6 x7 σ = some r → HP kC E s σ H locs → lv_has ls 8 [(0, .ref (eA E 12)), (2, .int x2), (3, .int x3), (4, .int x4), (5, .int x5), (6, .int x6), (7, .int x7)] → W p l e (rmk 3 74) s m args below meth c H locs 0 0 Q (F0 m 75 ls []) := by
        intro x2 x3 x4 x5 x6 x7 σ H locs ls h hH hl
        unfold fX3_stepsFrom_75 at h
        obtain ⟨y10, ey10⟩ : ∃ z : Int32, z = (x7 + 1) := ⟨_, rfl⟩
        replace h := sv_at h ey10
        refine lv_iinc (v := y10) (lv' := [(7, .int y10), (0, .ref (eA E 12)), (2, .int x2), (3, .int x3), (4, .int x4), (5, .int x5), (6, .int x6)]) hF.x hF.b dX3_stepsFrom_75 hl (k := 6) rfl (by rw [ey10]; rfl) (by decide) rfl (fun ls hl => ?_)
        clear ey10
        refine lv_goto (tgt := 29) hF.x hF.b dX3_stepsFrom_78 (by decide) ?_
        exact ih29 _ _ _ _ _ _ _ _ _ _ h hH (lv_sub hl [1, 2, 3, 4, 5, 6, 0] rfl)
      intro x2 x3 x4 x5 x6 x7 σ H locs ls h hH hl
      replace h : fX3_stepsFrom_L29 (it fX3_stepsFrom_L29 (fun _ _ _ _ _ _ _ => none) n29) x2 x3 x4 x5 x6 x7 σ = some r := h
      unfold fX3_stepsFrom_L29 at h
      refine lv_iload hF.x hF.b dX3_stepsFrom_29 (lv_at hl 6 rfl) ?_
      refine lv_aload_n hF.x hF.b dX3_stepsFrom_31 rfl (lv_at hl 0 rfl) ?_
      refine gfC_12_0 hF hH tk_141 dX3_stepsFrom_32 ?_
      refine gfC_1_4 hF hH tk_79 dX3_stepsFrom_35 ?_
      refine lv_icmp_ge (tgt := 81) hF.x hF.b dX3_stepsFrom_38 (by decide) (fun c11 => ?_) (fun c11 => ?_)
      · rw [if_pos c11] at h
        refine lv_iconst (v := 0) hF.x hF.b dX3_stepsFrom_81 (by decide) ?_
        refine lv_istore (lv' := [(7, .int 0), (0, .ref (eA E 12)), (2, .int x2), (3, .int x3), (4, .int x4), (5, .int x5), (6, .int x6)]) hF.x hF.b dX3_stepsFrom_82 hl (by decide) rfl (fun ls hl => ?_)
        exact w84 _ _ _ _ _ _ _ _ _ _ h hH (lv_sub hl [1, 2, 4, 5, 6, 0] rfl)
      · rw [if_neg c11] at h
        refine lv_iload_n hF.x hF.b dX3_stepsFrom_41 rfl (lv_at hl 2 rfl) ?_
        refine lv_iload hF.x hF.b dX3_stepsFrom_42 (lv_at hl 6 rfl) ?_
        replace h := bd_some h
        obtain ⟨v12, σ13, hv12, h⟩ := h
        refine w_cNi (As := [.int x3, .int x7]) (rest := []) hF hH hl (tX5_bit l E hF.j _ _ _ _ hv12) (List.mem_of_getElem? (l := nestW) (i := 3) rfl) tk_227 tk_41 tk_228 rfl rfl hdX5_bit ⟨Nat.le_of_ble_eq_true rfl, Nat.le_of_ble_eq_true rfl⟩ rfl rfl (Nat.le_of_ble_eq_true rfl) dX3_stepsFrom_44 (fun H locs hH => ?_)
        refine lv_if_ne (tgt := 75) hF.x hF.b dX3_stepsFrom_47 (by decide) (fun c14 => ?_) (fun c14 => ?_)
        · rw [if_neg c14] at h
          exact w75 _ _ _ _ _ _ _ _ _ _ h hH (lv_sub hl [0, 1, 2, 3, 4, 5, 6] rfl)
        · rw [if_pos c14] at h
          refine lv_aload_n hF.x hF.b dX3_stepsFrom_50 rfl (lv_at hl 0 rfl) ?_
          refine lv_iload_n hF.x hF.b dX3_stepsFrom_51 rfl (lv_at hl 1 rfl) ?_
          refine lv_iload hF.x hF.b dX3_stepsFrom_52 (lv_at hl 3 rfl) ?_
          refine lv_iload hF.x hF.b dX3_stepsFrom_54 (lv_at hl 4 rfl) ?_
          refine lv_iload hF.x hF.b dX3_stepsFrom_56 (lv_at hl 6 rfl) ?_
          replace h := bd_some h
          obtain ⟨v15, σ16, hv15, h⟩ := h
          refine w_cVi (As := [.int x2, .int x4, .int x5, .int x7]) (rest := []) hF hH hl 12 (by decide) rfl rfl (tX3_canCrank l E hF.j _ _ _ _ _ _ hv15) tk_317 tk_319 tk_2 tk_44 tk_320 rfl rfl hdX3_canCrank ⟨Nat.le_of_ble_eq_true rfl, Nat.le_of_ble_eq_true rfl⟩ rfl rfl (Nat.le_of_ble_eq_true rfl) dX3_stepsFrom_58 (fun H locs hH => ?_)
          refine lv_if_eq (tgt := 75) hF.x hF.b dX3_stepsFrom_61 (by decide) (fun c17 => ?_) (fun c17 => ?_)
          · rw [if_pos c17] at h
            exact w75 _ _ _ _ _ _ _ _ _ _ h hH (lv_sub hl [0, 1, 2, 3, 4, 5, 6] rfl)
          · rw [if_neg c17] at h
            refine lv_iload hF.x hF.b dX3_stepsFrom_64 (lv_at hl 5 rfl) ?_
            refine lv_iconst (v := 1) hF.x hF.b dX3_stepsFrom_66 (by decide) ?_
            refine lv_iconst (v := 1) hF.x hF.b dX3_stepsFrom_67 (by decide) ?_
            refine lv_iload hF.x hF.b dX3_stepsFrom_68 (lv_at hl 6 rfl) ?_
            refine lv_iadd hF.x hF.b dX3_stepsFrom_70 ?_
            refine lv_ishl hF.x hF.b dX3_stepsFrom_71 ?_
            refine lv_ior hF.x hF.b dX3_stepsFrom_72 ?_
            refine lv_topi (fun y18 ey18 => ?_)
            replace h := sv_at h ey18
            clear ey18
            refine lv_istore (lv' := [(6, .int y18), (0, .ref (eA E 12)), (2, .int x2), (3, .int x3), (4, .int x4), (5, .int x5), (7, .int x7)]) hF.x hF.b dX3_stepsFrom_73 hl (by decide) rfl (fun ls hl => ?_)
            exact w75 _ _ _ _ _ _ _ _ _ _ h hH (lv_sub hl [1, 2, 3, 4, 5, 0, 6] rfl)
  unfold fX3_stepsFrom at h
  refine lv_iload_n hF.x hF.b dX3_stepsFrom_0 rfl (lv_at hl 1 rfl) ?_
  replace h := bd_some h
  obtain ⟨v19, σ20, hv19, h⟩ := h
  refine w_cSi (As := [.int a1]) (rest := []) hF hH hl (tX0_closed l E hF.j _ _ _ hv19) tk_291 tk_259 tk_48 tk_260 rfl rfl hdX0_closed ⟨Nat.le_of_ble_eq_true rfl, Nat.le_of_ble_eq_true rfl⟩ rfl rfl (Nat.le_of_ble_eq_true rfl) dX3_stepsFrom_1 (fun H locs hH => ?_)
  refine lv_istore_n (lv' := [(2, .int v19), (0, .ref (eA E 12)), (1, .int a1)]) hF.x hF.b dX3_stepsFrom_4 rfl hl (by decide) rfl (fun ls hl => ?_)
  refine lv_iload_n hF.x hF.b dX3_stepsFrom_5 rfl (lv_at hl 2 rfl) ?_
  replace h := bd_some h
  obtain ⟨v21, σ22, hv21, h⟩ := h
  refine w_cSi (As := [.int a1]) (rest := []) hF hH hl (tX0_running l E hF.j _ _ _ hv21) tk_315 tk_242 tk_48 tk_243 rfl rfl hdX0_running ⟨Nat.le_of_ble_eq_true rfl, Nat.le_of_ble_eq_true rfl⟩ rfl rfl (Nat.le_of_ble_eq_true rfl) dX3_stepsFrom_6 (fun H locs hH => ?_)
  refine lv_istore_n (lv' := [(3, .int v21), (2, .int v19), (0, .ref (eA E 12)), (1, .int a1)]) hF.x hF.b dX3_stepsFrom_9 rfl hl (by decide) rfl (fun ls hl => ?_)
  refine lv_iload_n hF.x hF.b dX3_stepsFrom_10 rfl (lv_at hl 3 rfl) ?_
  replace h := bd_some h
  obtain ⟨v23, σ24, hv23, h⟩ := h
  refine w_cSi (As := [.int a1]) (rest := []) hF hH hl (tX0_ready l E hF.j _ _ _ hv23) tk_297 tk_298 tk_48 tk_299 rfl rfl hdX0_ready ⟨Nat.le_of_ble_eq_true rfl, Nat.le_of_ble_eq_true rfl⟩ rfl rfl (Nat.le_of_ble_eq_true rfl) dX3_stepsFrom_11 (fun H locs hH => ?_)
  refine lv_istore (lv' := [(4, .int v23), (3, .int v21), (2, .int v19), (0, .ref (eA E 12)), (1, .int a1)]) hF.x hF.b dX3_stepsFrom_14 hl (by decide) rfl (fun ls hl => ?_)
  refine lv_aload_n hF.x hF.b dX3_stepsFrom_16 rfl (lv_at hl 3 rfl) ?_
  refine lv_iload_n hF.x hF.b dX3_stepsFrom_17 rfl (lv_at hl 4 rfl) ?_
  replace h := bd_some h
  obtain ⟨v25, σ26, hv25, h⟩ := h
  refine w_cVi (As := [.int a1]) (rest := []) hF hH hl 12 (by decide) rfl rfl (tX3_liveBuses l E hF.j _ _ _ hv25) tk_316 tk_287 tk_288 tk_44 tk_289 rfl rfl hdX3_liveBuses ⟨Nat.le_of_ble_eq_true rfl, Nat.le_of_ble_eq_true rfl⟩ rfl rfl (Nat.le_of_ble_eq_true rfl) dX3_stepsFrom_18 (fun H locs hH => ?_)
  refine lv_istore (lv' := [(5, .int v25), (4, .int v23), (3, .int v21), (2, .int v19), (0, .ref (eA E 12)), (1, .int a1)]) hF.x hF.b dX3_stepsFrom_21 hl (by decide) rfl (fun ls hl => ?_)
  refine lv_iconst (v := 1) hF.x hF.b dX3_stepsFrom_23 (by decide) ?_
  refine lv_istore (lv' := [(6, .int 1), (5, .int v25), (4, .int v23), (3, .int v21), (2, .int v19), (0, .ref (eA E 12)), (1, .int a1)]) hF.x hF.b dX3_stepsFrom_24 hl (by decide) rfl (fun ls hl => ?_)
  refine lv_iconst (v := 0) hF.x hF.b dX3_stepsFrom_26 (by decide) ?_
  refine lv_istore (lv' := [(7, .int 0), (6, .int 1), (5, .int v25), (4, .int v23), (3, .int v21), (2, .int v19), (0, .ref (eA E 12)), (1, .int a1)]) hF.x hF.b dX3_stepsFrom_27 hl (by decide) rfl (fun ls hl => ?_)
  exact w29 _ _ _ _ _ _ _ _ _ _ _ h hH (lv_sub hl [6, 5, 4, 3, 2, 1, 0] rfl)
theorem hdX3_withStep : yX3_withStep.cls = RX3 ∧ yX3_withStep.cls ≠ "java/lang/invoke/MethodHandle" ∧ yX3_withStep.cls ≠ "java/lang/invoke/VarHandle" ∧ (parseMethodDescriptor yX3_withStep.desc).map (fun d => d.parameters.length) = some 2 := by decide +kernel
set_option maxHeartbeats 4000000 in
set_option maxRecDepth 100000 in
theorem tX3_withStep (l : Launch) (E : Ev) (hj : Inj kC E) (a1 : Int32) (a2 : Int32) (σ : Sg) (r : Int32 × Sg) (h : fX3_withStep a1 a2 σ = some r) : CI l yX3_withStep cX3_withStep 4 (some FieldType.int) (rmk 2 42) kC E [.ref (eA E 12), .int a1, .int a2] σ r := by
  refine CI_i (lv := [(0, .ref (eA E 12)), (1, .int a1), (2, .int a2)]) (by decide) hj (Nat.le_of_ble_eq_true rfl) rfl (fun p e s m args below meth c ls Q hF hret hH hl => ?_)
  unfold fX3_withStep at h
  refine lv_iload_n hF.x hF.b dX3_withStep_0 rfl (lv_at hl 2 rfl) ?_
  refine lv_iconst (v := 4) hF.x hF.b dX3_withStep_1 (by decide) ?_
  refine lv_icmp_lt (tgt := 13) hF.x hF.b dX3_withStep_2 (by decide) (fun c1 => ?_) (fun c1 => ?_)
  · rw [if_pos c1] at h
    refine lv_iload_n hF.x hF.b dX3_withStep_13 rfl (lv_at hl 2 rfl) ?_
    refine lv_iconst (v := 1) hF.x hF.b dX3_withStep_14 (by decide) ?_
    refine lv_icmp_lt (tgt := 37) hF.x hF.b dX3_withStep_15 (by decide) (fun c2 => ?_) (fun c2 => ?_)
    · rw [if_pos c2] at h
      refine lv_iload_n hF.x hF.b dX3_withStep_37 rfl (lv_at hl 1 rfl) ?_
      exact hret _ _ _ _ _ _ hH h dX3_withStep_38
    · rw [if_neg c2] at h
      refine lv_iload_n hF.x hF.b dX3_withStep_18 rfl (lv_at hl 2 rfl) ?_
      refine lv_iconst (v := 1) hF.x hF.b dX3_withStep_19 (by decide) ?_
      refine lv_isub hF.x hF.b dX3_withStep_20 ?_
      refine lv_topi (fun y3 ey3 => ?_)
      replace h := sv_at h ey3
      clear ey3
      refine lv_istore_n (lv' := [(3, .int y3), (0, .ref (eA E 12)), (1, .int a1), (2, .int a2)]) hF.x hF.b dX3_withStep_21 rfl hl (by decide) rfl (fun ls hl => ?_)
      refine lv_iload_n hF.x hF.b dX3_withStep_22 rfl (lv_at hl 2 rfl) ?_
      refine lv_iload_n hF.x hF.b dX3_withStep_23 rfl (lv_at hl 0 rfl) ?_
      refine lv_aload_n hF.x hF.b dX3_withStep_24 rfl (lv_at hl 1 rfl) ?_
      refine gfC_12_0 hF hH tk_141 dX3_withStep_25 ?_
      refine gfC_1_8 hF hH tk_93 dX3_withStep_28 ?_
      refine lv_iload_n hF.x hF.b dX3_withStep_31 rfl (lv_at hl 0 rfl) ?_
      refine alC_8 hF hH (gd_some h).1 dX3_withStep_32 ?_
      replace h := (gd_some h).2
      replace h := bd_some h
      obtain ⟨v4, σ5, hv4, h⟩ := h
      refine w_cSi (As := [.int a1, .int y3, .int (σ 8 (Int32.toNatClampNeg y3))]) (rest := []) hF hH hl (tX0_withStarted l E hF.j _ _ _ _ _ hv4) tk_345 tk_346 tk_48 tk_347 rfl rfl hdX0_withStarted ⟨Nat.le_of_ble_eq_true rfl, Nat.le_of_ble_eq_true rfl⟩ rfl rfl (Nat.le_of_ble_eq_true rfl) dX3_withStep_33 (fun H locs hH => ?_)
      exact hret _ _ _ _ _ _ hH h dX3_withStep_36
  · rw [if_neg c1] at h
    refine lv_iload_n hF.x hF.b dX3_withStep_5 rfl (lv_at hl 1 rfl) ?_
    refine lv_iload_n hF.x hF.b dX3_withStep_6 rfl (lv_at hl 2 rfl) ?_
    refine lv_iconst (v := 4) hF.x hF.b dX3_withStep_7 (by decide) ?_
    refine lv_isub hF.x hF.b dX3_withStep_8 ?_
    replace h := bd_some h
    obtain ⟨v6, σ7, hv6, h⟩ := h
    refine w_cSi (As := [.int a1, .int (a2 - (4 : Int32))]) (rest := []) hF hH hl (tX0_withClosed l E hF.j _ _ _ _ hv6) tk_342 tk_343 tk_48 tk_344 rfl rfl hdX0_withClosed ⟨Nat.le_of_ble_eq_true rfl, Nat.le_of_ble_eq_true rfl⟩ rfl rfl (Nat.le_of_ble_eq_true rfl) dX3_withStep_9 (fun H locs hH => ?_)
    exact hret _ _ _ _ _ _ hH h dX3_withStep_12
theorem hdX3_isReached : yX3_isReached.cls = RX3 ∧ yX3_isReached.cls ≠ "java/lang/invoke/MethodHandle" ∧ yX3_isReached.cls ≠ "java/lang/invoke/VarHandle" ∧ (parseMethodDescriptor yX3_isReached.desc).map (fun d => d.parameters.length) = some 3 := by decide +kernel
set_option maxHeartbeats 4000000 in
set_option maxRecDepth 100000 in
theorem tX3_isReached (l : Launch) (E : Ev) (hj : Inj kC E) (a1 : Int32) (a2 : Int32) (a3 : Int32) (σ : Sg) (r : Int32 × Sg) (h : fX3_isReached a1 a2 a3 σ = some r) : CI l yX3_isReached cX3_isReached 4 (some FieldType.boolean) (rmk 3 65) kC E [.ref (eA E 12), .int a1, .int a2, .int a3] σ r := by
  refine CI_z (lv := [(0, .ref (eA E 12)), (1, .int a1), (2, .int a2), (3, .int a3)]) (by decide) hj (Nat.le_of_ble_eq_true rfl) rfl (fun p e s m args below meth c ls Q hF hret hH hl => ?_)
  have w28 : ∀ (t0 : Int32) (σ : Sg) (H : Heap) (locs : List Loc) (ls : Array Slot), fX3_isReached_28 t0 σ = some r → HP kC E s σ H locs → lv_has ls 4 [(0, .ref (eA E 12))] → W p l e (rmk 3 65) s m args below meth c H locs 0 0 Q (F0 m 28 ls [.int t0]) := by
    intro t0 σ H locs ls h hH hl
    unfold fX3_isReached_28 at h
    exact hret _ _ _ _ _ _ hH h dX3_isReached_28
  have w27 : ∀ (σ : Sg) (H : Heap) (locs : List Loc) (ls : Array Slot), fX3_isReached_27 σ = some r → HP kC E s σ H locs → lv_has ls 4 [(0, .ref (eA E 12))] → W p l e (rmk 3 65) s m args below meth c H locs 0 0 Q (F0 m 27 ls []) := by
    intro σ H locs ls h hH hl
    unfold fX3_isReached_27 at h
    refine lv_iconst (v := 0) hF.x hF.b dX3_isReached_27 (by decide) ?_
    exact w28 _ _ _ _ _ h hH (lv_sub hl [0] rfl)
  unfold fX3_isReached at h
  refine lv_iload_n hF.x hF.b dX3_isReached_0 rfl (lv_at hl 2 rfl) ?_
  refine lv_iload_n hF.x hF.b dX3_isReached_1 rfl (lv_at hl 1 rfl) ?_
  replace h := bd_some h
  obtain ⟨v1, σ2, hv1, h⟩ := h
  refine w_cSi (As := [.int a1]) (rest := [.int a2]) hF hH hl (tX0_ready l E hF.j _ _ _ hv1) tk_297 tk_298 tk_48 tk_299 rfl rfl hdX0_ready ⟨Nat.le_of_ble_eq_true rfl, Nat.le_of_ble_eq_true rfl⟩ rfl rfl (Nat.le_of_ble_eq_true rfl) dX3_isReached_2 (fun H locs hH => ?_)
  refine lv_iconst (v := (-1)) hF.x hF.b dX3_isReached_5 (by decide) ?_
  refine lv_ixor hF.x hF.b dX3_isReached_6 ?_
  refine lv_iand hF.x hF.b dX3_isReached_7 ?_
  refine lv_if_ne (tgt := 27) hF.x hF.b dX3_isReached_8 (by decide) (fun c3 => ?_) (fun c3 => ?_)
  · rw [if_neg c3] at h
    exact w27 _ _ _ _ h hH (lv_sub hl [0] rfl)
  · rw [if_pos c3] at h
    refine lv_iload_n hF.x hF.b dX3_isReached_11 rfl (lv_at hl 3 rfl) ?_
    refine lv_aload_n hF.x hF.b dX3_isReached_12 rfl (lv_at hl 0 rfl) ?_
    refine lv_iload_n hF.x hF.b dX3_isReached_13 rfl (lv_at hl 1 rfl) ?_
    replace h := bd_some h
    obtain ⟨v4, σ5, hv4, h⟩ := h
    refine w_cVi (As := [.int a1]) (rest := [.int a3]) hF hH hl 12 (by decide) rfl rfl (tX3_liveBuses l E hF.j _ _ _ hv4) tk_316 tk_287 tk_288 tk_44 tk_289 rfl rfl hdX3_liveBuses ⟨Nat.le_of_ble_eq_true rfl, Nat.le_of_ble_eq_true rfl⟩ rfl rfl (Nat.le_of_ble_eq_true rfl) dX3_isReached_14 (fun H locs hH => ?_)
    refine lv_iconst (v := (-1)) hF.x hF.b dX3_isReached_17 (by decide) ?_
    refine lv_ixor hF.x hF.b dX3_isReached_18 ?_
    refine lv_iand hF.x hF.b dX3_isReached_19 ?_
    refine lv_if_ne (tgt := 27) hF.x hF.b dX3_isReached_20 (by decide) (fun c6 => ?_) (fun c6 => ?_)
    · rw [if_neg c6] at h
      exact w27 _ _ _ _ h hH (lv_sub hl [0] rfl)
    · rw [if_pos c6] at h
      refine lv_iconst (v := 1) hF.x hF.b dX3_isReached_23 (by decide) ?_
      refine lv_goto (tgt := 28) hF.x hF.b dX3_isReached_24 (by decide) ?_
      exact w28 _ _ _ _ _ h hH (lv_sub hl [0] rfl)
theorem hdX3_lostLines : yX3_lostLines.cls = RX3 ∧ yX3_lostLines.cls ≠ "java/lang/invoke/MethodHandle" ∧ yX3_lostLines.cls ≠ "java/lang/invoke/VarHandle" ∧ (parseMethodDescriptor yX3_lostLines.desc).map (fun d => d.parameters.length) = some 1 := by decide +kernel
set_option maxHeartbeats 4000000 in
set_option maxRecDepth 100000 in
theorem tX3_lostLines (l : Launch) (E : Ev) (hj : Inj kC E) (a1 : Int32) (σ : Sg) (r : Int32 × Sg) (h : fX3_lostLines a1 σ = some r) : CI l yX3_lostLines cX3_lostLines 7 (some FieldType.int) (rmk 4 85) kC E [.ref (eA E 12), .int a1] σ r := by
  refine CI_i (lv := [(0, .ref (eA E 12)), (1, .int a1)]) (by decide) hj (Nat.le_of_ble_eq_true rfl) rfl (fun p e s m args below meth c ls Q hF hret hH hl => ?_)
  have w17 : ∀ (n : Nat) (x1 x2 x3 x4 x5 : Int32) (σ : Sg) (H : Heap) (locs : List Loc) (ls : Array Slot), it fX3_lostLines_L17 (fun _ _ _ _ _ _ => none) n x1 x2 x3 x4 x5 σ = some r → HP kC E s σ H locs → lv_has ls 7 [(0, .ref (eA E 12)), (1, .int x1), (2, .int x2), (3, .int x3), (4, .int x4), (5, .int x5)] → W p l e (rmk 4 85) s m args below meth c H locs 0 0 Q (F0 m 17 ls []) := by
    intro n17
    induction n17 with
    | zero =>
      intro x1 x2 x3 x4 x5 σ H locs ls h hH hl
      cases (show (none : Rs) = some r from h)
    | succ n17 ih17 =>
      have w78 : ∀ (x1 x2 x3 x4 x5 : Int32) (σ : Sg) (H : Heap) (locs : List Loc) (ls : Array Slot), fX3_lostLines_78 (it fX3_lostLines_L17 (fun _ _ _ _ _ _ => none) n17) x1 x2 x3 x4 x5 σ = some r → HP kC E s σ H locs → lv_has ls 7 [(0, .ref (eA E 12)), (1, .int x1), (2, .int x2), (3, .int x3), (4, .int x4), (5, .int x5)] → W p l e (rmk 4 85) s m args below meth c H locs 0 0 Q (F0 m 78 ls []) := by
        intro x1 x2 x3 x4 x5 σ H locs ls h hH hl
        unfold fX3_lostLines_78 at h
        obtain ⟨y1, ey1⟩ : ∃ z : Int32, z = (x5 + 1) := ⟨_, rfl⟩
        replace h := sv_at h ey1
        refine lv_iinc (v := y1) (lv' := [(5, .int y1), (0, .ref (eA E 12)), (1, .int x1), (2, .int x2), (3, .int x3), (4, .int x4)]) hF.x hF.b dX3_lostLines_78 hl (k := 5) rfl (by rw [ey1]; rfl) (by decide) rfl (fun ls hl => ?_)
        clear ey1
        refine lv_goto (tgt := 17) hF.x hF.b dX3_lostLines_81 (by decide) ?_
        exact ih17 _ _ _ _ _ _ _ _ _ h hH (lv_sub hl [1, 2, 3, 4, 5, 0] rfl)
      have w69 : ∀ (x1 x2 x3 x4 x5 : Int32) (σ : Sg) (H : Heap) (locs : List Loc) (ls : Array Slot), fX3_lostLines_69 (it fX3_lostLines_L17 (fun _ _ _ _ _ _ => none) n17) x1 x2 x3 x4 x5 σ = some r → HP kC E s σ H locs → lv_has ls 7 [(0, .ref (eA E 12)), (1, .int x1), (2, .int x2), (3, .int x3), (4, .int x4), (5, .int x5)] → W p l e (rmk 4 85) s m args below meth c H locs 0 0 Q (F0 m 69 ls []) := by
        intro x1 x2 x3 x4 x5 σ H locs ls h hH hl
        unfold fX3_lostLines_69 at h
        refine lv_iload hF.x hF.b dX3_lostLines_69 (lv_at hl 4 rfl) ?_
        refine lv_iconst (v := 1) hF.x hF.b dX3_lostLines_71 (by decide) ?_
        refine lv_iload hF.x hF.b dX3_lostLines_72 (lv_at hl 5 rfl) ?_
        refine lv_ishl hF.x hF.b dX3_lostLines_74 ?_
        refine lv_ior hF.x hF.b dX3_lostLines_75 ?_
        refine lv_topi (fun y2 ey2 => ?_)
        replace h := sv_at h ey2
        clear ey2
        refine lv_istore (lv' := [(4, .int y2), (0, .ref (eA E 12)), (1, .int x1), (2, .int x2), (3, .int x3), (5, .int x5)]) hF.x hF.b dX3_lostLines_76 hl (by decide) rfl (fun ls hl => ?_)
        exact w78 _ _ _ _ _ _ _ _ _ h hH (lv_sub hl [1, 2, 3, 4, 0, 5] rfl)
      intro x1 x2 x3 x4 x5 σ H locs ls h hH hl
      replace h : fX3_lostLines_L17 (it fX3_lostLines_L17 (fun _ _ _ _ _ _ => none) n17) x1 x2 x3 x4 x5 σ = some r := h
      unfold fX3_lostLines_L17 at h
      refine lv_iload hF.x hF.b dX3_lostLines_17 (lv_at hl 5 rfl) ?_
      refine lv_aload_n hF.x hF.b dX3_lostLines_19 rfl (lv_at hl 0 rfl) ?_
      refine gfC_12_0 hF hH tk_141 dX3_lostLines_20 ?_
      refine gfC_1_0 hF hH tk_67 dX3_lostLines_23 ?_
      refine lv_icmp_ge (tgt := 84) hF.x hF.b dX3_lostLines_26 (by decide) (fun c3 => ?_) (fun c3 => ?_)
      · rw [if_pos c3] at h
        refine lv_iload hF.x hF.b dX3_lostLines_84 (lv_at hl 4 rfl) ?_
        exact hret _ _ _ _ _ _ hH h dX3_lostLines_86
      · rw [if_neg c3] at h
        refine lv_aload_n hF.x hF.b dX3_lostLines_29 rfl (lv_at hl 0 rfl) ?_
        refine gfC_12_0 hF hH tk_141 dX3_lostLines_30 ?_
        refine gfC_1_1 hF hH tk_71 dX3_lostLines_33 ?_
        refine lv_iload hF.x hF.b dX3_lostLines_36 (lv_at hl 5 rfl) ?_
        refine alC_2 hF hH (gd_some h).1 dX3_lostLines_38 ?_
        replace h := (gd_some h).2
        refine lv_topi (fun y4 ey4 => ?_)
        replace h := sv_at h ey4
        clear ey4
        refine lv_istore (lv' := [(6, .int y4), (0, .ref (eA E 12)), (1, .int x1), (2, .int x2), (3, .int x3), (4, .int x4), (5, .int x5)]) hF.x hF.b dX3_lostLines_39 hl (by decide) rfl (fun ls hl => ?_)
        refine lv_iload_n hF.x hF.b dX3_lostLines_41 rfl (lv_at hl 3 rfl) ?_
        refine lv_iload hF.x hF.b dX3_lostLines_42 (lv_at hl 6 rfl) ?_
        replace h := bd_some h
        obtain ⟨v5, σ6, hv5, h⟩ := h
        refine w_cNi (As := [.int x2, .int x5]) (rest := []) hF hH hl (tX5_bit l E hF.j _ _ _ _ hv5) (List.mem_of_getElem? (l := nestW) (i := 3) rfl) tk_227 tk_41 tk_228 rfl rfl hdX5_bit ⟨Nat.le_of_ble_eq_true rfl, Nat.le_of_ble_eq_true rfl⟩ rfl rfl (Nat.le_of_ble_eq_true rfl) dX3_lostLines_44 (fun H locs hH => ?_)
        refine lv_if_eq (tgt := 78) hF.x hF.b dX3_lostLines_47 (by decide) (fun c7 => ?_) (fun c7 => ?_)
        · rw [if_pos c7] at h
          exact w78 _ _ _ _ _ _ _ _ _ h hH (lv_sub hl [1, 2, 3, 4, 5, 6] rfl)
        · rw [if_neg c7] at h
          refine lv_iload_n hF.x hF.b dX3_lostLines_50 rfl (lv_at hl 4 rfl) ?_
          refine lv_iload hF.x hF.b dX3_lostLines_51 (lv_at hl 0 rfl) ?_
          replace h := bd_some h
          obtain ⟨v8, σ9, hv8, h⟩ := h
          refine w_cNi (As := [.int x3, .int y4]) (rest := []) hF hH hl (tX5_bit l E hF.j _ _ _ _ hv8) (List.mem_of_getElem? (l := nestW) (i := 3) rfl) tk_227 tk_41 tk_228 rfl rfl hdX5_bit ⟨Nat.le_of_ble_eq_true rfl, Nat.le_of_ble_eq_true rfl⟩ rfl rfl (Nat.le_of_ble_eq_true rfl) dX3_lostLines_53 (fun H locs hH => ?_)
          refine lv_if_eq (tgt := 69) hF.x hF.b dX3_lostLines_56 (by decide) (fun c10 => ?_) (fun c10 => ?_)
          · rw [if_pos c10] at h
            exact w69 _ _ _ _ _ _ _ _ _ h hH (lv_sub hl [1, 2, 3, 4, 5, 6] rfl)
          · rw [if_neg c10] at h
            refine lv_aload_n hF.x hF.b dX3_lostLines_59 rfl (lv_at hl 1 rfl) ?_
            refine lv_iload_n hF.x hF.b dX3_lostLines_60 rfl (lv_at hl 2 rfl) ?_
            refine lv_iload hF.x hF.b dX3_lostLines_61 (lv_at hl 0 rfl) ?_
            replace h := bd_some h
            obtain ⟨v11, σ12, hv11, h⟩ := h
            refine w_cVi (As := [.int x1, .int y4]) (rest := []) hF hH hl 12 (by decide) rfl rfl (tX3_spare l E hF.j _ _ _ _ hv11) tk_363 tk_294 tk_295 tk_44 tk_296 rfl rfl hdX3_spare ⟨Nat.le_of_ble_eq_true rfl, Nat.le_of_ble_eq_true rfl⟩ rfl rfl (Nat.le_of_ble_eq_true rfl) dX3_lostLines_63 (fun H locs hH => ?_)
            refine lv_if_ge (tgt := 78) hF.x hF.b dX3_lostLines_66 (by decide) (fun c13 => ?_) (fun c13 => ?_)
            · rw [if_pos c13] at h
              exact w78 _ _ _ _ _ _ _ _ _ h hH (lv_sub hl [1, 2, 3, 4, 5, 6] rfl)
            · rw [if_neg c13] at h
              exact w69 _ _ _ _ _ _ _ _ _ h hH (lv_sub hl [1, 2, 3, 4, 5, 6] rfl)
  unfold fX3_lostLines at h
  refine lv_iload_n hF.x hF.b dX3_lostLines_0 rfl (lv_at hl 1 rfl) ?_
  replace h := bd_some h
  obtain ⟨v14, σ15, hv14, h⟩ := h
  refine w_cSi (As := [.int a1]) (rest := []) hF hH hl (tX0_closed l E hF.j _ _ _ hv14) tk_291 tk_259 tk_48 tk_260 rfl rfl hdX0_closed ⟨Nat.le_of_ble_eq_true rfl, Nat.le_of_ble_eq_true rfl⟩ rfl rfl (Nat.le_of_ble_eq_true rfl) dX3_lostLines_1 (fun H locs hH => ?_)
  refine lv_istore_n (lv' := [(2, .int v14), (0, .ref (eA E 12)), (1, .int a1)]) hF.x hF.b dX3_lostLines_4 rfl hl (by decide) rfl (fun ls hl => ?_)
  refine lv_aload_n hF.x hF.b dX3_lostLines_5 rfl (lv_at hl 1 rfl) ?_
  refine lv_iload_n hF.x hF.b dX3_lostLines_6 rfl (lv_at hl 2 rfl) ?_
  replace h := bd_some h
  obtain ⟨v16, σ17, hv16, h⟩ := h
  refine w_cVi (As := [.int a1]) (rest := []) hF hH hl 12 (by decide) rfl rfl (tX3_liveBuses l E hF.j _ _ _ hv16) tk_316 tk_287 tk_288 tk_44 tk_289 rfl rfl hdX3_liveBuses ⟨Nat.le_of_ble_eq_true rfl, Nat.le_of_ble_eq_true rfl⟩ rfl rfl (Nat.le_of_ble_eq_true rfl) dX3_lostLines_7 (fun H locs hH => ?_)
  refine lv_istore_n (lv' := [(3, .int v16), (2, .int v14), (0, .ref (eA E 12)), (1, .int a1)]) hF.x hF.b dX3_lostLines_10 rfl hl (by decide) rfl (fun ls hl => ?_)
  refine lv_iconst (v := 0) hF.x hF.b dX3_lostLines_11 (by decide) ?_
  refine lv_istore (lv' := [(4, .int 0), (3, .int v16), (2, .int v14), (0, .ref (eA E 12)), (1, .int a1)]) hF.x hF.b dX3_lostLines_12 hl (by decide) rfl (fun ls hl => ?_)
  refine lv_iconst (v := 0) hF.x hF.b dX3_lostLines_14 (by decide) ?_
  refine lv_istore (lv' := [(5, .int 0), (4, .int 0), (3, .int v16), (2, .int v14), (0, .ref (eA E 12)), (1, .int a1)]) hF.x hF.b dX3_lostLines_15 hl (by decide) rfl (fun ls hl => ?_)
  exact w17 _ _ _ _ _ _ _ _ _ _ h hH (lv_sub hl [4, 5, 3, 2, 1, 0] rfl)
theorem hdX4_forget : yX4_forget.cls = RX4 ∧ yX4_forget.cls ≠ "java/lang/invoke/MethodHandle" ∧ yX4_forget.cls ≠ "java/lang/invoke/VarHandle" ∧ (parseMethodDescriptor yX4_forget.desc).map (fun d => d.parameters.length) = some 1 := by decide +kernel
set_option maxHeartbeats 4000000 in
set_option maxRecDepth 100000 in
theorem tX4_forget (l : Launch) (E : Ev) (hj : Inj kC E) (a1 : Int32) (σ : Sg) (r : Int32 × Sg) (h : fX4_forget a1 σ = some r) : CV l yX4_forget cX4_forget 4 (rmk 0 0) kC E [.ref (eA E 13), .int a1] σ r := by
  refine CV_v (lv := [(0, .ref (eA E 13)), (1, .int a1)]) (by decide) hj (Nat.le_of_ble_eq_true rfl) rfl (fun p e s m args below meth c ls Q hF hret hH hl => ?_)
  have w6 : ∀ (n : Nat) (x2 x3 : Int32) (σ : Sg) (H : Heap) (locs : List Loc) (ls : Array Slot), it fX4_forget_L6 (fun _ _ _ => none) n x2 x3 σ = some r → HP kC E s σ H locs → lv_has ls 4 [(0, .ref (eA E 13)), (2, .int x2), (3, .int x3)] → W p l e (rmk 0 0) s m args below meth c H locs 0 0 Q (F0 m 6 ls []) := by
    intro n6
    induction n6 with
    | zero =>
      intro x2 x3 σ H locs ls h hH hl
      cases (show (none : Rs) = some r from h)
    | succ n6 ih6 =>
      intro x2 x3 σ H locs ls h hH hl
      replace h : fX4_forget_L6 (it fX4_forget_L6 (fun _ _ _ => none) n6) x2 x3 σ = some r := h
      unfold fX4_forget_L6 at h
      refine lv_iload_n hF.x hF.b dX4_forget_6 rfl (lv_at hl 2 rfl) ?_
      refine lv_iload_n hF.x hF.b dX4_forget_7 rfl (lv_at hl 1 rfl) ?_
      refine lv_icmp_gt (tgt := 24) hF.x hF.b dX4_forget_8 (by decide) (fun c1 => ?_) (fun c1 => ?_)
      · rw [if_pos c1] at h
        refine lv_aload_n hF.x hF.b dX4_forget_24 rfl (lv_at hl 0 rfl) ?_
        refine lv_iconst (v := 0) hF.x hF.b dX4_forget_25 (by decide) ?_
        refine pfC_13_4 hF hH tk_158 dX4_forget_26 (fun σ2 H locs eσ2 hH => ?_)
        replace h := sv_at h eσ2
        clear eσ2
        exact hret _ _ _ _ _ hH h dX4_forget_29
      · rw [if_neg c1] at h
        refine lv_aload_n hF.x hF.b dX4_forget_11 rfl (lv_at hl 0 rfl) ?_
        refine gfC_13_3 hF hH tk_157 dX4_forget_12 ?_
        refine lv_iload_n hF.x hF.b dX4_forget_15 rfl (lv_at hl 2 rfl) ?_
        refine lv_iconst (v := 0) hF.x hF.b dX4_forget_16 (by decide) ?_
        refine asC_16 hF hH (gd_some h).1 dX4_forget_17 (fun σ3 H locs eσ3 hH => ?_)
        replace h := sv_at (gd_some h).2 eσ3
        clear eσ3
        obtain ⟨y4, ey4⟩ : ∃ z : Int32, z = (x3 + 1) := ⟨_, rfl⟩
        replace h := sv_at h ey4
        refine lv_iinc (v := y4) (lv' := [(3, .int y4), (0, .ref (eA E 13)), (2, .int x2)]) hF.x hF.b dX4_forget_18 hl (k := 2) rfl (by rw [ey4]; rfl) (by decide) rfl (fun ls hl => ?_)
        clear ey4
        refine lv_goto (tgt := 6) hF.x hF.b dX4_forget_21 (by decide) ?_
        exact ih6 _ _ _ _ _ _ h hH (lv_sub hl [1, 2, 0] rfl)
  unfold fX4_forget at h
  refine lv_iload_n hF.x hF.b dX4_forget_0 rfl (lv_at hl 1 rfl) ?_
  refine lv_iconst (v := 5) hF.x hF.b dX4_forget_1 (by decide) ?_
  refine lv_ishr hF.x hF.b dX4_forget_2 ?_
  refine lv_topi (fun y5 ey5 => ?_)
  replace h := sv_at h ey5
  clear ey5
  refine lv_istore_n (lv' := [(2, .int y5), (0, .ref (eA E 13)), (1, .int a1)]) hF.x hF.b dX4_forget_3 rfl hl (by decide) rfl (fun ls hl => ?_)
  refine lv_iconst (v := 0) hF.x hF.b dX4_forget_4 (by decide) ?_
  refine lv_istore_n (lv' := [(3, .int 0), (2, .int y5), (0, .ref (eA E 13)), (1, .int a1)]) hF.x hF.b dX4_forget_5 rfl hl (by decide) rfl (fun ls hl => ?_)
  exact w6 _ _ _ _ _ _ _ h hH (lv_sub hl [2, 1, 0] rfl)
theorem hdX4_add : yX4_add.cls = RX4 ∧ yX4_add.cls ≠ "java/lang/invoke/MethodHandle" ∧ yX4_add.cls ≠ "java/lang/invoke/VarHandle" ∧ (parseMethodDescriptor yX4_add.desc).map (fun d => d.parameters.length) = some 2 := by decide +kernel
set_option maxHeartbeats 4000000 in
set_option maxRecDepth 100000 in
theorem tX4_add (l : Launch) (E : Ev) (hj : Inj kC E) (a1 : Int32) (a2 : Int32) (σ : Sg) (r : Int32 × Sg) (h : fX4_add a1 a2 σ = some r) : CI l yX4_add cX4_add 5 (some FieldType.boolean) (rmk 1 20) kC E [.ref (eA E 13), .int a1, .int a2] σ r := by
  refine CI_z (lv := [(0, .ref (eA E 13)), (1, .int a1), (2, .int a2)]) (by decide) hj (Nat.le_of_ble_eq_true rfl) rfl (fun p e s m args below meth c ls Q hF hret hH hl => ?_)
  have w36 : ∀ (σ : Sg) (H : Heap) (locs : List Loc) (ls : Array Slot), fX4_add_36 σ = some r → HP kC E s σ H locs → lv_has ls 5 [(0, .ref (eA E 13))] → W p l e (rmk 1 20) s m args below meth c H locs 0 0 Q (F0 m 36 ls []) := by
    intro σ H locs ls h hH hl
    unfold fX4_add_36 at h
    refine lv_iconst (v := 0) hF.x hF.b dX4_add_36 (by decide) ?_
    exact hret _ _ _ _ _ _ hH h dX4_add_37
  unfold fX4_add at h
  refine lv_iload_n hF.x hF.b dX4_add_0 rfl (lv_at hl 1 rfl) ?_
  refine lv_iconst (v := 5) hF.x hF.b dX4_add_1 (by decide) ?_
  refine lv_ishr hF.x hF.b dX4_add_2 ?_
  refine lv_topi (fun y1 ey1 => ?_)
  replace h := sv_at h ey1
  clear ey1
  refine lv_istore_n (lv' := [(3, .int y1), (0, .ref (eA E 13)), (1, .int a1), (2, .int a2)]) hF.x hF.b dX4_add_3 rfl hl (by decide) rfl (fun ls hl => ?_)
  refine lv_iconst (v := 1) hF.x hF.b dX4_add_4 (by decide) ?_
  refine lv_iload_n hF.x hF.b dX4_add_5 rfl (lv_at hl 2 rfl) ?_
  refine lv_iconst (v := 5) hF.x hF.b dX4_add_6 (by decide) ?_
  replace h := bd_some h
  obtain ⟨v2, σ3, hv2, h⟩ := h
  refine w_cNi (As := [.int 5]) (rest := [.int a1, .int 1]) hF hH hl (tX5_setOfFirst l E hF.j _ _ _ hv2) (List.mem_of_getElem? (l := nestW) (i := 4) rfl) tk_380 tk_41 tk_381 rfl rfl hdX5_setOfFirst ⟨Nat.le_of_ble_eq_true rfl, Nat.le_of_ble_eq_true rfl⟩ rfl rfl (Nat.le_of_ble_eq_true rfl) dX4_add_7 (fun H locs hH => ?_)
  refine lv_iand hF.x hF.b dX4_add_10 ?_
  refine lv_ishl hF.x hF.b dX4_add_11 ?_
  refine lv_topi (fun y4 ey4 => ?_)
  replace h := sv_at h ey4
  clear ey4
  refine lv_istore (lv' := [(4, .int y4), (3, .int y1), (0, .ref (eA E 13)), (1, .int a1), (2, .int a2)]) hF.x hF.b dX4_add_12 hl (by decide) rfl (fun ls hl => ?_)
  refine lv_aload_n hF.x hF.b dX4_add_14 rfl (lv_at hl 2 rfl) ?_
  refine gfC_13_3 hF hH tk_157 dX4_add_15 ?_
  refine lv_iload_n hF.x hF.b dX4_add_18 rfl (lv_at hl 1 rfl) ?_
  refine alC_16 hF hH (gd_some h).1 dX4_add_19 ?_
  replace h := (gd_some h).2
  refine lv_iload hF.x hF.b dX4_add_20 (lv_at hl 0 rfl) ?_
  refine lv_iand hF.x hF.b dX4_add_22 ?_
  refine lv_if_ne (tgt := 36) hF.x hF.b dX4_add_23 (by decide) (fun c5 => ?_) (fun c5 => ?_)
  · rw [if_neg c5] at h
    exact w36 _ _ _ _ h hH (lv_sub hl [2] rfl)
  · rw [if_pos c5] at h
    refine lv_aload_n hF.x hF.b dX4_add_26 rfl (lv_at hl 2 rfl) ?_
    refine gfC_13_4 hF hH tk_158 dX4_add_27 ?_
    refine lv_sipush (v := 8000) hF.x hF.b dX4_add_30 (by decide) ?_
    refine lv_icmp_lt (tgt := 38) hF.x hF.b dX4_add_33 (by decide) (fun c6 => ?_) (fun c6 => ?_)
    · rw [if_pos c6] at h
      refine lv_aload_n hF.x hF.b dX4_add_38 rfl (lv_at hl 2 rfl) ?_
      refine gfC_13_3 hF hH tk_157 dX4_add_39 ?_
      refine lv_iload_n hF.x hF.b dX4_add_42 rfl (lv_at hl 1 rfl) ?_
      refine lv_dup2_11 hF.x hF.b dX4_add_43 rfl rfl ?_
      refine alC_16 hF hH (gd_some h).1 dX4_add_44 ?_
      replace h := (gd_some h).2
      refine lv_iload hF.x hF.b dX4_add_45 (lv_at hl 0 rfl) ?_
      refine lv_ior hF.x hF.b dX4_add_47 ?_
      refine asC_16 hF hH (gd_some h).1 dX4_add_48 (fun σ7 H locs eσ7 hH => ?_)
      replace h := sv_at (gd_some h).2 eσ7
      clear eσ7
      refine lv_aload_n hF.x hF.b dX4_add_49 rfl (lv_at hl 2 rfl) ?_
      refine gfC_13_1 hF hH tk_155 dX4_add_50 ?_
      refine lv_aload_n hF.x hF.b dX4_add_53 rfl (lv_at hl 2 rfl) ?_
      refine gfC_13_4 hF hH tk_158 dX4_add_54 ?_
      refine lv_iload_n hF.x hF.b dX4_add_57 rfl (lv_at hl 3 rfl) ?_
      refine asC_14 hF hH (gd_some h).1 dX4_add_58 (fun σ8 H locs eσ8 hH => ?_)
      replace h := sv_at (gd_some h).2 eσ8
      clear eσ8
      refine lv_aload_n hF.x hF.b dX4_add_59 rfl (lv_at hl 2 rfl) ?_
      refine gfC_13_2 hF hH tk_156 dX4_add_60 ?_
      refine lv_aload_n hF.x hF.b dX4_add_63 rfl (lv_at hl 2 rfl) ?_
      refine gfC_13_4 hF hH tk_158 dX4_add_64 ?_
      refine lv_iload_n hF.x hF.b dX4_add_67 rfl (lv_at hl 4 rfl) ?_
      refine asC_15 hF hH (gd_some h).1 dX4_add_68 (fun σ9 H locs eσ9 hH => ?_)
      replace h := sv_at (gd_some h).2 eσ9
      clear eσ9
      refine lv_aload_n hF.x hF.b dX4_add_69 rfl (lv_at hl 2 rfl) ?_
      refine lv_dup hF.x hF.b dX4_add_70 rfl ?_
      refine gfC_13_4 hF hH tk_158 dX4_add_71 ?_
      refine lv_iconst (v := 1) hF.x hF.b dX4_add_74 (by decide) ?_
      refine lv_iadd hF.x hF.b dX4_add_75 ?_
      refine pfC_13_4 hF hH tk_158 dX4_add_76 (fun σ10 H locs eσ10 hH => ?_)
      replace h := sv_at h eσ10
      clear eσ10
      refine lv_iconst (v := 1) hF.x hF.b dX4_add_79 (by decide) ?_
      exact hret _ _ _ _ _ _ hH h dX4_add_80
    · rw [if_neg c6] at h
      exact w36 _ _ _ _ h hH (lv_sub hl [2] rfl)
theorem hdX4_explore : yX4_explore.cls = RX4 ∧ yX4_explore.cls ≠ "java/lang/invoke/MethodHandle" ∧ yX4_explore.cls ≠ "java/lang/invoke/VarHandle" ∧ (parseMethodDescriptor yX4_explore.desc).map (fun d => d.parameters.length) = some 5 := by decide +kernel
set_option maxHeartbeats 4000000 in
set_option maxRecDepth 100000 in
theorem tX4_explore (l : Launch) (E : Ev) (hj : Inj kC E) (a1 : Int32) (a2 : Int32) (a3 : Int32) (a4 : Int32) (a5 : Int32) (σ : Sg) (r : Int32 × Sg) (h : fX4_explore a1 a2 a3 a4 a5 σ = some r) : CI l yX4_explore cX4_explore 12 (some FieldType.int) (rmk 4 101) kC E [.ref (eA E 13), .int a1, .int a2, .int a3, .int a4, .int a5] σ r := by
  refine CI_i (lv := [(0, .ref (eA E 13)), (1, .int a1), (2, .int a2), (3, .int a3), (4, .int a4), (5, .int a5)]) (by decide) hj (Nat.le_of_ble_eq_true rfl) rfl (fun p e s m args below meth c ls Q hF hret hH hl => ?_)
  have w175 : ∀ (σ : Sg) (H : Heap) (locs : List Loc) (ls : Array Slot), fX4_explore_175 σ = some r → HP kC E s σ H locs → lv_has ls 12 [(0, .ref (eA E 13))] → W p l e (rmk 4 101) s m args below meth c H locs 0 0 Q (F0 m 175 ls []) := by
    intro σ H locs ls h hH hl
    unfold fX4_explore_175 at h
    refine lv_iconst (v := (-1)) hF.x hF.b dX4_explore_175 (by decide) ?_
    exact hret _ _ _ _ _ _ hH h dX4_explore_176
  have w39 : ∀ (n : Nat) (x2 x3 x4 x5 x7 : Int32) (σ : Sg) (H : Heap) (locs : List Loc) (ls : Array Slot), it fX4_explore_L39 (fun _ _ _ _ _ _ => none) n x2 x3 x4 x5 x7 σ = some r → HP kC E s σ H locs → lv_has ls 12 [(0, .ref (eA E 13)), (2, .int x2), (3, .int x3), (4, .int x4), (5, .int x5), (7, .int x7)] → W p l e (rmk 4 101) s m args below meth c H locs 0 0 Q (F0 m 39 ls []) := by
    intro n39
    induction n39 with
    | zero =>
      intro x2 x3 x4 x5 x7 σ H locs ls h hH hl
      cases (show (none : Rs) = some r from h)
    | succ n39 ih39 =>
      have w89 : ∀ (n : Nat) (x2 x3 x4 x5 x7 x8 x9 x10 : Int32) (σ : Sg) (H : Heap) (locs : List Loc) (ls : Array Slot), it (fX4_explore_L89 (it fX4_explore_L39 (fun _ _ _ _ _ _ => none) n39)) (fun _ _ _ _ _ _ _ _ _ => none) n x2 x3 x4 x5 x7 x8 x9 x10 σ = some r → HP kC E s σ H locs → lv_has ls 12 [(0, .ref (eA E 13)), (2, .int x2), (3, .int x3), (4, .int x4), (5, .int x5), (7, .int x7), (8, .int x8), (9, .int x9), (10, .int x10)] → W p l e (rmk 4 101) s m args below meth c H locs 0 0 Q (F0 m 89 ls []) := by
        intro n89
        induction n89 with
        | zero =>
          intro x2 x3 x4 x5 x7 x8 x9 x10 σ H locs ls h hH hl
          cases (show (none : Rs) = some r from h)
        | succ n89 ih89 =>
          have w163 : ∀ (x2 x3 x4 x5 x7 x8 x9 x10 : Int32) (σ : Sg) (H : Heap) (locs : List Loc) (ls : Array Slot), fX4_explore_163 (it fX4_explore_L39 (fun _ _ _ _ _ _ => none) n39) (it (fX4_explore_L89 (it fX4_explore_L39 (fun _ _ _ _ _ _ => none) n39)) (fun _ _ _ _ _ _ _ _ _ => none) n89) x2 x3 x4 x5 x7 x8 x9 x10 σ = some r → HP kC E s σ H locs → lv_has ls 12 [(0, .ref (eA E 13)), (2, .int x2), (3, .int x3), (4, .int x4), (5, .int x5), (7, .int x7), (8, .int x8), (9, .int x9), (10, .int x10)] → W p l e (rmk 4 101) s m args below meth c H locs 0 0 Q (F0 m 163 ls []) := by
            intro x2 x3 x4 x5 x7 x8 x9 x10 σ H locs ls h hH hl
            unfold fX4_explore_163 at h
            obtain ⟨y1, ey1⟩ : ∃ z : Int32, z = (x10 + 1) := ⟨_, rfl⟩
            replace h := sv_at h ey1
            refine lv_iinc (v := y1) (lv' := [(10, .int y1), (0, .ref (eA E 13)), (2, .int x2), (3, .int x3), (4, .int x4), (5, .int x5), (7, .int x7), (8, .int x8), (9, .int x9)]) hF.x hF.b dX4_explore_163 hl (k := 8) rfl (by rw [ey1]; rfl) (by decide) rfl (fun ls hl => ?_)
            clear ey1
            refine lv_goto (tgt := 89) hF.x hF.b dX4_explore_166 (by decide) ?_
            exact ih89 _ _ _ _ _ _ _ _ _ _ _ _ h hH (lv_sub hl [1, 2, 3, 4, 5, 6, 7, 8, 0] rfl)
          intro x2 x3 x4 x5 x7 x8 x9 x10 σ H locs ls h hH hl
          replace h : fX4_explore_L89 (it fX4_explore_L39 (fun _ _ _ _ _ _ => none) n39) (it (fX4_explore_L89 (it fX4_explore_L39 (fun _ _ _ _ _ _ => none) n39)) (fun _ _ _ _ _ _ _ _ _ => none) n89) x2 x3 x4 x5 x7 x8 x9 x10 σ = some r := h
          unfold fX4_explore_L89 at h
          refine lv_iload hF.x hF.b dX4_explore_89 (lv_at hl 8 rfl) ?_
          refine lv_bipush (v := 10) hF.x hF.b dX4_explore_91 (by decide) ?_
          refine lv_icmp_ge (tgt := 169) hF.x hF.b dX4_explore_93 (by decide) (fun c2 => ?_) (fun c2 => ?_)
          · rw [if_pos c2] at h
            obtain ⟨y3, ey3⟩ : ∃ z : Int32, z = (x7 + 1) := ⟨_, rfl⟩
            replace h := sv_at h ey3
            refine lv_iinc (v := y3) (lv' := [(7, .int y3), (0, .ref (eA E 13)), (2, .int x2), (3, .int x3), (4, .int x4), (5, .int x5), (8, .int x8), (9, .int x9), (10, .int x10)]) hF.x hF.b dX4_explore_169 hl (k := 5) rfl (by rw [ey3]; rfl) (by decide) rfl (fun ls hl => ?_)
            clear ey3
            refine lv_goto (tgt := 39) hF.x hF.b dX4_explore_172 (by decide) ?_
            exact ih39 _ _ _ _ _ _ _ _ _ h hH (lv_sub hl [1, 2, 3, 4, 5, 0] rfl)
          · rw [if_neg c2] at h
            refine lv_iload hF.x hF.b dX4_explore_96 (lv_at hl 6 rfl) ?_
            refine lv_iload hF.x hF.b dX4_explore_98 (lv_at hl 8 rfl) ?_
            replace h := bd_some h
            obtain ⟨v4, σ5, hv4, h⟩ := h
            refine w_cNi (As := [.int x8, .int x10]) (rest := []) hF hH hl (tX5_bit l E hF.j _ _ _ _ hv4) (List.mem_of_getElem? (l := nestW) (i := 5) rfl) tk_227 tk_41 tk_228 rfl rfl hdX5_bit ⟨Nat.le_of_ble_eq_true rfl, Nat.le_of_ble_eq_true rfl⟩ rfl rfl (Nat.le_of_ble_eq_true rfl) dX4_explore_100 (fun H locs hH => ?_)
            refine lv_if_ne (tgt := 109) hF.x hF.b dX4_explore_103 (by decide) (fun c6 => ?_) (fun c6 => ?_)
            · rw [if_neg c6] at h
              refine lv_aload_n hF.x hF.b dX4_explore_109 rfl (lv_at hl 0 rfl) ?_
              refine gfC_13_0 hF hH tk_154 dX4_explore_110 ?_
              refine lv_iload hF.x hF.b dX4_explore_113 (lv_at hl 7 rfl) ?_
              refine lv_iload hF.x hF.b dX4_explore_115 (lv_at hl 8 rfl) ?_
              replace h := bd_some h
              obtain ⟨v7, σ8, hv7, h⟩ := h
              refine w_cVi (As := [.int x9, .int x10]) (rest := []) hF hH hl 12 (by decide) rfl rfl (tX3_withStep l E hF.j _ _ _ _ hv7) tk_406 tk_339 tk_340 tk_44 tk_341 rfl rfl hdX3_withStep ⟨Nat.le_of_ble_eq_true rfl, Nat.le_of_ble_eq_true rfl⟩ rfl rfl (Nat.le_of_ble_eq_true rfl) dX4_explore_117 (fun H locs hH => ?_)
              refine lv_iload_n hF.x hF.b dX4_explore_120 rfl (lv_at hl 1 rfl) ?_
              refine lv_iand hF.x hF.b dX4_explore_121 ?_
              refine lv_topi (fun y9 ey9 => ?_)
              replace h := sv_at h ey9
              clear ey9
              refine lv_istore (lv' := [(11, .int y9), (0, .ref (eA E 13)), (2, .int x2), (3, .int x3), (4, .int x4), (5, .int x5), (7, .int x7), (8, .int x8), (9, .int x9), (10, .int x10)]) hF.x hF.b dX4_explore_122 hl (by decide) rfl (fun ls hl => ?_)
              refine lv_aload_n hF.x hF.b dX4_explore_124 rfl (lv_at hl 1 rfl) ?_
              refine lv_iload hF.x hF.b dX4_explore_125 (lv_at hl 0 rfl) ?_
              refine lv_iload hF.x hF.b dX4_explore_127 (lv_at hl 6 rfl) ?_
              refine lv_iconst (v := 4) hF.x hF.b dX4_explore_129 (by decide) ?_
              refine lv_ishl hF.x hF.b dX4_explore_130 ?_
              refine lv_iload hF.x hF.b dX4_explore_131 (lv_at hl 9 rfl) ?_
              refine lv_ior hF.x hF.b dX4_explore_133 ?_
              replace h := bd_some h
              obtain ⟨v10, σ11, hv10, h⟩ := h
              refine w_cVi (As := [.int y9, .int ((x7 <<< ((4 : Int32) &&& 31)) ||| x10)]) (rest := []) hF hH hl 13 (by decide) rfl rfl (tX4_add l E hF.j _ _ _ _ hv10) tk_394 tk_396 tk_8 tk_45 tk_397 rfl rfl hdX4_add ⟨Nat.le_of_ble_eq_true rfl, Nat.le_of_ble_eq_true rfl⟩ rfl rfl (Nat.le_of_ble_eq_true rfl) dX4_explore_134 (fun H locs hH => ?_)
              refine lv_if_eq (tgt := 163) hF.x hF.b dX4_explore_137 (by decide) (fun c12 => ?_) (fun c12 => ?_)
              · rw [if_pos c12] at h
                exact w163 _ _ _ _ _ _ _ _ _ _ _ _ h hH (lv_sub hl [1, 2, 3, 4, 5, 6, 7, 8, 9] rfl)
              · rw [if_neg c12] at h
                refine lv_aload_n hF.x hF.b dX4_explore_140 rfl (lv_at hl 1 rfl) ?_
                refine gfC_13_0 hF hH tk_154 dX4_explore_141 ?_
                refine lv_iload hF.x hF.b dX4_explore_144 (lv_at hl 0 rfl) ?_
                refine lv_iload hF.x hF.b dX4_explore_146 (lv_at hl 4 rfl) ?_
                refine lv_iload hF.x hF.b dX4_explore_148 (lv_at hl 5 rfl) ?_
                replace h := bd_some h
                obtain ⟨v13, σ14, hv13, h⟩ := h
                refine w_cVi (As := [.int y9, .int x4, .int x5]) (rest := []) hF hH hl 12 (by decide) rfl rfl (tX3_isReached l E hF.j _ _ _ _ _ hv13) tk_399 tk_400 tk_401 tk_44 tk_402 rfl rfl hdX3_isReached ⟨Nat.le_of_ble_eq_true rfl, Nat.le_of_ble_eq_true rfl⟩ rfl rfl (Nat.le_of_ble_eq_true rfl) dX4_explore_150 (fun H locs hH => ?_)
                refine lv_if_eq (tgt := 163) hF.x hF.b dX4_explore_153 (by decide) (fun c15 => ?_) (fun c15 => ?_)
                · rw [if_pos c15] at h
                  exact w163 _ _ _ _ _ _ _ _ _ _ _ _ h hH (lv_sub hl [1, 2, 3, 4, 5, 6, 7, 8, 9] rfl)
                · rw [if_neg c15] at h
                  refine lv_aload_n hF.x hF.b dX4_explore_156 rfl (lv_at hl 1 rfl) ?_
                  refine gfC_13_4 hF hH tk_158 dX4_explore_157 ?_
                  refine lv_iconst (v := 1) hF.x hF.b dX4_explore_160 (by decide) ?_
                  refine lv_isub hF.x hF.b dX4_explore_161 ?_
                  exact hret _ _ _ _ _ _ hH h dX4_explore_162
            · rw [if_pos c6] at h
              refine lv_goto (tgt := 163) hF.x hF.b dX4_explore_106 (by decide) ?_
              exact w163 _ _ _ _ _ _ _ _ _ _ _ _ h hH (lv_sub hl [0, 1, 2, 3, 4, 5, 6, 7, 8] rfl)
      intro x2 x3 x4 x5 x7 σ H locs ls h hH hl
      replace h : fX4_explore_L39 (it fX4_explore_L39 (fun _ _ _ _ _ _ => none) n39) x2 x3 x4 x5 x7 σ = some r := h
      unfold fX4_explore_L39 at h
      refine lv_iload hF.x hF.b dX4_explore_39 (lv_at hl 5 rfl) ?_
      refine lv_aload_n hF.x hF.b dX4_explore_41 rfl (lv_at hl 0 rfl) ?_
      refine gfC_13_4 hF hH tk_158 dX4_explore_42 ?_
      refine lv_icmp_ge (tgt := 175) hF.x hF.b dX4_explore_45 (by decide) (fun c16 => ?_) (fun c16 => ?_)
      · rw [if_pos c16] at h
        exact w175 _ _ _ _ h hH (lv_sub hl [0] rfl)
      · rw [if_neg c16] at h
        refine lv_iload hF.x hF.b dX4_explore_48 (lv_at hl 5 rfl) ?_
        refine lv_sipush (v := 8000) hF.x hF.b dX4_explore_50 (by decide) ?_
        refine lv_icmp_ge (tgt := 175) hF.x hF.b dX4_explore_53 (by decide) (fun c17 => ?_) (fun c17 => ?_)
        · rw [if_pos c17] at h
          exact w175 _ _ _ _ h hH (lv_sub hl [0] rfl)
        · rw [if_neg c17] at h
          refine lv_aload_n hF.x hF.b dX4_explore_56 rfl (lv_at hl 0 rfl) ?_
          refine gfC_13_0 hF hH tk_154 dX4_explore_57 ?_
          refine lv_aload_n hF.x hF.b dX4_explore_60 rfl (lv_at hl 0 rfl) ?_
          refine gfC_13_1 hF hH tk_155 dX4_explore_61 ?_
          refine lv_iload hF.x hF.b dX4_explore_64 (lv_at hl 5 rfl) ?_
          refine alC_14 hF hH (gd_some h).1 dX4_explore_66 ?_
          replace h := (gd_some h).2
          replace h := bd_some h
          obtain ⟨v18, σ19, hv18, h⟩ := h
          refine w_cVi (As := [.int (σ 14 (Int32.toNatClampNeg x7))]) (rest := []) hF hH hl 12 (by decide) rfl rfl (tX3_stepsFrom l E hF.j _ _ _ hv18) tk_403 tk_312 tk_313 tk_44 tk_314 rfl rfl hdX3_stepsFrom ⟨Nat.le_of_ble_eq_true rfl, Nat.le_of_ble_eq_true rfl⟩ rfl rfl (Nat.le_of_ble_eq_true rfl) dX4_explore_67 (fun H locs hH => ?_)
          refine lv_iload_n hF.x hF.b dX4_explore_70 rfl (lv_at hl 2 rfl) ?_
          refine lv_iand hF.x hF.b dX4_explore_71 ?_
          refine lv_topi (fun y20 ey20 => ?_)
          replace h := sv_at h ey20
          clear ey20
          refine lv_istore (lv' := [(8, .int y20), (0, .ref (eA E 13)), (2, .int x2), (3, .int x3), (4, .int x4), (5, .int x5), (7, .int x7)]) hF.x hF.b dX4_explore_72 hl (by decide) rfl (fun ls hl => ?_)
          refine lv_aload_n hF.x hF.b dX4_explore_74 rfl (lv_at hl 1 rfl) ?_
          refine gfC_13_1 hF hH tk_155 dX4_explore_75 ?_
          refine lv_iload hF.x hF.b dX4_explore_78 (lv_at hl 6 rfl) ?_
          refine alC_14 hF hH (gd_some h).1 dX4_explore_80 ?_
          replace h := (gd_some h).2
          replace h := bd_some h
          obtain ⟨v21, σ22, hv21, h⟩ := h
          refine w_cSi (As := [.int (σ19 14 (Int32.toNatClampNeg x7))]) (rest := []) hF hH hl (tX0_ticked l E hF.j _ _ _ hv21) tk_404 tk_336 tk_48 tk_337 rfl rfl hdX0_ticked ⟨Nat.le_of_ble_eq_true rfl, Nat.le_of_ble_eq_true rfl⟩ rfl rfl (Nat.le_of_ble_eq_true rfl) dX4_explore_81 (fun H locs hH => ?_)
          refine lv_istore (lv' := [(9, .int v21), (8, .int y20), (0, .ref (eA E 13)), (2, .int x2), (3, .int x3), (4, .int x4), (5, .int x5), (7, .int x7)]) hF.x hF.b dX4_explore_84 hl (by decide) rfl (fun ls hl => ?_)
          refine lv_iconst (v := 0) hF.x hF.b dX4_explore_86 (by decide) ?_
          refine lv_istore (lv' := [(10, .int 0), (9, .int v21), (8, .int y20), (0, .ref (eA E 13)), (2, .int x2), (3, .int x3), (4, .int x4), (5, .int x5), (7, .int x7)]) hF.x hF.b dX4_explore_87 hl (by decide) rfl (fun ls hl => ?_)
          exact w89 _ _ _ _ _ _ _ _ _ _ _ _ _ h hH (lv_sub hl [3, 4, 5, 6, 7, 8, 2, 1, 0] rfl)
  unfold fX4_explore at h
  refine lv_iload_n hF.x hF.b dX4_explore_0 rfl (lv_at hl 1 rfl) ?_
  refine lv_iload_n hF.x hF.b dX4_explore_1 rfl (lv_at hl 2 rfl) ?_
  refine lv_iand hF.x hF.b dX4_explore_2 ?_
  refine lv_topi (fun y23 ey23 => ?_)
  replace h := sv_at h ey23
  clear ey23
  refine lv_istore (lv' := [(6, .int y23), (0, .ref (eA E 13)), (1, .int a1), (2, .int a2), (3, .int a3), (4, .int a4), (5, .int a5)]) hF.x hF.b dX4_explore_3 hl (by decide) rfl (fun ls hl => ?_)
  refine lv_aload_n hF.x hF.b dX4_explore_5 rfl (lv_at hl 1 rfl) ?_
  refine lv_iload_n hF.x hF.b dX4_explore_6 rfl (lv_at hl 3 rfl) ?_
  replace h := bd_some h
  obtain ⟨v24, σ25, hv24, h⟩ := h
  refine w_cVv (As := [.int a2]) (rest := []) hF hH hl 13 (by decide) rfl rfl (tX4_forget l E hF.j _ _ _ hv24) tk_390 tk_392 tk_7 tk_45 tk_393 rfl rfl hdX4_forget ⟨Nat.le_of_ble_eq_true rfl, Nat.le_of_ble_eq_true rfl⟩ rfl rfl (Nat.le_of_ble_eq_true rfl) dX4_explore_7 (fun H locs hH => ?_)
  refine lv_aload_n hF.x hF.b dX4_explore_10 rfl (lv_at hl 1 rfl) ?_
  refine lv_iload hF.x hF.b dX4_explore_11 (lv_at hl 0 rfl) ?_
  refine lv_iconst (v := 0) hF.x hF.b dX4_explore_13 (by decide) ?_
  replace h := bd_some h
  obtain ⟨v26, σ27, hv26, h⟩ := h
  refine w_cVi (As := [.int y23, .int 0]) (rest := []) hF hH hl 13 (by decide) rfl rfl (tX4_add l E hF.j _ _ _ _ hv26) tk_394 tk_396 tk_8 tk_45 tk_397 rfl rfl hdX4_add ⟨Nat.le_of_ble_eq_true rfl, Nat.le_of_ble_eq_true rfl⟩ rfl rfl (Nat.le_of_ble_eq_true rfl) dX4_explore_14 (fun H locs hH => ?_)
  refine lv_pop hF.x hF.b dX4_explore_17 rfl ?_
  refine lv_aload_n hF.x hF.b dX4_explore_18 rfl (lv_at hl 1 rfl) ?_
  refine gfC_13_0 hF hH tk_154 dX4_explore_19 ?_
  refine lv_iload hF.x hF.b dX4_explore_22 (lv_at hl 0 rfl) ?_
  refine lv_iload hF.x hF.b dX4_explore_24 (lv_at hl 5 rfl) ?_
  refine lv_iload hF.x hF.b dX4_explore_26 (lv_at hl 6 rfl) ?_
  replace h := bd_some h
  obtain ⟨v28, σ29, hv28, h⟩ := h
  refine w_cVi (As := [.int y23, .int a4, .int a5]) (rest := []) hF hH hl 12 (by decide) rfl rfl (tX3_isReached l E hF.j _ _ _ _ _ hv28) tk_399 tk_400 tk_401 tk_44 tk_402 rfl rfl hdX3_isReached ⟨Nat.le_of_ble_eq_true rfl, Nat.le_of_ble_eq_true rfl⟩ rfl rfl (Nat.le_of_ble_eq_true rfl) dX4_explore_28 (fun H locs hH => ?_)
  refine lv_if_eq (tgt := 36) hF.x hF.b dX4_explore_31 (by decide) (fun c30 => ?_) (fun c30 => ?_)
  · rw [if_pos c30] at h
    refine lv_iconst (v := 0) hF.x hF.b dX4_explore_36 (by decide) ?_
    refine lv_istore (lv' := [(7, .int 0), (6, .int y23), (0, .ref (eA E 13)), (1, .int a1), (2, .int a2), (3, .int a3), (4, .int a4), (5, .int a5)]) hF.x hF.b dX4_explore_37 hl (by decide) rfl (fun ls hl => ?_)
    exact w39 _ _ _ _ _ _ _ _ _ _ h hH (lv_sub hl [2, 4, 5, 6, 7, 0] rfl)
  · rw [if_neg c30] at h
    refine lv_iconst (v := 0) hF.x hF.b dX4_explore_34 (by decide) ?_
    exact hret _ _ _ _ _ _ hH h dX4_explore_35
theorem hdX4_plan : yX4_plan.cls = RX4 ∧ yX4_plan.cls ≠ "java/lang/invoke/MethodHandle" ∧ yX4_plan.cls ≠ "java/lang/invoke/VarHandle" ∧ (parseMethodDescriptor yX4_plan.desc).map (fun d => d.parameters.length) = some 3 := by decide +kernel
set_option maxHeartbeats 4000000 in
set_option maxRecDepth 100000 in
theorem tX4_plan (l : Launch) (E : Ev) (hj : Inj kC E) (a1 : Int32) (a2 : Int32) (a3 : Int32) (σ : Sg) (r : Int32 × Sg) (h : fX4_plan a1 a2 a3 σ = some r) : CI l yX4_plan cX4_plan 4 (some FieldType.int) (rmk 5 132) kC E [.ref (eA E 13), .int a1, .int a2, .int a3] σ r := by
  refine CI_i (lv := [(0, .ref (eA E 13)), (1, .int a1), (2, .int a2), (3, .int a3)]) (by decide) hj (Nat.le_of_ble_eq_true rfl) rfl (fun p e s m args below meth c ls Q hF hret hH hl => ?_)
  unfold fX4_plan at h
  refine lv_aload_n hF.x hF.b dX4_plan_0 rfl (lv_at hl 0 rfl) ?_
  refine lv_iload_n hF.x hF.b dX4_plan_1 rfl (lv_at hl 1 rfl) ?_
  refine lv_sipush (v := 511) hF.x hF.b dX4_plan_2 (by decide) ?_
  refine lv_sipush (v := 1023) hF.x hF.b dX4_plan_5 (by decide) ?_
  refine lv_iload_n hF.x hF.b dX4_plan_8 rfl (lv_at hl 2 rfl) ?_
  refine lv_iload_n hF.x hF.b dX4_plan_9 rfl (lv_at hl 3 rfl) ?_
  replace h := bd_some h
  obtain ⟨v1, σ2, hv1, h⟩ := h
  refine w_cVi (As := [.int a1, .int 511, .int 1023, .int a2, .int a3]) (rest := []) hF hH hl 13 (by decide) rfl rfl (tX4_explore l E hF.j _ _ _ _ _ _ _ hv1) tk_386 tk_388 tk_6 tk_45 tk_389 rfl rfl hdX4_explore ⟨Nat.le_of_ble_eq_true rfl, Nat.le_of_ble_eq_true rfl⟩ rfl rfl (Nat.le_of_ble_eq_true rfl) dX4_plan_10 (fun H locs hH => ?_)
  refine lv_iconst (v := (-1)) hF.x hF.b dX4_plan_13 (by decide) ?_
  refine lv_icmp_ne (tgt := 19) hF.x hF.b dX4_plan_14 (by decide) (fun c3 => ?_) (fun c3 => ?_)
  · rw [if_neg c3] at h
    refine lv_aload_n hF.x hF.b dX4_plan_19 rfl (lv_at hl 0 rfl) ?_
    refine lv_iload_n hF.x hF.b dX4_plan_20 rfl (lv_at hl 1 rfl) ?_
    refine lv_sipush (v := 32767) hF.x hF.b dX4_plan_21 (by decide) ?_
    refine lv_sipush (v := 1023) hF.x hF.b dX4_plan_24 (by decide) ?_
    refine lv_iload_n hF.x hF.b dX4_plan_27 rfl (lv_at hl 2 rfl) ?_
    refine lv_iload_n hF.x hF.b dX4_plan_28 rfl (lv_at hl 3 rfl) ?_
    replace h := bd_some h
    obtain ⟨v4, σ5, hv4, h⟩ := h
    refine w_cVi (As := [.int a1, .int 32767, .int 1023, .int a2, .int a3]) (rest := []) hF hH hl 13 (by decide) rfl rfl (tX4_explore l E hF.j _ _ _ _ _ _ _ hv4) tk_386 tk_388 tk_6 tk_45 tk_389 rfl rfl hdX4_explore ⟨Nat.le_of_ble_eq_true rfl, Nat.le_of_ble_eq_true rfl⟩ rfl rfl (Nat.le_of_ble_eq_true rfl) dX4_plan_29 (fun H locs hH => ?_)
    exact hret _ _ _ _ _ _ hH h dX4_plan_32
  · rw [if_pos c3] at h
    refine lv_iconst (v := (-1)) hF.x hF.b dX4_plan_17 (by decide) ?_
    exact hret _ _ _ _ _ _ hH h dX4_plan_18
theorem hdX4_codeAt : yX4_codeAt.cls = RX4 ∧ yX4_codeAt.cls ≠ "java/lang/invoke/MethodHandle" ∧ yX4_codeAt.cls ≠ "java/lang/invoke/VarHandle" ∧ (parseMethodDescriptor yX4_codeAt.desc).map (fun d => d.parameters.length) = some 1 := by decide +kernel
set_option maxHeartbeats 4000000 in
set_option maxRecDepth 100000 in
theorem tX4_codeAt (l : Launch) (E : Ev) (hj : Inj kC E) (a1 : Int32) (σ : Sg) (r : Int32 × Sg) (h : fX4_codeAt a1 σ = some r) : CI l yX4_codeAt cX4_codeAt 2 (some FieldType.int) (rmk 0 0) kC E [.ref (eA E 13), .int a1] σ r := by
  refine CI_i (lv := [(0, .ref (eA E 13)), (1, .int a1)]) (by decide) hj (Nat.le_of_ble_eq_true rfl) rfl (fun p e s m args below meth c ls Q hF hret hH hl => ?_)
  unfold fX4_codeAt at h
  refine lv_aload_n hF.x hF.b dX4_codeAt_0 rfl (lv_at hl 0 rfl) ?_
  refine gfC_13_1 hF hH tk_155 dX4_codeAt_1 ?_
  refine lv_iload_n hF.x hF.b dX4_codeAt_4 rfl (lv_at hl 1 rfl) ?_
  refine alC_14 hF hH (gd_some h).1 dX4_codeAt_5 ?_
  replace h := (gd_some h).2
  exact hret _ _ _ _ _ _ hH h dX4_codeAt_6
theorem hdX4_ticksTo : yX4_ticksTo.cls = RX4 ∧ yX4_ticksTo.cls ≠ "java/lang/invoke/MethodHandle" ∧ yX4_ticksTo.cls ≠ "java/lang/invoke/VarHandle" ∧ (parseMethodDescriptor yX4_ticksTo.desc).map (fun d => d.parameters.length) = some 1 := by decide +kernel
set_option maxHeartbeats 4000000 in
set_option maxRecDepth 100000 in
theorem tX4_ticksTo (l : Launch) (E : Ev) (hj : Inj kC E) (a1 : Int32) (σ : Sg) (r : Int32 × Sg) (h : fX4_ticksTo a1 σ = some r) : CI l yX4_ticksTo cX4_ticksTo 4 (some FieldType.int) (rmk 0 0) kC E [.ref (eA E 13), .int a1] σ r := by
  refine CI_i (lv := [(0, .ref (eA E 13)), (1, .int a1)]) (by decide) hj (Nat.le_of_ble_eq_true rfl) rfl (fun p e s m args below meth c ls Q hF hret hH hl => ?_)
  have w30 : ∀ (x2 : Int32) (σ : Sg) (H : Heap) (locs : List Loc) (ls : Array Slot), fX4_ticksTo_30 x2 σ = some r → HP kC E s σ H locs → lv_has ls 4 [(0, .ref (eA E 13)), (2, .int x2)] → W p l e (rmk 0 0) s m args below meth c H locs 0 0 Q (F0 m 30 ls []) := by
    intro x2 σ H locs ls h hH hl
    unfold fX4_ticksTo_30 at h
    refine lv_iload_n hF.x hF.b dX4_ticksTo_30 rfl (lv_at hl 1 rfl) ?_
    exact hret _ _ _ _ _ _ hH h dX4_ticksTo_31
  have w4 : ∀ (n : Nat) (x2 x3 : Int32) (σ : Sg) (H : Heap) (locs : List Loc) (ls : Array Slot), it fX4_ticksTo_L4 (fun _ _ _ => none) n x2 x3 σ = some r → HP kC E s σ H locs → lv_has ls 4 [(0, .ref (eA E 13)), (2, .int x2), (3, .int x3)] → W p l e (rmk 0 0) s m args below meth c H locs 0 0 Q (F0 m 4 ls []) := by
    intro n4
    induction n4 with
    | zero =>
      intro x2 x3 σ H locs ls h hH hl
      cases (show (none : Rs) = some r from h)
    | succ n4 ih4 =>
      intro x2 x3 σ H locs ls h hH hl
      replace h : fX4_ticksTo_L4 (it fX4_ticksTo_L4 (fun _ _ _ => none) n4) x2 x3 σ = some r := h
      unfold fX4_ticksTo_L4 at h
      refine lv_iload_n hF.x hF.b dX4_ticksTo_4 rfl (lv_at hl 2 rfl) ?_
      refine lv_if_le (tgt := 30) hF.x hF.b dX4_ticksTo_5 (by decide) (fun c1 => ?_) (fun c1 => ?_)
      · rw [if_pos c1] at h
        exact w30 _ _ _ _ _ h hH (lv_sub hl [0, 1] rfl)
      · rw [if_neg c1] at h
        refine lv_iload_n hF.x hF.b dX4_ticksTo_8 rfl (lv_at hl 1 rfl) ?_
        refine lv_sipush (v := 8000) hF.x hF.b dX4_ticksTo_9 (by decide) ?_
        refine lv_icmp_ge (tgt := 30) hF.x hF.b dX4_ticksTo_12 (by decide) (fun c2 => ?_) (fun c2 => ?_)
        · rw [if_pos c2] at h
          exact w30 _ _ _ _ _ h hH (lv_sub hl [0, 1] rfl)
        · rw [if_neg c2] at h
          obtain ⟨y3, ey3⟩ : ∃ z : Int32, z = (x2 + 1) := ⟨_, rfl⟩
          replace h := sv_at h ey3
          refine lv_iinc (v := y3) (lv' := [(2, .int y3), (0, .ref (eA E 13)), (3, .int x3)]) hF.x hF.b dX4_ticksTo_15 hl (k := 1) rfl (by rw [ey3]; rfl) (by decide) rfl (fun ls hl => ?_)
          clear ey3
          refine lv_aload_n hF.x hF.b dX4_ticksTo_18 rfl (lv_at hl 1 rfl) ?_
          refine gfC_13_2 hF hH tk_156 dX4_ticksTo_19 ?_
          refine lv_iload_n hF.x hF.b dX4_ticksTo_22 rfl (lv_at hl 2 rfl) ?_
          refine alC_15 hF hH (gd_some h).1 dX4_ticksTo_23 ?_
          replace h := (gd_some h).2
          refine lv_iconst (v := 4) hF.x hF.b dX4_ticksTo_24 (by decide) ?_
          refine lv_ishr hF.x hF.b dX4_ticksTo_25 ?_
          refine lv_topi (fun y4 ey4 => ?_)
          replace h := sv_at h ey4
          clear ey4
          refine lv_istore_n (lv' := [(3, .int y4), (2, .int y3), (0, .ref (eA E 13))]) hF.x hF.b dX4_ticksTo_26 rfl hl (by decide) rfl (fun ls hl => ?_)
          refine lv_goto (tgt := 4) hF.x hF.b dX4_ticksTo_27 (by decide) ?_
          exact ih4 _ _ _ _ _ _ h hH (lv_sub hl [2, 1, 0] rfl)
  unfold fX4_ticksTo at h
  refine lv_iconst (v := 0) hF.x hF.b dX4_ticksTo_0 (by decide) ?_
  refine lv_istore_n (lv' := [(2, .int 0), (0, .ref (eA E 13)), (1, .int a1)]) hF.x hF.b dX4_ticksTo_1 rfl hl (by decide) rfl (fun ls hl => ?_)
  refine lv_iload_n hF.x hF.b dX4_ticksTo_2 rfl (lv_at hl 2 rfl) ?_
  refine lv_istore_n (lv' := [(3, .int a1), (2, .int 0), (0, .ref (eA E 13)), (1, .int a1)]) hF.x hF.b dX4_ticksTo_3 rfl hl (by decide) rfl (fun ls hl => ?_)
  exact w4 _ _ _ _ _ _ _ h hH (lv_sub hl [2, 1, 0] rfl)
theorem hdX4_stepBefore : yX4_stepBefore.cls = RX4 ∧ yX4_stepBefore.cls ≠ "java/lang/invoke/MethodHandle" ∧ yX4_stepBefore.cls ≠ "java/lang/invoke/VarHandle" ∧ (parseMethodDescriptor yX4_stepBefore.desc).map (fun d => d.parameters.length) = some 2 := by decide +kernel
set_option maxHeartbeats 4000000 in
set_option maxRecDepth 100000 in
theorem tX4_stepBefore (l : Launch) (E : Ev) (hj : Inj kC E) (a1 : Int32) (a2 : Int32) (σ : Sg) (r : Int32 × Sg) (h : fX4_stepBefore a1 a2 σ = some r) : CI l yX4_stepBefore cX4_stepBefore 5 (some FieldType.int) (rmk 1 20) kC E [.ref (eA E 13), .int a1, .int a2] σ r := by
  refine CI_i (lv := [(0, .ref (eA E 13)), (1, .int a1), (2, .int a2)]) (by decide) hj (Nat.le_of_ble_eq_true rfl) rfl (fun p e s m args below meth c ls Q hF hret hH hl => ?_)
  have w5 : ∀ (n : Nat) (x2 x3 x4 : Int32) (σ : Sg) (H : Heap) (locs : List Loc) (ls : Array Slot), it fX4_stepBefore_L5 (fun _ _ _ _ => none) n x2 x3 x4 σ = some r → HP kC E s σ H locs → lv_has ls 5 [(0, .ref (eA E 13)), (2, .int x2), (3, .int x3), (4, .int x4)] → W p l e (rmk 1 20) s m args below meth c H locs 0 0 Q (F0 m 5 ls []) := by
    intro n5
    induction n5 with
    | zero =>
      intro x2 x3 x4 σ H locs ls h hH hl
      cases (show (none : Rs) = some r from h)
    | succ n5 ih5 =>
      intro x2 x3 x4 σ H locs ls h hH hl
      replace h : fX4_stepBefore_L5 (it fX4_stepBefore_L5 (fun _ _ _ _ => none) n5) x2 x3 x4 σ = some r := h
      unfold fX4_stepBefore_L5 at h
      refine lv_iload hF.x hF.b dX4_stepBefore_5 (lv_at hl 3 rfl) ?_
      refine lv_iload_n hF.x hF.b dX4_stepBefore_7 rfl (lv_at hl 1 rfl) ?_
      refine lv_icmp_ge (tgt := 26) hF.x hF.b dX4_stepBefore_8 (by decide) (fun c1 => ?_) (fun c1 => ?_)
      · rw [if_pos c1] at h
        refine lv_aload_n hF.x hF.b dX4_stepBefore_26 rfl (lv_at hl 0 rfl) ?_
        refine gfC_13_2 hF hH tk_156 dX4_stepBefore_27 ?_
        refine lv_iload_n hF.x hF.b dX4_stepBefore_30 rfl (lv_at hl 2 rfl) ?_
        refine alC_15 hF hH (gd_some h).1 dX4_stepBefore_31 ?_
        replace h := (gd_some h).2
        refine lv_iconst (v := 4) hF.x hF.b dX4_stepBefore_32 (by decide) ?_
        replace h := bd_some h
        obtain ⟨v2, σ3, hv2, h⟩ := h
        refine w_cNi (As := [.int 4]) (rest := [.int (σ 15 (Int32.toNatClampNeg x3))]) hF hH hl (tX5_setOfFirst l E hF.j _ _ _ hv2) (List.mem_of_getElem? (l := nestW) (i := 4) rfl) tk_380 tk_41 tk_381 rfl rfl hdX5_setOfFirst ⟨Nat.le_of_ble_eq_true rfl, Nat.le_of_ble_eq_true rfl⟩ rfl rfl (Nat.le_of_ble_eq_true rfl) dX4_stepBefore_33 (fun H locs hH => ?_)
        refine lv_iand hF.x hF.b dX4_stepBefore_36 ?_
        exact hret _ _ _ _ _ _ hH h dX4_stepBefore_37
      · rw [if_neg c1] at h
        refine lv_aload_n hF.x hF.b dX4_stepBefore_11 rfl (lv_at hl 0 rfl) ?_
        refine gfC_13_2 hF hH tk_156 dX4_stepBefore_12 ?_
        refine lv_iload_n hF.x hF.b dX4_stepBefore_15 rfl (lv_at hl 2 rfl) ?_
        refine alC_15 hF hH (gd_some h).1 dX4_stepBefore_16 ?_
        replace h := (gd_some h).2
        refine lv_iconst (v := 4) hF.x hF.b dX4_stepBefore_17 (by decide) ?_
        refine lv_ishr hF.x hF.b dX4_stepBefore_18 ?_
        refine lv_topi (fun y4 ey4 => ?_)
        replace h := sv_at h ey4
        clear ey4
        refine lv_istore_n (lv' := [(3, .int y4), (0, .ref (eA E 13)), (2, .int x2), (4, .int x4)]) hF.x hF.b dX4_stepBefore_19 rfl hl (by decide) rfl (fun ls hl => ?_)
        obtain ⟨y5, ey5⟩ : ∃ z : Int32, z = (x4 + 1) := ⟨_, rfl⟩
        replace h := sv_at h ey5
        refine lv_iinc (v := y5) (lv' := [(4, .int y5), (3, .int y4), (0, .ref (eA E 13)), (2, .int x2)]) hF.x hF.b dX4_stepBefore_20 hl (k := 3) rfl (by rw [ey5]; rfl) (by decide) rfl (fun ls hl => ?_)
        clear ey5
        refine lv_goto (tgt := 5) hF.x hF.b dX4_stepBefore_23 (by decide) ?_
        exact ih5 _ _ _ _ _ _ _ h hH (lv_sub hl [2, 3, 1, 0] rfl)
  unfold fX4_stepBefore at h
  refine lv_iload_n hF.x hF.b dX4_stepBefore_0 rfl (lv_at hl 1 rfl) ?_
  refine lv_istore_n (lv' := [(3, .int a1), (0, .ref (eA E 13)), (1, .int a1), (2, .int a2)]) hF.x hF.b dX4_stepBefore_1 rfl hl (by decide) rfl (fun ls hl => ?_)
  refine lv_iconst (v := 0) hF.x hF.b dX4_stepBefore_2 (by decide) ?_
  refine lv_istore (lv' := [(4, .int 0), (3, .int a1), (0, .ref (eA E 13)), (1, .int a1), (2, .int a2)]) hF.x hF.b dX4_stepBefore_3 hl (by decide) rfl (fun ls hl => ?_)
  exact w5 _ _ _ _ _ _ _ _ h hH (lv_sub hl [2, 4, 1, 0] rfl)
theorem hdX4_canReach : yX4_canReach.cls = RX4 ∧ yX4_canReach.cls ≠ "java/lang/invoke/MethodHandle" ∧ yX4_canReach.cls ≠ "java/lang/invoke/VarHandle" ∧ (parseMethodDescriptor yX4_canReach.desc).map (fun d => d.parameters.length) = some 3 := by decide +kernel
set_option maxHeartbeats 4000000 in
set_option maxRecDepth 100000 in
theorem tX4_canReach (l : Launch) (E : Ev) (hj : Inj kC E) (a1 : Int32) (a2 : Int32) (a3 : Int32) (σ : Sg) (r : Int32 × Sg) (h : fX4_canReach a1 a2 a3 σ = some r) : CI l yX4_canReach cX4_canReach 4 (some FieldType.boolean) (rmk 5 132) kC E [.ref (eA E 13), .int a1, .int a2, .int a3] σ r := by
  refine CI_z (lv := [(0, .ref (eA E 13)), (1, .int a1), (2, .int a2), (3, .int a3)]) (by decide) hj (Nat.le_of_ble_eq_true rfl) rfl (fun p e s m args below meth c ls Q hF hret hH hl => ?_)
  have w22 : ∀ (t0 : Int32) (σ : Sg) (H : Heap) (locs : List Loc) (ls : Array Slot), fX4_canReach_22 t0 σ = some r → HP kC E s σ H locs → lv_has ls 4 [(0, .ref (eA E 13))] → W p l e (rmk 5 132) s m args below meth c H locs 0 0 Q (F0 m 22 ls [.int t0]) := by
    intro t0 σ H locs ls h hH hl
    unfold fX4_canReach_22 at h
    exact hret _ _ _ _ _ _ hH h dX4_canReach_22
  unfold fX4_canReach at h
  refine lv_aload_n hF.x hF.b dX4_canReach_0 rfl (lv_at hl 0 rfl) ?_
  refine lv_iload_n hF.x hF.b dX4_canReach_1 rfl (lv_at hl 1 rfl) ?_
  refine lv_sipush (v := 511) hF.x hF.b dX4_canReach_2 (by decide) ?_
  refine lv_sipush (v := 1023) hF.x hF.b dX4_canReach_5 (by decide) ?_
  refine lv_iload_n hF.x hF.b dX4_canReach_8 rfl (lv_at hl 2 rfl) ?_
  refine lv_iload_n hF.x hF.b dX4_canReach_9 rfl (lv_at hl 3 rfl) ?_
  replace h := bd_some h
  obtain ⟨v1, σ2, hv1, h⟩ := h
  refine w_cVi (As := [.int a1, .int 511, .int 1023, .int a2, .int a3]) (rest := []) hF hH hl 13 (by decide) rfl rfl (tX4_explore l E hF.j _ _ _ _ _ _ _ hv1) tk_386 tk_388 tk_6 tk_45 tk_389 rfl rfl hdX4_explore ⟨Nat.le_of_ble_eq_true rfl, Nat.le_of_ble_eq_true rfl⟩ rfl rfl (Nat.le_of_ble_eq_true rfl) dX4_canReach_10 (fun H locs hH => ?_)
  refine lv_iconst (v := (-1)) hF.x hF.b dX4_canReach_13 (by decide) ?_
  refine lv_icmp_eq (tgt := 21) hF.x hF.b dX4_canReach_14 (by decide) (fun c3 => ?_) (fun c3 => ?_)
  · rw [if_pos c3] at h
    refine lv_iconst (v := 0) hF.x hF.b dX4_canReach_21 (by decide) ?_
    exact w22 _ _ _ _ _ h hH (lv_sub hl [0] rfl)
  · rw [if_neg c3] at h
    refine lv_iconst (v := 1) hF.x hF.b dX4_canReach_17 (by decide) ?_
    refine lv_goto (tgt := 22) hF.x hF.b dX4_canReach_18 (by decide) ?_
    exact w22 _ _ _ _ _ h hH (lv_sub hl [0] rfl)
theorem hdX4_neededAmong : yX4_neededAmong.cls = RX4 ∧ yX4_neededAmong.cls ≠ "java/lang/invoke/MethodHandle" ∧ yX4_neededAmong.cls ≠ "java/lang/invoke/VarHandle" ∧ (parseMethodDescriptor yX4_neededAmong.desc).map (fun d => d.parameters.length) = some 4 := by decide +kernel
set_option maxHeartbeats 4000000 in
set_option maxRecDepth 100000 in
theorem tX4_neededAmong (l : Launch) (E : Ev) (hj : Inj kC E) (a1 : Int32) (a2 : Int32) (a3 : Int32) (a4 : Int32) (σ : Sg) (r : Int32 × Sg) (h : fX4_neededAmong a1 a2 a3 a4 σ = some r) : CI l yX4_neededAmong cX4_neededAmong 8 (some FieldType.int) (rmk 5 132) kC E [.ref (eA E 13), .int a1, .int a2, .int a3, .int a4] σ r := by
  refine CI_i (lv := [(0, .ref (eA E 13)), (1, .int a1), (2, .int a2), (3, .int a3), (4, .int a4)]) (by decide) hj (Nat.le_of_ble_eq_true rfl) rfl (fun p e s m args below meth c ls Q hF hret hH hl => ?_)
  have w6 : ∀ (n : Nat) (x1 x2 x3 x4 x5 x6 : Int32) (σ : Sg) (H : Heap) (locs : List Loc) (ls : Array Slot), it fX4_neededAmong_L6 (fun _ _ _ _ _ _ _ => none) n x1 x2 x3 x4 x5 x6 σ = some r → HP kC E s σ H locs → lv_has ls 8 [(0, .ref (eA E 13)), (1, .int x1), (2, .int x2), (3, .int x3), (4, .int x4), (5, .int x5), (6, .int x6)] → W p l e (rmk 5 132) s m args below meth c H locs 0 0 Q (F0 m 6 ls []) := by
    intro n6
    induction n6 with
    | zero =>
      intro x1 x2 x3 x4 x5 x6 σ H locs ls h hH hl
      cases (show (none : Rs) = some r from h)
    | succ n6 ih6 =>
      have w60 : ∀ (x1 x2 x3 x4 x5 x6 : Int32) (σ : Sg) (H : Heap) (locs : List Loc) (ls : Array Slot), fX4_neededAmong_60 (it fX4_neededAmong_L6 (fun _ _ _ _ _ _ _ => none) n6) x1 x2 x3 x4 x5 x6 σ = some r → HP kC E s σ H locs → lv_has ls 8 [(0, .ref (eA E 13)), (1, .int x1), (2, .int x2), (3, .int x3), (4, .int x4), (5, .int x5), (6, .int x6)] → W p l e (rmk 5 132) s m args below meth c H locs 0 0 Q (F0 m 60 ls []) := by
        intro x1 x2 x3 x4 x5 x6 σ H locs ls h hH hl
        unfold fX4_neededAmong_60 at h
        obtain ⟨y1, ey1⟩ : ∃ z : Int32, z = (x6 + 1) := ⟨_, rfl⟩
        replace h := sv_at h ey1
        refine lv_iinc (v := y1) (lv' := [(6, .int y1), (0, .ref (eA E 13)), (1, .int x1), (2, .int x2), (3, .int x3), (4, .int x4), (5, .int x5)]) hF.x hF.b dX4_neededAmong_60 hl (k := 6) rfl (by rw [ey1]; rfl) (by decide) rfl (fun ls hl => ?_)
        clear ey1
        refine lv_goto (tgt := 6) hF.x hF.b dX4_neededAmong_63 (by decide) ?_
        exact ih6 _ _ _ _ _ _ _ _ _ _ h hH (lv_sub hl [1, 2, 3, 4, 5, 6, 0] rfl)
      intro x1 x2 x3 x4 x5 x6 σ H locs ls h hH hl
      replace h : fX4_neededAmong_L6 (it fX4_neededAmong_L6 (fun _ _ _ _ _ _ _ => none) n6) x1 x2 x3 x4 x5 x6 σ = some r := h
      unfold fX4_neededAmong_L6 at h
      refine lv_iload hF.x hF.b dX4_neededAmong_6 (lv_at hl 6 rfl) ?_
      refine lv_bipush (v := 10) hF.x hF.b dX4_neededAmong_8 (by decide) ?_
      refine lv_icmp_ge (tgt := 66) hF.x hF.b dX4_neededAmong_10 (by decide) (fun c2 => ?_) (fun c2 => ?_)
      · rw [if_pos c2] at h
        refine lv_iload hF.x hF.b dX4_neededAmong_66 (lv_at hl 5 rfl) ?_
        exact hret _ _ _ _ _ _ hH h dX4_neededAmong_68
      · rw [if_neg c2] at h
        refine lv_sipush (v := 1023) hF.x hF.b dX4_neededAmong_13 (by decide) ?_
        refine lv_iconst (v := 1) hF.x hF.b dX4_neededAmong_16 (by decide) ?_
        refine lv_iload hF.x hF.b dX4_neededAmong_17 (lv_at hl 6 rfl) ?_
        refine lv_ishl hF.x hF.b dX4_neededAmong_19 ?_
        refine lv_iconst (v := (-1)) hF.x hF.b dX4_neededAmong_20 (by decide) ?_
        refine lv_ixor hF.x hF.b dX4_neededAmong_21 ?_
        refine lv_iand hF.x hF.b dX4_neededAmong_22 ?_
        refine lv_topi (fun y3 ey3 => ?_)
        replace h := sv_at h ey3
        clear ey3
        refine lv_istore (lv' := [(7, .int y3), (0, .ref (eA E 13)), (1, .int x1), (2, .int x2), (3, .int x3), (4, .int x4), (5, .int x5), (6, .int x6)]) hF.x hF.b dX4_neededAmong_23 hl (by decide) rfl (fun ls hl => ?_)
        refine lv_iload_n hF.x hF.b dX4_neededAmong_25 rfl (lv_at hl 2 rfl) ?_
        refine lv_iload hF.x hF.b dX4_neededAmong_26 (lv_at hl 7 rfl) ?_
        replace h := bd_some h
        obtain ⟨v4, σ5, hv4, h⟩ := h
        refine w_cNi (As := [.int x1, .int x6]) (rest := []) hF hH hl (tX5_bit l E hF.j _ _ _ _ hv4) (List.mem_of_getElem? (l := nestW) (i := 5) rfl) tk_227 tk_41 tk_228 rfl rfl hdX5_bit ⟨Nat.le_of_ble_eq_true rfl, Nat.le_of_ble_eq_true rfl⟩ rfl rfl (Nat.le_of_ble_eq_true rfl) dX4_neededAmong_28 (fun H locs hH => ?_)
        refine lv_if_eq (tgt := 60) hF.x hF.b dX4_neededAmong_31 (by decide) (fun c6 => ?_) (fun c6 => ?_)
        · rw [if_pos c6] at h
          exact w60 _ _ _ _ _ _ _ _ _ _ h hH (lv_sub hl [1, 2, 3, 4, 5, 6, 7] rfl)
        · rw [if_neg c6] at h
          refine lv_aload_n hF.x hF.b dX4_neededAmong_34 rfl (lv_at hl 1 rfl) ?_
          refine lv_iload_n hF.x hF.b dX4_neededAmong_35 rfl (lv_at hl 3 rfl) ?_
          refine lv_sipush (v := 511) hF.x hF.b dX4_neededAmong_36 (by decide) ?_
          refine lv_iload hF.x hF.b dX4_neededAmong_39 (lv_at hl 0 rfl) ?_
          refine lv_iload_n hF.x hF.b dX4_neededAmong_41 rfl (lv_at hl 4 rfl) ?_
          refine lv_iload hF.x hF.b dX4_neededAmong_42 (lv_at hl 5 rfl) ?_
          replace h := bd_some h
          obtain ⟨v7, σ8, hv7, h⟩ := h
          refine w_cVi (As := [.int x2, .int 511, .int y3, .int x3, .int x4]) (rest := []) hF hH hl 13 (by decide) rfl rfl (tX4_explore l E hF.j _ _ _ _ _ _ _ hv7) tk_386 tk_388 tk_6 tk_45 tk_389 rfl rfl hdX4_explore ⟨Nat.le_of_ble_eq_true rfl, Nat.le_of_ble_eq_true rfl⟩ rfl rfl (Nat.le_of_ble_eq_true rfl) dX4_neededAmong_44 (fun H locs hH => ?_)
          refine lv_iconst (v := (-1)) hF.x hF.b dX4_neededAmong_47 (by decide) ?_
          refine lv_icmp_ne (tgt := 60) hF.x hF.b dX4_neededAmong_48 (by decide) (fun c9 => ?_) (fun c9 => ?_)
          · rw [if_neg c9] at h
            exact w60 _ _ _ _ _ _ _ _ _ _ h hH (lv_sub hl [1, 2, 3, 4, 5, 6, 7] rfl)
          · rw [if_pos c9] at h
            refine lv_iload hF.x hF.b dX4_neededAmong_51 (lv_at hl 6 rfl) ?_
            refine lv_iconst (v := 1) hF.x hF.b dX4_neededAmong_53 (by decide) ?_
            refine lv_iload hF.x hF.b dX4_neededAmong_54 (lv_at hl 7 rfl) ?_
            refine lv_ishl hF.x hF.b dX4_neededAmong_56 ?_
            refine lv_ior hF.x hF.b dX4_neededAmong_57 ?_
            refine lv_topi (fun y10 ey10 => ?_)
            replace h := sv_at h ey10
            clear ey10
            refine lv_istore (lv' := [(5, .int y10), (7, .int y3), (0, .ref (eA E 13)), (1, .int x1), (2, .int x2), (3, .int x3), (4, .int x4), (6, .int x6)]) hF.x hF.b dX4_neededAmong_58 hl (by decide) rfl (fun ls hl => ?_)
            exact w60 _ _ _ _ _ _ _ _ _ _ h hH (lv_sub hl [2, 3, 4, 5, 6, 0, 7] rfl)
  unfold fX4_neededAmong at h
  refine lv_iconst (v := 0) hF.x hF.b dX4_neededAmong_0 (by decide) ?_
  refine lv_istore (lv' := [(5, .int 0), (0, .ref (eA E 13)), (1, .int a1), (2, .int a2), (3, .int a3), (4, .int a4)]) hF.x hF.b dX4_neededAmong_1 hl (by decide) rfl (fun ls hl => ?_)
  refine lv_iconst (v := 0) hF.x hF.b dX4_neededAmong_3 (by decide) ?_
  refine lv_istore (lv' := [(6, .int 0), (5, .int 0), (0, .ref (eA E 13)), (1, .int a1), (2, .int a2), (3, .int a3), (4, .int a4)]) hF.x hF.b dX4_neededAmong_4 hl (by decide) rfl (fun ls hl => ?_)
  exact w6 _ _ _ _ _ _ _ _ _ _ _ h hH (lv_sub hl [2, 3, 4, 5, 6, 1, 0] rfl)
theorem hdX4_everReady : yX4_everReady.cls = RX4 ∧ yX4_everReady.cls ≠ "java/lang/invoke/MethodHandle" ∧ yX4_everReady.cls ≠ "java/lang/invoke/VarHandle" ∧ (parseMethodDescriptor yX4_everReady.desc).map (fun d => d.parameters.length) = some 2 := by decide +kernel
set_option maxHeartbeats 4000000 in
set_option maxRecDepth 100000 in
theorem tX4_everReady (l : Launch) (E : Ev) (hj : Inj kC E) (a1 : Int32) (a2 : Int32) (σ : Sg) (r : Int32 × Sg) (h : fX4_everReady a1 a2 σ = some r) : CI l yX4_everReady cX4_everReady 5 (some FieldType.int) (rmk 5 132) kC E [.ref (eA E 13), .int a1, .int a2] σ r := by
  refine CI_i (lv := [(0, .ref (eA E 13)), (1, .int a1), (2, .int a2)]) (by decide) hj (Nat.le_of_ble_eq_true rfl) rfl (fun p e s m args below meth c ls Q hF hret hH hl => ?_)
  have w5 : ∀ (n : Nat) (x1 x2 x3 x4 : Int32) (σ : Sg) (H : Heap) (locs : List Loc) (ls : Array Slot), it fX4_everReady_L5 (fun _ _ _ _ _ => none) n x1 x2 x3 x4 σ = some r → HP kC E s σ H locs → lv_has ls 5 [(0, .ref (eA E 13)), (1, .int x1), (2, .int x2), (3, .int x3), (4, .int x4)] → W p l e (rmk 5 132) s m args below meth c H locs 0 0 Q (F0 m 5 ls []) := by
    intro n5
    induction n5 with
    | zero =>
      intro x1 x2 x3 x4 σ H locs ls h hH hl
      cases (show (none : Rs) = some r from h)
    | succ n5 ih5 =>
      have w38 : ∀ (x1 x2 x3 x4 : Int32) (σ : Sg) (H : Heap) (locs : List Loc) (ls : Array Slot), fX4_everReady_38 (it fX4_everReady_L5 (fun _ _ _ _ _ => none) n5) x1 x2 x3 x4 σ = some r → HP kC E s σ H locs → lv_has ls 5 [(0, .ref (eA E 13)), (1, .int x1), (2, .int x2), (3, .int x3), (4, .int x4)] → W p l e (rmk 5 132) s m args below meth c H locs 0 0 Q (F0 m 38 ls []) := by
        intro x1 x2 x3 x4 σ H locs ls h hH hl
        unfold fX4_everReady_38 at h
        obtain ⟨y1, ey1⟩ : ∃ z : Int32, z = (x4 + 1) := ⟨_, rfl⟩
        replace h := sv_at h ey1
        refine lv_iinc (v := y1) (lv' := [(4, .int y1), (0, .ref (eA E 13)), (1, .int x1), (2, .int x2), (3, .int x3)]) hF.x hF.b dX4_everReady_38 hl (k := 4) rfl (by rw [ey1]; rfl) (by decide) rfl (fun ls hl => ?_)
        clear ey1
        refine lv_goto (tgt := 5) hF.x hF.b dX4_everReady_41 (by decide) ?_
        exact ih5 _ _ _ _ _ _ _ _ h hH (lv_sub hl [1, 2, 3, 4, 0] rfl)
      intro x1 x2 x3 x4 σ H locs ls h hH hl
      replace h : fX4_everReady_L5 (it fX4_everReady_L5 (fun _ _ _ _ _ => none) n5) x1 x2 x3 x4 σ = some r := h
      unfold fX4_everReady_L5 at h
      refine lv_iload hF.x hF.b dX4_everReady_5 (lv_at hl 4 rfl) ?_
      refine lv_iload_n hF.x hF.b dX4_everReady_7 rfl (lv_at hl 2 rfl) ?_
      refine lv_icmp_ge (tgt := 44) hF.x hF.b dX4_everReady_8 (by decide) (fun c2 => ?_) (fun c2 => ?_)
      · rw [if_pos c2] at h
        refine lv_iload_n hF.x hF.b dX4_everReady_44 rfl (lv_at hl 3 rfl) ?_
        exact hret _ _ _ _ _ _ hH h dX4_everReady_45
      · rw [if_neg c2] at h
        refine lv_aload_n hF.x hF.b dX4_everReady_11 rfl (lv_at hl 0 rfl) ?_
        refine lv_iload_n hF.x hF.b dX4_everReady_12 rfl (lv_at hl 1 rfl) ?_
        refine lv_sipush (v := 511) hF.x hF.b dX4_everReady_13 (by decide) ?_
        refine lv_sipush (v := 1023) hF.x hF.b dX4_everReady_16 (by decide) ?_
        refine lv_iconst (v := 1) hF.x hF.b dX4_everReady_19 (by decide) ?_
        refine lv_iload hF.x hF.b dX4_everReady_20 (lv_at hl 4 rfl) ?_
        refine lv_ishl hF.x hF.b dX4_everReady_22 ?_
        refine lv_iconst (v := 0) hF.x hF.b dX4_everReady_23 (by decide) ?_
        replace h := bd_some h
        obtain ⟨v3, σ4, hv3, h⟩ := h
        refine w_cVi (As := [.int x1, .int 511, .int 1023, .int ((1 : Int32) <<< (x4 &&& 31)), .int 0]) (rest := []) hF hH hl 13 (by decide) rfl rfl (tX4_explore l E hF.j _ _ _ _ _ _ _ hv3) tk_386 tk_388 tk_6 tk_45 tk_389 rfl rfl hdX4_explore ⟨Nat.le_of_ble_eq_true rfl, Nat.le_of_ble_eq_true rfl⟩ rfl rfl (Nat.le_of_ble_eq_true rfl) dX4_everReady_24 (fun H locs hH => ?_)
        refine lv_iconst (v := (-1)) hF.x hF.b dX4_everReady_27 (by decide) ?_
        refine lv_icmp_eq (tgt := 38) hF.x hF.b dX4_everReady_28 (by decide) (fun c5 => ?_) (fun c5 => ?_)
        · rw [if_pos c5] at h
          exact w38 _ _ _ _ _ _ _ _ h hH (lv_sub hl [0, 1, 2, 3, 4] rfl)
        · rw [if_neg c5] at h
          refine lv_iload_n hF.x hF.b dX4_everReady_31 rfl (lv_at hl 3 rfl) ?_
          refine lv_iconst (v := 1) hF.x hF.b dX4_everReady_32 (by decide) ?_
          refine lv_iload hF.x hF.b dX4_everReady_33 (lv_at hl 4 rfl) ?_
          refine lv_ishl hF.x hF.b dX4_everReady_35 ?_
          refine lv_ior hF.x hF.b dX4_everReady_36 ?_
          refine lv_topi (fun y6 ey6 => ?_)
          replace h := sv_at h ey6
          clear ey6
          refine lv_istore_n (lv' := [(3, .int y6), (0, .ref (eA E 13)), (1, .int x1), (2, .int x2), (4, .int x4)]) hF.x hF.b dX4_everReady_37 rfl hl (by decide) rfl (fun ls hl => ?_)
          exact w38 _ _ _ _ _ _ _ _ h hH (lv_sub hl [1, 2, 3, 0, 4] rfl)
  unfold fX4_everReady at h
  refine lv_iconst (v := 0) hF.x hF.b dX4_everReady_0 (by decide) ?_
  refine lv_istore_n (lv' := [(3, .int 0), (0, .ref (eA E 13)), (1, .int a1), (2, .int a2)]) hF.x hF.b dX4_everReady_1 rfl hl (by decide) rfl (fun ls hl => ?_)
  refine lv_iconst (v := 0) hF.x hF.b dX4_everReady_2 (by decide) ?_
  refine lv_istore (lv' := [(4, .int 0), (3, .int 0), (0, .ref (eA E 13)), (1, .int a1), (2, .int a2)]) hF.x hF.b dX4_everReady_3 hl (by decide) rfl (fun ls hl => ?_)
  exact w5 _ _ _ _ _ _ _ _ _ h hH (lv_sub hl [2, 3, 4, 1, 0] rfl)
theorem hdX4_everLive : yX4_everLive.cls = RX4 ∧ yX4_everLive.cls ≠ "java/lang/invoke/MethodHandle" ∧ yX4_everLive.cls ≠ "java/lang/invoke/VarHandle" ∧ (parseMethodDescriptor yX4_everLive.desc).map (fun d => d.parameters.length) = some 1 := by decide +kernel
set_option maxHeartbeats 4000000 in
set_option maxRecDepth 100000 in
theorem tX4_everLive (l : Launch) (E : Ev) (hj : Inj kC E) (a1 : Int32) (σ : Sg) (r : Int32 × Sg) (h : fX4_everLive a1 σ = some r) : CI l yX4_everLive cX4_everLive 4 (some FieldType.int) (rmk 5 132) kC E [.ref (eA E 13), .int a1] σ r := by
  refine CI_i (lv := [(0, .ref (eA E 13)), (1, .int a1)]) (by decide) hj (Nat.le_of_ble_eq_true rfl) rfl (fun p e s m args below meth c ls Q hF hret hH hl => ?_)
  have w4 : ∀ (n : Nat) (x1 x2 x3 : Int32) (σ : Sg) (H : Heap) (locs : List Loc) (ls : Array Slot), it fX4_everLive_L4 (fun _ _ _ _ => none) n x1 x2 x3 σ = some r → HP kC E s σ H locs → lv_has ls 4 [(0, .ref (eA E 13)), (1, .int x1), (2, .int x2), (3, .int x3)] → W p l e (rmk 5 132) s m args below meth c H locs 0 0 Q (F0 m 4 ls []) := by
    intro n4
    induction n4 with
    | zero =>
      intro x1 x2 x3 σ H locs ls h hH hl
      cases (show (none : Rs) = some r from h)
    | succ n4 ih4 =>
      have w35 : ∀ (x1 x2 x3 : Int32) (σ : Sg) (H : Heap) (locs : List Loc) (ls : Array Slot), fX4_everLive_35 (it fX4_everLive_L4 (fun _ _ _ _ => none) n4) x1 x2 x3 σ = some r → HP kC E s σ H locs → lv_has ls 4 [(0, .ref (eA E 13)), (1, .int x1), (2, .int x2), (3, .int x3)] → W p l e (rmk 5 132) s m args below meth c H locs 0 0 Q (F0 m 35 ls []) := by
        intro x1 x2 x3 σ H locs ls h hH hl
        unfold fX4_everLive_35 at h
        obtain ⟨y1, ey1⟩ : ∃ z : Int32, z = (x3 + 1) := ⟨_, rfl⟩
        replace h := sv_at h ey1
        refine lv_iinc (v := y1) (lv' := [(3, .int y1), (0, .ref (eA E 13)), (1, .int x1), (2, .int x2)]) hF.x hF.b dX4_everLive_35 hl (k := 3) rfl (by rw [ey1]; rfl) (by decide) rfl (fun ls hl => ?_)
        clear ey1
        refine lv_goto (tgt := 4) hF.x hF.b dX4_everLive_38 (by decide) ?_
        exact ih4 _ _ _ _ _ _ _ h hH (lv_sub hl [1, 2, 3, 0] rfl)
      intro x1 x2 x3 σ H locs ls h hH hl
      replace h : fX4_everLive_L4 (it fX4_everLive_L4 (fun _ _ _ _ => none) n4) x1 x2 x3 σ = some r := h
      unfold fX4_everLive_L4 at h
      refine lv_iload_n hF.x hF.b dX4_everLive_4 rfl (lv_at hl 3 rfl) ?_
      refine lv_bipush (v := 6) hF.x hF.b dX4_everLive_5 (by decide) ?_
      refine lv_icmp_ge (tgt := 41) hF.x hF.b dX4_everLive_7 (by decide) (fun c2 => ?_) (fun c2 => ?_)
      · rw [if_pos c2] at h
        refine lv_iload_n hF.x hF.b dX4_everLive_41 rfl (lv_at hl 2 rfl) ?_
        exact hret _ _ _ _ _ _ hH h dX4_everLive_42
      · rw [if_neg c2] at h
        refine lv_aload_n hF.x hF.b dX4_everLive_10 rfl (lv_at hl 0 rfl) ?_
        refine lv_iload_n hF.x hF.b dX4_everLive_11 rfl (lv_at hl 1 rfl) ?_
        refine lv_sipush (v := 511) hF.x hF.b dX4_everLive_12 (by decide) ?_
        refine lv_sipush (v := 1023) hF.x hF.b dX4_everLive_15 (by decide) ?_
        refine lv_iconst (v := 0) hF.x hF.b dX4_everLive_18 (by decide) ?_
        refine lv_iconst (v := 1) hF.x hF.b dX4_everLive_19 (by decide) ?_
        refine lv_iload_n hF.x hF.b dX4_everLive_20 rfl (lv_at hl 3 rfl) ?_
        refine lv_ishl hF.x hF.b dX4_everLive_21 ?_
        replace h := bd_some h
        obtain ⟨v3, σ4, hv3, h⟩ := h
        refine w_cVi (As := [.int x1, .int 511, .int 1023, .int 0, .int ((1 : Int32) <<< (x3 &&& 31))]) (rest := []) hF hH hl 13 (by decide) rfl rfl (tX4_explore l E hF.j _ _ _ _ _ _ _ hv3) tk_386 tk_388 tk_6 tk_45 tk_389 rfl rfl hdX4_explore ⟨Nat.le_of_ble_eq_true rfl, Nat.le_of_ble_eq_true rfl⟩ rfl rfl (Nat.le_of_ble_eq_true rfl) dX4_everLive_22 (fun H locs hH => ?_)
        refine lv_iconst (v := (-1)) hF.x hF.b dX4_everLive_25 (by decide) ?_
        refine lv_icmp_eq (tgt := 35) hF.x hF.b dX4_everLive_26 (by decide) (fun c5 => ?_) (fun c5 => ?_)
        · rw [if_pos c5] at h
          exact w35 _ _ _ _ _ _ _ h hH (lv_sub hl [0, 1, 2, 3] rfl)
        · rw [if_neg c5] at h
          refine lv_iload_n hF.x hF.b dX4_everLive_29 rfl (lv_at hl 2 rfl) ?_
          refine lv_iconst (v := 1) hF.x hF.b dX4_everLive_30 (by decide) ?_
          refine lv_iload_n hF.x hF.b dX4_everLive_31 rfl (lv_at hl 3 rfl) ?_
          refine lv_ishl hF.x hF.b dX4_everLive_32 ?_
          refine lv_ior hF.x hF.b dX4_everLive_33 ?_
          refine lv_topi (fun y6 ey6 => ?_)
          replace h := sv_at h ey6
          clear ey6
          refine lv_istore_n (lv' := [(2, .int y6), (0, .ref (eA E 13)), (1, .int x1), (3, .int x3)]) hF.x hF.b dX4_everLive_34 rfl hl (by decide) rfl (fun ls hl => ?_)
          exact w35 _ _ _ _ _ _ _ h hH (lv_sub hl [1, 2, 0, 3] rfl)
  unfold fX4_everLive at h
  refine lv_iconst (v := 0) hF.x hF.b dX4_everLive_0 (by decide) ?_
  refine lv_istore_n (lv' := [(2, .int 0), (0, .ref (eA E 13)), (1, .int a1)]) hF.x hF.b dX4_everLive_1 rfl hl (by decide) rfl (fun ls hl => ?_)
  refine lv_iconst (v := 0) hF.x hF.b dX4_everLive_2 (by decide) ?_
  refine lv_istore_n (lv' := [(3, .int 0), (2, .int 0), (0, .ref (eA E 13)), (1, .int a1)]) hF.x hF.b dX4_everLive_3 rfl hl (by decide) rfl (fun ls hl => ?_)
  exact w4 _ _ _ _ _ _ _ _ h hH (lv_sub hl [2, 3, 1, 0] rfl)
end
section
theorem hdX5_line : yX5_line.cls = RX5 ∧ yX5_line.cls ≠ "java/lang/invoke/MethodHandle" ∧ yX5_line.cls ≠ "java/lang/invoke/VarHandle" ∧ (parseMethodDescriptor yX5_line.desc).map (fun d => d.parameters.length) = some 3 := by decide +kernel
set_option maxHeartbeats 4000000 in
set_option maxRecDepth 100000 in
theorem tX5_line (l : Launch) (E : Ev) (hj : Inj kC E) (a1 : Int32) (a2 : Int32) (a3 : Int32) (σ : Sg) (r : Int32 × Sg) (h : fX5_line a1 a2 a3 σ = some r) : CI l yX5_line cX5_line 5 (some FieldType.int) (rmk 3 76) kC E [.ref (eA E 0), .int a1, .int a2, .int a3] σ r := by
  refine CI_i (lv := [(0, .ref (eA E 0)), (1, .int a1), (2, .int a2), (3, .int a3)]) (by decide) hj (Nat.le_of_ble_eq_true rfl) rfl (fun p e s m args below meth c ls Q hF hret hH hl => ?_)
  have w19 : ∀ (σ : Sg) (H : Heap) (locs : List Loc) (ls : Array Slot), fX5_line_19 σ = some r → HP kC E s σ H locs → lv_has ls 5 [(0, .ref (eA E 0))] → W p l e (rmk 3 76) s m args below meth c H locs 0 0 Q (F0 m 19 ls []) := by
    intro σ H locs ls h hH hl
    unfold fX5_line_19 at h
    refine lv_iconst (v := (-1)) hF.x hF.b dX5_line_19 (by decide) ?_
    exact hret _ _ _ _ _ _ hH h dX5_line_20
  unfold fX5_line at h
  refine lv_iload_n hF.x hF.b dX5_line_0 rfl (lv_at hl 1 rfl) ?_
  replace h := bd_some h
  obtain ⟨v1, σ2, hv1, h⟩ := h
  refine w_cSi (As := [.int a1]) (rest := []) hF hH hl (tX5_isBus l E hF.j _ _ _ hv1) tk_194 tk_195 tk_41 tk_196 rfl rfl hdX5_isBus ⟨Nat.le_of_ble_eq_true rfl, Nat.le_of_ble_eq_true rfl⟩ rfl rfl (Nat.le_of_ble_eq_true rfl) dX5_line_1 (fun H locs hH => ?_)
  refine lv_if_eq (tgt := 19) hF.x hF.b dX5_line_4 (by decide) (fun c3 => ?_) (fun c3 => ?_)
  · rw [if_pos c3] at h
    exact w19 _ _ _ _ h hH (lv_sub hl [0] rfl)
  · rw [if_neg c3] at h
    refine lv_iload_n hF.x hF.b dX5_line_7 rfl (lv_at hl 2 rfl) ?_
    replace h := bd_some h
    obtain ⟨v4, σ5, hv4, h⟩ := h
    refine w_cSi (As := [.int a2]) (rest := []) hF hH hl (tX5_isBus l E hF.j _ _ _ hv4) tk_194 tk_195 tk_41 tk_196 rfl rfl hdX5_isBus ⟨Nat.le_of_ble_eq_true rfl, Nat.le_of_ble_eq_true rfl⟩ rfl rfl (Nat.le_of_ble_eq_true rfl) dX5_line_8 (fun H locs hH => ?_)
    refine lv_if_eq (tgt := 19) hF.x hF.b dX5_line_11 (by decide) (fun c6 => ?_) (fun c6 => ?_)
    · rw [if_pos c6] at h
      exact w19 _ _ _ _ h hH (lv_sub hl [0] rfl)
    · rw [if_neg c6] at h
      refine lv_iload_n hF.x hF.b dX5_line_14 rfl (lv_at hl 1 rfl) ?_
      refine lv_iload_n hF.x hF.b dX5_line_15 rfl (lv_at hl 2 rfl) ?_
      refine lv_icmp_ne (tgt := 21) hF.x hF.b dX5_line_16 (by decide) (fun c7 => ?_) (fun c7 => ?_)
      · rw [if_neg c7] at h
        refine lv_iload_n hF.x hF.b dX5_line_21 rfl (lv_at hl 3 rfl) ?_
        refine lv_bipush (v := 9) hF.x hF.b dX5_line_22 (by decide) ?_
        replace h := bd_some h
        obtain ⟨v8, σ9, hv8, h⟩ := h
        refine w_cSi (As := [.int a3, .int 9]) (rest := []) hF hH hl (tX5_isWithin l E hF.j _ _ _ _ hv8) tk_197 tk_198 tk_41 tk_199 rfl rfl hdX5_isWithin ⟨Nat.le_of_ble_eq_true rfl, Nat.le_of_ble_eq_true rfl⟩ rfl rfl (Nat.le_of_ble_eq_true rfl) dX5_line_24 (fun H locs hH => ?_)
        refine lv_if_ne (tgt := 33) hF.x hF.b dX5_line_27 (by decide) (fun c10 => ?_) (fun c10 => ?_)
        · rw [if_neg c10] at h
          refine lv_aload_n hF.x hF.b dX5_line_33 rfl (lv_at hl 0 rfl) ?_
          refine gfC_0_0 hF hH tk_171 dX5_line_34 ?_
          refine gfC_1_0 hF hH tk_66 dX5_line_37 ?_
          refine lv_bipush (v := 6) hF.x hF.b dX5_line_40 (by decide) ?_
          refine lv_icmp_lt (tgt := 48) hF.x hF.b dX5_line_42 (by decide) (fun c11 => ?_) (fun c11 => ?_)
          · rw [if_pos c11] at h
            refine lv_aload_n hF.x hF.b dX5_line_48 rfl (lv_at hl 0 rfl) ?_
            refine gfC_0_0 hF hH tk_171 dX5_line_49 ?_
            refine lv_iload_n hF.x hF.b dX5_line_52 rfl (lv_at hl 1 rfl) ?_
            refine lv_iload_n hF.x hF.b dX5_line_53 rfl (lv_at hl 2 rfl) ?_
            refine va_mmin hF.x hF.b (hF.ml.trans hl.1.symm) hF.o (hF.t _ tk_200) (hF.t _ tk_201) (hF.t _ tk_47) (hF.t _ tk_202) (Nat.le_of_ble_eq_true rfl) (Nat.le_of_ble_eq_true rfl) (Nat.zero_le _) (Nat.zero_le _) dX5_line_54 ?_
            refine lv_iload_n hF.x hF.b dX5_line_57 rfl (lv_at hl 1 rfl) ?_
            refine lv_iload_n hF.x hF.b dX5_line_58 rfl (lv_at hl 2 rfl) ?_
            refine va_mmax hF.x hF.b (hF.ml.trans hl.1.symm) hF.o (hF.t _ tk_203) (hF.t _ tk_204) (hF.t _ tk_47) (hF.t _ tk_205) (Nat.le_of_ble_eq_true rfl) (Nat.le_of_ble_eq_true rfl) (Nat.zero_le _) (Nat.zero_le _) dX5_line_59 ?_
            refine lv_iload_n hF.x hF.b dX5_line_62 rfl (lv_at hl 3 rfl) ?_
            replace h := bd_some h
            obtain ⟨v12, σ13, hv12, h⟩ := h
            refine w_cVi (As := [.int (if a2 < a1 then a2 else a1), .int (if a1 < a2 then a2 else a1), .int a3]) (rest := []) hF hH hl 1 (by decide) rfl rfl (tX1_addLine l E hF.j _ _ _ _ _ hv12) tk_206 tk_207 tk_208 tk_42 tk_209 rfl rfl hdX1_addLine ⟨Nat.le_of_ble_eq_true rfl, Nat.le_of_ble_eq_true rfl⟩ rfl rfl (Nat.le_of_ble_eq_true rfl) dX5_line_63 (fun H locs hH => ?_)
            refine lv_istore (lv' := [(4, .int v12), (0, .ref (eA E 0)), (1, .int a1), (2, .int a2), (3, .int a3)]) hF.x hF.b dX5_line_66 hl (by decide) rfl (fun ls hl => ?_)
            refine lv_aload_n hF.x hF.b dX5_line_68 rfl (lv_at hl 1 rfl) ?_
            refine gfC_0_1 hF hH tk_172 dX5_line_69 ?_
            refine lv_aload_n hF.x hF.b dX5_line_72 rfl (lv_at hl 1 rfl) ?_
            refine gfC_0_0 hF hH tk_171 dX5_line_73 ?_
            refine lv_iload hF.x hF.b dX5_line_76 (lv_at hl 0 rfl) ?_
            replace h := bd_some h
            obtain ⟨v14, σ15, hv14, h⟩ := h
            refine w_cVv (As := [.ref (eA E 1), .int v12]) (rest := []) hF hH hl 9 (by decide) rfl rfl (tX2_learnLine l E hF.j _ _ _ hv14) tk_210 tk_211 tk_212 tk_43 tk_213 rfl rfl hdX2_learnLine ⟨Nat.le_of_ble_eq_true rfl, Nat.le_of_ble_eq_true rfl⟩ rfl rfl (Nat.le_of_ble_eq_true rfl) dX5_line_78 (fun H locs hH => ?_)
            refine lv_iload hF.x hF.b dX5_line_81 (lv_at hl 0 rfl) ?_
            exact hret _ _ _ _ _ _ hH h dX5_line_83
          · rw [if_neg c11] at h
            refine lv_bipush (v := (-4)) hF.x hF.b dX5_line_45 (by decide) ?_
            exact hret _ _ _ _ _ _ hH h dX5_line_47
        · rw [if_pos c10] at h
          refine lv_bipush (v := (-2)) hF.x hF.b dX5_line_30 (by decide) ?_
          exact hret _ _ _ _ _ _ hH h dX5_line_32
      · rw [if_pos c7] at h
        exact w19 _ _ _ _ h hH (lv_sub hl [0] rfl)
theorem hdX5_machine : yX5_machine.cls = RX5 ∧ yX5_machine.cls ≠ "java/lang/invoke/MethodHandle" ∧ yX5_machine.cls ≠ "java/lang/invoke/VarHandle" ∧ (parseMethodDescriptor yX5_machine.desc).map (fun d => d.parameters.length) = some 4 := by decide +kernel
set_option maxHeartbeats 4000000 in
set_option maxRecDepth 100000 in
theorem tX5_machine (l : Launch) (E : Ev) (hj : Inj kC E) (a1 : Int32) (a2 : Int32) (a3 : Int32) (a4 : Int32) (σ : Sg) (r : Int32 × Sg) (h : fX5_machine a1 a2 a3 a4 σ = some r) : CI l yX5_machine cX5_machine 5 (some FieldType.int) (rmk 2 41) kC E [.ref (eA E 0), .int a1, .int a2, .int a3, .int a4] σ r := by
  refine CI_i (lv := [(0, .ref (eA E 0)), (1, .int a1), (2, .int a2), (3, .int a3), (4, .int a4)]) (by decide) hj (Nat.le_of_ble_eq_true rfl) rfl (fun p e s m args below meth c ls Q hF hret hH hl => ?_)
  have w36 : ∀ (σ : Sg) (H : Heap) (locs : List Loc) (ls : Array Slot), fX5_machine_36 σ = some r → HP kC E s σ H locs → lv_has ls 5 [(0, .ref (eA E 0))] → W p l e (rmk 2 41) s m args below meth c H locs 0 0 Q (F0 m 36 ls []) := by
    intro σ H locs ls h hH hl
    unfold fX5_machine_36 at h
    refine lv_bipush (v := (-2)) hF.x hF.b dX5_machine_36 (by decide) ?_
    exact hret _ _ _ _ _ _ hH h dX5_machine_38
  unfold fX5_machine at h
  refine lv_iload_n hF.x hF.b dX5_machine_0 rfl (lv_at hl 1 rfl) ?_
  replace h := bd_some h
  obtain ⟨v1, σ2, hv1, h⟩ := h
  refine w_cSi (As := [.int a1]) (rest := []) hF hH hl (tX5_isBus l E hF.j _ _ _ hv1) tk_194 tk_195 tk_41 tk_196 rfl rfl hdX5_isBus ⟨Nat.le_of_ble_eq_true rfl, Nat.le_of_ble_eq_true rfl⟩ rfl rfl (Nat.le_of_ble_eq_true rfl) dX5_machine_1 (fun H locs hH => ?_)
  refine lv_if_ne (tgt := 9) hF.x hF.b dX5_machine_4 (by decide) (fun c3 => ?_) (fun c3 => ?_)
  · rw [if_neg c3] at h
    refine lv_iload_n hF.x hF.b dX5_machine_9 rfl (lv_at hl 2 rfl) ?_
    refine lv_bipush (v := 20) hF.x hF.b dX5_machine_10 (by decide) ?_
    replace h := bd_some h
    obtain ⟨v4, σ5, hv4, h⟩ := h
    refine w_cSi (As := [.int a2, .int 20]) (rest := []) hF hH hl (tX5_isWithin l E hF.j _ _ _ _ hv4) tk_197 tk_198 tk_41 tk_199 rfl rfl hdX5_isWithin ⟨Nat.le_of_ble_eq_true rfl, Nat.le_of_ble_eq_true rfl⟩ rfl rfl (Nat.le_of_ble_eq_true rfl) dX5_machine_12 (fun H locs hH => ?_)
    refine lv_if_eq (tgt := 36) hF.x hF.b dX5_machine_15 (by decide) (fun c6 => ?_) (fun c6 => ?_)
    · rw [if_pos c6] at h
      exact w36 _ _ _ _ h hH (lv_sub hl [0] rfl)
    · rw [if_neg c6] at h
      refine lv_iload_n hF.x hF.b dX5_machine_18 rfl (lv_at hl 3 rfl) ?_
      refine lv_bipush (v := 40) hF.x hF.b dX5_machine_19 (by decide) ?_
      replace h := bd_some h
      obtain ⟨v7, σ8, hv7, h⟩ := h
      refine w_cSi (As := [.int a3, .int 40]) (rest := []) hF hH hl (tX5_isWithin l E hF.j _ _ _ _ hv7) tk_197 tk_198 tk_41 tk_199 rfl rfl hdX5_isWithin ⟨Nat.le_of_ble_eq_true rfl, Nat.le_of_ble_eq_true rfl⟩ rfl rfl (Nat.le_of_ble_eq_true rfl) dX5_machine_21 (fun H locs hH => ?_)
      refine lv_if_eq (tgt := 36) hF.x hF.b dX5_machine_24 (by decide) (fun c9 => ?_) (fun c9 => ?_)
      · rw [if_pos c9] at h
        exact w36 _ _ _ _ h hH (lv_sub hl [0] rfl)
      · rw [if_neg c9] at h
        refine lv_iload hF.x hF.b dX5_machine_27 (lv_at hl 4 rfl) ?_
        refine lv_iconst (v := 3) hF.x hF.b dX5_machine_29 (by decide) ?_
        replace h := bd_some h
        obtain ⟨v10, σ11, hv10, h⟩ := h
        refine w_cSi (As := [.int a4, .int 3]) (rest := []) hF hH hl (tX5_isWithin l E hF.j _ _ _ _ hv10) tk_197 tk_198 tk_41 tk_199 rfl rfl hdX5_isWithin ⟨Nat.le_of_ble_eq_true rfl, Nat.le_of_ble_eq_true rfl⟩ rfl rfl (Nat.le_of_ble_eq_true rfl) dX5_machine_30 (fun H locs hH => ?_)
        refine lv_if_ne (tgt := 39) hF.x hF.b dX5_machine_33 (by decide) (fun c12 => ?_) (fun c12 => ?_)
        · rw [if_neg c12] at h
          refine lv_aload_n hF.x hF.b dX5_machine_39 rfl (lv_at hl 0 rfl) ?_
          refine gfC_0_0 hF hH tk_171 dX5_machine_40 ?_
          refine gfC_1_4 hF hH tk_81 dX5_machine_43 ?_
          refine lv_iconst (v := 3) hF.x hF.b dX5_machine_46 (by decide) ?_
          refine lv_icmp_lt (tgt := 53) hF.x hF.b dX5_machine_47 (by decide) (fun c13 => ?_) (fun c13 => ?_)
          · rw [if_pos c13] at h
            refine lv_aload_n hF.x hF.b dX5_machine_53 rfl (lv_at hl 0 rfl) ?_
            refine gfC_0_0 hF hH tk_171 dX5_machine_54 ?_
            refine lv_iload_n hF.x hF.b dX5_machine_57 rfl (lv_at hl 1 rfl) ?_
            refine lv_iload_n hF.x hF.b dX5_machine_58 rfl (lv_at hl 2 rfl) ?_
            refine lv_iload_n hF.x hF.b dX5_machine_59 rfl (lv_at hl 3 rfl) ?_
            refine lv_iload hF.x hF.b dX5_machine_60 (lv_at hl 4 rfl) ?_
            replace h := bd_some h
            obtain ⟨v14, σ15, hv14, h⟩ := h
            refine w_cVi (As := [.int a1, .int a2, .int a3, .int a4]) (rest := []) hF hH hl 1 (by decide) rfl rfl (tX1_addMachine l E hF.j _ _ _ _ _ _ hv14) tk_233 tk_234 tk_235 tk_42 tk_236 rfl rfl hdX1_addMachine ⟨Nat.le_of_ble_eq_true rfl, Nat.le_of_ble_eq_true rfl⟩ rfl rfl (Nat.le_of_ble_eq_true rfl) dX5_machine_62 (fun H locs hH => ?_)
            exact hret _ _ _ _ _ _ hH h dX5_machine_65
          · rw [if_neg c13] at h
            refine lv_bipush (v := (-4)) hF.x hF.b dX5_machine_50 (by decide) ?_
            exact hret _ _ _ _ _ _ hH h dX5_machine_52
        · rw [if_pos c12] at h
          exact w36 _ _ _ _ h hH (lv_sub hl [0] rfl)
  · rw [if_pos c3] at h
    refine lv_iconst (v := (-1)) hF.x hF.b dX5_machine_7 (by decide) ?_
    exact hret _ _ _ _ _ _ hH h dX5_machine_8
theorem hdX5_dark : yX5_dark.cls = RX5 ∧ yX5_dark.cls ≠ "java/lang/invoke/MethodHandle" ∧ yX5_dark.cls ≠ "java/lang/invoke/VarHandle" ∧ (parseMethodDescriptor yX5_dark.desc).map (fun d => d.parameters.length) = some 0 := by decide +kernel
set_option maxHeartbeats 4000000 in
set_option maxRecDepth 100000 in
theorem tX5_dark (l : Launch) (E : Ev) (hj : Inj kC E) (σ : Sg) (r : Int32 × Sg) (h : fX5_dark σ = some r) : CI l yX5_dark cX5_dark 2 (some FieldType.int) (rmk 1 20) kC E [.ref (eA E 0)] σ r := by
  refine CI_i (lv := [(0, .ref (eA E 0))]) (by decide) hj (Nat.le_of_ble_eq_true rfl) rfl (fun p e s m args below meth c ls Q hF hret hH hl => ?_)
  unfold fX5_dark at h
  refine lv_aload_n hF.x hF.b dX5_dark_0 rfl (lv_at hl 0 rfl) ?_
  refine gfC_0_0 hF hH tk_171 dX5_dark_1 ?_
  refine gfC_1_9 hF hH tk_95 dX5_dark_4 ?_
  replace h := bd_some h
  obtain ⟨v1, σ2, hv1, h⟩ := h
  refine w_cSi (As := [.int (σ 1 9)]) (rest := []) hF hH hl (tX0_running l E hF.j _ _ _ hv1) tk_241 tk_242 tk_48 tk_243 rfl rfl hdX0_running ⟨Nat.le_of_ble_eq_true rfl, Nat.le_of_ble_eq_true rfl⟩ rfl rfl (Nat.le_of_ble_eq_true rfl) dX5_dark_7 (fun H locs hH => ?_)
  replace h := bd_some h
  obtain ⟨v3, σ4, hv3, h⟩ := h
  refine w_cSi (As := [.int v1]) (rest := []) hF hH hl (tJ6_bitCount_0f7a4 l E hF.j _ _ _ hv3) tk_244 tk_245 tk_49 tk_246 rfl rfl hdJ6_bitCount_0f7a4 ⟨Nat.le_of_ble_eq_true rfl, Nat.le_of_ble_eq_true rfl⟩ rfl rfl (Nat.le_of_ble_eq_true rfl) dX5_dark_10 (fun H locs hH => ?_)
  refine lv_istore_n (lv' := [(1, .int v3), (0, .ref (eA E 0))]) hF.x hF.b dX5_dark_13 rfl hl (by decide) rfl (fun ls hl => ?_)
  refine lv_aload_n hF.x hF.b dX5_dark_14 rfl (lv_at hl 1 rfl) ?_
  refine gfC_0_0 hF hH tk_171 dX5_dark_15 ?_
  refine lv_iconst (v := 0) hF.x hF.b dX5_dark_18 (by decide) ?_
  refine pfC_1_9 hF hH tk_95 dX5_dark_19 (fun σ5 H locs eσ5 hH => ?_)
  replace h := sv_at h eσ5
  clear eσ5
  refine lv_aload_n hF.x hF.b dX5_dark_22 rfl (lv_at hl 1 rfl) ?_
  refine gfC_0_0 hF hH tk_171 dX5_dark_23 ?_
  refine lv_iconst (v := 0) hF.x hF.b dX5_dark_26 (by decide) ?_
  refine pfC_1_10 hF hH tk_96 dX5_dark_27 (fun σ6 H locs eσ6 hH => ?_)
  replace h := sv_at h eσ6
  clear eσ6
  refine lv_iload_n hF.x hF.b dX5_dark_30 rfl (lv_at hl 0 rfl) ?_
  exact hret _ _ _ _ _ _ hH h dX5_dark_31
theorem hdX5_of : yX5_of.cls = RX5 ∧ yX5_of.cls ≠ "java/lang/invoke/MethodHandle" ∧ yX5_of.cls ≠ "java/lang/invoke/VarHandle" ∧ (parseMethodDescriptor yX5_of.desc).map (fun d => d.parameters.length) = some 2 := by decide +kernel
set_option maxHeartbeats 4000000 in
set_option maxRecDepth 100000 in
theorem tX5_of (l : Launch) (E : Ev) (hj : Inj kC E) (a1 : Int32) (a2 : Int32) (σ : Sg) (r : Int32 × Sg) (h : fX5_of a1 a2 σ = some r) : CI l yX5_of cX5_of 3 (some FieldType.int) (rmk 1 21) kC E [.ref (eA E 0), .int a1, .int a2] σ r := by
  refine CI_i (lv := [(0, .ref (eA E 0)), (1, .int a1), (2, .int a2)]) (by decide) hj (Nat.le_of_ble_eq_true rfl) rfl (fun p e s m args below meth c ls Q hF hret hH hl => ?_)
  unfold fX5_of at h
  refine lv_aload_n hF.x hF.b dX5_of_0 rfl (lv_at hl 0 rfl) ?_
  refine gfC_0_0 hF hH tk_171 dX5_of_1 ?_
  refine lv_iload_n hF.x hF.b dX5_of_4 rfl (lv_at hl 1 rfl) ?_
  replace h := bd_some h
  obtain ⟨v1, σ2, hv1, h⟩ := h
  refine w_cVi (As := [.int a1]) (rest := []) hF hH hl 1 (by decide) rfl rfl (tX1_hasLine l E hF.j _ _ _ hv1) tk_254 tk_255 tk_256 tk_42 tk_257 rfl rfl hdX1_hasLine ⟨Nat.le_of_ble_eq_true rfl, Nat.le_of_ble_eq_true rfl⟩ rfl rfl (Nat.le_of_ble_eq_true rfl) dX5_of_5 (fun H locs hH => ?_)
  refine lv_if_ne (tgt := 13) hF.x hF.b dX5_of_8 (by decide) (fun c3 => ?_) (fun c3 => ?_)
  · rw [if_neg c3] at h
    refine lv_iload_n hF.x hF.b dX5_of_13 rfl (lv_at hl 2 rfl) ?_
    by_cases c4 : a2 = 0
    · rw [if_pos c4] at h
      refine lv_tableIn (off := 30) (tgt := 44) hF.x hF.b dX5_of_14 (by rw [c4]; decide) (by rw [c4]; decide) (by rw [c4]; rfl) (by decide) ?_
      refine lv_aload_n hF.x hF.b dX5_of_44 rfl (lv_at hl 0 rfl) ?_
      refine gfC_0_0 hF hH tk_171 dX5_of_45 ?_
      refine gfC_1_1 hF hH tk_70 dX5_of_48 ?_
      refine lv_iload_n hF.x hF.b dX5_of_51 rfl (lv_at hl 1 rfl) ?_
      refine alC_2 hF hH (gd_some h).1 dX5_of_52 ?_
      replace h := (gd_some h).2
      exact hret _ _ _ _ _ _ hH h dX5_of_53
    rw [if_neg c4] at h
    by_cases c5 : a2 = 1
    · rw [if_pos c5] at h
      refine lv_tableIn (off := 40) (tgt := 54) hF.x hF.b dX5_of_14 (by rw [c5]; decide) (by rw [c5]; decide) (by rw [c5]; rfl) (by decide) ?_
      refine lv_aload_n hF.x hF.b dX5_of_54 rfl (lv_at hl 0 rfl) ?_
      refine gfC_0_0 hF hH tk_171 dX5_of_55 ?_
      refine gfC_1_2 hF hH tk_74 dX5_of_58 ?_
      refine lv_iload_n hF.x hF.b dX5_of_61 rfl (lv_at hl 1 rfl) ?_
      refine alC_3 hF hH (gd_some h).1 dX5_of_62 ?_
      replace h := (gd_some h).2
      exact hret _ _ _ _ _ _ hH h dX5_of_63
    rw [if_neg c5] at h
    by_cases c6 : a2 = 2
    · rw [if_pos c6] at h
      refine lv_tableIn (off := 50) (tgt := 64) hF.x hF.b dX5_of_14 (by rw [c6]; decide) (by rw [c6]; decide) (by rw [c6]; rfl) (by decide) ?_
      refine lv_aload_n hF.x hF.b dX5_of_64 rfl (lv_at hl 0 rfl) ?_
      refine gfC_0_0 hF hH tk_171 dX5_of_65 ?_
      refine gfC_1_3 hF hH tk_78 dX5_of_68 ?_
      refine lv_iload_n hF.x hF.b dX5_of_71 rfl (lv_at hl 1 rfl) ?_
      refine alC_4 hF hH (gd_some h).1 dX5_of_72 ?_
      replace h := (gd_some h).2
      exact hret _ _ _ _ _ _ hH h dX5_of_73
    rw [if_neg c6] at h
    by_cases c7 : a2 = 3
    · rw [if_pos c7] at h
      refine lv_tableIn (off := 60) (tgt := 74) hF.x hF.b dX5_of_14 (by rw [c7]; decide) (by rw [c7]; decide) (by rw [c7]; rfl) (by decide) ?_
      refine lv_aload_n hF.x hF.b dX5_of_74 rfl (lv_at hl 0 rfl) ?_
      refine gfC_0_0 hF hH tk_171 dX5_of_75 ?_
      refine gfC_1_9 hF hH tk_95 dX5_of_78 ?_
      replace h := bd_some h
      obtain ⟨v8, σ9, hv8, h⟩ := h
      refine w_cSi (As := [.int (σ2 1 9)]) (rest := []) hF hH hl (tX0_closed l E hF.j _ _ _ hv8) tk_258 tk_259 tk_48 tk_260 rfl rfl hdX0_closed ⟨Nat.le_of_ble_eq_true rfl, Nat.le_of_ble_eq_true rfl⟩ rfl rfl (Nat.le_of_ble_eq_true rfl) dX5_of_81 (fun H locs hH => ?_)
      refine lv_iload_n hF.x hF.b dX5_of_84 rfl (lv_at hl 1 rfl) ?_
      replace h := bd_some h
      obtain ⟨v10, σ11, hv10, h⟩ := h
      refine w_cSi (As := [.int v8, .int a1]) (rest := []) hF hH hl (tX5_bit l E hF.j _ _ _ _ hv10) tk_261 tk_227 tk_41 tk_228 rfl rfl hdX5_bit ⟨Nat.le_of_ble_eq_true rfl, Nat.le_of_ble_eq_true rfl⟩ rfl rfl (Nat.le_of_ble_eq_true rfl) dX5_of_85 (fun H locs hH => ?_)
      exact hret _ _ _ _ _ _ hH h dX5_of_88
    rw [if_neg c7] at h
    have zc4 := lv_neT c4 (show (0 : Int32).toInt = 0 by decide)
    have zc5 := lv_neT c5 (show (1 : Int32).toInt = 1 by decide)
    have zc6 := lv_neT c6 (show (2 : Int32).toInt = 2 by decide)
    have zc7 := lv_neT c7 (show (3 : Int32).toInt = 3 by decide)
    refine lv_tableOut (tgt := 89) hF.x hF.b dX5_of_14 (by omega) (by decide) ?_
    refine lv_bipush (v := (-2)) hF.x hF.b dX5_of_89 (by decide) ?_
    exact hret _ _ _ _ _ _ hH h dX5_of_91
  · rw [if_pos c3] at h
    refine lv_iconst (v := (-1)) hF.x hF.b dX5_of_11 (by decide) ?_
    exact hret _ _ _ _ _ _ hH h dX5_of_12
theorem hdX5_at : yX5_at.cls = RX5 ∧ yX5_at.cls ≠ "java/lang/invoke/MethodHandle" ∧ yX5_at.cls ≠ "java/lang/invoke/VarHandle" ∧ (parseMethodDescriptor yX5_at.desc).map (fun d => d.parameters.length) = some 2 := by decide +kernel
set_option maxHeartbeats 4000000 in
set_option maxRecDepth 100000 in
theorem tX5_at (l : Launch) (E : Ev) (hj : Inj kC E) (a1 : Int32) (a2 : Int32) (σ : Sg) (r : Int32 × Sg) (h : fX5_at a1 a2 σ = some r) : CI l yX5_at cX5_at 3 (some FieldType.int) (rmk 2 42) kC E [.ref (eA E 0), .int a1, .int a2] σ r := by
  refine CI_i (lv := [(0, .ref (eA E 0)), (1, .int a1), (2, .int a2)]) (by decide) hj (Nat.le_of_ble_eq_true rfl) rfl (fun p e s m args below meth c ls Q hF hret hH hl => ?_)
  have w118 : ∀ (t0 : Int32) (σ : Sg) (H : Heap) (locs : List Loc) (ls : Array Slot), fX5_at_118 t0 σ = some r → HP kC E s σ H locs → lv_has ls 3 [(0, .ref (eA E 0))] → W p l e (rmk 2 42) s m args below meth c H locs 0 0 Q (F0 m 118 ls [.int t0]) := by
    intro t0 σ H locs ls h hH hl
    unfold fX5_at_118 at h
    exact hret _ _ _ _ _ _ hH h dX5_at_118
  unfold fX5_at at h
  refine lv_aload_n hF.x hF.b dX5_at_0 rfl (lv_at hl 0 rfl) ?_
  refine gfC_0_0 hF hH tk_171 dX5_at_1 ?_
  refine lv_iload_n hF.x hF.b dX5_at_4 rfl (lv_at hl 1 rfl) ?_
  replace h := bd_some h
  obtain ⟨v1, σ2, hv1, h⟩ := h
  refine w_cVi (As := [.int a1]) (rest := []) hF hH hl 1 (by decide) rfl rfl (tX1_hasMachine l E hF.j _ _ _ hv1) tk_266 tk_267 tk_268 tk_42 tk_269 rfl rfl hdX1_hasMachine ⟨Nat.le_of_ble_eq_true rfl, Nat.le_of_ble_eq_true rfl⟩ rfl rfl (Nat.le_of_ble_eq_true rfl) dX5_at_5 (fun H locs hH => ?_)
  refine lv_if_ne (tgt := 13) hF.x hF.b dX5_at_8 (by decide) (fun c3 => ?_) (fun c3 => ?_)
  · rw [if_neg c3] at h
    refine lv_iload_n hF.x hF.b dX5_at_13 rfl (lv_at hl 2 rfl) ?_
    by_cases c4 : a2 = 0
    · rw [if_pos c4] at h
      refine lv_tableIn (off := 34) (tgt := 48) hF.x hF.b dX5_at_14 (by rw [c4]; decide) (by rw [c4]; decide) (by rw [c4]; rfl) (by decide) ?_
      refine lv_aload_n hF.x hF.b dX5_at_48 rfl (lv_at hl 0 rfl) ?_
      refine gfC_0_0 hF hH tk_171 dX5_at_49 ?_
      refine gfC_1_5 hF hH tk_84 dX5_at_52 ?_
      refine lv_iload_n hF.x hF.b dX5_at_55 rfl (lv_at hl 1 rfl) ?_
      refine alC_5 hF hH (gd_some h).1 dX5_at_56 ?_
      replace h := (gd_some h).2
      exact hret _ _ _ _ _ _ hH h dX5_at_57
    rw [if_neg c4] at h
    by_cases c5 : a2 = 1
    · rw [if_pos c5] at h
      refine lv_tableIn (off := 44) (tgt := 58) hF.x hF.b dX5_at_14 (by rw [c5]; decide) (by rw [c5]; decide) (by rw [c5]; rfl) (by decide) ?_
      refine lv_aload_n hF.x hF.b dX5_at_58 rfl (lv_at hl 0 rfl) ?_
      refine gfC_0_0 hF hH tk_171 dX5_at_59 ?_
      refine gfC_1_6 hF hH tk_86 dX5_at_62 ?_
      refine lv_iload_n hF.x hF.b dX5_at_65 rfl (lv_at hl 1 rfl) ?_
      refine alC_6 hF hH (gd_some h).1 dX5_at_66 ?_
      replace h := (gd_some h).2
      exact hret _ _ _ _ _ _ hH h dX5_at_67
    rw [if_neg c5] at h
    by_cases c6 : a2 = 2
    · rw [if_pos c6] at h
      refine lv_tableIn (off := 54) (tgt := 68) hF.x hF.b dX5_at_14 (by rw [c6]; decide) (by rw [c6]; decide) (by rw [c6]; rfl) (by decide) ?_
      refine lv_aload_n hF.x hF.b dX5_at_68 rfl (lv_at hl 0 rfl) ?_
      refine gfC_0_0 hF hH tk_171 dX5_at_69 ?_
      refine gfC_1_7 hF hH tk_90 dX5_at_72 ?_
      refine lv_iload_n hF.x hF.b dX5_at_75 rfl (lv_at hl 1 rfl) ?_
      refine alC_7 hF hH (gd_some h).1 dX5_at_76 ?_
      replace h := (gd_some h).2
      exact hret _ _ _ _ _ _ hH h dX5_at_77
    rw [if_neg c6] at h
    by_cases c7 : a2 = 3
    · rw [if_pos c7] at h
      refine lv_tableIn (off := 64) (tgt := 78) hF.x hF.b dX5_at_14 (by rw [c7]; decide) (by rw [c7]; decide) (by rw [c7]; rfl) (by decide) ?_
      refine lv_aload_n hF.x hF.b dX5_at_78 rfl (lv_at hl 0 rfl) ?_
      refine gfC_0_0 hF hH tk_171 dX5_at_79 ?_
      refine gfC_1_8 hF hH tk_92 dX5_at_82 ?_
      refine lv_iload_n hF.x hF.b dX5_at_85 rfl (lv_at hl 1 rfl) ?_
      refine alC_8 hF hH (gd_some h).1 dX5_at_86 ?_
      replace h := (gd_some h).2
      exact hret _ _ _ _ _ _ hH h dX5_at_87
    rw [if_neg c7] at h
    by_cases c8 : a2 = 4
    · rw [if_pos c8] at h
      refine lv_tableIn (off := 74) (tgt := 88) hF.x hF.b dX5_at_14 (by rw [c8]; decide) (by rw [c8]; decide) (by rw [c8]; rfl) (by decide) ?_
      refine lv_aload_n hF.x hF.b dX5_at_88 rfl (lv_at hl 0 rfl) ?_
      refine gfC_0_0 hF hH tk_171 dX5_at_89 ?_
      refine gfC_1_9 hF hH tk_95 dX5_at_92 ?_
      refine lv_iload_n hF.x hF.b dX5_at_95 rfl (lv_at hl 1 rfl) ?_
      replace h := bd_some h
      obtain ⟨v9, σ10, hv9, h⟩ := h
      refine w_cSi (As := [.int (σ2 1 9), .int a1]) (rest := []) hF hH hl (tX0_isRunning l E hF.j _ _ _ _ hv9) tk_270 tk_271 tk_48 tk_272 rfl rfl hdX0_isRunning ⟨Nat.le_of_ble_eq_true rfl, Nat.le_of_ble_eq_true rfl⟩ rfl rfl (Nat.le_of_ble_eq_true rfl) dX5_at_96 (fun H locs hH => ?_)
      refine lv_if_eq (tgt := 116) hF.x hF.b dX5_at_99 (by decide) (fun c11 => ?_) (fun c11 => ?_)
      · rw [if_pos c11] at h
        refine lv_bipush (v := (-6)) hF.x hF.b dX5_at_116 (by decide) ?_
        exact w118 _ _ _ _ _ h hH (lv_sub hl [0] rfl)
      · rw [if_neg c11] at h
        refine lv_aload_n hF.x hF.b dX5_at_102 rfl (lv_at hl 0 rfl) ?_
        refine gfC_0_0 hF hH tk_171 dX5_at_103 ?_
        refine gfC_1_9 hF hH tk_95 dX5_at_106 ?_
        refine lv_iload_n hF.x hF.b dX5_at_109 rfl (lv_at hl 1 rfl) ?_
        replace h := bd_some h
        obtain ⟨v12, σ13, hv12, h⟩ := h
        refine w_cSi (As := [.int (σ10 1 9), .int a1]) (rest := []) hF hH hl (tX0_left l E hF.j _ _ _ _ hv12) tk_275 tk_276 tk_48 tk_277 rfl rfl hdX0_left ⟨Nat.le_of_ble_eq_true rfl, Nat.le_of_ble_eq_true rfl⟩ rfl rfl (Nat.le_of_ble_eq_true rfl) dX5_at_110 (fun H locs hH => ?_)
        refine lv_goto (tgt := 118) hF.x hF.b dX5_at_113 (by decide) ?_
        exact w118 _ _ _ _ _ h hH (lv_sub hl [0] rfl)
    rw [if_neg c8] at h
    have zc4 := lv_neT c4 (show (0 : Int32).toInt = 0 by decide)
    have zc5 := lv_neT c5 (show (1 : Int32).toInt = 1 by decide)
    have zc6 := lv_neT c6 (show (2 : Int32).toInt = 2 by decide)
    have zc7 := lv_neT c7 (show (3 : Int32).toInt = 3 by decide)
    have zc8 := lv_neT c8 (show (4 : Int32).toInt = 4 by decide)
    refine lv_tableOut (tgt := 119) hF.x hF.b dX5_at_14 (by omega) (by decide) ?_
    refine lv_bipush (v := (-2)) hF.x hF.b dX5_at_119 (by decide) ?_
    exact hret _ _ _ _ _ _ hH h dX5_at_121
  · rw [if_pos c3] at h
    refine lv_iconst (v := (-1)) hF.x hF.b dX5_at_11 (by decide) ?_
    exact hret _ _ _ _ _ _ hH h dX5_at_12
theorem hdX5_bus : yX5_bus.cls = RX5 ∧ yX5_bus.cls ≠ "java/lang/invoke/MethodHandle" ∧ yX5_bus.cls ≠ "java/lang/invoke/VarHandle" ∧ (parseMethodDescriptor yX5_bus.desc).map (fun d => d.parameters.length) = some 2 := by decide +kernel
set_option maxHeartbeats 4000000 in
set_option maxRecDepth 100000 in
theorem tX5_bus (l : Launch) (E : Ev) (hj : Inj kC E) (a1 : Int32) (a2 : Int32) (σ : Sg) (r : Int32 × Sg) (h : fX5_bus a1 a2 σ = some r) : CI l yX5_bus cX5_bus 3 (some FieldType.int) (rmk 4 85) kC E [.ref (eA E 0), .int a1, .int a2] σ r := by
  refine CI_i (lv := [(0, .ref (eA E 0)), (1, .int a1), (2, .int a2)]) (by decide) hj (Nat.le_of_ble_eq_true rfl) rfl (fun p e s m args below meth c ls Q hF hret hH hl => ?_)
  unfold fX5_bus at h
  refine lv_iload_n hF.x hF.b dX5_bus_0 rfl (lv_at hl 1 rfl) ?_
  replace h := bd_some h
  obtain ⟨v1, σ2, hv1, h⟩ := h
  refine w_cSi (As := [.int a1]) (rest := []) hF hH hl (tX5_isBus l E hF.j _ _ _ hv1) tk_194 tk_195 tk_41 tk_196 rfl rfl hdX5_isBus ⟨Nat.le_of_ble_eq_true rfl, Nat.le_of_ble_eq_true rfl⟩ rfl rfl (Nat.le_of_ble_eq_true rfl) dX5_bus_1 (fun H locs hH => ?_)
  refine lv_if_ne (tgt := 9) hF.x hF.b dX5_bus_4 (by decide) (fun c3 => ?_) (fun c3 => ?_)
  · rw [if_neg c3] at h
    refine lv_iload_n hF.x hF.b dX5_bus_9 rfl (lv_at hl 2 rfl) ?_
    by_cases c4 : a2 = 0
    · rw [if_pos c4] at h
      refine lv_tableIn (off := 26) (tgt := 36) hF.x hF.b dX5_bus_10 (by rw [c4]; decide) (by rw [c4]; decide) (by rw [c4]; rfl) (by decide) ?_
      refine lv_aload_n hF.x hF.b dX5_bus_36 rfl (lv_at hl 0 rfl) ?_
      refine gfC_0_1 hF hH tk_172 dX5_bus_37 ?_
      refine lv_aload_n hF.x hF.b dX5_bus_40 rfl (lv_at hl 0 rfl) ?_
      refine gfC_0_0 hF hH tk_171 dX5_bus_41 ?_
      refine gfC_1_9 hF hH tk_95 dX5_bus_44 ?_
      replace h := bd_some h
      obtain ⟨v5, σ6, hv5, h⟩ := h
      refine w_cSi (As := [.int (σ2 1 9)]) (rest := [.ref (eA E 9)]) hF hH hl (tX0_closed l E hF.j _ _ _ hv5) tk_258 tk_259 tk_48 tk_260 rfl rfl hdX0_closed ⟨Nat.le_of_ble_eq_true rfl, Nat.le_of_ble_eq_true rfl⟩ rfl rfl (Nat.le_of_ble_eq_true rfl) dX5_bus_47 (fun H locs hH => ?_)
      refine lv_iload_n hF.x hF.b dX5_bus_50 rfl (lv_at hl 1 rfl) ?_
      replace h := bd_some h
      obtain ⟨v7, σ8, hv7, h⟩ := h
      refine w_cVi (As := [.int v5, .int a1]) (rest := []) hF hH hl 9 (by decide) rfl rfl (tX2_busesWith l E hF.j _ _ _ _ hv7) tk_285 tk_219 tk_220 tk_43 tk_221 rfl rfl hdX2_busesWith ⟨Nat.le_of_ble_eq_true rfl, Nat.le_of_ble_eq_true rfl⟩ rfl rfl (Nat.le_of_ble_eq_true rfl) dX5_bus_51 (fun H locs hH => ?_)
      exact hret _ _ _ _ _ _ hH h dX5_bus_54
    rw [if_neg c4] at h
    by_cases c9 : a2 = 1
    · rw [if_pos c9] at h
      refine lv_tableIn (off := 45) (tgt := 55) hF.x hF.b dX5_bus_10 (by rw [c9]; decide) (by rw [c9]; decide) (by rw [c9]; rfl) (by decide) ?_
      refine lv_aload_n hF.x hF.b dX5_bus_55 rfl (lv_at hl 0 rfl) ?_
      refine gfC_0_2 hF hH tk_173 dX5_bus_56 ?_
      refine lv_aload_n hF.x hF.b dX5_bus_59 rfl (lv_at hl 0 rfl) ?_
      refine gfC_0_0 hF hH tk_171 dX5_bus_60 ?_
      refine gfC_1_9 hF hH tk_95 dX5_bus_63 ?_
      replace h := bd_some h
      obtain ⟨v10, σ11, hv10, h⟩ := h
      refine w_cVi (As := [.int (σ2 1 9)]) (rest := []) hF hH hl 12 (by decide) rfl rfl (tX3_liveBuses l E hF.j _ _ _ hv10) tk_286 tk_287 tk_288 tk_44 tk_289 rfl rfl hdX3_liveBuses ⟨Nat.le_of_ble_eq_true rfl, Nat.le_of_ble_eq_true rfl⟩ rfl rfl (Nat.le_of_ble_eq_true rfl) dX5_bus_66 (fun H locs hH => ?_)
      refine lv_iload_n hF.x hF.b dX5_bus_69 rfl (lv_at hl 1 rfl) ?_
      replace h := bd_some h
      obtain ⟨v12, σ13, hv12, h⟩ := h
      refine w_cSi (As := [.int v10, .int a1]) (rest := []) hF hH hl (tX5_bit l E hF.j _ _ _ _ hv12) tk_261 tk_227 tk_41 tk_228 rfl rfl hdX5_bit ⟨Nat.le_of_ble_eq_true rfl, Nat.le_of_ble_eq_true rfl⟩ rfl rfl (Nat.le_of_ble_eq_true rfl) dX5_bus_70 (fun H locs hH => ?_)
      exact hret _ _ _ _ _ _ hH h dX5_bus_73
    rw [if_neg c9] at h
    by_cases c14 : a2 = 2
    · rw [if_pos c14] at h
      refine lv_tableIn (off := 64) (tgt := 74) hF.x hF.b dX5_bus_10 (by rw [c14]; decide) (by rw [c14]; decide) (by rw [c14]; rfl) (by decide) ?_
      refine lv_aload_n hF.x hF.b dX5_bus_74 rfl (lv_at hl 0 rfl) ?_
      refine gfC_0_2 hF hH tk_173 dX5_bus_75 ?_
      refine lv_aload_n hF.x hF.b dX5_bus_78 rfl (lv_at hl 0 rfl) ?_
      refine gfC_0_0 hF hH tk_171 dX5_bus_79 ?_
      refine gfC_1_9 hF hH tk_95 dX5_bus_82 ?_
      refine lv_iload_n hF.x hF.b dX5_bus_85 rfl (lv_at hl 1 rfl) ?_
      replace h := bd_some h
      obtain ⟨v15, σ16, hv15, h⟩ := h
      refine w_cVi (As := [.int (σ2 1 9), .int a1]) (rest := []) hF hH hl 12 (by decide) rfl rfl (tX3_spare l E hF.j _ _ _ _ hv15) tk_293 tk_294 tk_295 tk_44 tk_296 rfl rfl hdX3_spare ⟨Nat.le_of_ble_eq_true rfl, Nat.le_of_ble_eq_true rfl⟩ rfl rfl (Nat.le_of_ble_eq_true rfl) dX5_bus_86 (fun H locs hH => ?_)
      refine lv_bipush (v := 100) hF.x hF.b dX5_bus_89 (by decide) ?_
      refine lv_iadd hF.x hF.b dX5_bus_91 ?_
      exact hret _ _ _ _ _ _ hH h dX5_bus_92
    rw [if_neg c14] at h
    have zc4 := lv_neT c4 (show (0 : Int32).toInt = 0 by decide)
    have zc9 := lv_neT c9 (show (1 : Int32).toInt = 1 by decide)
    have zc14 := lv_neT c14 (show (2 : Int32).toInt = 2 by decide)
    refine lv_tableOut (tgt := 93) hF.x hF.b dX5_bus_10 (by omega) (by decide) ?_
    refine lv_bipush (v := (-2)) hF.x hF.b dX5_bus_93 (by decide) ?_
    exact hret _ _ _ _ _ _ hH h dX5_bus_95
  · rw [if_pos c3] at h
    refine lv_iconst (v := (-1)) hF.x hF.b dX5_bus_7 (by decide) ?_
    exact hret _ _ _ _ _ _ hH h dX5_bus_8
theorem hdX5_can : yX5_can.cls = RX5 ∧ yX5_can.cls ≠ "java/lang/invoke/MethodHandle" ∧ yX5_can.cls ≠ "java/lang/invoke/VarHandle" ∧ (parseMethodDescriptor yX5_can.desc).map (fun d => d.parameters.length) = some 0 := by decide +kernel
set_option maxHeartbeats 4000000 in
set_option maxRecDepth 100000 in
theorem tX5_can (l : Launch) (E : Ev) (hj : Inj kC E) (σ : Sg) (r : Int32 × Sg) (h : fX5_can σ = some r) : CI l yX5_can cX5_can 1 (some FieldType.int) (rmk 4 101) kC E [.ref (eA E 0)] σ r := by
  refine CI_i (lv := [(0, .ref (eA E 0))]) (by decide) hj (Nat.le_of_ble_eq_true rfl) rfl (fun p e s m args below meth c ls Q hF hret hH hl => ?_)
  unfold fX5_can at h
  refine lv_aload_n hF.x hF.b dX5_can_0 rfl (lv_at hl 0 rfl) ?_
  refine gfC_0_2 hF hH tk_173 dX5_can_1 ?_
  refine lv_aload_n hF.x hF.b dX5_can_4 rfl (lv_at hl 0 rfl) ?_
  refine gfC_0_0 hF hH tk_171 dX5_can_5 ?_
  refine gfC_1_9 hF hH tk_95 dX5_can_8 ?_
  replace h := bd_some h
  obtain ⟨v1, σ2, hv1, h⟩ := h
  refine w_cVi (As := [.int (σ 1 9)]) (rest := []) hF hH hl 12 (by decide) rfl rfl (tX3_stepsFrom l E hF.j _ _ _ hv1) tk_311 tk_312 tk_313 tk_44 tk_314 rfl rfl hdX3_stepsFrom ⟨Nat.le_of_ble_eq_true rfl, Nat.le_of_ble_eq_true rfl⟩ rfl rfl (Nat.le_of_ble_eq_true rfl) dX5_can_11 (fun H locs hH => ?_)
  exact hret _ _ _ _ _ _ hH h dX5_can_14
theorem hdX5_tick : yX5_tick.cls = RX5 ∧ yX5_tick.cls ≠ "java/lang/invoke/MethodHandle" ∧ yX5_tick.cls ≠ "java/lang/invoke/VarHandle" ∧ (parseMethodDescriptor yX5_tick.desc).map (fun d => d.parameters.length) = some 1 := by decide +kernel
set_option maxHeartbeats 4000000 in
set_option maxRecDepth 100000 in
theorem tX5_tick (l : Launch) (E : Ev) (hj : Inj kC E) (a1 : Int32) (σ : Sg) (r : Int32 × Sg) (h : fX5_tick a1 σ = some r) : CI l yX5_tick cX5_tick 2 (some FieldType.int) (rmk 4 101) kC E [.ref (eA E 0), .int a1] σ r := by
  refine CI_i (lv := [(0, .ref (eA E 0)), (1, .int a1)]) (by decide) hj (Nat.le_of_ble_eq_true rfl) rfl (fun p e s m args below meth c ls Q hF hret hH hl => ?_)
  unfold fX5_tick at h
  refine lv_iload_n hF.x hF.b dX5_tick_0 rfl (lv_at hl 1 rfl) ?_
  refine lv_bipush (v := 9) hF.x hF.b dX5_tick_1 (by decide) ?_
  replace h := bd_some h
  obtain ⟨v1, σ2, hv1, h⟩ := h
  refine w_cSi (As := [.int a1, .int 9]) (rest := []) hF hH hl (tX5_isWithin l E hF.j _ _ _ _ hv1) tk_197 tk_198 tk_41 tk_199 rfl rfl hdX5_isWithin ⟨Nat.le_of_ble_eq_true rfl, Nat.le_of_ble_eq_true rfl⟩ rfl rfl (Nat.le_of_ble_eq_true rfl) dX5_tick_3 (fun H locs hH => ?_)
  refine lv_if_ne (tgt := 12) hF.x hF.b dX5_tick_6 (by decide) (fun c3 => ?_) (fun c3 => ?_)
  · rw [if_neg c3] at h
    refine lv_aload_n hF.x hF.b dX5_tick_12 rfl (lv_at hl 0 rfl) ?_
    refine gfC_0_2 hF hH tk_173 dX5_tick_13 ?_
    refine lv_iload_n hF.x hF.b dX5_tick_16 rfl (lv_at hl 1 rfl) ?_
    replace h := bd_some h
    obtain ⟨v4, σ5, hv4, h⟩ := h
    refine w_cVi (As := [.int a1]) (rest := []) hF hH hl 12 (by decide) rfl rfl (tX3_isTold l E hF.j _ _ _ hv4) tk_329 tk_330 tk_331 tk_44 tk_332 rfl rfl hdX3_isTold ⟨Nat.le_of_ble_eq_true rfl, Nat.le_of_ble_eq_true rfl⟩ rfl rfl (Nat.le_of_ble_eq_true rfl) dX5_tick_17 (fun H locs hH => ?_)
    refine lv_if_ne (tgt := 25) hF.x hF.b dX5_tick_20 (by decide) (fun c6 => ?_) (fun c6 => ?_)
    · rw [if_neg c6] at h
      refine lv_aload_n hF.x hF.b dX5_tick_25 rfl (lv_at hl 0 rfl) ?_
      refine gfC_0_2 hF hH tk_173 dX5_tick_26 ?_
      refine lv_aload_n hF.x hF.b dX5_tick_29 rfl (lv_at hl 0 rfl) ?_
      refine gfC_0_0 hF hH tk_171 dX5_tick_30 ?_
      refine gfC_1_9 hF hH tk_95 dX5_tick_33 ?_
      replace h := bd_some h
      obtain ⟨v7, σ8, hv7, h⟩ := h
      refine w_cVi (As := [.int (σ5 1 9)]) (rest := []) hF hH hl 12 (by decide) rfl rfl (tX3_stepsFrom l E hF.j _ _ _ hv7) tk_311 tk_312 tk_313 tk_44 tk_314 rfl rfl hdX3_stepsFrom ⟨Nat.le_of_ble_eq_true rfl, Nat.le_of_ble_eq_true rfl⟩ rfl rfl (Nat.le_of_ble_eq_true rfl) dX5_tick_36 (fun H locs hH => ?_)
      refine lv_iload_n hF.x hF.b dX5_tick_39 rfl (lv_at hl 1 rfl) ?_
      replace h := bd_some h
      obtain ⟨v9, σ10, hv9, h⟩ := h
      refine w_cSi (As := [.int v7, .int a1]) (rest := []) hF hH hl (tX5_bit l E hF.j _ _ _ _ hv9) tk_261 tk_227 tk_41 tk_228 rfl rfl hdX5_bit ⟨Nat.le_of_ble_eq_true rfl, Nat.le_of_ble_eq_true rfl⟩ rfl rfl (Nat.le_of_ble_eq_true rfl) dX5_tick_40 (fun H locs hH => ?_)
      refine lv_if_ne (tgt := 49) hF.x hF.b dX5_tick_43 (by decide) (fun c11 => ?_) (fun c11 => ?_)
      · rw [if_neg c11] at h
        refine lv_aload_n hF.x hF.b dX5_tick_49 rfl (lv_at hl 0 rfl) ?_
        refine gfC_0_0 hF hH tk_171 dX5_tick_50 ?_
        refine lv_aload_n hF.x hF.b dX5_tick_53 rfl (lv_at hl 0 rfl) ?_
        refine gfC_0_2 hF hH tk_173 dX5_tick_54 ?_
        refine lv_aload_n hF.x hF.b dX5_tick_57 rfl (lv_at hl 0 rfl) ?_
        refine gfC_0_0 hF hH tk_171 dX5_tick_58 ?_
        refine gfC_1_9 hF hH tk_95 dX5_tick_61 ?_
        replace h := bd_some h
        obtain ⟨v12, σ13, hv12, h⟩ := h
        refine w_cSi (As := [.int (σ10 1 9)]) (rest := [.ref (eA E 12), .ref (eA E 1)]) hF hH hl (tX0_ticked l E hF.j _ _ _ hv12) tk_335 tk_336 tk_48 tk_337 rfl rfl hdX0_ticked ⟨Nat.le_of_ble_eq_true rfl, Nat.le_of_ble_eq_true rfl⟩ rfl rfl (Nat.le_of_ble_eq_true rfl) dX5_tick_64 (fun H locs hH => ?_)
        refine lv_iload_n hF.x hF.b dX5_tick_67 rfl (lv_at hl 1 rfl) ?_
        replace h := bd_some h
        obtain ⟨v14, σ15, hv14, h⟩ := h
        refine w_cVi (As := [.int v12, .int a1]) (rest := [.ref (eA E 1)]) hF hH hl 12 (by decide) rfl rfl (tX3_withStep l E hF.j _ _ _ _ hv14) tk_338 tk_339 tk_340 tk_44 tk_341 rfl rfl hdX3_withStep ⟨Nat.le_of_ble_eq_true rfl, Nat.le_of_ble_eq_true rfl⟩ rfl rfl (Nat.le_of_ble_eq_true rfl) dX5_tick_68 (fun H locs hH => ?_)
        refine pfC_1_9 hF hH tk_95 dX5_tick_71 (fun σ16 H locs eσ16 hH => ?_)
        replace h := sv_at h eσ16
        clear eσ16
        refine lv_aload_n hF.x hF.b dX5_tick_74 rfl (lv_at hl 0 rfl) ?_
        refine gfC_0_0 hF hH tk_171 dX5_tick_75 ?_
        refine lv_dup hF.x hF.b dX5_tick_78 rfl ?_
        refine gfC_1_10 hF hH tk_96 dX5_tick_79 ?_
        refine lv_iconst (v := 1) hF.x hF.b dX5_tick_82 (by decide) ?_
        refine lv_iadd hF.x hF.b dX5_tick_83 ?_
        refine pfC_1_10 hF hH tk_96 dX5_tick_84 (fun σ17 H locs eσ17 hH => ?_)
        replace h := sv_at h eσ17
        clear eσ17
        refine lv_aload_n hF.x hF.b dX5_tick_87 rfl (lv_at hl 0 rfl) ?_
        refine gfC_0_0 hF hH tk_171 dX5_tick_88 ?_
        refine gfC_1_10 hF hH tk_96 dX5_tick_91 ?_
        exact hret _ _ _ _ _ _ hH h dX5_tick_94
      · rw [if_pos c11] at h
        refine lv_bipush (v := (-5)) hF.x hF.b dX5_tick_46 (by decide) ?_
        exact hret _ _ _ _ _ _ hH h dX5_tick_48
    · rw [if_pos c6] at h
      refine lv_iconst (v := (-1)) hF.x hF.b dX5_tick_23 (by decide) ?_
      exact hret _ _ _ _ _ _ hH h dX5_tick_24
  · rw [if_pos c3] at h
    refine lv_bipush (v := (-2)) hF.x hF.b dX5_tick_9 (by decide) ?_
    exact hret _ _ _ _ _ _ hH h dX5_tick_11
theorem hdX5_openLost : yX5_openLost.cls = RX5 ∧ yX5_openLost.cls ≠ "java/lang/invoke/MethodHandle" ∧ yX5_openLost.cls ≠ "java/lang/invoke/VarHandle" ∧ (parseMethodDescriptor yX5_openLost.desc).map (fun d => d.parameters.length) = some 0 := by decide +kernel
set_option maxHeartbeats 4000000 in
set_option maxRecDepth 100000 in
theorem tX5_openLost (l : Launch) (E : Ev) (hj : Inj kC E) (σ : Sg) (r : Int32 × Sg) (h : fX5_openLost σ = some r) : CI l yX5_openLost cX5_openLost 2 (some FieldType.int) (rmk 5 111) kC E [.ref (eA E 0)] σ r := by
  refine CI_i (lv := [(0, .ref (eA E 0))]) (by decide) hj (Nat.le_of_ble_eq_true rfl) rfl (fun p e s m args below meth c ls Q hF hret hH hl => ?_)
  unfold fX5_openLost at h
  refine lv_aload_n hF.x hF.b dX5_openLost_0 rfl (lv_at hl 0 rfl) ?_
  refine gfC_0_2 hF hH tk_173 dX5_openLost_1 ?_
  refine lv_aload_n hF.x hF.b dX5_openLost_4 rfl (lv_at hl 0 rfl) ?_
  refine gfC_0_0 hF hH tk_171 dX5_openLost_5 ?_
  refine gfC_1_9 hF hH tk_95 dX5_openLost_8 ?_
  replace h := bd_some h
  obtain ⟨v1, σ2, hv1, h⟩ := h
  refine w_cVi (As := [.int (σ 1 9)]) (rest := []) hF hH hl 12 (by decide) rfl rfl (tX3_lostLines l E hF.j _ _ _ hv1) tk_359 tk_360 tk_361 tk_44 tk_362 rfl rfl hdX3_lostLines ⟨Nat.le_of_ble_eq_true rfl, Nat.le_of_ble_eq_true rfl⟩ rfl rfl (Nat.le_of_ble_eq_true rfl) dX5_openLost_11 (fun H locs hH => ?_)
  refine lv_istore_n (lv' := [(1, .int v1), (0, .ref (eA E 0))]) hF.x hF.b dX5_openLost_14 rfl hl (by decide) rfl (fun ls hl => ?_)
  refine lv_aload_n hF.x hF.b dX5_openLost_15 rfl (lv_at hl 1 rfl) ?_
  refine gfC_0_0 hF hH tk_171 dX5_openLost_16 ?_
  refine lv_aload_n hF.x hF.b dX5_openLost_19 rfl (lv_at hl 1 rfl) ?_
  refine gfC_0_0 hF hH tk_171 dX5_openLost_20 ?_
  refine gfC_1_9 hF hH tk_95 dX5_openLost_23 ?_
  refine lv_iload_n hF.x hF.b dX5_openLost_26 rfl (lv_at hl 0 rfl) ?_
  replace h := bd_some h
  obtain ⟨v3, σ4, hv3, h⟩ := h
  refine w_cSi (As := [.int (σ2 1 9), .int v1]) (rest := [.ref (eA E 1)]) hF hH hl (tX0_withOpened l E hF.j _ _ _ _ hv3) tk_364 tk_365 tk_48 tk_366 rfl rfl hdX0_withOpened ⟨Nat.le_of_ble_eq_true rfl, Nat.le_of_ble_eq_true rfl⟩ rfl rfl (Nat.le_of_ble_eq_true rfl) dX5_openLost_27 (fun H locs hH => ?_)
  refine pfC_1_9 hF hH tk_95 dX5_openLost_30 (fun σ5 H locs eσ5 hH => ?_)
  replace h := sv_at h eσ5
  clear eσ5
  refine lv_iload_n hF.x hF.b dX5_openLost_33 rfl (lv_at hl 0 rfl) ?_
  replace h := bd_some h
  obtain ⟨v6, σ7, hv6, h⟩ := h
  refine w_cSi (As := [.int v1]) (rest := []) hF hH hl (tJ6_bitCount_0f7a4 l E hF.j _ _ _ hv6) tk_244 tk_245 tk_49 tk_246 rfl rfl hdJ6_bitCount_0f7a4 ⟨Nat.le_of_ble_eq_true rfl, Nat.le_of_ble_eq_true rfl⟩ rfl rfl (Nat.le_of_ble_eq_true rfl) dX5_openLost_34 (fun H locs hH => ?_)
  exact hret _ _ _ _ _ _ hH h dX5_openLost_37
theorem hdX5_fail : yX5_fail.cls = RX5 ∧ yX5_fail.cls ≠ "java/lang/invoke/MethodHandle" ∧ yX5_fail.cls ≠ "java/lang/invoke/VarHandle" ∧ (parseMethodDescriptor yX5_fail.desc).map (fun d => d.parameters.length) = some 1 := by decide +kernel
set_option maxHeartbeats 4000000 in
set_option maxRecDepth 100000 in
theorem tX5_fail (l : Launch) (E : Ev) (hj : Inj kC E) (a1 : Int32) (σ : Sg) (r : Int32 × Sg) (h : fX5_fail a1 σ = some r) : CI l yX5_fail cX5_fail 2 (some FieldType.int) (rmk 6 132) kC E [.ref (eA E 0), .int a1] σ r := by
  refine CI_i (lv := [(0, .ref (eA E 0)), (1, .int a1)]) (by decide) hj (Nat.le_of_ble_eq_true rfl) rfl (fun p e s m args below meth c ls Q hF hret hH hl => ?_)
  unfold fX5_fail at h
  refine lv_aload_n hF.x hF.b dX5_fail_0 rfl (lv_at hl 0 rfl) ?_
  refine gfC_0_0 hF hH tk_171 dX5_fail_1 ?_
  refine lv_iload_n hF.x hF.b dX5_fail_4 rfl (lv_at hl 1 rfl) ?_
  replace h := bd_some h
  obtain ⟨v1, σ2, hv1, h⟩ := h
  refine w_cVi (As := [.int a1]) (rest := []) hF hH hl 1 (by decide) rfl rfl (tX1_hasMachine l E hF.j _ _ _ hv1) tk_266 tk_267 tk_268 tk_42 tk_269 rfl rfl hdX1_hasMachine ⟨Nat.le_of_ble_eq_true rfl, Nat.le_of_ble_eq_true rfl⟩ rfl rfl (Nat.le_of_ble_eq_true rfl) dX5_fail_5 (fun H locs hH => ?_)
  refine lv_if_ne (tgt := 13) hF.x hF.b dX5_fail_8 (by decide) (fun c3 => ?_) (fun c3 => ?_)
  · rw [if_neg c3] at h
    refine lv_aload_n hF.x hF.b dX5_fail_13 rfl (lv_at hl 0 rfl) ?_
    refine gfC_0_0 hF hH tk_171 dX5_fail_14 ?_
    refine gfC_1_9 hF hH tk_95 dX5_fail_17 ?_
    refine lv_iload_n hF.x hF.b dX5_fail_20 rfl (lv_at hl 1 rfl) ?_
    replace h := bd_some h
    obtain ⟨v4, σ5, hv4, h⟩ := h
    refine w_cSi (As := [.int (σ2 1 9), .int a1]) (rest := []) hF hH hl (tX0_isRunning l E hF.j _ _ _ _ hv4) tk_270 tk_271 tk_48 tk_272 rfl rfl hdX0_isRunning ⟨Nat.le_of_ble_eq_true rfl, Nat.le_of_ble_eq_true rfl⟩ rfl rfl (Nat.le_of_ble_eq_true rfl) dX5_fail_21 (fun H locs hH => ?_)
    refine lv_if_ne (tgt := 30) hF.x hF.b dX5_fail_24 (by decide) (fun c6 => ?_) (fun c6 => ?_)
    · rw [if_neg c6] at h
      refine lv_aload_n hF.x hF.b dX5_fail_30 rfl (lv_at hl 0 rfl) ?_
      refine gfC_0_0 hF hH tk_171 dX5_fail_31 ?_
      refine lv_aload_n hF.x hF.b dX5_fail_34 rfl (lv_at hl 0 rfl) ?_
      refine gfC_0_0 hF hH tk_171 dX5_fail_35 ?_
      refine gfC_1_9 hF hH tk_95 dX5_fail_38 ?_
      refine lv_iload_n hF.x hF.b dX5_fail_41 rfl (lv_at hl 1 rfl) ?_
      replace h := bd_some h
      obtain ⟨v7, σ8, hv7, h⟩ := h
      refine w_cSi (As := [.int (σ5 1 9), .int a1]) (rest := [.ref (eA E 1)]) hF hH hl (tX0_withStopped l E hF.j _ _ _ _ hv7) tk_352 tk_353 tk_48 tk_354 rfl rfl hdX0_withStopped ⟨Nat.le_of_ble_eq_true rfl, Nat.le_of_ble_eq_true rfl⟩ rfl rfl (Nat.le_of_ble_eq_true rfl) dX5_fail_42 (fun H locs hH => ?_)
      refine pfC_1_9 hF hH tk_95 dX5_fail_45 (fun σ9 H locs eσ9 hH => ?_)
      replace h := sv_at h eσ9
      clear eσ9
      refine lv_aload_n hF.x hF.b dX5_fail_48 rfl (lv_at hl 0 rfl) ?_
      replace h := bd_some h
      obtain ⟨v10, σ11, hv10, h⟩ := h
      refine w_cVi (As := []) (rest := []) hF hH hl 0 (by decide) rfl rfl (tX5_openLost l E hF.j _ _ hv10) tk_355 tk_357 tk_4 tk_41 tk_358 rfl rfl hdX5_openLost ⟨Nat.le_of_ble_eq_true rfl, Nat.le_of_ble_eq_true rfl⟩ rfl rfl (Nat.le_of_ble_eq_true rfl) dX5_fail_49 (fun H locs hH => ?_)
      exact hret _ _ _ _ _ _ hH h dX5_fail_52
    · rw [if_pos c6] at h
      refine lv_bipush (v := (-3)) hF.x hF.b dX5_fail_27 (by decide) ?_
      exact hret _ _ _ _ _ _ hH h dX5_fail_29
  · rw [if_pos c3] at h
    refine lv_iconst (v := (-1)) hF.x hF.b dX5_fail_11 (by decide) ?_
    exact hret _ _ _ _ _ _ hH h dX5_fail_12
theorem hdX5_trip : yX5_trip.cls = RX5 ∧ yX5_trip.cls ≠ "java/lang/invoke/MethodHandle" ∧ yX5_trip.cls ≠ "java/lang/invoke/VarHandle" ∧ (parseMethodDescriptor yX5_trip.desc).map (fun d => d.parameters.length) = some 1 := by decide +kernel
set_option maxHeartbeats 4000000 in
set_option maxRecDepth 100000 in
theorem tX5_trip (l : Launch) (E : Ev) (hj : Inj kC E) (a1 : Int32) (σ : Sg) (r : Int32 × Sg) (h : fX5_trip a1 σ = some r) : CI l yX5_trip cX5_trip 2 (some FieldType.int) (rmk 6 132) kC E [.ref (eA E 0), .int a1] σ r := by
  refine CI_i (lv := [(0, .ref (eA E 0)), (1, .int a1)]) (by decide) hj (Nat.le_of_ble_eq_true rfl) rfl (fun p e s m args below meth c ls Q hF hret hH hl => ?_)
  unfold fX5_trip at h
  refine lv_aload_n hF.x hF.b dX5_trip_0 rfl (lv_at hl 0 rfl) ?_
  refine gfC_0_0 hF hH tk_171 dX5_trip_1 ?_
  refine lv_iload_n hF.x hF.b dX5_trip_4 rfl (lv_at hl 1 rfl) ?_
  replace h := bd_some h
  obtain ⟨v1, σ2, hv1, h⟩ := h
  refine w_cVi (As := [.int a1]) (rest := []) hF hH hl 1 (by decide) rfl rfl (tX1_hasLine l E hF.j _ _ _ hv1) tk_254 tk_255 tk_256 tk_42 tk_257 rfl rfl hdX1_hasLine ⟨Nat.le_of_ble_eq_true rfl, Nat.le_of_ble_eq_true rfl⟩ rfl rfl (Nat.le_of_ble_eq_true rfl) dX5_trip_5 (fun H locs hH => ?_)
  refine lv_if_ne (tgt := 13) hF.x hF.b dX5_trip_8 (by decide) (fun c3 => ?_) (fun c3 => ?_)
  · rw [if_neg c3] at h
    refine lv_aload_n hF.x hF.b dX5_trip_13 rfl (lv_at hl 0 rfl) ?_
    refine gfC_0_0 hF hH tk_171 dX5_trip_14 ?_
    refine gfC_1_9 hF hH tk_95 dX5_trip_17 ?_
    replace h := bd_some h
    obtain ⟨v4, σ5, hv4, h⟩ := h
    refine w_cSi (As := [.int (σ2 1 9)]) (rest := []) hF hH hl (tX0_closed l E hF.j _ _ _ hv4) tk_258 tk_259 tk_48 tk_260 rfl rfl hdX0_closed ⟨Nat.le_of_ble_eq_true rfl, Nat.le_of_ble_eq_true rfl⟩ rfl rfl (Nat.le_of_ble_eq_true rfl) dX5_trip_20 (fun H locs hH => ?_)
    refine lv_iload_n hF.x hF.b dX5_trip_23 rfl (lv_at hl 1 rfl) ?_
    replace h := bd_some h
    obtain ⟨v6, σ7, hv6, h⟩ := h
    refine w_cSi (As := [.int v4, .int a1]) (rest := []) hF hH hl (tX5_bit l E hF.j _ _ _ _ hv6) tk_261 tk_227 tk_41 tk_228 rfl rfl hdX5_bit ⟨Nat.le_of_ble_eq_true rfl, Nat.le_of_ble_eq_true rfl⟩ rfl rfl (Nat.le_of_ble_eq_true rfl) dX5_trip_24 (fun H locs hH => ?_)
    refine lv_if_ne (tgt := 33) hF.x hF.b dX5_trip_27 (by decide) (fun c8 => ?_) (fun c8 => ?_)
    · rw [if_neg c8] at h
      refine lv_aload_n hF.x hF.b dX5_trip_33 rfl (lv_at hl 0 rfl) ?_
      refine gfC_0_0 hF hH tk_171 dX5_trip_34 ?_
      refine lv_aload_n hF.x hF.b dX5_trip_37 rfl (lv_at hl 0 rfl) ?_
      refine gfC_0_0 hF hH tk_171 dX5_trip_38 ?_
      refine gfC_1_9 hF hH tk_95 dX5_trip_41 ?_
      refine lv_iconst (v := 1) hF.x hF.b dX5_trip_44 (by decide) ?_
      refine lv_iload_n hF.x hF.b dX5_trip_45 rfl (lv_at hl 1 rfl) ?_
      refine lv_ishl hF.x hF.b dX5_trip_46 ?_
      replace h := bd_some h
      obtain ⟨v9, σ10, hv9, h⟩ := h
      refine w_cSi (As := [.int (σ7 1 9), .int ((1 : Int32) <<< (a1 &&& 31))]) (rest := [.ref (eA E 1)]) hF hH hl (tX0_withOpened l E hF.j _ _ _ _ hv9) tk_364 tk_365 tk_48 tk_366 rfl rfl hdX0_withOpened ⟨Nat.le_of_ble_eq_true rfl, Nat.le_of_ble_eq_true rfl⟩ rfl rfl (Nat.le_of_ble_eq_true rfl) dX5_trip_47 (fun H locs hH => ?_)
      refine pfC_1_9 hF hH tk_95 dX5_trip_50 (fun σ11 H locs eσ11 hH => ?_)
      replace h := sv_at h eσ11
      clear eσ11
      refine lv_iconst (v := 1) hF.x hF.b dX5_trip_53 (by decide) ?_
      refine lv_aload_n hF.x hF.b dX5_trip_54 rfl (lv_at hl 0 rfl) ?_
      replace h := bd_some h
      obtain ⟨v12, σ13, hv12, h⟩ := h
      refine w_cVi (As := []) (rest := [.int 1]) hF hH hl 0 (by decide) rfl rfl (tX5_openLost l E hF.j _ _ hv12) tk_355 tk_357 tk_4 tk_41 tk_358 rfl rfl hdX5_openLost ⟨Nat.le_of_ble_eq_true rfl, Nat.le_of_ble_eq_true rfl⟩ rfl rfl (Nat.le_of_ble_eq_true rfl) dX5_trip_55 (fun H locs hH => ?_)
      refine lv_iadd hF.x hF.b dX5_trip_58 ?_
      exact hret _ _ _ _ _ _ hH h dX5_trip_59
    · rw [if_pos c8] at h
      refine lv_bipush (v := (-3)) hF.x hF.b dX5_trip_30 (by decide) ?_
      exact hret _ _ _ _ _ _ hH h dX5_trip_32
  · rw [if_pos c3] at h
    refine lv_iconst (v := (-1)) hF.x hF.b dX5_trip_11 (by decide) ?_
    exact hret _ _ _ _ _ _ hH h dX5_trip_12
theorem hdX5_isGoal : yX5_isGoal.cls = RX5 ∧ yX5_isGoal.cls ≠ "java/lang/invoke/MethodHandle" ∧ yX5_isGoal.cls ≠ "java/lang/invoke/VarHandle" ∧ (parseMethodDescriptor yX5_isGoal.desc).map (fun d => d.parameters.length) = some 2 := by decide +kernel
set_option maxHeartbeats 4000000 in
set_option maxRecDepth 100000 in
theorem tX5_isGoal (l : Launch) (E : Ev) (hj : Inj kC E) (a1 : Int32) (a2 : Int32) (σ : Sg) (r : Int32 × Sg) (h : fX5_isGoal a1 a2 σ = some r) : CI l yX5_isGoal cX5_isGoal 3 (some FieldType.boolean) (rmk 1 21) kC E [.ref (eA E 0), .int a1, .int a2] σ r := by
  refine CI_z (lv := [(0, .ref (eA E 0)), (1, .int a1), (2, .int a2)]) (by decide) hj (Nat.le_of_ble_eq_true rfl) rfl (fun p e s m args below meth c ls Q hF hret hH hl => ?_)
  have w34 : ∀ (t0 : Int32) (σ : Sg) (H : Heap) (locs : List Loc) (ls : Array Slot), fX5_isGoal_34 t0 σ = some r → HP kC E s σ H locs → lv_has ls 3 [(0, .ref (eA E 0))] → W p l e (rmk 1 21) s m args below meth c H locs 0 0 Q (F0 m 34 ls [.int t0]) := by
    intro t0 σ H locs ls h hH hl
    unfold fX5_isGoal_34 at h
    exact hret _ _ _ _ _ _ hH h dX5_isGoal_34
  have w33 : ∀ (σ : Sg) (H : Heap) (locs : List Loc) (ls : Array Slot), fX5_isGoal_33 σ = some r → HP kC E s σ H locs → lv_has ls 3 [(0, .ref (eA E 0))] → W p l e (rmk 1 21) s m args below meth c H locs 0 0 Q (F0 m 33 ls []) := by
    intro σ H locs ls h hH hl
    unfold fX5_isGoal_33 at h
    refine lv_iconst (v := 0) hF.x hF.b dX5_isGoal_33 (by decide) ?_
    exact w34 _ _ _ _ _ h hH (lv_sub hl [0] rfl)
  unfold fX5_isGoal at h
  refine lv_iload_n hF.x hF.b dX5_isGoal_0 rfl (lv_at hl 1 rfl) ?_
  refine lv_aload_n hF.x hF.b dX5_isGoal_1 rfl (lv_at hl 0 rfl) ?_
  refine gfC_0_0 hF hH tk_171 dX5_isGoal_2 ?_
  refine gfC_1_4 hF hH tk_81 dX5_isGoal_5 ?_
  replace h := bd_some h
  obtain ⟨v1, σ2, hv1, h⟩ := h
  refine w_cSi (As := [.int (σ 1 4)]) (rest := [.int a1]) hF hH hl (tX5_setOfFirst l E hF.j _ _ _ hv1) tk_379 tk_380 tk_41 tk_381 rfl rfl hdX5_setOfFirst ⟨Nat.le_of_ble_eq_true rfl, Nat.le_of_ble_eq_true rfl⟩ rfl rfl (Nat.le_of_ble_eq_true rfl) dX5_isGoal_8 (fun H locs hH => ?_)
  replace h := bd_some h
  obtain ⟨v3, σ4, hv3, h⟩ := h
  refine w_cSi (As := [.int a1, .int v1]) (rest := []) hF hH hl (tX5_isWithin l E hF.j _ _ _ _ hv3) tk_197 tk_198 tk_41 tk_199 rfl rfl hdX5_isWithin ⟨Nat.le_of_ble_eq_true rfl, Nat.le_of_ble_eq_true rfl⟩ rfl rfl (Nat.le_of_ble_eq_true rfl) dX5_isGoal_11 (fun H locs hH => ?_)
  refine lv_if_eq (tgt := 33) hF.x hF.b dX5_isGoal_14 (by decide) (fun c5 => ?_) (fun c5 => ?_)
  · rw [if_pos c5] at h
    exact w33 _ _ _ _ h hH (lv_sub hl [0] rfl)
  · rw [if_neg c5] at h
    refine lv_iload_n hF.x hF.b dX5_isGoal_17 rfl (lv_at hl 2 rfl) ?_
    refine lv_bipush (v := 6) hF.x hF.b dX5_isGoal_18 (by decide) ?_
    replace h := bd_some h
    obtain ⟨v6, σ7, hv6, h⟩ := h
    refine w_cSi (As := [.int 6]) (rest := [.int a2]) hF hH hl (tX5_setOfFirst l E hF.j _ _ _ hv6) tk_379 tk_380 tk_41 tk_381 rfl rfl hdX5_setOfFirst ⟨Nat.le_of_ble_eq_true rfl, Nat.le_of_ble_eq_true rfl⟩ rfl rfl (Nat.le_of_ble_eq_true rfl) dX5_isGoal_20 (fun H locs hH => ?_)
    replace h := bd_some h
    obtain ⟨v8, σ9, hv8, h⟩ := h
    refine w_cSi (As := [.int a2, .int v6]) (rest := []) hF hH hl (tX5_isWithin l E hF.j _ _ _ _ hv8) tk_197 tk_198 tk_41 tk_199 rfl rfl hdX5_isWithin ⟨Nat.le_of_ble_eq_true rfl, Nat.le_of_ble_eq_true rfl⟩ rfl rfl (Nat.le_of_ble_eq_true rfl) dX5_isGoal_23 (fun H locs hH => ?_)
    refine lv_if_eq (tgt := 33) hF.x hF.b dX5_isGoal_26 (by decide) (fun c10 => ?_) (fun c10 => ?_)
    · rw [if_pos c10] at h
      exact w33 _ _ _ _ h hH (lv_sub hl [0] rfl)
    · rw [if_neg c10] at h
      refine lv_iconst (v := 1) hF.x hF.b dX5_isGoal_29 (by decide) ?_
      refine lv_goto (tgt := 34) hF.x hF.b dX5_isGoal_30 (by decide) ?_
      exact w34 _ _ _ _ _ h hH (lv_sub hl [0] rfl)
theorem hdX5_way : yX5_way.cls = RX5 ∧ yX5_way.cls ≠ "java/lang/invoke/MethodHandle" ∧ yX5_way.cls ≠ "java/lang/invoke/VarHandle" ∧ (parseMethodDescriptor yX5_way.desc).map (fun d => d.parameters.length) = some 3 := by decide +kernel
set_option maxHeartbeats 4000000 in
set_option maxRecDepth 100000 in
theorem tX5_way (l : Launch) (E : Ev) (hj : Inj kC E) (a1 : Int32) (a2 : Int32) (a3 : Int32) (σ : Sg) (r : Int32 × Sg) (h : fX5_way a1 a2 a3 σ = some r) : CI l yX5_way cX5_way 6 (some FieldType.int) (rmk 6 155) kC E [.ref (eA E 0), .int a1, .int a2, .int a3] σ r := by
  refine CI_i (lv := [(0, .ref (eA E 0)), (1, .int a1), (2, .int a2), (3, .int a3)]) (by decide) hj (Nat.le_of_ble_eq_true rfl) rfl (fun p e s m args below meth c ls Q hF hret hH hl => ?_)
  have w14 : ∀ (σ : Sg) (H : Heap) (locs : List Loc) (ls : Array Slot), fX5_way_14 σ = some r → HP kC E s σ H locs → lv_has ls 6 [(0, .ref (eA E 0))] → W p l e (rmk 6 155) s m args below meth c H locs 0 0 Q (F0 m 14 ls []) := by
    intro σ H locs ls h hH hl
    unfold fX5_way_14 at h
    refine lv_bipush (v := (-2)) hF.x hF.b dX5_way_14 (by decide) ?_
    exact hret _ _ _ _ _ _ hH h dX5_way_16
  have w89 : ∀ (t0 : Int32) (σ : Sg) (H : Heap) (locs : List Loc) (ls : Array Slot), fX5_way_89 t0 σ = some r → HP kC E s σ H locs → lv_has ls 6 [(0, .ref (eA E 0))] → W p l e (rmk 6 155) s m args below meth c H locs 0 0 Q (F0 m 89 ls [.int t0]) := by
    intro t0 σ H locs ls h hH hl
    unfold fX5_way_89 at h
    exact hret _ _ _ _ _ _ hH h dX5_way_89
  unfold fX5_way at h
  refine lv_aload_n hF.x hF.b dX5_way_0 rfl (lv_at hl 0 rfl) ?_
  refine lv_iload_n hF.x hF.b dX5_way_1 rfl (lv_at hl 1 rfl) ?_
  refine lv_iload_n hF.x hF.b dX5_way_2 rfl (lv_at hl 2 rfl) ?_
  replace h := bd_some h
  obtain ⟨v1, σ2, hv1, h⟩ := h
  refine w_cVi (As := [.int a1, .int a2]) (rest := []) hF hH hl 0 (by decide) rfl rfl (tX5_isGoal l E hF.j _ _ _ _ hv1) tk_375 tk_377 tk_5 tk_41 tk_378 rfl rfl hdX5_isGoal ⟨Nat.le_of_ble_eq_true rfl, Nat.le_of_ble_eq_true rfl⟩ rfl rfl (Nat.le_of_ble_eq_true rfl) dX5_way_3 (fun H locs hH => ?_)
  refine lv_if_eq (tgt := 14) hF.x hF.b dX5_way_6 (by decide) (fun c3 => ?_) (fun c3 => ?_)
  · rw [if_pos c3] at h
    exact w14 _ _ _ _ h hH (lv_sub hl [0] rfl)
  · rw [if_neg c3] at h
    refine lv_iload_n hF.x hF.b dX5_way_9 rfl (lv_at hl 3 rfl) ?_
    refine lv_iconst (v := (-1)) hF.x hF.b dX5_way_10 (by decide) ?_
    refine lv_icmp_ge (tgt := 17) hF.x hF.b dX5_way_11 (by decide) (fun c4 => ?_) (fun c4 => ?_)
    · rw [if_pos c4] at h
      refine lv_aload_n hF.x hF.b dX5_way_17 rfl (lv_at hl 0 rfl) ?_
      refine gfC_0_3 hF hH tk_174 dX5_way_18 ?_
      refine lv_aload_n hF.x hF.b dX5_way_21 rfl (lv_at hl 0 rfl) ?_
      refine gfC_0_0 hF hH tk_171 dX5_way_22 ?_
      refine gfC_1_9 hF hH tk_95 dX5_way_25 ?_
      refine lv_iload_n hF.x hF.b dX5_way_28 rfl (lv_at hl 1 rfl) ?_
      refine lv_iload_n hF.x hF.b dX5_way_29 rfl (lv_at hl 2 rfl) ?_
      replace h := bd_some h
      obtain ⟨v5, σ6, hv5, h⟩ := h
      refine w_cVi (As := [.int (σ2 1 9), .int a1, .int a2]) (rest := []) hF hH hl 13 (by decide) rfl rfl (tX4_plan l E hF.j _ _ _ _ _ hv5) tk_382 tk_383 tk_384 tk_45 tk_385 rfl rfl hdX4_plan ⟨Nat.le_of_ble_eq_true rfl, Nat.le_of_ble_eq_true rfl⟩ rfl rfl (Nat.le_of_ble_eq_true rfl) dX5_way_30 (fun H locs hH => ?_)
      refine lv_istore (lv' := [(4, .int v5), (0, .ref (eA E 0)), (1, .int a1), (2, .int a2), (3, .int a3)]) hF.x hF.b dX5_way_33 hl (by decide) rfl (fun ls hl => ?_)
      refine lv_iload hF.x hF.b dX5_way_35 (lv_at hl 0 rfl) ?_
      refine lv_iconst (v := (-1)) hF.x hF.b dX5_way_37 (by decide) ?_
      refine lv_icmp_ne (tgt := 44) hF.x hF.b dX5_way_38 (by decide) (fun c7 => ?_) (fun c7 => ?_)
      · rw [if_neg c7] at h
        refine lv_aload_n hF.x hF.b dX5_way_44 rfl (lv_at hl 1 rfl) ?_
        refine gfC_0_3 hF hH tk_174 dX5_way_45 ?_
        refine lv_iload hF.x hF.b dX5_way_48 (lv_at hl 0 rfl) ?_
        replace h := bd_some h
        obtain ⟨v8, σ9, hv8, h⟩ := h
        refine w_cVi (As := [.int v5]) (rest := []) hF hH hl 13 (by decide) rfl rfl (tX4_ticksTo l E hF.j _ _ _ hv8) tk_407 tk_408 tk_409 tk_45 tk_410 rfl rfl hdX4_ticksTo ⟨Nat.le_of_ble_eq_true rfl, Nat.le_of_ble_eq_true rfl⟩ rfl rfl (Nat.le_of_ble_eq_true rfl) dX5_way_50 (fun H locs hH => ?_)
        refine lv_istore (lv' := [(5, .int v8), (4, .int v5), (0, .ref (eA E 0)), (1, .int a1), (2, .int a2), (3, .int a3)]) hF.x hF.b dX5_way_53 hl (by decide) rfl (fun ls hl => ?_)
        refine lv_iload_n hF.x hF.b dX5_way_55 rfl (lv_at hl 5 rfl) ?_
        refine lv_iconst (v := (-1)) hF.x hF.b dX5_way_56 (by decide) ?_
        refine lv_icmp_ne (tgt := 63) hF.x hF.b dX5_way_57 (by decide) (fun c10 => ?_) (fun c10 => ?_)
        · rw [if_neg c10] at h
          refine lv_iload_n hF.x hF.b dX5_way_63 rfl (lv_at hl 5 rfl) ?_
          refine lv_iload hF.x hF.b dX5_way_64 (lv_at hl 0 rfl) ?_
          refine lv_icmp_ge (tgt := 87) hF.x hF.b dX5_way_66 (by decide) (fun c11 => ?_) (fun c11 => ?_)
          · rw [if_pos c11] at h
            refine lv_bipush (v := (-6)) hF.x hF.b dX5_way_87 (by decide) ?_
            exact w89 _ _ _ _ _ h hH (lv_sub hl [2] rfl)
          · rw [if_neg c11] at h
            refine lv_aload_n hF.x hF.b dX5_way_69 rfl (lv_at hl 2 rfl) ?_
            refine gfC_0_3 hF hH tk_174 dX5_way_70 ?_
            refine lv_iload hF.x hF.b dX5_way_73 (lv_at hl 1 rfl) ?_
            refine lv_iload hF.x hF.b dX5_way_75 (lv_at hl 0 rfl) ?_
            refine lv_iconst (v := 1) hF.x hF.b dX5_way_77 (by decide) ?_
            refine lv_isub hF.x hF.b dX5_way_78 ?_
            refine lv_iload_n hF.x hF.b dX5_way_79 rfl (lv_at hl 5 rfl) ?_
            refine lv_isub hF.x hF.b dX5_way_80 ?_
            replace h := bd_some h
            obtain ⟨v12, σ13, hv12, h⟩ := h
            refine w_cVi (As := [.int v5, .int ((v8 - (1 : Int32)) - a3)]) (rest := []) hF hH hl 13 (by decide) rfl rfl (tX4_stepBefore l E hF.j _ _ _ _ hv12) tk_411 tk_412 tk_413 tk_45 tk_414 rfl rfl hdX4_stepBefore ⟨Nat.le_of_ble_eq_true rfl, Nat.le_of_ble_eq_true rfl⟩ rfl rfl (Nat.le_of_ble_eq_true rfl) dX5_way_81 (fun H locs hH => ?_)
            refine lv_goto (tgt := 89) hF.x hF.b dX5_way_84 (by decide) ?_
            exact w89 _ _ _ _ _ h hH (lv_sub hl [2] rfl)
        · rw [if_pos c10] at h
          refine lv_iload hF.x hF.b dX5_way_60 (lv_at hl 0 rfl) ?_
          exact hret _ _ _ _ _ _ hH h dX5_way_62
      · rw [if_pos c7] at h
        refine lv_bipush (v := (-6)) hF.x hF.b dX5_way_41 (by decide) ?_
        exact hret _ _ _ _ _ _ hH h dX5_way_43
    · rw [if_neg c4] at h
      exact w14 _ _ _ _ h hH (lv_sub hl [0] rfl)
theorem hdX5_go : yX5_go.cls = RX5 ∧ yX5_go.cls ≠ "java/lang/invoke/MethodHandle" ∧ yX5_go.cls ≠ "java/lang/invoke/VarHandle" ∧ (parseMethodDescriptor yX5_go.desc).map (fun d => d.parameters.length) = some 2 := by decide +kernel
set_option maxHeartbeats 4000000 in
set_option maxRecDepth 100000 in
theorem tX5_go (l : Launch) (E : Ev) (hj : Inj kC E) (a1 : Int32) (a2 : Int32) (σ : Sg) (r : Int32 × Sg) (h : fX5_go a1 a2 σ = some r) : CI l yX5_go cX5_go 4 (some FieldType.int) (rmk 6 155) kC E [.ref (eA E 0), .int a1, .int a2] σ r := by
  refine CI_i (lv := [(0, .ref (eA E 0)), (1, .int a1), (2, .int a2)]) (by decide) hj (Nat.le_of_ble_eq_true rfl) rfl (fun p e s m args below meth c ls Q hF hret hH hl => ?_)
  unfold fX5_go at h
  refine lv_aload_n hF.x hF.b dX5_go_0 rfl (lv_at hl 0 rfl) ?_
  refine lv_iload_n hF.x hF.b dX5_go_1 rfl (lv_at hl 1 rfl) ?_
  refine lv_iload_n hF.x hF.b dX5_go_2 rfl (lv_at hl 2 rfl) ?_
  replace h := bd_some h
  obtain ⟨v1, σ2, hv1, h⟩ := h
  refine w_cVi (As := [.int a1, .int a2]) (rest := []) hF hH hl 0 (by decide) rfl rfl (tX5_isGoal l E hF.j _ _ _ _ hv1) tk_375 tk_377 tk_5 tk_41 tk_378 rfl rfl hdX5_isGoal ⟨Nat.le_of_ble_eq_true rfl, Nat.le_of_ble_eq_true rfl⟩ rfl rfl (Nat.le_of_ble_eq_true rfl) dX5_go_3 (fun H locs hH => ?_)
  refine lv_if_ne (tgt := 12) hF.x hF.b dX5_go_6 (by decide) (fun c3 => ?_) (fun c3 => ?_)
  · rw [if_neg c3] at h
    refine lv_aload_n hF.x hF.b dX5_go_12 rfl (lv_at hl 0 rfl) ?_
    refine gfC_0_3 hF hH tk_174 dX5_go_13 ?_
    refine lv_aload_n hF.x hF.b dX5_go_16 rfl (lv_at hl 0 rfl) ?_
    refine gfC_0_0 hF hH tk_171 dX5_go_17 ?_
    refine gfC_1_9 hF hH tk_95 dX5_go_20 ?_
    refine lv_iload_n hF.x hF.b dX5_go_23 rfl (lv_at hl 1 rfl) ?_
    refine lv_iload_n hF.x hF.b dX5_go_24 rfl (lv_at hl 2 rfl) ?_
    replace h := bd_some h
    obtain ⟨v4, σ5, hv4, h⟩ := h
    refine w_cVi (As := [.int (σ2 1 9), .int a1, .int a2]) (rest := []) hF hH hl 13 (by decide) rfl rfl (tX4_plan l E hF.j _ _ _ _ _ hv4) tk_382 tk_383 tk_384 tk_45 tk_385 rfl rfl hdX4_plan ⟨Nat.le_of_ble_eq_true rfl, Nat.le_of_ble_eq_true rfl⟩ rfl rfl (Nat.le_of_ble_eq_true rfl) dX5_go_25 (fun H locs hH => ?_)
    refine lv_istore_n (lv' := [(3, .int v4), (0, .ref (eA E 0)), (1, .int a1), (2, .int a2)]) hF.x hF.b dX5_go_28 rfl hl (by decide) rfl (fun ls hl => ?_)
    refine lv_iload_n hF.x hF.b dX5_go_29 rfl (lv_at hl 0 rfl) ?_
    refine lv_iconst (v := (-1)) hF.x hF.b dX5_go_30 (by decide) ?_
    refine lv_icmp_ne (tgt := 37) hF.x hF.b dX5_go_31 (by decide) (fun c6 => ?_) (fun c6 => ?_)
    · rw [if_neg c6] at h
      refine lv_aload_n hF.x hF.b dX5_go_37 rfl (lv_at hl 1 rfl) ?_
      refine gfC_0_0 hF hH tk_171 dX5_go_38 ?_
      refine lv_aload_n hF.x hF.b dX5_go_41 rfl (lv_at hl 1 rfl) ?_
      refine gfC_0_3 hF hH tk_174 dX5_go_42 ?_
      refine lv_iload_n hF.x hF.b dX5_go_45 rfl (lv_at hl 0 rfl) ?_
      replace h := bd_some h
      obtain ⟨v7, σ8, hv7, h⟩ := h
      refine w_cVi (As := [.int v4]) (rest := [.ref (eA E 1)]) hF hH hl 13 (by decide) rfl rfl (tX4_codeAt l E hF.j _ _ _ hv7) tk_419 tk_420 tk_421 tk_45 tk_422 rfl rfl hdX4_codeAt ⟨Nat.le_of_ble_eq_true rfl, Nat.le_of_ble_eq_true rfl⟩ rfl rfl (Nat.le_of_ble_eq_true rfl) dX5_go_46 (fun H locs hH => ?_)
      refine pfC_1_9 hF hH tk_95 dX5_go_49 (fun σ9 H locs eσ9 hH => ?_)
      replace h := sv_at h eσ9
      clear eσ9
      refine lv_aload_n hF.x hF.b dX5_go_52 rfl (lv_at hl 1 rfl) ?_
      refine gfC_0_0 hF hH tk_171 dX5_go_53 ?_
      refine lv_dup hF.x hF.b dX5_go_56 rfl ?_
      refine gfC_1_10 hF hH tk_96 dX5_go_57 ?_
      refine lv_aload_n hF.x hF.b dX5_go_60 rfl (lv_at hl 1 rfl) ?_
      refine gfC_0_3 hF hH tk_174 dX5_go_61 ?_
      refine lv_iload_n hF.x hF.b dX5_go_64 rfl (lv_at hl 0 rfl) ?_
      replace h := bd_some h
      obtain ⟨v10, σ11, hv10, h⟩ := h
      refine w_cVi (As := [.int v4]) (rest := [.int (σ9 1 10), .ref (eA E 1)]) hF hH hl 13 (by decide) rfl rfl (tX4_ticksTo l E hF.j _ _ _ hv10) tk_407 tk_408 tk_409 tk_45 tk_410 rfl rfl hdX4_ticksTo ⟨Nat.le_of_ble_eq_true rfl, Nat.le_of_ble_eq_true rfl⟩ rfl rfl (Nat.le_of_ble_eq_true rfl) dX5_go_65 (fun H locs hH => ?_)
      refine lv_iadd hF.x hF.b dX5_go_68 ?_
      refine pfC_1_10 hF hH tk_96 dX5_go_69 (fun σ12 H locs eσ12 hH => ?_)
      replace h := sv_at h eσ12
      clear eσ12
      refine lv_aload_n hF.x hF.b dX5_go_72 rfl (lv_at hl 1 rfl) ?_
      refine gfC_0_0 hF hH tk_171 dX5_go_73 ?_
      refine gfC_1_10 hF hH tk_96 dX5_go_76 ?_
      exact hret _ _ _ _ _ _ hH h dX5_go_79
    · rw [if_pos c6] at h
      refine lv_bipush (v := (-5)) hF.x hF.b dX5_go_34 (by decide) ?_
      exact hret _ _ _ _ _ _ hH h dX5_go_36
  · rw [if_pos c3] at h
    refine lv_bipush (v := (-2)) hF.x hF.b dX5_go_9 (by decide) ?_
    exact hret _ _ _ _ _ _ hH h dX5_go_11
theorem hdX5_needed : yX5_needed.cls = RX5 ∧ yX5_needed.cls ≠ "java/lang/invoke/MethodHandle" ∧ yX5_needed.cls ≠ "java/lang/invoke/VarHandle" ∧ (parseMethodDescriptor yX5_needed.desc).map (fun d => d.parameters.length) = some 3 := by decide +kernel
set_option maxHeartbeats 4000000 in
set_option maxRecDepth 100000 in
theorem tX5_needed (l : Launch) (E : Ev) (hj : Inj kC E) (a1 : Int32) (a2 : Int32) (a3 : Int32) (σ : Sg) (r : Int32 × Sg) (h : fX5_needed a1 a2 a3 σ = some r) : CI l yX5_needed cX5_needed 5 (some FieldType.int) (rmk 6 159) kC E [.ref (eA E 0), .int a1, .int a2, .int a3] σ r := by
  refine CI_i (lv := [(0, .ref (eA E 0)), (1, .int a1), (2, .int a2), (3, .int a3)]) (by decide) hj (Nat.le_of_ble_eq_true rfl) rfl (fun p e s m args below meth c ls Q hF hret hH hl => ?_)
  have w17 : ∀ (σ : Sg) (H : Heap) (locs : List Loc) (ls : Array Slot), fX5_needed_17 σ = some r → HP kC E s σ H locs → lv_has ls 5 [(0, .ref (eA E 0))] → W p l e (rmk 6 159) s m args below meth c H locs 0 0 Q (F0 m 17 ls []) := by
    intro σ H locs ls h hH hl
    unfold fX5_needed_17 at h
    refine lv_bipush (v := (-2)) hF.x hF.b dX5_needed_17 (by decide) ?_
    exact hret _ _ _ _ _ _ hH h dX5_needed_19
  unfold fX5_needed at h
  refine lv_aload_n hF.x hF.b dX5_needed_0 rfl (lv_at hl 0 rfl) ?_
  refine lv_iload_n hF.x hF.b dX5_needed_1 rfl (lv_at hl 1 rfl) ?_
  refine lv_iload_n hF.x hF.b dX5_needed_2 rfl (lv_at hl 2 rfl) ?_
  replace h := bd_some h
  obtain ⟨v1, σ2, hv1, h⟩ := h
  refine w_cVi (As := [.int a1, .int a2]) (rest := []) hF hH hl 0 (by decide) rfl rfl (tX5_isGoal l E hF.j _ _ _ _ hv1) tk_375 tk_377 tk_5 tk_41 tk_378 rfl rfl hdX5_isGoal ⟨Nat.le_of_ble_eq_true rfl, Nat.le_of_ble_eq_true rfl⟩ rfl rfl (Nat.le_of_ble_eq_true rfl) dX5_needed_3 (fun H locs hH => ?_)
  refine lv_if_eq (tgt := 17) hF.x hF.b dX5_needed_6 (by decide) (fun c3 => ?_) (fun c3 => ?_)
  · rw [if_pos c3] at h
    exact w17 _ _ _ _ h hH (lv_sub hl [0] rfl)
  · rw [if_neg c3] at h
    refine lv_iload_n hF.x hF.b dX5_needed_9 rfl (lv_at hl 3 rfl) ?_
    refine lv_iconst (v := 1) hF.x hF.b dX5_needed_10 (by decide) ?_
    replace h := bd_some h
    obtain ⟨v4, σ5, hv4, h⟩ := h
    refine w_cSi (As := [.int a3, .int 1]) (rest := []) hF hH hl (tX5_isWithin l E hF.j _ _ _ _ hv4) tk_197 tk_198 tk_41 tk_199 rfl rfl hdX5_isWithin ⟨Nat.le_of_ble_eq_true rfl, Nat.le_of_ble_eq_true rfl⟩ rfl rfl (Nat.le_of_ble_eq_true rfl) dX5_needed_11 (fun H locs hH => ?_)
    refine lv_if_ne (tgt := 20) hF.x hF.b dX5_needed_14 (by decide) (fun c6 => ?_) (fun c6 => ?_)
    · rw [if_neg c6] at h
      refine lv_aload_n hF.x hF.b dX5_needed_20 rfl (lv_at hl 0 rfl) ?_
      refine gfC_0_3 hF hH tk_174 dX5_needed_21 ?_
      refine lv_aload_n hF.x hF.b dX5_needed_24 rfl (lv_at hl 0 rfl) ?_
      refine gfC_0_0 hF hH tk_171 dX5_needed_25 ?_
      refine gfC_1_9 hF hH tk_95 dX5_needed_28 ?_
      refine lv_iload_n hF.x hF.b dX5_needed_31 rfl (lv_at hl 1 rfl) ?_
      refine lv_iload_n hF.x hF.b dX5_needed_32 rfl (lv_at hl 2 rfl) ?_
      replace h := bd_some h
      obtain ⟨v7, σ8, hv7, h⟩ := h
      refine w_cVi (As := [.int (σ5 1 9), .int a1, .int a2]) (rest := []) hF hH hl 13 (by decide) rfl rfl (tX4_canReach l E hF.j _ _ _ _ _ hv7) tk_427 tk_428 tk_429 tk_45 tk_430 rfl rfl hdX4_canReach ⟨Nat.le_of_ble_eq_true rfl, Nat.le_of_ble_eq_true rfl⟩ rfl rfl (Nat.le_of_ble_eq_true rfl) dX5_needed_33 (fun H locs hH => ?_)
      refine lv_if_ne (tgt := 42) hF.x hF.b dX5_needed_36 (by decide) (fun c9 => ?_) (fun c9 => ?_)
      · rw [if_neg c9] at h
        refine lv_iload_n hF.x hF.b dX5_needed_42 rfl (lv_at hl 3 rfl) ?_
        refine lv_if_ne (tgt := 94) hF.x hF.b dX5_needed_43 (by decide) (fun c10 => ?_) (fun c10 => ?_)
        · rw [if_neg c10] at h
          refine lv_aload_n hF.x hF.b dX5_needed_94 rfl (lv_at hl 0 rfl) ?_
          refine gfC_0_0 hF hH tk_171 dX5_needed_95 ?_
          refine gfC_1_4 hF hH tk_81 dX5_needed_98 ?_
          replace h := bd_some h
          obtain ⟨v11, σ12, hv11, h⟩ := h
          refine w_cSi (As := [.int (σ8 1 4)]) (rest := []) hF hH hl (tX5_setOfFirst l E hF.j _ _ _ hv11) tk_379 tk_380 tk_41 tk_381 rfl rfl hdX5_setOfFirst ⟨Nat.le_of_ble_eq_true rfl, Nat.le_of_ble_eq_true rfl⟩ rfl rfl (Nat.le_of_ble_eq_true rfl) dX5_needed_101 (fun H locs hH => ?_)
          refine lv_aload_n hF.x hF.b dX5_needed_104 rfl (lv_at hl 0 rfl) ?_
          refine gfC_0_0 hF hH tk_171 dX5_needed_105 ?_
          refine gfC_1_9 hF hH tk_95 dX5_needed_108 ?_
          replace h := bd_some h
          obtain ⟨v13, σ14, hv13, h⟩ := h
          refine w_cSi (As := [.int (σ12 1 9)]) (rest := [.int v11]) hF hH hl (tX0_running l E hF.j _ _ _ hv13) tk_241 tk_242 tk_48 tk_243 rfl rfl hdX0_running ⟨Nat.le_of_ble_eq_true rfl, Nat.le_of_ble_eq_true rfl⟩ rfl rfl (Nat.le_of_ble_eq_true rfl) dX5_needed_111 (fun H locs hH => ?_)
          refine lv_iconst (v := (-1)) hF.x hF.b dX5_needed_114 (by decide) ?_
          refine lv_ixor hF.x hF.b dX5_needed_115 ?_
          refine lv_iand hF.x hF.b dX5_needed_116 ?_
          refine lv_topi (fun y15 ey15 => ?_)
          replace h := sv_at h ey15
          clear ey15
          refine lv_istore (lv' := [(4, .int y15), (0, .ref (eA E 0)), (1, .int a1), (2, .int a2), (3, .int a3)]) hF.x hF.b dX5_needed_117 hl (by decide) rfl (fun ls hl => ?_)
          refine lv_aload_n hF.x hF.b dX5_needed_119 rfl (lv_at hl 1 rfl) ?_
          refine gfC_0_3 hF hH tk_174 dX5_needed_120 ?_
          refine lv_iload hF.x hF.b dX5_needed_123 (lv_at hl 0 rfl) ?_
          refine lv_iconst (v := 1) hF.x hF.b dX5_needed_125 (by decide) ?_
          refine lv_ishl hF.x hF.b dX5_needed_126 ?_
          refine lv_aload_n hF.x hF.b dX5_needed_127 rfl (lv_at hl 1 rfl) ?_
          refine gfC_0_0 hF hH tk_171 dX5_needed_128 ?_
          refine gfC_1_9 hF hH tk_95 dX5_needed_131 ?_
          refine lv_iload_n hF.x hF.b dX5_needed_134 rfl (lv_at hl 2 rfl) ?_
          refine lv_iload_n hF.x hF.b dX5_needed_135 rfl (lv_at hl 3 rfl) ?_
          replace h := bd_some h
          obtain ⟨v16, σ17, hv16, h⟩ := h
          refine w_cVi (As := [.int (y15 <<< ((1 : Int32) &&& 31)), .int (σ14 1 9), .int a1, .int a2]) (rest := []) hF hH hl 13 (by decide) rfl rfl (tX4_neededAmong l E hF.j _ _ _ _ _ _ hv16) tk_431 tk_432 tk_433 tk_45 tk_434 rfl rfl hdX4_neededAmong ⟨Nat.le_of_ble_eq_true rfl, Nat.le_of_ble_eq_true rfl⟩ rfl rfl (Nat.le_of_ble_eq_true rfl) dX5_needed_136 (fun H locs hH => ?_)
          refine lv_iconst (v := 1) hF.x hF.b dX5_needed_139 (by decide) ?_
          refine lv_ishr hF.x hF.b dX5_needed_140 ?_
          exact hret _ _ _ _ _ _ hH h dX5_needed_141
        · rw [if_pos c10] at h
          refine lv_aload_n hF.x hF.b dX5_needed_46 rfl (lv_at hl 0 rfl) ?_
          refine gfC_0_0 hF hH tk_171 dX5_needed_47 ?_
          refine gfC_1_0 hF hH tk_66 dX5_needed_50 ?_
          replace h := bd_some h
          obtain ⟨v18, σ19, hv18, h⟩ := h
          refine w_cSi (As := [.int (σ8 1 0)]) (rest := []) hF hH hl (tX5_setOfFirst l E hF.j _ _ _ hv18) tk_379 tk_380 tk_41 tk_381 rfl rfl hdX5_setOfFirst ⟨Nat.le_of_ble_eq_true rfl, Nat.le_of_ble_eq_true rfl⟩ rfl rfl (Nat.le_of_ble_eq_true rfl) dX5_needed_53 (fun H locs hH => ?_)
          refine lv_aload_n hF.x hF.b dX5_needed_56 rfl (lv_at hl 0 rfl) ?_
          refine gfC_0_0 hF hH tk_171 dX5_needed_57 ?_
          refine gfC_1_9 hF hH tk_95 dX5_needed_60 ?_
          replace h := bd_some h
          obtain ⟨v20, σ21, hv20, h⟩ := h
          refine w_cSi (As := [.int (σ19 1 9)]) (rest := [.int v18]) hF hH hl (tX0_closed l E hF.j _ _ _ hv20) tk_258 tk_259 tk_48 tk_260 rfl rfl hdX0_closed ⟨Nat.le_of_ble_eq_true rfl, Nat.le_of_ble_eq_true rfl⟩ rfl rfl (Nat.le_of_ble_eq_true rfl) dX5_needed_63 (fun H locs hH => ?_)
          refine lv_iconst (v := (-1)) hF.x hF.b dX5_needed_66 (by decide) ?_
          refine lv_ixor hF.x hF.b dX5_needed_67 ?_
          refine lv_iand hF.x hF.b dX5_needed_68 ?_
          refine lv_topi (fun y22 ey22 => ?_)
          replace h := sv_at h ey22
          clear ey22
          refine lv_istore (lv' := [(4, .int y22), (0, .ref (eA E 0)), (1, .int a1), (2, .int a2), (3, .int a3)]) hF.x hF.b dX5_needed_69 hl (by decide) rfl (fun ls hl => ?_)
          refine lv_aload_n hF.x hF.b dX5_needed_71 rfl (lv_at hl 1 rfl) ?_
          refine gfC_0_3 hF hH tk_174 dX5_needed_72 ?_
          refine lv_iload hF.x hF.b dX5_needed_75 (lv_at hl 0 rfl) ?_
          refine lv_iconst (v := 4) hF.x hF.b dX5_needed_77 (by decide) ?_
          refine lv_ishl hF.x hF.b dX5_needed_78 ?_
          refine lv_aload_n hF.x hF.b dX5_needed_79 rfl (lv_at hl 1 rfl) ?_
          refine gfC_0_0 hF hH tk_171 dX5_needed_80 ?_
          refine gfC_1_9 hF hH tk_95 dX5_needed_83 ?_
          refine lv_iload_n hF.x hF.b dX5_needed_86 rfl (lv_at hl 2 rfl) ?_
          refine lv_iload_n hF.x hF.b dX5_needed_87 rfl (lv_at hl 3 rfl) ?_
          replace h := bd_some h
          obtain ⟨v23, σ24, hv23, h⟩ := h
          refine w_cVi (As := [.int (y22 <<< ((4 : Int32) &&& 31)), .int (σ21 1 9), .int a1, .int a2]) (rest := []) hF hH hl 13 (by decide) rfl rfl (tX4_neededAmong l E hF.j _ _ _ _ _ _ hv23) tk_431 tk_432 tk_433 tk_45 tk_434 rfl rfl hdX4_neededAmong ⟨Nat.le_of_ble_eq_true rfl, Nat.le_of_ble_eq_true rfl⟩ rfl rfl (Nat.le_of_ble_eq_true rfl) dX5_needed_88 (fun H locs hH => ?_)
          refine lv_iconst (v := 4) hF.x hF.b dX5_needed_91 (by decide) ?_
          refine lv_ishr hF.x hF.b dX5_needed_92 ?_
          exact hret _ _ _ _ _ _ hH h dX5_needed_93
      · rw [if_pos c9] at h
        refine lv_bipush (v := (-6)) hF.x hF.b dX5_needed_39 (by decide) ?_
        exact hret _ _ _ _ _ _ hH h dX5_needed_41
    · rw [if_pos c6] at h
      exact w17 _ _ _ _ h hH (lv_sub hl [0] rfl)
theorem hdX5_ever : yX5_ever.cls = RX5 ∧ yX5_ever.cls ≠ "java/lang/invoke/MethodHandle" ∧ yX5_ever.cls ≠ "java/lang/invoke/VarHandle" ∧ (parseMethodDescriptor yX5_ever.desc).map (fun d => d.parameters.length) = some 1 := by decide +kernel
set_option maxHeartbeats 4000000 in
set_option maxRecDepth 100000 in
theorem tX5_ever (l : Launch) (E : Ev) (hj : Inj kC E) (a1 : Int32) (σ : Sg) (r : Int32 × Sg) (h : fX5_ever a1 σ = some r) : CI l yX5_ever cX5_ever 2 (some FieldType.int) (rmk 6 156) kC E [.ref (eA E 0), .int a1] σ r := by
  refine CI_i (lv := [(0, .ref (eA E 0)), (1, .int a1)]) (by decide) hj (Nat.le_of_ble_eq_true rfl) rfl (fun p e s m args below meth c ls Q hF hret hH hl => ?_)
  unfold fX5_ever at h
  refine lv_iload_n hF.x hF.b dX5_ever_0 rfl (lv_at hl 1 rfl) ?_
  by_cases c1 : a1 = 0
  · rw [if_pos c1] at h
    refine lv_lookup (off := 27) (tgt := 28) hF.x hF.b dX5_ever_1 (by decide) (by rw [c1]; decide) (by decide) ?_
    refine lv_aload_n hF.x hF.b dX5_ever_28 rfl (lv_at hl 0 rfl) ?_
    refine gfC_0_3 hF hH tk_174 dX5_ever_29 ?_
    refine lv_aload_n hF.x hF.b dX5_ever_32 rfl (lv_at hl 0 rfl) ?_
    refine gfC_0_0 hF hH tk_171 dX5_ever_33 ?_
    refine gfC_1_9 hF hH tk_95 dX5_ever_36 ?_
    refine lv_aload_n hF.x hF.b dX5_ever_39 rfl (lv_at hl 0 rfl) ?_
    refine gfC_0_0 hF hH tk_171 dX5_ever_40 ?_
    refine gfC_1_4 hF hH tk_81 dX5_ever_43 ?_
    replace h := bd_some h
    obtain ⟨v2, σ3, hv2, h⟩ := h
    refine w_cVi (As := [.int (σ 1 9), .int (σ 1 4)]) (rest := []) hF hH hl 13 (by decide) rfl rfl (tX4_everReady l E hF.j _ _ _ _ hv2) tk_439 tk_440 tk_441 tk_45 tk_442 rfl rfl hdX4_everReady ⟨Nat.le_of_ble_eq_true rfl, Nat.le_of_ble_eq_true rfl⟩ rfl rfl (Nat.le_of_ble_eq_true rfl) dX5_ever_46 (fun H locs hH => ?_)
    exact hret _ _ _ _ _ _ hH h dX5_ever_49
  rw [if_neg c1] at h
  by_cases c4 : a1 = 1
  · rw [if_pos c4] at h
    refine lv_lookup (off := 49) (tgt := 50) hF.x hF.b dX5_ever_1 (by decide) (by rw [c4]; decide) (by decide) ?_
    refine lv_aload_n hF.x hF.b dX5_ever_50 rfl (lv_at hl 0 rfl) ?_
    refine gfC_0_3 hF hH tk_174 dX5_ever_51 ?_
    refine lv_aload_n hF.x hF.b dX5_ever_54 rfl (lv_at hl 0 rfl) ?_
    refine gfC_0_0 hF hH tk_171 dX5_ever_55 ?_
    refine gfC_1_9 hF hH tk_95 dX5_ever_58 ?_
    replace h := bd_some h
    obtain ⟨v5, σ6, hv5, h⟩ := h
    refine w_cVi (As := [.int (σ 1 9)]) (rest := []) hF hH hl 13 (by decide) rfl rfl (tX4_everLive l E hF.j _ _ _ hv5) tk_443 tk_444 tk_445 tk_45 tk_446 rfl rfl hdX4_everLive ⟨Nat.le_of_ble_eq_true rfl, Nat.le_of_ble_eq_true rfl⟩ rfl rfl (Nat.le_of_ble_eq_true rfl) dX5_ever_61 (fun H locs hH => ?_)
    exact hret _ _ _ _ _ _ hH h dX5_ever_64
  rw [if_neg c4] at h
  refine lv_lookup (off := 64) (tgt := 65) hF.x hF.b dX5_ever_1 (by decide) (by rw [lv_osw c1 (show (0 : Int32).toInt = 0 by decide), lv_osw c4 (show (1 : Int32).toInt = 1 by decide)]; rfl) (by decide) ?_
  refine lv_bipush (v := (-2)) hF.x hF.b dX5_ever_65 (by decide) ?_
  exact hret _ _ _ _ _ _ hH h dX5_ever_67
theorem hdX5_image : yX5_image.cls = RX5 ∧ yX5_image.cls ≠ "java/lang/invoke/MethodHandle" ∧ yX5_image.cls ≠ "java/lang/invoke/VarHandle" ∧ (parseMethodDescriptor yX5_image.desc).map (fun d => d.parameters.length) = some 1 := by decide +kernel
set_option maxHeartbeats 4000000 in
set_option maxRecDepth 100000 in
theorem tX5_image (l : Launch) (E : Ev) (hj : Inj kC E) (a1 : Int32) (σ : Sg) (r : Int32 × Sg) (h : fX5_image a1 σ = some r) : CI l yX5_image cX5_image 2 (some FieldType.int) (rmk 2 61) kC E [.ref (eA E 0), .int a1] σ r := by
  refine CI_i (lv := [(0, .ref (eA E 0)), (1, .int a1)]) (by decide) hj (Nat.le_of_ble_eq_true rfl) rfl (fun p e s m args below meth c ls Q hF hret hH hl => ?_)
  unfold fX5_image at h
  refine lv_iload_n hF.x hF.b dX5_image_0 rfl (lv_at hl 1 rfl) ?_
  refine lv_iconst (v := 1) hF.x hF.b dX5_image_1 (by decide) ?_
  replace h := bd_some h
  obtain ⟨v1, σ2, hv1, h⟩ := h
  refine w_cSi (As := [.int a1, .int 1]) (rest := []) hF hH hl (tX5_isWithin l E hF.j _ _ _ _ hv1) tk_197 tk_198 tk_41 tk_199 rfl rfl hdX5_isWithin ⟨Nat.le_of_ble_eq_true rfl, Nat.le_of_ble_eq_true rfl⟩ rfl rfl (Nat.le_of_ble_eq_true rfl) dX5_image_2 (fun H locs hH => ?_)
  refine lv_if_ne (tgt := 11) hF.x hF.b dX5_image_5 (by decide) (fun c3 => ?_) (fun c3 => ?_)
  · rw [if_neg c3] at h
    refine lv_aload_n hF.x hF.b dX5_image_11 rfl (lv_at hl 0 rfl) ?_
    refine gfC_0_4 hF hH tk_175 dX5_image_12 ?_
    refine lv_iload_n hF.x hF.b dX5_image_15 rfl (lv_at hl 1 rfl) ?_
    have hic4 := (gd_some h).1
    replace h := (gd_some h).2
    by_cases c4 : a1 = 0
    · rw [if_pos c4] at h
      refine aqC_17_0 hF hH c4 dX5_image_16 ?_
      refine lv_aload_n hF.x hF.b dX5_image_17 rfl (lv_at hl 0 rfl) ?_
      refine gfC_0_0 hF hH tk_171 dX5_image_18 ?_
      replace h := bd_some h
      obtain ⟨v5, σ6, hv5, h⟩ := h
      refine w_cVv (As := [.ref (eA E 1)]) (rest := []) hF hH hl 18 (by decide) rfl rfl (tX1_copyFrom_18_1 l E hF.j _ _ hv5) tk_451 tk_452 tk_453 tk_42 tk_454 rfl rfl hdX1_copyFrom ⟨Nat.le_of_ble_eq_true rfl, Nat.le_of_ble_eq_true rfl⟩ rfl rfl (Nat.le_of_ble_eq_true rfl) dX5_image_21 (fun H locs hH => ?_)
      refine lv_aload_n hF.x hF.b dX5_image_24 rfl (lv_at hl 0 rfl) ?_
      refine lv_dup hF.x hF.b dX5_image_25 rfl ?_
      refine gfC_0_5 hF hH tk_176 dX5_image_26 ?_
      refine lv_iconst (v := 1) hF.x hF.b dX5_image_29 (by decide) ?_
      refine lv_iload_n hF.x hF.b dX5_image_30 rfl (lv_at hl 1 rfl) ?_
      refine lv_ishl hF.x hF.b dX5_image_31 ?_
      refine lv_ior hF.x hF.b dX5_image_32 ?_
      refine pfC_0_5 hF hH tk_176 dX5_image_33 (fun σ7 H locs eσ7 hH => ?_)
      replace h := sv_at h eσ7
      clear eσ7
      refine lv_iconst (v := 1) hF.x hF.b dX5_image_36 (by decide) ?_
      exact hret _ _ _ _ _ _ hH h dX5_image_37
    · rw [if_neg c4] at h
      refine aqC_17_1 hF hH hic4 c4 dX5_image_16 ?_
      refine lv_aload_n hF.x hF.b dX5_image_17 rfl (lv_at hl 0 rfl) ?_
      refine gfC_0_0 hF hH tk_171 dX5_image_18 ?_
      replace h := bd_some h
      obtain ⟨v8, σ9, hv8, h⟩ := h
      refine w_cVv (As := [.ref (eA E 1)]) (rest := []) hF hH hl 26 (by decide) rfl rfl (tX1_copyFrom_26_1 l E hF.j _ _ hv8) tk_451 tk_452 tk_453 tk_42 tk_454 rfl rfl hdX1_copyFrom ⟨Nat.le_of_ble_eq_true rfl, Nat.le_of_ble_eq_true rfl⟩ rfl rfl (Nat.le_of_ble_eq_true rfl) dX5_image_21 (fun H locs hH => ?_)
      refine lv_aload_n hF.x hF.b dX5_image_24 rfl (lv_at hl 0 rfl) ?_
      refine lv_dup hF.x hF.b dX5_image_25 rfl ?_
      refine gfC_0_5 hF hH tk_176 dX5_image_26 ?_
      refine lv_iconst (v := 1) hF.x hF.b dX5_image_29 (by decide) ?_
      refine lv_iload_n hF.x hF.b dX5_image_30 rfl (lv_at hl 1 rfl) ?_
      refine lv_ishl hF.x hF.b dX5_image_31 ?_
      refine lv_ior hF.x hF.b dX5_image_32 ?_
      refine pfC_0_5 hF hH tk_176 dX5_image_33 (fun σ10 H locs eσ10 hH => ?_)
      replace h := sv_at h eσ10
      clear eσ10
      refine lv_iconst (v := 1) hF.x hF.b dX5_image_36 (by decide) ?_
      exact hret _ _ _ _ _ _ hH h dX5_image_37
  · rw [if_pos c3] at h
    refine lv_bipush (v := (-2)) hF.x hF.b dX5_image_8 (by decide) ?_
    exact hret _ _ _ _ _ _ hH h dX5_image_10
theorem hdX5_restore : yX5_restore.cls = RX5 ∧ yX5_restore.cls ≠ "java/lang/invoke/MethodHandle" ∧ yX5_restore.cls ≠ "java/lang/invoke/VarHandle" ∧ (parseMethodDescriptor yX5_restore.desc).map (fun d => d.parameters.length) = some 1 := by decide +kernel
set_option maxHeartbeats 4000000 in
set_option maxRecDepth 100000 in
theorem tX5_restore (l : Launch) (E : Ev) (hj : Inj kC E) (a1 : Int32) (σ : Sg) (r : Int32 × Sg) (h : fX5_restore a1 σ = some r) : CI l yX5_restore cX5_restore 3 (some FieldType.int) (rmk 3 76) kC E [.ref (eA E 0), .int a1] σ r := by
  refine CI_i (lv := [(0, .ref (eA E 0)), (1, .int a1)]) (by decide) hj (Nat.le_of_ble_eq_true rfl) rfl (fun p e s m args below meth c ls Q hF hret hH hl => ?_)
  have w40 : ∀ (n : Nat) (x2 : Int32) (σ : Sg) (H : Heap) (locs : List Loc) (ls : Array Slot), it fX5_restore_L40 (fun _ _ => none) n x2 σ = some r → HP kC E s σ H locs → lv_has ls 3 [(0, .ref (eA E 0)), (2, .int x2)] → W p l e (rmk 3 76) s m args below meth c H locs 0 0 Q (F0 m 40 ls []) := by
    intro n40
    induction n40 with
    | zero =>
      intro x2 σ H locs ls h hH hl
      cases (show (none : Rs) = some r from h)
    | succ n40 ih40 =>
      intro x2 σ H locs ls h hH hl
      replace h : fX5_restore_L40 (it fX5_restore_L40 (fun _ _ => none) n40) x2 σ = some r := h
      unfold fX5_restore_L40 at h
      refine lv_iload_n hF.x hF.b dX5_restore_40 rfl (lv_at hl 1 rfl) ?_
      refine lv_aload_n hF.x hF.b dX5_restore_41 rfl (lv_at hl 0 rfl) ?_
      refine gfC_0_0 hF hH tk_171 dX5_restore_42 ?_
      refine gfC_1_0 hF hH tk_66 dX5_restore_45 ?_
      refine lv_icmp_ge (tgt := 69) hF.x hF.b dX5_restore_48 (by decide) (fun c1 => ?_) (fun c1 => ?_)
      · rw [if_pos c1] at h
        refine lv_iconst (v := 1) hF.x hF.b dX5_restore_69 (by decide) ?_
        exact hret _ _ _ _ _ _ hH h dX5_restore_70
      · rw [if_neg c1] at h
        refine lv_aload_n hF.x hF.b dX5_restore_51 rfl (lv_at hl 0 rfl) ?_
        refine gfC_0_1 hF hH tk_172 dX5_restore_52 ?_
        refine lv_aload_n hF.x hF.b dX5_restore_55 rfl (lv_at hl 0 rfl) ?_
        refine gfC_0_0 hF hH tk_171 dX5_restore_56 ?_
        refine lv_iload_n hF.x hF.b dX5_restore_59 rfl (lv_at hl 1 rfl) ?_
        replace h := bd_some h
        obtain ⟨v2, σ3, hv2, h⟩ := h
        refine w_cVv (As := [.ref (eA E 1), .int x2]) (rest := []) hF hH hl 9 (by decide) rfl rfl (tX2_learnLine l E hF.j _ _ _ hv2) tk_210 tk_211 tk_212 tk_43 tk_213 rfl rfl hdX2_learnLine ⟨Nat.le_of_ble_eq_true rfl, Nat.le_of_ble_eq_true rfl⟩ rfl rfl (Nat.le_of_ble_eq_true rfl) dX5_restore_60 (fun H locs hH => ?_)
        obtain ⟨y4, ey4⟩ : ∃ z : Int32, z = (x2 + 1) := ⟨_, rfl⟩
        replace h := sv_at h ey4
        refine lv_iinc (v := y4) (lv' := [(2, .int y4), (0, .ref (eA E 0))]) hF.x hF.b dX5_restore_63 hl (k := 1) rfl (by rw [ey4]; rfl) (by decide) rfl (fun ls hl => ?_)
        clear ey4
        refine lv_goto (tgt := 40) hF.x hF.b dX5_restore_66 (by decide) ?_
        exact ih40 _ _ _ _ _ h hH (lv_sub hl [1, 0] rfl)
  unfold fX5_restore at h
  refine lv_iload_n hF.x hF.b dX5_restore_0 rfl (lv_at hl 1 rfl) ?_
  refine lv_iconst (v := 1) hF.x hF.b dX5_restore_1 (by decide) ?_
  replace h := bd_some h
  obtain ⟨v5, σ6, hv5, h⟩ := h
  refine w_cSi (As := [.int a1, .int 1]) (rest := []) hF hH hl (tX5_isWithin l E hF.j _ _ _ _ hv5) tk_197 tk_198 tk_41 tk_199 rfl rfl hdX5_isWithin ⟨Nat.le_of_ble_eq_true rfl, Nat.le_of_ble_eq_true rfl⟩ rfl rfl (Nat.le_of_ble_eq_true rfl) dX5_restore_2 (fun H locs hH => ?_)
  refine lv_if_ne (tgt := 11) hF.x hF.b dX5_restore_5 (by decide) (fun c7 => ?_) (fun c7 => ?_)
  · rw [if_neg c7] at h
    refine lv_aload_n hF.x hF.b dX5_restore_11 rfl (lv_at hl 0 rfl) ?_
    refine gfC_0_5 hF hH tk_176 dX5_restore_12 ?_
    refine lv_iload_n hF.x hF.b dX5_restore_15 rfl (lv_at hl 1 rfl) ?_
    replace h := bd_some h
    obtain ⟨v8, σ9, hv8, h⟩ := h
    refine w_cSi (As := [.int (σ6 0 5), .int a1]) (rest := []) hF hH hl (tX5_bit l E hF.j _ _ _ _ hv8) tk_261 tk_227 tk_41 tk_228 rfl rfl hdX5_bit ⟨Nat.le_of_ble_eq_true rfl, Nat.le_of_ble_eq_true rfl⟩ rfl rfl (Nat.le_of_ble_eq_true rfl) dX5_restore_16 (fun H locs hH => ?_)
    refine lv_if_ne (tgt := 25) hF.x hF.b dX5_restore_19 (by decide) (fun c10 => ?_) (fun c10 => ?_)
    · rw [if_neg c10] at h
      refine lv_aload_n hF.x hF.b dX5_restore_25 rfl (lv_at hl 0 rfl) ?_
      refine gfC_0_0 hF hH tk_171 dX5_restore_26 ?_
      refine lv_aload_n hF.x hF.b dX5_restore_29 rfl (lv_at hl 0 rfl) ?_
      refine gfC_0_4 hF hH tk_175 dX5_restore_30 ?_
      refine lv_iload_n hF.x hF.b dX5_restore_33 rfl (lv_at hl 1 rfl) ?_
      have hic11 := (gd_some h).1
      replace h := (gd_some h).2
      by_cases c11 : a1 = 0
      · rw [if_pos c11] at h
        refine aqC_17_0 hF hH c11 dX5_restore_34 ?_
        replace h := bd_some h
        obtain ⟨v12, σ13, hv12, h⟩ := h
        refine w_cVv (As := [.ref (eA E 18)]) (rest := []) hF hH hl 1 (by decide) rfl rfl (tX1_copyFrom_1_18 l E hF.j _ _ hv12) tk_451 tk_452 tk_453 tk_42 tk_454 rfl rfl hdX1_copyFrom ⟨Nat.le_of_ble_eq_true rfl, Nat.le_of_ble_eq_true rfl⟩ rfl rfl (Nat.le_of_ble_eq_true rfl) dX5_restore_35 (fun H locs hH => ?_)
        refine lv_iconst (v := 0) hF.x hF.b dX5_restore_38 (by decide) ?_
        refine lv_istore_n (lv' := [(2, .int 0), (0, .ref (eA E 0)), (1, .int a1)]) hF.x hF.b dX5_restore_39 rfl hl (by decide) rfl (fun ls hl => ?_)
        exact w40 _ _ _ _ _ _ h hH (lv_sub hl [1, 0] rfl)
      · rw [if_neg c11] at h
        refine aqC_17_1 hF hH hic11 c11 dX5_restore_34 ?_
        replace h := bd_some h
        obtain ⟨v14, σ15, hv14, h⟩ := h
        refine w_cVv (As := [.ref (eA E 26)]) (rest := []) hF hH hl 1 (by decide) rfl rfl (tX1_copyFrom_1_26 l E hF.j _ _ hv14) tk_451 tk_452 tk_453 tk_42 tk_454 rfl rfl hdX1_copyFrom ⟨Nat.le_of_ble_eq_true rfl, Nat.le_of_ble_eq_true rfl⟩ rfl rfl (Nat.le_of_ble_eq_true rfl) dX5_restore_35 (fun H locs hH => ?_)
        refine lv_iconst (v := 0) hF.x hF.b dX5_restore_38 (by decide) ?_
        refine lv_istore_n (lv' := [(2, .int 0), (0, .ref (eA E 0)), (1, .int a1)]) hF.x hF.b dX5_restore_39 rfl hl (by decide) rfl (fun ls hl => ?_)
        exact w40 _ _ _ _ _ _ h hH (lv_sub hl [1, 0] rfl)
    · rw [if_pos c10] at h
      refine lv_bipush (v := (-3)) hF.x hF.b dX5_restore_22 (by decide) ?_
      exact hret _ _ _ _ _ _ hH h dX5_restore_24
  · rw [if_pos c7] at h
    refine lv_bipush (v := (-2)) hF.x hF.b dX5_restore_8 (by decide) ?_
    exact hret _ _ _ _ _ _ hH h dX5_restore_10
theorem hdX5_count : yX5_count.cls = RX5 ∧ yX5_count.cls ≠ "java/lang/invoke/MethodHandle" ∧ yX5_count.cls ≠ "java/lang/invoke/VarHandle" ∧ (parseMethodDescriptor yX5_count.desc).map (fun d => d.parameters.length) = some 1 := by decide +kernel
set_option maxHeartbeats 4000000 in
set_option maxRecDepth 100000 in
theorem tX5_count (l : Launch) (E : Ev) (hj : Inj kC E) (a1 : Int32) (σ : Sg) (r : Int32 × Sg) (h : fX5_count a1 σ = some r) : CI l yX5_count cX5_count 2 (some FieldType.int) (rmk 4 91) kC E [.ref (eA E 0), .int a1] σ r := by
  refine CI_i (lv := [(0, .ref (eA E 0)), (1, .int a1)]) (by decide) hj (Nat.le_of_ble_eq_true rfl) rfl (fun p e s m args below meth c ls Q hF hret hH hl => ?_)
  unfold fX5_count at h
  refine lv_iload_n hF.x hF.b dX5_count_0 rfl (lv_at hl 1 rfl) ?_
  by_cases c1 : a1 = 0
  · rw [if_pos c1] at h
    refine lv_tableIn (off := 51) (tgt := 52) hF.x hF.b dX5_count_1 (by rw [c1]; decide) (by rw [c1]; decide) (by rw [c1]; rfl) (by decide) ?_
    refine lv_aload_n hF.x hF.b dX5_count_52 rfl (lv_at hl 0 rfl) ?_
    refine gfC_0_0 hF hH tk_171 dX5_count_53 ?_
    refine gfC_1_0 hF hH tk_66 dX5_count_56 ?_
    exact hret _ _ _ _ _ _ hH h dX5_count_59
  rw [if_neg c1] at h
  by_cases c2 : a1 = 1
  · rw [if_pos c2] at h
    refine lv_tableIn (off := 59) (tgt := 60) hF.x hF.b dX5_count_1 (by rw [c2]; decide) (by rw [c2]; decide) (by rw [c2]; rfl) (by decide) ?_
    refine lv_aload_n hF.x hF.b dX5_count_60 rfl (lv_at hl 0 rfl) ?_
    refine gfC_0_0 hF hH tk_171 dX5_count_61 ?_
    refine gfC_1_4 hF hH tk_81 dX5_count_64 ?_
    exact hret _ _ _ _ _ _ hH h dX5_count_67
  rw [if_neg c2] at h
  by_cases c3 : a1 = 2
  · rw [if_pos c3] at h
    refine lv_tableIn (off := 67) (tgt := 68) hF.x hF.b dX5_count_1 (by rw [c3]; decide) (by rw [c3]; decide) (by rw [c3]; rfl) (by decide) ?_
    refine lv_aload_n hF.x hF.b dX5_count_68 rfl (lv_at hl 0 rfl) ?_
    refine gfC_0_0 hF hH tk_171 dX5_count_69 ?_
    refine gfC_1_9 hF hH tk_95 dX5_count_72 ?_
    replace h := bd_some h
    obtain ⟨v4, σ5, hv4, h⟩ := h
    refine w_cSi (As := [.int (σ 1 9)]) (rest := []) hF hH hl (tX0_closed l E hF.j _ _ _ hv4) tk_258 tk_259 tk_48 tk_260 rfl rfl hdX0_closed ⟨Nat.le_of_ble_eq_true rfl, Nat.le_of_ble_eq_true rfl⟩ rfl rfl (Nat.le_of_ble_eq_true rfl) dX5_count_75 (fun H locs hH => ?_)
    replace h := bd_some h
    obtain ⟨v6, σ7, hv6, h⟩ := h
    refine w_cSi (As := [.int v4]) (rest := []) hF hH hl (tJ6_bitCount_0f7a4 l E hF.j _ _ _ hv6) tk_244 tk_245 tk_49 tk_246 rfl rfl hdJ6_bitCount_0f7a4 ⟨Nat.le_of_ble_eq_true rfl, Nat.le_of_ble_eq_true rfl⟩ rfl rfl (Nat.le_of_ble_eq_true rfl) dX5_count_78 (fun H locs hH => ?_)
    exact hret _ _ _ _ _ _ hH h dX5_count_81
  rw [if_neg c3] at h
  by_cases c8 : a1 = 3
  · rw [if_pos c8] at h
    refine lv_tableIn (off := 81) (tgt := 82) hF.x hF.b dX5_count_1 (by rw [c8]; decide) (by rw [c8]; decide) (by rw [c8]; rfl) (by decide) ?_
    refine lv_aload_n hF.x hF.b dX5_count_82 rfl (lv_at hl 0 rfl) ?_
    refine gfC_0_0 hF hH tk_171 dX5_count_83 ?_
    refine gfC_1_9 hF hH tk_95 dX5_count_86 ?_
    replace h := bd_some h
    obtain ⟨v9, σ10, hv9, h⟩ := h
    refine w_cSi (As := [.int (σ 1 9)]) (rest := []) hF hH hl (tX0_running l E hF.j _ _ _ hv9) tk_241 tk_242 tk_48 tk_243 rfl rfl hdX0_running ⟨Nat.le_of_ble_eq_true rfl, Nat.le_of_ble_eq_true rfl⟩ rfl rfl (Nat.le_of_ble_eq_true rfl) dX5_count_89 (fun H locs hH => ?_)
    replace h := bd_some h
    obtain ⟨v11, σ12, hv11, h⟩ := h
    refine w_cSi (As := [.int v9]) (rest := []) hF hH hl (tJ6_bitCount_0f7a4 l E hF.j _ _ _ hv11) tk_244 tk_245 tk_49 tk_246 rfl rfl hdJ6_bitCount_0f7a4 ⟨Nat.le_of_ble_eq_true rfl, Nat.le_of_ble_eq_true rfl⟩ rfl rfl (Nat.le_of_ble_eq_true rfl) dX5_count_92 (fun H locs hH => ?_)
    exact hret _ _ _ _ _ _ hH h dX5_count_95
  rw [if_neg c8] at h
  by_cases c13 : a1 = 4
  · rw [if_pos c13] at h
    refine lv_tableIn (off := 95) (tgt := 96) hF.x hF.b dX5_count_1 (by rw [c13]; decide) (by rw [c13]; decide) (by rw [c13]; rfl) (by decide) ?_
    refine lv_aload_n hF.x hF.b dX5_count_96 rfl (lv_at hl 0 rfl) ?_
    refine gfC_0_0 hF hH tk_171 dX5_count_97 ?_
    refine gfC_1_9 hF hH tk_95 dX5_count_100 ?_
    replace h := bd_some h
    obtain ⟨v14, σ15, hv14, h⟩ := h
    refine w_cSi (As := [.int (σ 1 9)]) (rest := []) hF hH hl (tX0_ready l E hF.j _ _ _ hv14) tk_466 tk_298 tk_48 tk_299 rfl rfl hdX0_ready ⟨Nat.le_of_ble_eq_true rfl, Nat.le_of_ble_eq_true rfl⟩ rfl rfl (Nat.le_of_ble_eq_true rfl) dX5_count_103 (fun H locs hH => ?_)
    replace h := bd_some h
    obtain ⟨v16, σ17, hv16, h⟩ := h
    refine w_cSi (As := [.int v14]) (rest := []) hF hH hl (tJ6_bitCount_0f7a4 l E hF.j _ _ _ hv16) tk_244 tk_245 tk_49 tk_246 rfl rfl hdJ6_bitCount_0f7a4 ⟨Nat.le_of_ble_eq_true rfl, Nat.le_of_ble_eq_true rfl⟩ rfl rfl (Nat.le_of_ble_eq_true rfl) dX5_count_106 (fun H locs hH => ?_)
    exact hret _ _ _ _ _ _ hH h dX5_count_109
  rw [if_neg c13] at h
  by_cases c18 : a1 = 5
  · rw [if_pos c18] at h
    refine lv_tableIn (off := 109) (tgt := 110) hF.x hF.b dX5_count_1 (by rw [c18]; decide) (by rw [c18]; decide) (by rw [c18]; rfl) (by decide) ?_
    refine lv_aload_n hF.x hF.b dX5_count_110 rfl (lv_at hl 0 rfl) ?_
    refine gfC_0_2 hF hH tk_173 dX5_count_111 ?_
    refine lv_aload_n hF.x hF.b dX5_count_114 rfl (lv_at hl 0 rfl) ?_
    refine gfC_0_0 hF hH tk_171 dX5_count_115 ?_
    refine gfC_1_9 hF hH tk_95 dX5_count_118 ?_
    replace h := bd_some h
    obtain ⟨v19, σ20, hv19, h⟩ := h
    refine w_cVi (As := [.int (σ 1 9)]) (rest := []) hF hH hl 12 (by decide) rfl rfl (tX3_liveBuses l E hF.j _ _ _ hv19) tk_286 tk_287 tk_288 tk_44 tk_289 rfl rfl hdX3_liveBuses ⟨Nat.le_of_ble_eq_true rfl, Nat.le_of_ble_eq_true rfl⟩ rfl rfl (Nat.le_of_ble_eq_true rfl) dX5_count_121 (fun H locs hH => ?_)
    replace h := bd_some h
    obtain ⟨v21, σ22, hv21, h⟩ := h
    refine w_cSi (As := [.int v19]) (rest := []) hF hH hl (tJ6_bitCount_0f7a4 l E hF.j _ _ _ hv21) tk_244 tk_245 tk_49 tk_246 rfl rfl hdJ6_bitCount_0f7a4 ⟨Nat.le_of_ble_eq_true rfl, Nat.le_of_ble_eq_true rfl⟩ rfl rfl (Nat.le_of_ble_eq_true rfl) dX5_count_124 (fun H locs hH => ?_)
    exact hret _ _ _ _ _ _ hH h dX5_count_127
  rw [if_neg c18] at h
  by_cases c23 : a1 = 6
  · rw [if_pos c23] at h
    refine lv_tableIn (off := 127) (tgt := 128) hF.x hF.b dX5_count_1 (by rw [c23]; decide) (by rw [c23]; decide) (by rw [c23]; rfl) (by decide) ?_
    refine lv_aload_n hF.x hF.b dX5_count_128 rfl (lv_at hl 0 rfl) ?_
    refine gfC_0_2 hF hH tk_173 dX5_count_129 ?_
    refine lv_aload_n hF.x hF.b dX5_count_132 rfl (lv_at hl 0 rfl) ?_
    refine gfC_0_0 hF hH tk_171 dX5_count_133 ?_
    refine gfC_1_9 hF hH tk_95 dX5_count_136 ?_
    replace h := bd_some h
    obtain ⟨v24, σ25, hv24, h⟩ := h
    refine w_cVi (As := [.int (σ 1 9)]) (rest := []) hF hH hl 12 (by decide) rfl rfl (tX3_countLiveIslands l E hF.j _ _ _ hv24) tk_467 tk_468 tk_469 tk_44 tk_470 rfl rfl hdX3_countLiveIslands ⟨Nat.le_of_ble_eq_true rfl, Nat.le_of_ble_eq_true rfl⟩ rfl rfl (Nat.le_of_ble_eq_true rfl) dX5_count_139 (fun H locs hH => ?_)
    exact hret _ _ _ _ _ _ hH h dX5_count_142
  rw [if_neg c23] at h
  by_cases c26 : a1 = 7
  · rw [if_pos c26] at h
    refine lv_tableIn (off := 142) (tgt := 143) hF.x hF.b dX5_count_1 (by rw [c26]; decide) (by rw [c26]; decide) (by rw [c26]; rfl) (by decide) ?_
    refine lv_aload_n hF.x hF.b dX5_count_143 rfl (lv_at hl 0 rfl) ?_
    refine gfC_0_0 hF hH tk_171 dX5_count_144 ?_
    refine gfC_1_10 hF hH tk_96 dX5_count_147 ?_
    exact hret _ _ _ _ _ _ hH h dX5_count_150
  rw [if_neg c26] at h
  by_cases c27 : a1 = 8
  · rw [if_pos c27] at h
    refine lv_tableIn (off := 150) (tgt := 151) hF.x hF.b dX5_count_1 (by rw [c27]; decide) (by rw [c27]; decide) (by rw [c27]; rfl) (by decide) ?_
    refine lv_aload_n hF.x hF.b dX5_count_151 rfl (lv_at hl 0 rfl) ?_
    refine gfC_0_5 hF hH tk_176 dX5_count_152 ?_
    exact hret _ _ _ _ _ _ hH h dX5_count_155
  rw [if_neg c27] at h
  have zc1 := lv_neT c1 (show (0 : Int32).toInt = 0 by decide)
  have zc2 := lv_neT c2 (show (1 : Int32).toInt = 1 by decide)
  have zc3 := lv_neT c3 (show (2 : Int32).toInt = 2 by decide)
  have zc8 := lv_neT c8 (show (3 : Int32).toInt = 3 by decide)
  have zc13 := lv_neT c13 (show (4 : Int32).toInt = 4 by decide)
  have zc18 := lv_neT c18 (show (5 : Int32).toInt = 5 by decide)
  have zc23 := lv_neT c23 (show (6 : Int32).toInt = 6 by decide)
  have zc26 := lv_neT c26 (show (7 : Int32).toInt = 7 by decide)
  have zc27 := lv_neT c27 (show (8 : Int32).toInt = 8 by decide)
  refine lv_tableOut (tgt := 156) hF.x hF.b dX5_count_1 (by omega) (by decide) ?_
  refine lv_bipush (v := (-2)) hF.x hF.b dX5_count_156 (by decide) ?_
  exact hret _ _ _ _ _ _ hH h dX5_count_158
end
