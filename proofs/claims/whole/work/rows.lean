section
-- ===== PART A: goes FIRST, ahead of the names: the tables' words, and 'selects' of the private methods out of them =====
/-- a private method of a class that the tables say can be made, by its rows of tables_1 -/
def lw_okq (q : MethodName × Nat) : Prop := (q.1.cls ≠ "java/lang/invoke/MethodHandle" ∧ q.1.cls ≠ "java/lang/invoke/VarHandle") ∧ Cond.instantiable q.1.cls q.2 ∈ tables_1 ∧ Cond.privateMethod q.1 ∈ tables_1 ∧ Cond.instanceMethod q.1 ∈ tables_1
theorem lw_p0 : lw_okq (⟨"SamplingDesk", "planAt", "(I)LSamplingDesk$Plan;"⟩, 11) := ⟨⟨by decide +kernel, by decide +kernel⟩, List.mem_of_getElem? (i := 10) (by decide +kernel), List.mem_of_getElem? (i := 149) (by decide +kernel), List.mem_of_getElem? (i := 150) (by decide +kernel)⟩
theorem lw_p1 : lw_okq (⟨"SamplingDesk$Plan", "admits", "(III)Z"⟩, 7) := ⟨⟨by decide +kernel, by decide +kernel⟩, List.mem_of_getElem? (i := 111) (by decide +kernel), List.mem_of_getElem? (i := 157) (by decide +kernel), List.mem_of_getElem? (i := 158) (by decide +kernel)⟩
theorem lw_p2 : lw_okq (⟨"SamplingDesk$Plan", "openWays", "(II)J"⟩, 7) := ⟨⟨by decide +kernel, by decide +kernel⟩, List.mem_of_getElem? (i := 111) (by decide +kernel), List.mem_of_getElem? (i := 169) (by decide +kernel), List.mem_of_getElem? (i := 170) (by decide +kernel)⟩
theorem lw_p3 : lw_okq (⟨"SamplingDesk$Plan", "isDecidedAt", "(II)Z"⟩, 7) := ⟨⟨by decide +kernel, by decide +kernel⟩, List.mem_of_getElem? (i := 111) (by decide +kernel), List.mem_of_getElem? (i := 173) (by decide +kernel), List.mem_of_getElem? (i := 174) (by decide +kernel)⟩
theorem lw_p4 : lw_okq (⟨"SamplingDesk", "planForLot", "(II)LSamplingDesk$Plan;"⟩, 11) := ⟨⟨by decide +kernel, by decide +kernel⟩, List.mem_of_getElem? (i := 10) (by decide +kernel), List.mem_of_getElem? (i := 198) (by decide +kernel), List.mem_of_getElem? (i := 199) (by decide +kernel)⟩
theorem lw_p5 : lw_okq (⟨"SamplingDesk", "closedPlanAt", "(I)LSamplingDesk$Plan;"⟩, 11) := ⟨⟨by decide +kernel, by decide +kernel⟩, List.mem_of_getElem? (i := 10) (by decide +kernel), List.mem_of_getElem? (i := 202) (by decide +kernel), List.mem_of_getElem? (i := 203) (by decide +kernel)⟩
theorem lw_p6 : lw_okq (⟨"SamplingDesk$Plan", "weight", "(IIII)J"⟩, 7) := ⟨⟨by decide +kernel, by decide +kernel⟩, List.mem_of_getElem? (i := 111) (by decide +kernel), List.mem_of_getElem? (i := 215) (by decide +kernel), List.mem_of_getElem? (i := 216) (by decide +kernel)⟩
theorem lw_p7 : lw_okq (⟨"SamplingDesk", "signOfTaken", "(LSamplingDesk$Plan;LSamplingDesk$Plan;II)I"⟩, 11) := ⟨⟨by decide +kernel, by decide +kernel⟩, List.mem_of_getElem? (i := 10) (by decide +kernel), List.mem_of_getElem? (i := 249) (by decide +kernel), List.mem_of_getElem? (i := 250) (by decide +kernel)⟩
theorem lw_p8 : lw_okq (⟨"SamplingDesk", "risksTold", "()I"⟩, 11) := ⟨⟨by decide +kernel, by decide +kernel⟩, List.mem_of_getElem? (i := 10) (by decide +kernel), List.mem_of_getElem? (i := 269) (by decide +kernel), List.mem_of_getElem? (i := 270) (by decide +kernel)⟩
theorem lw_p9 : lw_okq (⟨"SamplingDesk", "canSearch", "(I)Z"⟩, 11) := ⟨⟨by decide +kernel, by decide +kernel⟩, List.mem_of_getElem? (i := 10) (by decide +kernel), List.mem_of_getElem? (i := 277) (by decide +kernel), List.mem_of_getElem? (i := 278) (by decide +kernel)⟩
theorem lw_p10 : lw_okq (⟨"SamplingDesk", "minimalPlan", "(II)I"⟩, 11) := ⟨⟨by decide +kernel, by decide +kernel⟩, List.mem_of_getElem? (i := 10) (by decide +kernel), List.mem_of_getElem? (i := 285) (by decide +kernel), List.mem_of_getElem? (i := 286) (by decide +kernel)⟩
theorem lw_p11 : lw_okq (⟨"SamplingDesk", "leastAccept", "(II)I"⟩, 11) := ⟨⟨by decide +kernel, by decide +kernel⟩, List.mem_of_getElem? (i := 10) (by decide +kernel), List.mem_of_getElem? (i := 289) (by decide +kernel), List.mem_of_getElem? (i := 290) (by decide +kernel)⟩
theorem lw_p12 : lw_okq (⟨"SamplingDesk", "ordersWith", "(IIII)J"⟩, 11) := ⟨⟨by decide +kernel, by decide +kernel⟩, List.mem_of_getElem? (i := 10) (by decide +kernel), List.mem_of_getElem? (i := 293) (by decide +kernel), List.mem_of_getElem? (i := 294) (by decide +kernel)⟩
theorem lw_p13 : lw_okq (⟨"SamplingDesk$Risk", "against", "(JJ)I"⟩, 4) := ⟨⟨by decide +kernel, by decide +kernel⟩, List.mem_of_getElem? (i := 48) (by decide +kernel), List.mem_of_getElem? (i := 301) (by decide +kernel), List.mem_of_getElem? (i := 302) (by decide +kernel)⟩
theorem lw_p14 : lw_okq (⟨"SamplingDesk", "supplierAt", "(I)LSamplingDesk$Supplier;"⟩, 11) := ⟨⟨by decide +kernel, by decide +kernel⟩, List.mem_of_getElem? (i := 10) (by decide +kernel), List.mem_of_getElem? (i := 344) (by decide +kernel), List.mem_of_getElem? (i := 345) (by decide +kernel)⟩
theorem lw_p15 : lw_okq (⟨"SamplingDesk", "openLotAt", "(I)LSamplingDesk$Lot;"⟩, 11) := ⟨⟨by decide +kernel, by decide +kernel⟩, List.mem_of_getElem? (i := 10) (by decide +kernel), List.mem_of_getElem? (i := 401) (by decide +kernel), List.mem_of_getElem? (i := 402) (by decide +kernel)⟩
def lw_privs_1 : List (MethodName × Nat) := [(⟨"SamplingDesk", "planAt", "(I)LSamplingDesk$Plan;"⟩, 11), (⟨"SamplingDesk$Plan", "admits", "(III)Z"⟩, 7), (⟨"SamplingDesk$Plan", "openWays", "(II)J"⟩, 7), (⟨"SamplingDesk$Plan", "isDecidedAt", "(II)Z"⟩, 7), (⟨"SamplingDesk", "planForLot", "(II)LSamplingDesk$Plan;"⟩, 11), (⟨"SamplingDesk", "closedPlanAt", "(I)LSamplingDesk$Plan;"⟩, 11), (⟨"SamplingDesk$Plan", "weight", "(IIII)J"⟩, 7), (⟨"SamplingDesk", "signOfTaken", "(LSamplingDesk$Plan;LSamplingDesk$Plan;II)I"⟩, 11), (⟨"SamplingDesk", "risksTold", "()I"⟩, 11), (⟨"SamplingDesk", "canSearch", "(I)Z"⟩, 11), (⟨"SamplingDesk", "minimalPlan", "(II)I"⟩, 11), (⟨"SamplingDesk", "leastAccept", "(II)I"⟩, 11), (⟨"SamplingDesk", "ordersWith", "(IIII)J"⟩, 11), (⟨"SamplingDesk$Risk", "against", "(JJ)I"⟩, 4), (⟨"SamplingDesk", "supplierAt", "(I)LSamplingDesk$Supplier;"⟩, 11), (⟨"SamplingDesk", "openLotAt", "(I)LSamplingDesk$Lot;"⟩, 11)]
theorem lw_r1 : ∀ q ∈ lw_privs_1, lw_okq q := List.forall_mem_cons.mpr ⟨lw_p0, List.forall_mem_cons.mpr ⟨lw_p1, List.forall_mem_cons.mpr ⟨lw_p2, List.forall_mem_cons.mpr ⟨lw_p3, List.forall_mem_cons.mpr ⟨lw_p4, List.forall_mem_cons.mpr ⟨lw_p5, List.forall_mem_cons.mpr ⟨lw_p6, List.forall_mem_cons.mpr ⟨lw_p7, List.forall_mem_cons.mpr ⟨lw_p8, List.forall_mem_cons.mpr ⟨lw_p9, List.forall_mem_cons.mpr ⟨lw_p10, List.forall_mem_cons.mpr ⟨lw_p11, List.forall_mem_cons.mpr ⟨lw_p12, List.forall_mem_cons.mpr ⟨lw_p13, List.forall_mem_cons.mpr ⟨lw_p14, List.forall_mem_cons.mpr ⟨lw_p15, fun _ h => absurd h List.not_mem_nil⟩⟩⟩⟩⟩⟩⟩⟩⟩⟩⟩⟩⟩⟩⟩⟩
theorem lw_p16 : lw_okq (⟨"SamplingDesk", "lotAt", "(I)LSamplingDesk$Lot;"⟩, 11) := ⟨⟨by decide +kernel, by decide +kernel⟩, List.mem_of_getElem? (i := 10) (by decide +kernel), List.mem_of_getElem? (i := 405) (by decide +kernel), List.mem_of_getElem? (i := 406) (by decide +kernel)⟩
theorem lw_p17 : lw_okq (⟨"SamplingDesk", "settle", "(LSamplingDesk$Lot;)I"⟩, 11) := ⟨⟨by decide +kernel, by decide +kernel⟩, List.mem_of_getElem? (i := 10) (by decide +kernel), List.mem_of_getElem? (i := 427) (by decide +kernel), List.mem_of_getElem? (i := 428) (by decide +kernel)⟩
theorem lw_p18 : lw_okq (⟨"SamplingDesk$Supplier", "nextRule", "()I"⟩, 5) := ⟨⟨by decide +kernel, by decide +kernel⟩, List.mem_of_getElem? (i := 316) (by decide +kernel), List.mem_of_getElem? (i := 435) (by decide +kernel), List.mem_of_getElem? (i := 436) (by decide +kernel)⟩
theorem lw_p19 : lw_okq (⟨"SamplingDesk$Supplier", "amongLatest", "(II)I"⟩, 5) := ⟨⟨by decide +kernel, by decide +kernel⟩, List.mem_of_getElem? (i := 316) (by decide +kernel), List.mem_of_getElem? (i := 439) (by decide +kernel), List.mem_of_getElem? (i := 440) (by decide +kernel)⟩
theorem lw_p20 : lw_okq (⟨"SamplingDesk", "scoreOfLot", "(LSamplingDesk$Lot;I)J"⟩, 11) := ⟨⟨by decide +kernel, by decide +kernel⟩, List.mem_of_getElem? (i := 10) (by decide +kernel), List.mem_of_getElem? (i := 496) (by decide +kernel), List.mem_of_getElem? (i := 497) (by decide +kernel)⟩
theorem lw_p21 : lw_okq (⟨"SamplingDesk", "closedPlans", "()I"⟩, 11) := ⟨⟨by decide +kernel, by decide +kernel⟩, List.mem_of_getElem? (i := 10) (by decide +kernel), List.mem_of_getElem? (i := 508) (by decide +kernel), List.mem_of_getElem? (i := 509) (by decide +kernel)⟩
theorem lw_p22 : lw_okq (⟨"SamplingDesk", "decidedLots", "()I"⟩, 11) := ⟨⟨by decide +kernel, by decide +kernel⟩, List.mem_of_getElem? (i := 10) (by decide +kernel), List.mem_of_getElem? (i := 512) (by decide +kernel), List.mem_of_getElem? (i := 513) (by decide +kernel)⟩
theorem lw_p23 : lw_okq (⟨"SamplingDeskModel", "isPlan", "(I)Z"⟩, 37) := ⟨⟨by decide +kernel, by decide +kernel⟩, List.mem_of_getElem? (i := 516) (by decide +kernel), List.mem_of_getElem? (i := 643) (by decide +kernel), List.mem_of_getElem? (i := 644) (by decide +kernel)⟩
theorem lw_p24 : lw_okq (⟨"SamplingDeskModel", "isClosed", "(I)Z"⟩, 37) := ⟨⟨by decide +kernel, by decide +kernel⟩, List.mem_of_getElem? (i := 516) (by decide +kernel), List.mem_of_getElem? (i := 650) (by decide +kernel), List.mem_of_getElem? (i := 651) (by decide +kernel)⟩
theorem lw_p25 : lw_okq (⟨"SamplingDeskModel", "all", "(I)I"⟩, 37) := ⟨⟨by decide +kernel, by decide +kernel⟩, List.mem_of_getElem? (i := 516) (by decide +kernel), List.mem_of_getElem? (i := 654) (by decide +kernel), List.mem_of_getElem? (i := 655) (by decide +kernel)⟩
theorem lw_p26 : lw_okq (⟨"SamplingDeskModel", "upTo", "(II)I"⟩, 37) := ⟨⟨by decide +kernel, by decide +kernel⟩, List.mem_of_getElem? (i := 516) (by decide +kernel), List.mem_of_getElem? (i := 658) (by decide +kernel), List.mem_of_getElem? (i := 659) (by decide +kernel)⟩
theorem lw_p27 : lw_okq (⟨"SamplingDeskModel", "fits", "(II)Z"⟩, 37) := ⟨⟨by decide +kernel, by decide +kernel⟩, List.mem_of_getElem? (i := 516) (by decide +kernel), List.mem_of_getElem? (i := 670) (by decide +kernel), List.mem_of_getElem? (i := 671) (by decide +kernel)⟩
theorem lw_p28 : lw_okq (⟨"SamplingDeskModel", "go", "(III)V"⟩, 37) := ⟨⟨by decide +kernel, by decide +kernel⟩, List.mem_of_getElem? (i := 516) (by decide +kernel), List.mem_of_getElem? (i := 674) (by decide +kernel), List.mem_of_getElem? (i := 675) (by decide +kernel)⟩
theorem lw_p29 : lw_okq (⟨"SamplingDeskModel", "ways", "(II)J"⟩, 37) := ⟨⟨by decide +kernel, by decide +kernel⟩, List.mem_of_getElem? (i := 516) (by decide +kernel), List.mem_of_getElem? (i := 678) (by decide +kernel), List.mem_of_getElem? (i := 679) (by decide +kernel)⟩
theorem lw_p30 : lw_okq (⟨"SamplingDeskModel", "compared", "(IIII)I"⟩, 37) := ⟨⟨by decide +kernel, by decide +kernel⟩, List.mem_of_getElem? (i := 516) (by decide +kernel), List.mem_of_getElem? (i := 704) (by decide +kernel), List.mem_of_getElem? (i := 705) (by decide +kernel)⟩
theorem lw_p31 : lw_okq (⟨"SamplingDeskModel", "risks", "()I"⟩, 37) := ⟨⟨by decide +kernel, by decide +kernel⟩, List.mem_of_getElem? (i := 516) (by decide +kernel), List.mem_of_getElem? (i := 720) (by decide +kernel), List.mem_of_getElem? (i := 721) (by decide +kernel)⟩
def lw_privs_2 : List (MethodName × Nat) := [(⟨"SamplingDesk", "lotAt", "(I)LSamplingDesk$Lot;"⟩, 11), (⟨"SamplingDesk", "settle", "(LSamplingDesk$Lot;)I"⟩, 11), (⟨"SamplingDesk$Supplier", "nextRule", "()I"⟩, 5), (⟨"SamplingDesk$Supplier", "amongLatest", "(II)I"⟩, 5), (⟨"SamplingDesk", "scoreOfLot", "(LSamplingDesk$Lot;I)J"⟩, 11), (⟨"SamplingDesk", "closedPlans", "()I"⟩, 11), (⟨"SamplingDesk", "decidedLots", "()I"⟩, 11), (⟨"SamplingDeskModel", "isPlan", "(I)Z"⟩, 37), (⟨"SamplingDeskModel", "isClosed", "(I)Z"⟩, 37), (⟨"SamplingDeskModel", "all", "(I)I"⟩, 37), (⟨"SamplingDeskModel", "upTo", "(II)I"⟩, 37), (⟨"SamplingDeskModel", "fits", "(II)Z"⟩, 37), (⟨"SamplingDeskModel", "go", "(III)V"⟩, 37), (⟨"SamplingDeskModel", "ways", "(II)J"⟩, 37), (⟨"SamplingDeskModel", "compared", "(IIII)I"⟩, 37), (⟨"SamplingDeskModel", "risks", "()I"⟩, 37)]
theorem lw_r2 : ∀ q ∈ lw_privs_2, lw_okq q := List.forall_mem_cons.mpr ⟨lw_p16, List.forall_mem_cons.mpr ⟨lw_p17, List.forall_mem_cons.mpr ⟨lw_p18, List.forall_mem_cons.mpr ⟨lw_p19, List.forall_mem_cons.mpr ⟨lw_p20, List.forall_mem_cons.mpr ⟨lw_p21, List.forall_mem_cons.mpr ⟨lw_p22, List.forall_mem_cons.mpr ⟨lw_p23, List.forall_mem_cons.mpr ⟨lw_p24, List.forall_mem_cons.mpr ⟨lw_p25, List.forall_mem_cons.mpr ⟨lw_p26, List.forall_mem_cons.mpr ⟨lw_p27, List.forall_mem_cons.mpr ⟨lw_p28, List.forall_mem_cons.mpr ⟨lw_p29, List.forall_mem_cons.mpr ⟨lw_p30, List.forall_mem_cons.mpr ⟨lw_p31, fun _ h => absurd h List.not_mem_nil⟩⟩⟩⟩⟩⟩⟩⟩⟩⟩⟩⟩⟩⟩⟩⟩
theorem lw_p32 : lw_okq (⟨"SamplingDeskModel", "maySearch", "(I)Z"⟩, 37) := ⟨⟨by decide +kernel, by decide +kernel⟩, List.mem_of_getElem? (i := 516) (by decide +kernel), List.mem_of_getElem? (i := 728) (by decide +kernel), List.mem_of_getElem? (i := 729) (by decide +kernel)⟩
theorem lw_p33 : lw_okq (⟨"SamplingDeskModel", "holds", "(III)Z"⟩, 37) := ⟨⟨by decide +kernel, by decide +kernel⟩, List.mem_of_getElem? (i := 516) (by decide +kernel), List.mem_of_getElem? (i := 732) (by decide +kernel), List.mem_of_getElem? (i := 733) (by decide +kernel)⟩
theorem lw_p34 : lw_okq (⟨"SamplingDeskModel", "isSupplier", "(I)Z"⟩, 37) := ⟨⟨by decide +kernel, by decide +kernel⟩, List.mem_of_getElem? (i := 516) (by decide +kernel), List.mem_of_getElem? (i := 752) (by decide +kernel), List.mem_of_getElem? (i := 753) (by decide +kernel)⟩
theorem lw_p35 : lw_okq (⟨"SamplingDeskModel", "isOpen", "(I)Z"⟩, 37) := ⟨⟨by decide +kernel, by decide +kernel⟩, List.mem_of_getElem? (i := 516) (by decide +kernel), List.mem_of_getElem? (i := 760) (by decide +kernel), List.mem_of_getElem? (i := 761) (by decide +kernel)⟩
theorem lw_p36 : lw_okq (⟨"SamplingDeskModel", "isLot", "(I)Z"⟩, 37) := ⟨⟨by decide +kernel, by decide +kernel⟩, List.mem_of_getElem? (i := 516) (by decide +kernel), List.mem_of_getElem? (i := 764) (by decide +kernel), List.mem_of_getElem? (i := 765) (by decide +kernel)⟩
theorem lw_p37 : lw_okq (⟨"SamplingDeskModel", "judge", "(I)V"⟩, 37) := ⟨⟨by decide +kernel, by decide +kernel⟩, List.mem_of_getElem? (i := 516) (by decide +kernel), List.mem_of_getElem? (i := 768) (by decide +kernel), List.mem_of_getElem? (i := 769) (by decide +kernel)⟩
theorem lw_p38 : lw_okq (⟨"SamplingDeskModel", "hears", "(I)I"⟩, 37) := ⟨⟨by decide +kernel, by decide +kernel⟩, List.mem_of_getElem? (i := 516) (by decide +kernel), List.mem_of_getElem? (i := 772) (by decide +kernel), List.mem_of_getElem? (i := 773) (by decide +kernel)⟩
def lw_privs_3 : List (MethodName × Nat) := [(⟨"SamplingDeskModel", "maySearch", "(I)Z"⟩, 37), (⟨"SamplingDeskModel", "holds", "(III)Z"⟩, 37), (⟨"SamplingDeskModel", "isSupplier", "(I)Z"⟩, 37), (⟨"SamplingDeskModel", "isOpen", "(I)Z"⟩, 37), (⟨"SamplingDeskModel", "isLot", "(I)Z"⟩, 37), (⟨"SamplingDeskModel", "judge", "(I)V"⟩, 37), (⟨"SamplingDeskModel", "hears", "(I)I"⟩, 37)]
theorem lw_r3 : ∀ q ∈ lw_privs_3, lw_okq q := List.forall_mem_cons.mpr ⟨lw_p32, List.forall_mem_cons.mpr ⟨lw_p33, List.forall_mem_cons.mpr ⟨lw_p34, List.forall_mem_cons.mpr ⟨lw_p35, List.forall_mem_cons.mpr ⟨lw_p36, List.forall_mem_cons.mpr ⟨lw_p37, List.forall_mem_cons.mpr ⟨lw_p38, fun _ h => absurd h List.not_mem_nil⟩⟩⟩⟩⟩⟩⟩
def lw_privs : List (MethodName × Nat) := lw_privs_1 ++ (lw_privs_2 ++ (lw_privs_3))
def lw_tbl : List Cond := k2_sels lw_privs ++ tables_1
theorem lw_privs_ok : ∀ q ∈ lw_privs, lw_okq q := by
  show ∀ q ∈ lw_privs_1 ++ (lw_privs_2 ++ (lw_privs_3)), lw_okq q
  exact List.forall_mem_append.mpr ⟨lw_r1, List.forall_mem_append.mpr ⟨lw_r2, lw_r3⟩⟩
end
section
def RX0 : String := "SamplingDesk$Lot"
def TX0 : u_T := fun k => match k with
  | 0 => ("SamplingDesk$Lot", "supplierNumber", "I", true)
  | 1 => ("SamplingDesk$Lot", "size", "I", true)
  | 2 => ("SamplingDesk$Lot", "seenBy", "LSamplingDesk$Plan;", true)
  | 3 => ("SamplingDesk$Lot", "planNumber", "I", true)
  | 4 => ("SamplingDesk$Lot", "ruleItCameBy", "I", true)
  | 5 => ("SamplingDesk$Lot", "items", "[I", true)
  | 6 => ("SamplingDesk$Lot", "tally", "[I", true)
  | 7 => ("SamplingDesk$Lot", "seen", "I", false)
  | 8 => ("SamplingDesk$Lot", "stageAtHand", "I", false)
  | _ => ("SamplingDesk$Lot", "state", "I", false)
def tyX0 : Nat → FieldType := fun k => match k with
  | 0 => .int
  | 1 => .int
  | 2 => .object "SamplingDesk$Plan"
  | 3 => .int
  | 4 => .int
  | 5 => .array .int
  | 6 => .array .int
  | 7 => .int
  | 8 => .int
  | _ => .int
theorem nmX0 : ∀ a, a < 10 → ∀ b, b < 10 → a ≠ b → (TX0 a).2.1 ≠ (TX0 b).2.1 := by decide +kernel
theorem tyX0_ok : ∀ k, k < 10 → parseFieldDescriptor (TX0 k).2.2.1 = some (tyX0 k) := by decide +kernel
abbrev cX0_init : ByteArray := prog_2_method_1_code
def yX0_init : MethodName := ⟨RX0, "<init>", "(IILSamplingDesk$Plan;II)V"⟩
abbrev cX0_hasItem : ByteArray := prog_2_method_2_code
def yX0_hasItem : MethodName := ⟨RX0, "hasItem", "(I)Z"⟩
abbrev cX0_defects : ByteArray := prog_2_method_3_code
def yX0_defects : MethodName := ⟨RX0, "defects", "()I"⟩
abbrev cX0_see : ByteArray := prog_2_method_4_code
def yX0_see : MethodName := ⟨RX0, "see", "(I)V"⟩
abbrev cX0_seeAgain : ByteArray := prog_2_method_5_code
def yX0_seeAgain : MethodName := ⟨RX0, "seeAgain", "(I)V"⟩
abbrev cX0_leastFurther : ByteArray := prog_2_method_6_code
def yX0_leastFurther : MethodName := ⟨RX0, "leastFurther", "()I"⟩
abbrev cX0_cents : ByteArray := prog_2_method_7_code
def yX0_cents : MethodName := ⟨RX0, "cents", "([I)J"⟩
def RX1 : String := "SamplingDesk$Part"
def TX1 : u_T := fun k => match k with
  | 0 => ("SamplingDesk$Part", "above", "J", false)
  | _ => ("SamplingDesk$Part", "below", "J", false)
def tyX1 : Nat → FieldType := fun k => match k with
  | 0 => .long
  | _ => .long
theorem nmX1 : ∀ a, a < 2 → ∀ b, b < 2 → a ≠ b → (TX1 a).2.1 ≠ (TX1 b).2.1 := by decide +kernel
theorem tyX1_ok : ∀ k, k < 2 → parseFieldDescriptor (TX1 k).2.2.1 = some (tyX1 k) := by decide +kernel
abbrev cX1_init : ByteArray := prog_3_method_1_code
def yX1_init : MethodName := ⟨RX1, "<init>", "()V"⟩
abbrev cX1_become : ByteArray := prog_3_method_2_code
def yX1_become : MethodName := ⟨RX1, "become", "(JJ)V"⟩
abbrev cX1_commonDivisor : ByteArray := prog_3_method_3_code
def yX1_commonDivisor : MethodName := ⟨RX1, "commonDivisor", "(JJ)J"⟩
abbrev cX1_scaled : ByteArray := prog_3_method_4_code
def yX1_scaled : MethodName := ⟨RX1, "scaled", "(I)J"⟩
def RX2 : String := "SamplingDesk$Plan"
def TX2 : u_T := fun k => match k with
  | 0 => ("SamplingDesk$Plan", "sizes", "[I", true)
  | 1 => ("SamplingDesk$Plan", "accepts", "[I", true)
  | 2 => ("SamplingDesk$Plan", "refuses", "[I", true)
  | 3 => ("SamplingDesk$Plan", "ends", "[I", true)
  | 4 => ("SamplingDesk$Plan", "reached", "[[J", true)
  | 5 => ("SamplingDesk$Plan", "stages", "I", false)
  | _ => ("SamplingDesk$Plan", "closed", "Z", false)
def tyX2 : Nat → FieldType := fun k => match k with
  | 0 => .array .int
  | 1 => .array .int
  | 2 => .array .int
  | 3 => .array .int
  | 4 => .array (.array .long)
  | 5 => .int
  | _ => .boolean
theorem nmX2 : ∀ a, a < 7 → ∀ b, b < 7 → a ≠ b → (TX2 a).2.1 ≠ (TX2 b).2.1 := by decide +kernel
theorem tyX2_ok : ∀ k, k < 7 → parseFieldDescriptor (TX2 k).2.2.1 = some (tyX2 k) := by decide +kernel
abbrev cX2_init : ByteArray := prog_4_method_1_code
def yX2_init : MethodName := ⟨RX2, "<init>", "()V"⟩
abbrev cX2_hasStage : ByteArray := prog_4_method_2_code
def yX2_hasStage : MethodName := ⟨RX2, "hasStage", "(I)Z"⟩
abbrev cX2_total : ByteArray := prog_4_method_3_code
def yX2_total : MethodName := ⟨RX2, "total", "()I"⟩
abbrev cX2_admits : ByteArray := prog_4_method_4_code
def yX2_admits : MethodName := ⟨RX2, "admits", "(III)Z"⟩
abbrev cX2_append : ByteArray := prog_4_method_5_code
def yX2_append : MethodName := ⟨RX2, "append", "(IIILSamplingDesk$Ways;)Z"⟩
abbrev cX2_openWays : ByteArray := prog_4_method_6_code
def yX2_openWays : MethodName := ⟨RX2, "openWays", "(II)J"⟩
abbrev cX2_isTakenAt : ByteArray := prog_4_method_7_code
def yX2_isTakenAt : MethodName := ⟨RX2, "isTakenAt", "(II)Z"⟩
abbrev cX2_isRefusedAt : ByteArray := prog_4_method_8_code
def yX2_isRefusedAt : MethodName := ⟨RX2, "isRefusedAt", "(II)Z"⟩
abbrev cX2_isDecidedAt : ByteArray := prog_4_method_9_code
def yX2_isDecidedAt : MethodName := ⟨RX2, "isDecidedAt", "(II)Z"⟩
abbrev cX2_isEndOf : ByteArray := prog_4_method_10_code
def yX2_isEndOf : MethodName := ⟨RX2, "isEndOf", "(II)Z"⟩
abbrev cX2_sumOverOrders : ByteArray := prog_4_method_11_code
def yX2_sumOverOrders : MethodName := ⟨RX2, "sumOverOrders", "(LSamplingDesk$Ways;III)J"⟩
abbrev cX2_weight : ByteArray := prog_4_method_12_code
def yX2_weight : MethodName := ⟨RX2, "weight", "(IIII)J"⟩
def RX3 : String := "SamplingDesk$Risk"
def TX3 : u_T := fun k => match k with
  | 0 => ("SamplingDesk$Risk", "told", "Z", false)
  | 1 => ("SamplingDesk$Risk", "defective", "I", false)
  | 2 => ("SamplingDesk$Risk", "above", "I", false)
  | _ => ("SamplingDesk$Risk", "below", "I", false)
def tyX3 : Nat → FieldType := fun k => match k with
  | 0 => .boolean
  | 1 => .int
  | 2 => .int
  | _ => .int
theorem nmX3 : ∀ a, a < 4 → ∀ b, b < 4 → a ≠ b → (TX3 a).2.1 ≠ (TX3 b).2.1 := by decide +kernel
theorem tyX3_ok : ∀ k, k < 4 → parseFieldDescriptor (TX3 k).2.2.1 = some (tyX3 k) := by decide +kernel
abbrev cX3_init : ByteArray := prog_5_method_1_code
def yX3_init : MethodName := ⟨RX3, "<init>", "()V"⟩
abbrev cX3_tell : ByteArray := prog_5_method_2_code
def yX3_tell : MethodName := ⟨RX3, "tell", "(III)V"⟩
abbrev cX3_fits : ByteArray := prog_5_method_3_code
def yX3_fits : MethodName := ⟨RX3, "fits", "(I)Z"⟩
abbrev cX3_isReached : ByteArray := prog_5_method_4_code
def yX3_isReached : MethodName := ⟨RX3, "isReached", "(JJ)Z"⟩
abbrev cX3_isKept : ByteArray := prog_5_method_5_code
def yX3_isKept : MethodName := ⟨RX3, "isKept", "(JJ)Z"⟩
abbrev cX3_against : ByteArray := prog_5_method_6_code
def yX3_against : MethodName := ⟨RX3, "against", "(JJ)I"⟩
def RX4 : String := "SamplingDesk$Supplier"
def TX4 : u_T := fun k => match k with
  | 0 => ("SamplingDesk$Supplier", "planOfRule", "[I", true)
  | 1 => ("SamplingDesk$Supplier", "decisions", "[I", true)
  | 2 => ("SamplingDesk$Supplier", "decisionCount", "I", false)
  | 3 => ("SamplingDesk$Supplier", "ruleNow", "I", false)
  | _ => ("SamplingDesk$Supplier", "ruleChanges", "I", false)
def tyX4 : Nat → FieldType := fun k => match k with
  | 0 => .array .int
  | 1 => .array .int
  | 2 => .int
  | 3 => .int
  | _ => .int
theorem nmX4 : ∀ a, a < 5 → ∀ b, b < 5 → a ≠ b → (TX4 a).2.1 ≠ (TX4 b).2.1 := by decide +kernel
theorem tyX4_ok : ∀ k, k < 5 → parseFieldDescriptor (TX4 k).2.2.1 = some (tyX4 k) := by decide +kernel
abbrev cX4_init : ByteArray := prog_6_method_1_code
def yX4_init : MethodName := ⟨RX4, "<init>", "(III)V"⟩
abbrev cX4_planNow : ByteArray := prog_6_method_2_code
def yX4_planNow : MethodName := ⟨RX4, "planNow", "()I"⟩
abbrev cX4_latest : ByteArray := prog_6_method_3_code
def yX4_latest : MethodName := ⟨RX4, "latest", "(I)I"⟩
abbrev cX4_receive : ByteArray := prog_6_method_4_code
def yX4_receive : MethodName := ⟨RX4, "receive", "(I)V"⟩
abbrev cX4_nextRule : ByteArray := prog_6_method_5_code
def yX4_nextRule : MethodName := ⟨RX4, "nextRule", "()I"⟩
abbrev cX4_amongLatest : ByteArray := prog_6_method_6_code
def yX4_amongLatest : MethodName := ⟨RX4, "amongLatest", "(II)I"⟩
def RX5 : String := "SamplingDesk$Ways"
def TX5 : u_T := fun k => match k with
  | _ => ("SamplingDesk$Ways", "rows", "[[J", true)
def tyX5 : Nat → FieldType := fun k => match k with
  | _ => .array (.array .long)
theorem nmX5 : ∀ a, a < 1 → ∀ b, b < 1 → a ≠ b → (TX5 a).2.1 ≠ (TX5 b).2.1 := by decide +kernel
theorem tyX5_ok : ∀ k, k < 1 → parseFieldDescriptor (TX5 k).2.2.1 = some (tyX5 k) := by decide +kernel
abbrev cX5_init : ByteArray := prog_7_method_1_code
def yX5_init : MethodName := ⟨RX5, "<init>", "()V"⟩
abbrev cX5_choose : ByteArray := prog_7_method_2_code
def yX5_choose : MethodName := ⟨RX5, "choose", "(II)J"⟩
def RX6 : String := "SamplingDesk"
def TX6 : u_T := fun k => match k with
  | 0 => ("SamplingDesk", "ways", "LSamplingDesk$Ways;", true)
  | 1 => ("SamplingDesk", "partAtHand", "LSamplingDesk$Part;", true)
  | 2 => ("SamplingDesk", "plans", "[LSamplingDesk$Plan;", true)
  | 3 => ("SamplingDesk", "planCount", "I", false)
  | 4 => ("SamplingDesk", "leastTaken", "LSamplingDesk$Risk;", true)
  | 5 => ("SamplingDesk", "mostTaken", "LSamplingDesk$Risk;", true)
  | 6 => ("SamplingDesk", "suppliers", "[LSamplingDesk$Supplier;", true)
  | 7 => ("SamplingDesk", "supplierCount", "I", false)
  | 8 => ("SamplingDesk", "lots", "[LSamplingDesk$Lot;", true)
  | 9 => ("SamplingDesk", "lotCount", "I", false)
  | _ => ("SamplingDesk", "costs", "[I", true)
def tyX6 : Nat → FieldType := fun k => match k with
  | 0 => .object "SamplingDesk$Ways"
  | 1 => .object "SamplingDesk$Part"
  | 2 => .array (.object "SamplingDesk$Plan")
  | 3 => .int
  | 4 => .object "SamplingDesk$Risk"
  | 5 => .object "SamplingDesk$Risk"
  | 6 => .array (.object "SamplingDesk$Supplier")
  | 7 => .int
  | 8 => .array (.object "SamplingDesk$Lot")
  | 9 => .int
  | _ => .array .int
theorem nmX6 : ∀ a, a < 11 → ∀ b, b < 11 → a ≠ b → (TX6 a).2.1 ≠ (TX6 b).2.1 := by decide +kernel
theorem tyX6_ok : ∀ k, k < 11 → parseFieldDescriptor (TX6 k).2.2.1 = some (tyX6 k) := by decide +kernel
abbrev cX6_init : ByteArray := prog_1_method_1_code
def yX6_init : MethodName := ⟨RX6, "<init>", "()V"⟩
abbrev cX6_plan : ByteArray := prog_1_method_2_code
def yX6_plan : MethodName := ⟨RX6, "plan", "()I"⟩
abbrev cX6_stage : ByteArray := prog_1_method_3_code
def yX6_stage : MethodName := ⟨RX6, "stage", "(IIII)I"⟩
abbrev cX6_of : ByteArray := prog_1_method_4_code
def yX6_of : MethodName := ⟨RX6, "of", "(III)I"⟩
abbrev cX6_part : ByteArray := prog_1_method_5_code
def yX6_part : MethodName := ⟨RX6, "part", "(IIII)I"⟩
abbrev cX6_up : ByteArray := prog_1_method_6_code
def yX6_up : MethodName := ⟨RX6, "up", "()J"⟩
abbrev cX6_down : ByteArray := prog_1_method_7_code
def yX6_down : MethodName := ⟨RX6, "down", "()J"⟩
abbrev cX6_rounded : ByteArray := prog_1_method_8_code
def yX6_rounded : MethodName := ⟨RX6, "rounded", "(I)J"⟩
abbrev cX6_compare : ByteArray := prog_1_method_9_code
def yX6_compare : MethodName := ⟨RX6, "compare", "(IIII)I"⟩
abbrev cX6_crossing : ByteArray := prog_1_method_10_code
def yX6_crossing : MethodName := ⟨RX6, "crossing", "(IIII)I"⟩
abbrev cX6_signOfTaken : ByteArray := prog_1_method_11_code
def yX6_signOfTaken : MethodName := ⟨RX6, "signOfTaken", "(LSamplingDesk$Plan;LSamplingDesk$Plan;II)I"⟩
abbrev cX6_planAt : ByteArray := prog_1_method_12_code
def yX6_planAt : MethodName := ⟨RX6, "planAt", "(I)LSamplingDesk$Plan;"⟩
abbrev cX6_closedPlanAt : ByteArray := prog_1_method_13_code
def yX6_closedPlanAt : MethodName := ⟨RX6, "closedPlanAt", "(I)LSamplingDesk$Plan;"⟩
abbrev cX6_planForLot : ByteArray := prog_1_method_14_code
def yX6_planForLot : MethodName := ⟨RX6, "planForLot", "(II)LSamplingDesk$Plan;"⟩
abbrev cX6_isLotSize : ByteArray := prog_1_method_15_code
def yX6_isLotSize : MethodName := ⟨RX6, "isLotSize", "(I)Z"⟩
abbrev cX6_risk : ByteArray := prog_1_method_16_code
def yX6_risk : MethodName := ⟨RX6, "risk", "(IIII)I"⟩
abbrev cX6_forget : ByteArray := prog_1_method_17_code
def yX6_forget : MethodName := ⟨RX6, "forget", "()I"⟩
abbrev cX6_search : ByteArray := prog_1_method_18_code
def yX6_search : MethodName := ⟨RX6, "search", "(I)I"⟩
abbrev cX6_minimal : ByteArray := prog_1_method_19_code
def yX6_minimal : MethodName := ⟨RX6, "minimal", "(II)I"⟩
abbrev cX6_risksTold : ByteArray := prog_1_method_20_code
def yX6_risksTold : MethodName := ⟨RX6, "risksTold", "()I"⟩
abbrev cX6_canSearch : ByteArray := prog_1_method_21_code
def yX6_canSearch : MethodName := ⟨RX6, "canSearch", "(I)Z"⟩
abbrev cX6_minimalPlan : ByteArray := prog_1_method_22_code
def yX6_minimalPlan : MethodName := ⟨RX6, "minimalPlan", "(II)I"⟩
abbrev cX6_leastAccept : ByteArray := prog_1_method_23_code
def yX6_leastAccept : MethodName := ⟨RX6, "leastAccept", "(II)I"⟩
abbrev cX6_ordersWith : ByteArray := prog_1_method_24_code
def yX6_ordersWith : MethodName := ⟨RX6, "ordersWith", "(IIII)J"⟩
abbrev cX6_supplier : ByteArray := prog_1_method_25_code
def yX6_supplier : MethodName := ⟨RX6, "supplier", "(III)I"⟩
abbrev cX6_lot : ByteArray := prog_1_method_26_code
def yX6_lot : MethodName := ⟨RX6, "lot", "(II)I"⟩
abbrev cX6_item : ByteArray := prog_1_method_27_code
def yX6_item : MethodName := ⟨RX6, "item", "(II)I"⟩
abbrev cX6_undo : ByteArray := prog_1_method_28_code
def yX6_undo : MethodName := ⟨RX6, "undo", "(I)I"⟩
abbrev cX6_correct : ByteArray := prog_1_method_29_code
def yX6_correct : MethodName := ⟨RX6, "correct", "(III)I"⟩
abbrev cX6_about : ByteArray := prog_1_method_30_code
def yX6_about : MethodName := ⟨RX6, "about", "(II)I"⟩
abbrev cX6_needed : ByteArray := prog_1_method_31_code
def yX6_needed : MethodName := ⟨RX6, "needed", "(I)I"⟩
abbrev cX6_rule : ByteArray := prog_1_method_32_code
def yX6_rule : MethodName := ⟨RX6, "rule", "(I)I"⟩
abbrev cX6_run : ByteArray := prog_1_method_33_code
def yX6_run : MethodName := ⟨RX6, "run", "(II)I"⟩
abbrev cX6_settle : ByteArray := prog_1_method_34_code
def yX6_settle : MethodName := ⟨RX6, "settle", "(LSamplingDesk$Lot;)I"⟩
abbrev cX6_supplierAt : ByteArray := prog_1_method_35_code
def yX6_supplierAt : MethodName := ⟨RX6, "supplierAt", "(I)LSamplingDesk$Supplier;"⟩
abbrev cX6_lotAt : ByteArray := prog_1_method_36_code
def yX6_lotAt : MethodName := ⟨RX6, "lotAt", "(I)LSamplingDesk$Lot;"⟩
abbrev cX6_openLotAt : ByteArray := prog_1_method_37_code
def yX6_openLotAt : MethodName := ⟨RX6, "openLotAt", "(I)LSamplingDesk$Lot;"⟩
abbrev cX6_isClass : ByteArray := prog_1_method_38_code
def yX6_isClass : MethodName := ⟨RX6, "isClass", "(I)Z"⟩
abbrev cX6_cost : ByteArray := prog_1_method_39_code
def yX6_cost : MethodName := ⟨RX6, "cost", "(II)I"⟩
abbrev cX6_score : ByteArray := prog_1_method_40_code
def yX6_score : MethodName := ⟨RX6, "score", "(II)J"⟩
abbrev cX6_count : ByteArray := prog_1_method_41_code
def yX6_count : MethodName := ⟨RX6, "count", "(I)I"⟩
abbrev cX6_scoreOfLot : ByteArray := prog_1_method_42_code
def yX6_scoreOfLot : MethodName := ⟨RX6, "scoreOfLot", "(LSamplingDesk$Lot;I)J"⟩
abbrev cX6_closedPlans : ByteArray := prog_1_method_43_code
def yX6_closedPlans : MethodName := ⟨RX6, "closedPlans", "()I"⟩
abbrev cX6_decidedLots : ByteArray := prog_1_method_44_code
def yX6_decidedLots : MethodName := ⟨RX6, "decidedLots", "()I"⟩
def RX7 : String := "SamplingDeskModel"
def TX7 : u_T := fun k => match k with
  | 0 => ("SamplingDeskModel", "plans", "I", false)
  | 1 => ("SamplingDeskModel", "suppliers", "I", false)
  | 2 => ("SamplingDeskModel", "lots", "I", false)
  | 3 => ("SamplingDeskModel", "stages", "[I", true)
  | 4 => ("SamplingDeskModel", "size", "[I", true)
  | 5 => ("SamplingDeskModel", "accept", "[I", true)
  | 6 => ("SamplingDeskModel", "refuse", "[I", true)
  | 7 => ("SamplingDeskModel", "up", "J", false)
  | 8 => ("SamplingDeskModel", "down", "J", false)
  | 9 => ("SamplingDeskModel", "choose", "[J", true)
  | 10 => ("SamplingDeskModel", "riskAt", "[I", true)
  | 11 => ("SamplingDeskModel", "riskUp", "[I", true)
  | 12 => ("SamplingDeskModel", "riskDown", "[I", true)
  | 13 => ("SamplingDeskModel", "isRisk", "[Z", true)
  | 14 => ("SamplingDeskModel", "plansOf", "[I", true)
  | 15 => ("SamplingDeskModel", "rules", "[I", true)
  | 16 => ("SamplingDeskModel", "changes", "[I", true)
  | 17 => ("SamplingDeskModel", "runs", "[I", true)
  | 18 => ("SamplingDeskModel", "run", "[I", true)
  | 19 => ("SamplingDeskModel", "lotSupplier", "[I", true)
  | 20 => ("SamplingDeskModel", "lotSize", "[I", true)
  | 21 => ("SamplingDeskModel", "lotPlan", "[I", true)
  | 22 => ("SamplingDeskModel", "lotRule", "[I", true)
  | 23 => ("SamplingDeskModel", "seen", "[I", true)
  | 24 => ("SamplingDeskModel", "items", "[I", true)
  | 25 => ("SamplingDeskModel", "cents", "[I", true)
  | 26 => ("SamplingDeskModel", "open", "[J", true)
  | 27 => ("SamplingDeskModel", "after", "[J", true)
  | 28 => ("SamplingDeskModel", "taken", "J", false)
  | 29 => ("SamplingDeskModel", "together", "J", false)
  | 30 => ("SamplingDeskModel", "staying", "J", false)
  | 31 => ("SamplingDeskModel", "isNow", "I", false)
  | 32 => ("SamplingDeskModel", "byItems", "I", false)
  | 33 => ("SamplingDeskModel", "defects", "I", false)
  | 34 => ("SamplingDeskModel", "stageNow", "I", false)
  | 35 => ("SamplingDeskModel", "can", "[Z", true)
  | _ => ("SamplingDeskModel", "could", "[Z", true)
def tyX7 : Nat → FieldType := fun k => match k with
  | 0 => .int
  | 1 => .int
  | 2 => .int
  | 3 => .array .int
  | 4 => .array .int
  | 5 => .array .int
  | 6 => .array .int
  | 7 => .long
  | 8 => .long
  | 9 => .array .long
  | 10 => .array .int
  | 11 => .array .int
  | 12 => .array .int
  | 13 => .array .boolean
  | 14 => .array .int
  | 15 => .array .int
  | 16 => .array .int
  | 17 => .array .int
  | 18 => .array .int
  | 19 => .array .int
  | 20 => .array .int
  | 21 => .array .int
  | 22 => .array .int
  | 23 => .array .int
  | 24 => .array .int
  | 25 => .array .int
  | 26 => .array .long
  | 27 => .array .long
  | 28 => .long
  | 29 => .long
  | 30 => .long
  | 31 => .int
  | 32 => .int
  | 33 => .int
  | 34 => .int
  | 35 => .array .boolean
  | _ => .array .boolean
theorem nmX7 : ∀ a, a < 37 → ∀ b, b < 37 → a ≠ b → (TX7 a).2.1 ≠ (TX7 b).2.1 := by decide +kernel
theorem tyX7_ok : ∀ k, k < 37 → parseFieldDescriptor (TX7 k).2.2.1 = some (tyX7 k) := by decide +kernel
abbrev cX7_init : ByteArray := prog_9_method_1_code
def yX7_init : MethodName := ⟨RX7, "<init>", "()V"⟩
abbrev cX7_in : ByteArray := prog_9_method_3_code
def yX7_in : MethodName := ⟨RX7, "in", "(III)Z"⟩
abbrev cX7_ways : ByteArray := prog_9_method_4_code
def yX7_ways : MethodName := ⟨RX7, "ways", "(II)J"⟩
abbrev cX7_isPlan : ByteArray := prog_9_method_5_code
def yX7_isPlan : MethodName := ⟨RX7, "isPlan", "(I)Z"⟩
abbrev cX7_isClosed : ByteArray := prog_9_method_6_code
def yX7_isClosed : MethodName := ⟨RX7, "isClosed", "(I)Z"⟩
abbrev cX7_upTo : ByteArray := prog_9_method_7_code
def yX7_upTo : MethodName := ⟨RX7, "upTo", "(II)I"⟩
abbrev cX7_all : ByteArray := prog_9_method_8_code
def yX7_all : MethodName := ⟨RX7, "all", "(I)I"⟩
abbrev cX7_plan : ByteArray := prog_9_method_9_code
def yX7_plan : MethodName := ⟨RX7, "plan", "()I"⟩
abbrev cX7_stage : ByteArray := prog_9_method_10_code
def yX7_stage : MethodName := ⟨RX7, "stage", "(IIII)I"⟩
abbrev cX7_of : ByteArray := prog_9_method_11_code
def yX7_of : MethodName := ⟨RX7, "of", "(III)I"⟩
abbrev cX7_go : ByteArray := prog_9_method_12_code
def yX7_go : MethodName := ⟨RX7, "go", "(III)V"⟩
abbrev cX7_common : ByteArray := prog_9_method_13_code
def yX7_common : MethodName := ⟨RX7, "common", "(JJ)J"⟩
abbrev cX7_fits : ByteArray := prog_9_method_14_code
def yX7_fits : MethodName := ⟨RX7, "fits", "(II)Z"⟩
abbrev cX7_part : ByteArray := prog_9_method_15_code
def yX7_part : MethodName := ⟨RX7, "part", "(IIII)I"⟩
abbrev cX7_up : ByteArray := prog_9_method_16_code
def yX7_up : MethodName := ⟨RX7, "up", "()J"⟩
abbrev cX7_down : ByteArray := prog_9_method_17_code
def yX7_down : MethodName := ⟨RX7, "down", "()J"⟩
abbrev cX7_rounded : ByteArray := prog_9_method_18_code
def yX7_rounded : MethodName := ⟨RX7, "rounded", "(I)J"⟩
abbrev cX7_compared : ByteArray := prog_9_method_19_code
def yX7_compared : MethodName := ⟨RX7, "compared", "(IIII)I"⟩
abbrev cX7_compare : ByteArray := prog_9_method_20_code
def yX7_compare : MethodName := ⟨RX7, "compare", "(IIII)I"⟩
abbrev cX7_crossing : ByteArray := prog_9_method_21_code
def yX7_crossing : MethodName := ⟨RX7, "crossing", "(IIII)I"⟩
abbrev cX7_risk : ByteArray := prog_9_method_22_code
def yX7_risk : MethodName := ⟨RX7, "risk", "(IIII)I"⟩
abbrev cX7_risks : ByteArray := prog_9_method_23_code
def yX7_risks : MethodName := ⟨RX7, "risks", "()I"⟩
abbrev cX7_forget : ByteArray := prog_9_method_24_code
def yX7_forget : MethodName := ⟨RX7, "forget", "()I"⟩
abbrev cX7_against : ByteArray := prog_9_method_25_code
def yX7_against : MethodName := ⟨RX7, "against", "(JIJI)I"⟩
abbrev cX7_holds : ByteArray := prog_9_method_26_code
def yX7_holds : MethodName := ⟨RX7, "holds", "(III)Z"⟩
abbrev cX7_maySearch : ByteArray := prog_9_method_27_code
def yX7_maySearch : MethodName := ⟨RX7, "maySearch", "(I)Z"⟩
abbrev cX7_search : ByteArray := prog_9_method_28_code
def yX7_search : MethodName := ⟨RX7, "search", "(I)I"⟩
abbrev cX7_minimal : ByteArray := prog_9_method_29_code
def yX7_minimal : MethodName := ⟨RX7, "minimal", "(II)I"⟩
abbrev cX7_isSupplier : ByteArray := prog_9_method_30_code
def yX7_isSupplier : MethodName := ⟨RX7, "isSupplier", "(I)Z"⟩
abbrev cX7_isLot : ByteArray := prog_9_method_31_code
def yX7_isLot : MethodName := ⟨RX7, "isLot", "(I)Z"⟩
abbrev cX7_supplier : ByteArray := prog_9_method_32_code
def yX7_supplier : MethodName := ⟨RX7, "supplier", "(III)I"⟩
abbrev cX7_lot : ByteArray := prog_9_method_33_code
def yX7_lot : MethodName := ⟨RX7, "lot", "(II)I"⟩
abbrev cX7_judge : ByteArray := prog_9_method_34_code
def yX7_judge : MethodName := ⟨RX7, "judge", "(I)V"⟩
abbrev cX7_isOpen : ByteArray := prog_9_method_35_code
def yX7_isOpen : MethodName := ⟨RX7, "isOpen", "(I)Z"⟩
abbrev cX7_hears : ByteArray := prog_9_method_36_code
def yX7_hears : MethodName := ⟨RX7, "hears", "(I)I"⟩
abbrev cX7_item : ByteArray := prog_9_method_37_code
def yX7_item : MethodName := ⟨RX7, "item", "(II)I"⟩
abbrev cX7_undo : ByteArray := prog_9_method_38_code
def yX7_undo : MethodName := ⟨RX7, "undo", "(I)I"⟩
abbrev cX7_correct : ByteArray := prog_9_method_39_code
def yX7_correct : MethodName := ⟨RX7, "correct", "(III)I"⟩
abbrev cX7_about : ByteArray := prog_9_method_40_code
def yX7_about : MethodName := ⟨RX7, "about", "(II)I"⟩
abbrev cX7_needed : ByteArray := prog_9_method_41_code
def yX7_needed : MethodName := ⟨RX7, "needed", "(I)I"⟩
abbrev cX7_rule : ByteArray := prog_9_method_42_code
def yX7_rule : MethodName := ⟨RX7, "rule", "(I)I"⟩
abbrev cX7_run : ByteArray := prog_9_method_43_code
def yX7_run : MethodName := ⟨RX7, "run", "(II)I"⟩
abbrev cX7_cost : ByteArray := prog_9_method_44_code
def yX7_cost : MethodName := ⟨RX7, "cost", "(II)I"⟩
abbrev cX7_score : ByteArray := prog_9_method_45_code
def yX7_score : MethodName := ⟨RX7, "score", "(II)J"⟩
abbrev cX7_count : ByteArray := prog_9_method_46_code
def yX7_count : MethodName := ⟨RX7, "count", "(I)I"⟩
def RL : String := "SamplingDeskLaw"
abbrev cL_law : ByteArray := code
def yL_law : MethodName := ⟨RL, "law", "([I)Z"⟩
end
section
theorem dX0_init_0 : decode cX0_init 0 = .ok (.aload_n 0, 1) := by decide +kernel
theorem dX0_init_1 : decode cX0_init 1 = .ok (.invokespecial 3, 3) := by decide +kernel
theorem dX0_init_4 : decode cX0_init 4 = .ok (.aload_n 0, 1) := by decide +kernel
theorem dX0_init_5 : decode cX0_init 5 = .ok (.bipush 60, 2) := by decide +kernel
theorem dX0_init_7 : decode cX0_init 7 = .ok (.newarray .int, 2) := by decide +kernel
theorem dX0_init_9 : decode cX0_init 9 = .ok (.putfield 9, 3) := by decide +kernel
theorem dX0_init_12 : decode cX0_init 12 = .ok (.aload_n 0, 1) := by decide +kernel
theorem dX0_init_13 : decode cX0_init 13 = .ok (.iconst 4, 1) := by decide +kernel
theorem dX0_init_14 : decode cX0_init 14 = .ok (.newarray .int, 2) := by decide +kernel
theorem dX0_init_16 : decode cX0_init 16 = .ok (.putfield 15, 3) := by decide +kernel
theorem dX0_init_19 : decode cX0_init 19 = .ok (.aload_n 0, 1) := by decide +kernel
theorem dX0_init_20 : decode cX0_init 20 = .ok (.iconst 0, 1) := by decide +kernel
theorem dX0_init_21 : decode cX0_init 21 = .ok (.putfield 18, 3) := by decide +kernel
theorem dX0_init_24 : decode cX0_init 24 = .ok (.aload_n 0, 1) := by decide +kernel
theorem dX0_init_25 : decode cX0_init 25 = .ok (.iload_n 1, 1) := by decide +kernel
theorem dX0_init_26 : decode cX0_init 26 = .ok (.putfield 22, 3) := by decide +kernel
theorem dX0_init_29 : decode cX0_init 29 = .ok (.aload_n 0, 1) := by decide +kernel
theorem dX0_init_30 : decode cX0_init 30 = .ok (.iload_n 2, 1) := by decide +kernel
theorem dX0_init_31 : decode cX0_init 31 = .ok (.putfield 25, 3) := by decide +kernel
theorem dX0_init_34 : decode cX0_init 34 = .ok (.aload_n 0, 1) := by decide +kernel
theorem dX0_init_35 : decode cX0_init 35 = .ok (.aload_n 3, 1) := by decide +kernel
theorem dX0_init_36 : decode cX0_init 36 = .ok (.putfield 28, 3) := by decide +kernel
theorem dX0_init_39 : decode cX0_init 39 = .ok (.aload_n 0, 1) := by decide +kernel
theorem dX0_init_40 : decode cX0_init 40 = .ok (.iload 4, 2) := by decide +kernel
theorem dX0_init_42 : decode cX0_init 42 = .ok (.putfield 32, 3) := by decide +kernel
theorem dX0_init_45 : decode cX0_init 45 = .ok (.aload_n 0, 1) := by decide +kernel
theorem dX0_init_46 : decode cX0_init 46 = .ok (.iload 5, 2) := by decide +kernel
theorem dX0_init_48 : decode cX0_init 48 = .ok (.putfield 35, 3) := by decide +kernel
theorem dX0_init_51 : decode cX0_init 51 = .ok (.return_, 1) := by decide +kernel
theorem dX0_hasItem_0 : decode cX0_hasItem 0 = .ok (.iload_n 1, 1) := by decide +kernel
theorem dX0_hasItem_1 : decode cX0_hasItem 1 = .ok (.ifCond .lt 15, 3) := by decide +kernel
theorem dX0_hasItem_4 : decode cX0_hasItem 4 = .ok (.iload_n 1, 1) := by decide +kernel
theorem dX0_hasItem_5 : decode cX0_hasItem 5 = .ok (.aload_n 0, 1) := by decide +kernel
theorem dX0_hasItem_6 : decode cX0_hasItem 6 = .ok (.getfield 38, 3) := by decide +kernel
theorem dX0_hasItem_9 : decode cX0_hasItem 9 = .ok (.if_icmp .ge 7, 3) := by decide +kernel
theorem dX0_hasItem_12 : decode cX0_hasItem 12 = .ok (.iconst 1, 1) := by decide +kernel
theorem dX0_hasItem_13 : decode cX0_hasItem 13 = .ok (.goto 4, 3) := by decide +kernel
theorem dX0_hasItem_16 : decode cX0_hasItem 16 = .ok (.iconst 0, 1) := by decide +kernel
theorem dX0_hasItem_17 : decode cX0_hasItem 17 = .ok (.ireturn, 1) := by decide +kernel
theorem dX0_defects_0 : decode cX0_defects 0 = .ok (.aload_n 0, 1) := by decide +kernel
theorem dX0_defects_1 : decode cX0_defects 1 = .ok (.getfield 15, 3) := by decide +kernel
theorem dX0_defects_4 : decode cX0_defects 4 = .ok (.iconst 2, 1) := by decide +kernel
theorem dX0_defects_5 : decode cX0_defects 5 = .ok (.iaload, 1) := by decide +kernel
theorem dX0_defects_6 : decode cX0_defects 6 = .ok (.aload_n 0, 1) := by decide +kernel
theorem dX0_defects_7 : decode cX0_defects 7 = .ok (.getfield 15, 3) := by decide +kernel
theorem dX0_defects_10 : decode cX0_defects 10 = .ok (.iconst 3, 1) := by decide +kernel
theorem dX0_defects_11 : decode cX0_defects 11 = .ok (.iaload, 1) := by decide +kernel
theorem dX0_defects_12 : decode cX0_defects 12 = .ok (.iadd, 1) := by decide +kernel
theorem dX0_defects_13 : decode cX0_defects 13 = .ok (.aload_n 0, 1) := by decide +kernel
theorem dX0_defects_14 : decode cX0_defects 14 = .ok (.getfield 15, 3) := by decide +kernel
theorem dX0_defects_17 : decode cX0_defects 17 = .ok (.iconst 1, 1) := by decide +kernel
theorem dX0_defects_18 : decode cX0_defects 18 = .ok (.iaload, 1) := by decide +kernel
theorem dX0_defects_19 : decode cX0_defects 19 = .ok (.iconst 3, 1) := by decide +kernel
theorem dX0_defects_20 : decode cX0_defects 20 = .ok (.idiv, 1) := by decide +kernel
theorem dX0_defects_21 : decode cX0_defects 21 = .ok (.iadd, 1) := by decide +kernel
theorem dX0_defects_22 : decode cX0_defects 22 = .ok (.ireturn, 1) := by decide +kernel
theorem dX0_see_0 : decode cX0_see 0 = .ok (.aload_n 0, 1) := by decide +kernel
theorem dX0_see_1 : decode cX0_see 1 = .ok (.getfield 18, 3) := by decide +kernel
theorem dX0_see_4 : decode cX0_see 4 = .ok (.ifCond .ne 19, 3) := by decide +kernel
theorem dX0_see_7 : decode cX0_see 7 = .ok (.aload_n 0, 1) := by decide +kernel
theorem dX0_see_8 : decode cX0_see 8 = .ok (.getfield 38, 3) := by decide +kernel
theorem dX0_see_11 : decode cX0_see 11 = .ok (.bipush 60, 2) := by decide +kernel
theorem dX0_see_13 : decode cX0_see 13 = .ok (.if_icmp .ge 10, 3) := by decide +kernel
theorem dX0_see_16 : decode cX0_see 16 = .ok (.iload_n 1, 1) := by decide +kernel
theorem dX0_see_17 : decode cX0_see 17 = .ok (.invokestatic 41, 3) := by decide +kernel
theorem dX0_see_20 : decode cX0_see 20 = .ok (.ifCond .ne 4, 3) := by decide +kernel
theorem dX0_see_23 : decode cX0_see 23 = .ok (.return_, 1) := by decide +kernel
theorem dX0_see_24 : decode cX0_see 24 = .ok (.aload_n 0, 1) := by decide +kernel
theorem dX0_see_25 : decode cX0_see 25 = .ok (.getfield 9, 3) := by decide +kernel
theorem dX0_see_28 : decode cX0_see 28 = .ok (.aload_n 0, 1) := by decide +kernel
theorem dX0_see_29 : decode cX0_see 29 = .ok (.getfield 38, 3) := by decide +kernel
theorem dX0_see_32 : decode cX0_see 32 = .ok (.iload_n 1, 1) := by decide +kernel
theorem dX0_see_33 : decode cX0_see 33 = .ok (.iastore, 1) := by decide +kernel
theorem dX0_see_34 : decode cX0_see 34 = .ok (.aload_n 0, 1) := by decide +kernel
theorem dX0_see_35 : decode cX0_see 35 = .ok (.dup, 1) := by decide +kernel
theorem dX0_see_36 : decode cX0_see 36 = .ok (.getfield 38, 3) := by decide +kernel
theorem dX0_see_39 : decode cX0_see 39 = .ok (.iconst 1, 1) := by decide +kernel
theorem dX0_see_40 : decode cX0_see 40 = .ok (.iadd, 1) := by decide +kernel
theorem dX0_see_41 : decode cX0_see 41 = .ok (.putfield 38, 3) := by decide +kernel
theorem dX0_see_44 : decode cX0_see 44 = .ok (.aload_n 0, 1) := by decide +kernel
theorem dX0_see_45 : decode cX0_see 45 = .ok (.getfield 15, 3) := by decide +kernel
theorem dX0_see_48 : decode cX0_see 48 = .ok (.iload_n 1, 1) := by decide +kernel
theorem dX0_see_49 : decode cX0_see 49 = .ok (.dup2, 1) := by decide +kernel
theorem dX0_see_50 : decode cX0_see 50 = .ok (.iaload, 1) := by decide +kernel
theorem dX0_see_51 : decode cX0_see 51 = .ok (.iconst 1, 1) := by decide +kernel
theorem dX0_see_52 : decode cX0_see 52 = .ok (.iadd, 1) := by decide +kernel
theorem dX0_see_53 : decode cX0_see 53 = .ok (.iastore, 1) := by decide +kernel
theorem dX0_see_54 : decode cX0_see 54 = .ok (.aload_n 0, 1) := by decide +kernel
theorem dX0_see_55 : decode cX0_see 55 = .ok (.invokevirtual 45, 3) := by decide +kernel
theorem dX0_see_58 : decode cX0_see 58 = .ok (.istore_n 2, 1) := by decide +kernel
theorem dX0_see_59 : decode cX0_see 59 = .ok (.iload_n 1, 1) := by decide +kernel
theorem dX0_see_60 : decode cX0_see 60 = .ok (.iconst 3, 1) := by decide +kernel
theorem dX0_see_61 : decode cX0_see 61 = .ok (.if_icmp .eq 18, 3) := by decide +kernel
theorem dX0_see_64 : decode cX0_see 64 = .ok (.aload_n 0, 1) := by decide +kernel
theorem dX0_see_65 : decode cX0_see 65 = .ok (.getfield 28, 3) := by decide +kernel
theorem dX0_see_68 : decode cX0_see 68 = .ok (.aload_n 0, 1) := by decide +kernel
theorem dX0_see_69 : decode cX0_see 69 = .ok (.getfield 49, 3) := by decide +kernel
theorem dX0_see_72 : decode cX0_see 72 = .ok (.iload_n 2, 1) := by decide +kernel
theorem dX0_see_73 : decode cX0_see 73 = .ok (.invokevirtual 52, 3) := by decide +kernel
theorem dX0_see_76 : decode cX0_see 76 = .ok (.ifCond .eq 11, 3) := by decide +kernel
theorem dX0_see_79 : decode cX0_see 79 = .ok (.aload_n 0, 1) := by decide +kernel
theorem dX0_see_80 : decode cX0_see 80 = .ok (.iconst 2, 1) := by decide +kernel
theorem dX0_see_81 : decode cX0_see 81 = .ok (.putfield 18, 3) := by decide +kernel
theorem dX0_see_84 : decode cX0_see 84 = .ok (.goto 54, 3) := by decide +kernel
theorem dX0_see_87 : decode cX0_see 87 = .ok (.aload_n 0, 1) := by decide +kernel
theorem dX0_see_88 : decode cX0_see 88 = .ok (.getfield 28, 3) := by decide +kernel
theorem dX0_see_91 : decode cX0_see 91 = .ok (.aload_n 0, 1) := by decide +kernel
theorem dX0_see_92 : decode cX0_see 92 = .ok (.getfield 49, 3) := by decide +kernel
theorem dX0_see_95 : decode cX0_see 95 = .ok (.aload_n 0, 1) := by decide +kernel
theorem dX0_see_96 : decode cX0_see 96 = .ok (.getfield 38, 3) := by decide +kernel
theorem dX0_see_99 : decode cX0_see 99 = .ok (.invokevirtual 58, 3) := by decide +kernel
theorem dX0_see_102 : decode cX0_see 102 = .ok (.ifCond .eq 36, 3) := by decide +kernel
theorem dX0_see_105 : decode cX0_see 105 = .ok (.aload_n 0, 1) := by decide +kernel
theorem dX0_see_106 : decode cX0_see 106 = .ok (.getfield 28, 3) := by decide +kernel
theorem dX0_see_109 : decode cX0_see 109 = .ok (.aload_n 0, 1) := by decide +kernel
theorem dX0_see_110 : decode cX0_see 110 = .ok (.getfield 49, 3) := by decide +kernel
theorem dX0_see_113 : decode cX0_see 113 = .ok (.iload_n 2, 1) := by decide +kernel
theorem dX0_see_114 : decode cX0_see 114 = .ok (.invokevirtual 61, 3) := by decide +kernel
theorem dX0_see_117 : decode cX0_see 117 = .ok (.ifCond .eq 11, 3) := by decide +kernel
theorem dX0_see_120 : decode cX0_see 120 = .ok (.aload_n 0, 1) := by decide +kernel
theorem dX0_see_121 : decode cX0_see 121 = .ok (.iconst 1, 1) := by decide +kernel
theorem dX0_see_122 : decode cX0_see 122 = .ok (.putfield 18, 3) := by decide +kernel
theorem dX0_see_125 : decode cX0_see 125 = .ok (.goto 13, 3) := by decide +kernel
theorem dX0_see_128 : decode cX0_see 128 = .ok (.aload_n 0, 1) := by decide +kernel
theorem dX0_see_129 : decode cX0_see 129 = .ok (.dup, 1) := by decide +kernel
theorem dX0_see_130 : decode cX0_see 130 = .ok (.getfield 49, 3) := by decide +kernel
theorem dX0_see_133 : decode cX0_see 133 = .ok (.iconst 1, 1) := by decide +kernel
theorem dX0_see_134 : decode cX0_see 134 = .ok (.iadd, 1) := by decide +kernel
theorem dX0_see_135 : decode cX0_see 135 = .ok (.putfield 49, 3) := by decide +kernel
theorem dX0_see_138 : decode cX0_see 138 = .ok (.return_, 1) := by decide +kernel
theorem dX0_seeAgain_0 : decode cX0_seeAgain 0 = .ok (.aload_n 0, 1) := by decide +kernel
theorem dX0_seeAgain_1 : decode cX0_seeAgain 1 = .ok (.iconst 0, 1) := by decide +kernel
theorem dX0_seeAgain_2 : decode cX0_seeAgain 2 = .ok (.putfield 38, 3) := by decide +kernel
theorem dX0_seeAgain_5 : decode cX0_seeAgain 5 = .ok (.aload_n 0, 1) := by decide +kernel
theorem dX0_seeAgain_6 : decode cX0_seeAgain 6 = .ok (.iconst 0, 1) := by decide +kernel
theorem dX0_seeAgain_7 : decode cX0_seeAgain 7 = .ok (.putfield 49, 3) := by decide +kernel
theorem dX0_seeAgain_10 : decode cX0_seeAgain 10 = .ok (.aload_n 0, 1) := by decide +kernel
theorem dX0_seeAgain_11 : decode cX0_seeAgain 11 = .ok (.iconst 0, 1) := by decide +kernel
theorem dX0_seeAgain_12 : decode cX0_seeAgain 12 = .ok (.putfield 18, 3) := by decide +kernel
theorem dX0_seeAgain_15 : decode cX0_seeAgain 15 = .ok (.iconst 0, 1) := by decide +kernel
theorem dX0_seeAgain_16 : decode cX0_seeAgain 16 = .ok (.istore_n 2, 1) := by decide +kernel
theorem dX0_seeAgain_17 : decode cX0_seeAgain 17 = .ok (.iload_n 2, 1) := by decide +kernel
theorem dX0_seeAgain_18 : decode cX0_seeAgain 18 = .ok (.iconst 4, 1) := by decide +kernel
theorem dX0_seeAgain_19 : decode cX0_seeAgain 19 = .ok (.if_icmp .ge 16, 3) := by decide +kernel
theorem dX0_seeAgain_22 : decode cX0_seeAgain 22 = .ok (.aload_n 0, 1) := by decide +kernel
theorem dX0_seeAgain_23 : decode cX0_seeAgain 23 = .ok (.getfield 15, 3) := by decide +kernel
theorem dX0_seeAgain_26 : decode cX0_seeAgain 26 = .ok (.iload_n 2, 1) := by decide +kernel
theorem dX0_seeAgain_27 : decode cX0_seeAgain 27 = .ok (.iconst 0, 1) := by decide +kernel
theorem dX0_seeAgain_28 : decode cX0_seeAgain 28 = .ok (.iastore, 1) := by decide +kernel
theorem dX0_seeAgain_29 : decode cX0_seeAgain 29 = .ok (.iinc 2 1, 3) := by decide +kernel
theorem dX0_seeAgain_32 : decode cX0_seeAgain 32 = .ok (.goto (-15), 3) := by decide +kernel
theorem dX0_seeAgain_35 : decode cX0_seeAgain 35 = .ok (.iconst 0, 1) := by decide +kernel
theorem dX0_seeAgain_36 : decode cX0_seeAgain 36 = .ok (.istore_n 2, 1) := by decide +kernel
theorem dX0_seeAgain_37 : decode cX0_seeAgain 37 = .ok (.iload_n 2, 1) := by decide +kernel
theorem dX0_seeAgain_38 : decode cX0_seeAgain 38 = .ok (.iload_n 1, 1) := by decide +kernel
theorem dX0_seeAgain_39 : decode cX0_seeAgain 39 = .ok (.if_icmp .ge 25, 3) := by decide +kernel
theorem dX0_seeAgain_42 : decode cX0_seeAgain 42 = .ok (.iload_n 2, 1) := by decide +kernel
theorem dX0_seeAgain_43 : decode cX0_seeAgain 43 = .ok (.bipush 60, 2) := by decide +kernel
theorem dX0_seeAgain_45 : decode cX0_seeAgain 45 = .ok (.if_icmp .ge 19, 3) := by decide +kernel
theorem dX0_seeAgain_48 : decode cX0_seeAgain 48 = .ok (.aload_n 0, 1) := by decide +kernel
theorem dX0_seeAgain_49 : decode cX0_seeAgain 49 = .ok (.aload_n 0, 1) := by decide +kernel
theorem dX0_seeAgain_50 : decode cX0_seeAgain 50 = .ok (.getfield 9, 3) := by decide +kernel
theorem dX0_seeAgain_53 : decode cX0_seeAgain 53 = .ok (.iload_n 2, 1) := by decide +kernel
theorem dX0_seeAgain_54 : decode cX0_seeAgain 54 = .ok (.iaload, 1) := by decide +kernel
theorem dX0_seeAgain_55 : decode cX0_seeAgain 55 = .ok (.invokevirtual 64, 3) := by decide +kernel
theorem dX0_seeAgain_58 : decode cX0_seeAgain 58 = .ok (.iinc 2 1, 3) := by decide +kernel
theorem dX0_seeAgain_61 : decode cX0_seeAgain 61 = .ok (.goto (-24), 3) := by decide +kernel
theorem dX0_seeAgain_64 : decode cX0_seeAgain 64 = .ok (.return_, 1) := by decide +kernel
theorem dX0_leastFurther_0 : decode cX0_leastFurther 0 = .ok (.aload_n 0, 1) := by decide +kernel
theorem dX0_leastFurther_1 : decode cX0_leastFurther 1 = .ok (.getfield 18, 3) := by decide +kernel
theorem dX0_leastFurther_4 : decode cX0_leastFurther 4 = .ok (.ifCond .eq 5, 3) := by decide +kernel
theorem dX0_leastFurther_7 : decode cX0_leastFurther 7 = .ok (.iconst 0, 1) := by decide +kernel
theorem dX0_leastFurther_8 : decode cX0_leastFurther 8 = .ok (.ireturn, 1) := by decide +kernel
theorem dX0_leastFurther_9 : decode cX0_leastFurther 9 = .ok (.aload_n 0, 1) := by decide +kernel
theorem dX0_leastFurther_10 : decode cX0_leastFurther 10 = .ok (.invokevirtual 45, 3) := by decide +kernel
theorem dX0_leastFurther_13 : decode cX0_leastFurther 13 = .ok (.istore_n 1, 1) := by decide +kernel
theorem dX0_leastFurther_14 : decode cX0_leastFurther 14 = .ok (.aload_n 0, 1) := by decide +kernel
theorem dX0_leastFurther_15 : decode cX0_leastFurther 15 = .ok (.getfield 49, 3) := by decide +kernel
theorem dX0_leastFurther_18 : decode cX0_leastFurther 18 = .ok (.istore_n 2, 1) := by decide +kernel
theorem dX0_leastFurther_19 : decode cX0_leastFurther 19 = .ok (.iconst 1, 1) := by decide +kernel
theorem dX0_leastFurther_20 : decode cX0_leastFurther 20 = .ok (.istore_n 3, 1) := by decide +kernel
theorem dX0_leastFurther_21 : decode cX0_leastFurther 21 = .ok (.aload_n 0, 1) := by decide +kernel
theorem dX0_leastFurther_22 : decode cX0_leastFurther 22 = .ok (.getfield 38, 3) := by decide +kernel
theorem dX0_leastFurther_25 : decode cX0_leastFurther 25 = .ok (.iload_n 3, 1) := by decide +kernel
theorem dX0_leastFurther_26 : decode cX0_leastFurther 26 = .ok (.iadd, 1) := by decide +kernel
theorem dX0_leastFurther_27 : decode cX0_leastFurther 27 = .ok (.aload_n 0, 1) := by decide +kernel
theorem dX0_leastFurther_28 : decode cX0_leastFurther 28 = .ok (.getfield 28, 3) := by decide +kernel
theorem dX0_leastFurther_31 : decode cX0_leastFurther 31 = .ok (.invokevirtual 68, 3) := by decide +kernel
theorem dX0_leastFurther_34 : decode cX0_leastFurther 34 = .ok (.if_icmp .ge 66, 3) := by decide +kernel
theorem dX0_leastFurther_37 : decode cX0_leastFurther 37 = .ok (.aload_n 0, 1) := by decide +kernel
theorem dX0_leastFurther_38 : decode cX0_leastFurther 38 = .ok (.getfield 28, 3) := by decide +kernel
theorem dX0_leastFurther_41 : decode cX0_leastFurther 41 = .ok (.iload_n 2, 1) := by decide +kernel
theorem dX0_leastFurther_42 : decode cX0_leastFurther 42 = .ok (.aload_n 0, 1) := by decide +kernel
theorem dX0_leastFurther_43 : decode cX0_leastFurther 43 = .ok (.getfield 38, 3) := by decide +kernel
theorem dX0_leastFurther_46 : decode cX0_leastFurther 46 = .ok (.iload_n 3, 1) := by decide +kernel
theorem dX0_leastFurther_47 : decode cX0_leastFurther 47 = .ok (.iadd, 1) := by decide +kernel
theorem dX0_leastFurther_48 : decode cX0_leastFurther 48 = .ok (.invokevirtual 58, 3) := by decide +kernel
theorem dX0_leastFurther_51 : decode cX0_leastFurther 51 = .ok (.istore 4, 2) := by decide +kernel
theorem dX0_leastFurther_53 : decode cX0_leastFurther 53 = .ok (.aload_n 0, 1) := by decide +kernel
theorem dX0_leastFurther_54 : decode cX0_leastFurther 54 = .ok (.getfield 28, 3) := by decide +kernel
theorem dX0_leastFurther_57 : decode cX0_leastFurther 57 = .ok (.iload_n 2, 1) := by decide +kernel
theorem dX0_leastFurther_58 : decode cX0_leastFurther 58 = .ok (.iload_n 1, 1) := by decide +kernel
theorem dX0_leastFurther_59 : decode cX0_leastFurther 59 = .ok (.iload_n 3, 1) := by decide +kernel
theorem dX0_leastFurther_60 : decode cX0_leastFurther 60 = .ok (.iadd, 1) := by decide +kernel
theorem dX0_leastFurther_61 : decode cX0_leastFurther 61 = .ok (.invokevirtual 52, 3) := by decide +kernel
theorem dX0_leastFurther_64 : decode cX0_leastFurther 64 = .ok (.ifCond .ne 20, 3) := by decide +kernel
theorem dX0_leastFurther_67 : decode cX0_leastFurther 67 = .ok (.iload 4, 2) := by decide +kernel
theorem dX0_leastFurther_69 : decode cX0_leastFurther 69 = .ok (.ifCond .eq 17, 3) := by decide +kernel
theorem dX0_leastFurther_72 : decode cX0_leastFurther 72 = .ok (.aload_n 0, 1) := by decide +kernel
theorem dX0_leastFurther_73 : decode cX0_leastFurther 73 = .ok (.getfield 28, 3) := by decide +kernel
theorem dX0_leastFurther_76 : decode cX0_leastFurther 76 = .ok (.iload_n 2, 1) := by decide +kernel
theorem dX0_leastFurther_77 : decode cX0_leastFurther 77 = .ok (.iload_n 1, 1) := by decide +kernel
theorem dX0_leastFurther_78 : decode cX0_leastFurther 78 = .ok (.invokevirtual 61, 3) := by decide +kernel
theorem dX0_leastFurther_81 : decode cX0_leastFurther 81 = .ok (.ifCond .eq 5, 3) := by decide +kernel
theorem dX0_leastFurther_84 : decode cX0_leastFurther 84 = .ok (.iload_n 3, 1) := by decide +kernel
theorem dX0_leastFurther_85 : decode cX0_leastFurther 85 = .ok (.ireturn, 1) := by decide +kernel
theorem dX0_leastFurther_86 : decode cX0_leastFurther 86 = .ok (.iload 4, 2) := by decide +kernel
theorem dX0_leastFurther_88 : decode cX0_leastFurther 88 = .ok (.ifCond .eq 6, 3) := by decide +kernel
theorem dX0_leastFurther_91 : decode cX0_leastFurther 91 = .ok (.iinc 2 1, 3) := by decide +kernel
theorem dX0_leastFurther_94 : decode cX0_leastFurther 94 = .ok (.iinc 3 1, 3) := by decide +kernel
theorem dX0_leastFurther_97 : decode cX0_leastFurther 97 = .ok (.goto (-76), 3) := by decide +kernel
theorem dX0_leastFurther_100 : decode cX0_leastFurther 100 = .ok (.aload_n 0, 1) := by decide +kernel
theorem dX0_leastFurther_101 : decode cX0_leastFurther 101 = .ok (.getfield 28, 3) := by decide +kernel
theorem dX0_leastFurther_104 : decode cX0_leastFurther 104 = .ok (.invokevirtual 68, 3) := by decide +kernel
theorem dX0_leastFurther_107 : decode cX0_leastFurther 107 = .ok (.aload_n 0, 1) := by decide +kernel
theorem dX0_leastFurther_108 : decode cX0_leastFurther 108 = .ok (.getfield 38, 3) := by decide +kernel
theorem dX0_leastFurther_111 : decode cX0_leastFurther 111 = .ok (.isub, 1) := by decide +kernel
theorem dX0_leastFurther_112 : decode cX0_leastFurther 112 = .ok (.ireturn, 1) := by decide +kernel
theorem dX0_cents_0 : decode cX0_cents 0 = .ok (.lconst 0, 1) := by decide +kernel
theorem dX0_cents_1 : decode cX0_cents 1 = .ok (.lstore_n 2, 1) := by decide +kernel
theorem dX0_cents_2 : decode cX0_cents 2 = .ok (.iconst 0, 1) := by decide +kernel
theorem dX0_cents_3 : decode cX0_cents 3 = .ok (.istore 4, 2) := by decide +kernel
theorem dX0_cents_5 : decode cX0_cents 5 = .ok (.iload 4, 2) := by decide +kernel
theorem dX0_cents_7 : decode cX0_cents 7 = .ok (.iconst 4, 1) := by decide +kernel
theorem dX0_cents_8 : decode cX0_cents 8 = .ok (.if_icmp .ge 33, 3) := by decide +kernel
theorem dX0_cents_11 : decode cX0_cents 11 = .ok (.iload 4, 2) := by decide +kernel
theorem dX0_cents_13 : decode cX0_cents 13 = .ok (.aload_n 1, 1) := by decide +kernel
theorem dX0_cents_14 : decode cX0_cents 14 = .ok (.arraylength, 1) := by decide +kernel
theorem dX0_cents_15 : decode cX0_cents 15 = .ok (.if_icmp .ge 26, 3) := by decide +kernel
theorem dX0_cents_18 : decode cX0_cents 18 = .ok (.lload_n 2, 1) := by decide +kernel
theorem dX0_cents_19 : decode cX0_cents 19 = .ok (.aload_n 0, 1) := by decide +kernel
theorem dX0_cents_20 : decode cX0_cents 20 = .ok (.getfield 15, 3) := by decide +kernel
theorem dX0_cents_23 : decode cX0_cents 23 = .ok (.iload 4, 2) := by decide +kernel
theorem dX0_cents_25 : decode cX0_cents 25 = .ok (.iaload, 1) := by decide +kernel
theorem dX0_cents_26 : decode cX0_cents 26 = .ok (.i2l, 1) := by decide +kernel
theorem dX0_cents_27 : decode cX0_cents 27 = .ok (.aload_n 1, 1) := by decide +kernel
theorem dX0_cents_28 : decode cX0_cents 28 = .ok (.iload 4, 2) := by decide +kernel
theorem dX0_cents_30 : decode cX0_cents 30 = .ok (.iaload, 1) := by decide +kernel
theorem dX0_cents_31 : decode cX0_cents 31 = .ok (.i2l, 1) := by decide +kernel
theorem dX0_cents_32 : decode cX0_cents 32 = .ok (.lmul, 1) := by decide +kernel
theorem dX0_cents_33 : decode cX0_cents 33 = .ok (.ladd, 1) := by decide +kernel
theorem dX0_cents_34 : decode cX0_cents 34 = .ok (.lstore_n 2, 1) := by decide +kernel
theorem dX0_cents_35 : decode cX0_cents 35 = .ok (.iinc 4 1, 3) := by decide +kernel
theorem dX0_cents_38 : decode cX0_cents 38 = .ok (.goto (-33), 3) := by decide +kernel
theorem dX0_cents_41 : decode cX0_cents 41 = .ok (.lload_n 2, 1) := by decide +kernel
theorem dX0_cents_42 : decode cX0_cents 42 = .ok (.lreturn, 1) := by decide +kernel
theorem dX1_init_0 : decode cX1_init 0 = .ok (.aload_n 0, 1) := by decide +kernel
theorem dX1_init_1 : decode cX1_init 1 = .ok (.invokespecial 3, 3) := by decide +kernel
theorem dX1_init_4 : decode cX1_init 4 = .ok (.aload_n 0, 1) := by decide +kernel
theorem dX1_init_5 : decode cX1_init 5 = .ok (.lconst 0, 1) := by decide +kernel
theorem dX1_init_6 : decode cX1_init 6 = .ok (.putfield 9, 3) := by decide +kernel
theorem dX1_init_9 : decode cX1_init 9 = .ok (.aload_n 0, 1) := by decide +kernel
theorem dX1_init_10 : decode cX1_init 10 = .ok (.lconst 1, 1) := by decide +kernel
theorem dX1_init_11 : decode cX1_init 11 = .ok (.putfield 15, 3) := by decide +kernel
theorem dX1_init_14 : decode cX1_init 14 = .ok (.return_, 1) := by decide +kernel
theorem dX1_become_0 : decode cX1_become 0 = .ok (.lload_n 1, 1) := by decide +kernel
theorem dX1_become_1 : decode cX1_become 1 = .ok (.lload_n 3, 1) := by decide +kernel
theorem dX1_become_2 : decode cX1_become 2 = .ok (.invokestatic 18, 3) := by decide +kernel
theorem dX1_become_5 : decode cX1_become 5 = .ok (.lstore 5, 2) := by decide +kernel
theorem dX1_become_7 : decode cX1_become 7 = .ok (.lload 5, 2) := by decide +kernel
theorem dX1_become_9 : decode cX1_become 9 = .ok (.lconst 0, 1) := by decide +kernel
theorem dX1_become_10 : decode cX1_become 10 = .ok (.lcmp, 1) := by decide +kernel
theorem dX1_become_11 : decode cX1_become 11 = .ok (.ifCond .gt 4, 3) := by decide +kernel
theorem dX1_become_14 : decode cX1_become 14 = .ok (.return_, 1) := by decide +kernel
theorem dX1_become_15 : decode cX1_become 15 = .ok (.aload_n 0, 1) := by decide +kernel
theorem dX1_become_16 : decode cX1_become 16 = .ok (.lload_n 1, 1) := by decide +kernel
theorem dX1_become_17 : decode cX1_become 17 = .ok (.lload 5, 2) := by decide +kernel
theorem dX1_become_19 : decode cX1_become 19 = .ok (.ldiv, 1) := by decide +kernel
theorem dX1_become_20 : decode cX1_become 20 = .ok (.putfield 9, 3) := by decide +kernel
theorem dX1_become_23 : decode cX1_become 23 = .ok (.aload_n 0, 1) := by decide +kernel
theorem dX1_become_24 : decode cX1_become 24 = .ok (.lload_n 3, 1) := by decide +kernel
theorem dX1_become_25 : decode cX1_become 25 = .ok (.lload 5, 2) := by decide +kernel
theorem dX1_become_27 : decode cX1_become 27 = .ok (.ldiv, 1) := by decide +kernel
theorem dX1_become_28 : decode cX1_become 28 = .ok (.putfield 15, 3) := by decide +kernel
theorem dX1_become_31 : decode cX1_become 31 = .ok (.return_, 1) := by decide +kernel
theorem dX1_commonDivisor_0 : decode cX1_commonDivisor 0 = .ok (.lload_n 0, 1) := by decide +kernel
theorem dX1_commonDivisor_1 : decode cX1_commonDivisor 1 = .ok (.lstore 4, 2) := by decide +kernel
theorem dX1_commonDivisor_3 : decode cX1_commonDivisor 3 = .ok (.lload_n 2, 1) := by decide +kernel
theorem dX1_commonDivisor_4 : decode cX1_commonDivisor 4 = .ok (.lstore 6, 2) := by decide +kernel
theorem dX1_commonDivisor_6 : decode cX1_commonDivisor 6 = .ok (.iconst 0, 1) := by decide +kernel
theorem dX1_commonDivisor_7 : decode cX1_commonDivisor 7 = .ok (.istore 8, 2) := by decide +kernel
theorem dX1_commonDivisor_9 : decode cX1_commonDivisor 9 = .ok (.iload 8, 2) := by decide +kernel
theorem dX1_commonDivisor_11 : decode cX1_commonDivisor 11 = .ok (.sipush 200, 3) := by decide +kernel
theorem dX1_commonDivisor_14 : decode cX1_commonDivisor 14 = .ok (.if_icmp .ge 31, 3) := by decide +kernel
theorem dX1_commonDivisor_17 : decode cX1_commonDivisor 17 = .ok (.lload 6, 2) := by decide +kernel
theorem dX1_commonDivisor_19 : decode cX1_commonDivisor 19 = .ok (.lconst 0, 1) := by decide +kernel
theorem dX1_commonDivisor_20 : decode cX1_commonDivisor 20 = .ok (.lcmp, 1) := by decide +kernel
theorem dX1_commonDivisor_21 : decode cX1_commonDivisor 21 = .ok (.ifCond .eq 24, 3) := by decide +kernel
theorem dX1_commonDivisor_24 : decode cX1_commonDivisor 24 = .ok (.lload 4, 2) := by decide +kernel
theorem dX1_commonDivisor_26 : decode cX1_commonDivisor 26 = .ok (.lload 6, 2) := by decide +kernel
theorem dX1_commonDivisor_28 : decode cX1_commonDivisor 28 = .ok (.lrem, 1) := by decide +kernel
theorem dX1_commonDivisor_29 : decode cX1_commonDivisor 29 = .ok (.lstore 9, 2) := by decide +kernel
theorem dX1_commonDivisor_31 : decode cX1_commonDivisor 31 = .ok (.lload 6, 2) := by decide +kernel
theorem dX1_commonDivisor_33 : decode cX1_commonDivisor 33 = .ok (.lstore 4, 2) := by decide +kernel
theorem dX1_commonDivisor_35 : decode cX1_commonDivisor 35 = .ok (.lload 9, 2) := by decide +kernel
theorem dX1_commonDivisor_37 : decode cX1_commonDivisor 37 = .ok (.lstore 6, 2) := by decide +kernel
theorem dX1_commonDivisor_39 : decode cX1_commonDivisor 39 = .ok (.iinc 8 1, 3) := by decide +kernel
theorem dX1_commonDivisor_42 : decode cX1_commonDivisor 42 = .ok (.goto (-33), 3) := by decide +kernel
theorem dX1_commonDivisor_45 : decode cX1_commonDivisor 45 = .ok (.lload 4, 2) := by decide +kernel
theorem dX1_commonDivisor_47 : decode cX1_commonDivisor 47 = .ok (.lreturn, 1) := by decide +kernel
theorem dX1_scaled_0 : decode cX1_scaled 0 = .ok (.aload_n 0, 1) := by decide +kernel
theorem dX1_scaled_1 : decode cX1_scaled 1 = .ok (.getfield 15, 3) := by decide +kernel
theorem dX1_scaled_4 : decode cX1_scaled 4 = .ok (.lconst 0, 1) := by decide +kernel
theorem dX1_scaled_5 : decode cX1_scaled 5 = .ok (.lcmp, 1) := by decide +kernel
theorem dX1_scaled_6 : decode cX1_scaled 6 = .ok (.ifCond .gt 5, 3) := by decide +kernel
theorem dX1_scaled_9 : decode cX1_scaled 9 = .ok (.lconst 0, 1) := by decide +kernel
theorem dX1_scaled_10 : decode cX1_scaled 10 = .ok (.lreturn, 1) := by decide +kernel
theorem dX1_scaled_11 : decode cX1_scaled 11 = .ok (.aload_n 0, 1) := by decide +kernel
theorem dX1_scaled_12 : decode cX1_scaled 12 = .ok (.getfield 9, 3) := by decide +kernel
theorem dX1_scaled_15 : decode cX1_scaled 15 = .ok (.aload_n 0, 1) := by decide +kernel
theorem dX1_scaled_16 : decode cX1_scaled 16 = .ok (.getfield 15, 3) := by decide +kernel
theorem dX1_scaled_19 : decode cX1_scaled 19 = .ok (.ldiv, 1) := by decide +kernel
theorem dX1_scaled_20 : decode cX1_scaled 20 = .ok (.lstore_n 2, 1) := by decide +kernel
theorem dX1_scaled_21 : decode cX1_scaled 21 = .ok (.aload_n 0, 1) := by decide +kernel
theorem dX1_scaled_22 : decode cX1_scaled 22 = .ok (.getfield 9, 3) := by decide +kernel
theorem dX1_scaled_25 : decode cX1_scaled 25 = .ok (.aload_n 0, 1) := by decide +kernel
theorem dX1_scaled_26 : decode cX1_scaled 26 = .ok (.getfield 15, 3) := by decide +kernel
theorem dX1_scaled_29 : decode cX1_scaled 29 = .ok (.lrem, 1) := by decide +kernel
theorem dX1_scaled_30 : decode cX1_scaled 30 = .ok (.lstore 4, 2) := by decide +kernel
theorem dX1_scaled_32 : decode cX1_scaled 32 = .ok (.iconst 0, 1) := by decide +kernel
theorem dX1_scaled_33 : decode cX1_scaled 33 = .ok (.istore 6, 2) := by decide +kernel
theorem dX1_scaled_35 : decode cX1_scaled 35 = .ok (.iload 6, 2) := by decide +kernel
theorem dX1_scaled_37 : decode cX1_scaled 37 = .ok (.iload_n 1, 1) := by decide +kernel
theorem dX1_scaled_38 : decode cX1_scaled 38 = .ok (.if_icmp .ge 77, 3) := by decide +kernel
theorem dX1_scaled_41 : decode cX1_scaled 41 = .ok (.lconst 0, 1) := by decide +kernel
theorem dX1_scaled_42 : decode cX1_scaled 42 = .ok (.lstore 7, 2) := by decide +kernel
theorem dX1_scaled_44 : decode cX1_scaled 44 = .ok (.ldc2_w 22, 3) := by decide +kernel
theorem dX1_scaled_47 : decode cX1_scaled 47 = .ok (.lload_n 2, 1) := by decide +kernel
theorem dX1_scaled_48 : decode cX1_scaled 48 = .ok (.lmul, 1) := by decide +kernel
theorem dX1_scaled_49 : decode cX1_scaled 49 = .ok (.lstore_n 2, 1) := by decide +kernel
theorem dX1_scaled_50 : decode cX1_scaled 50 = .ok (.iconst 0, 1) := by decide +kernel
theorem dX1_scaled_51 : decode cX1_scaled 51 = .ok (.istore 9, 2) := by decide +kernel
theorem dX1_scaled_53 : decode cX1_scaled 53 = .ok (.iload 9, 2) := by decide +kernel
theorem dX1_scaled_55 : decode cX1_scaled 55 = .ok (.bipush 10, 2) := by decide +kernel
theorem dX1_scaled_57 : decode cX1_scaled 57 = .ok (.if_icmp .ge 48, 3) := by decide +kernel
theorem dX1_scaled_60 : decode cX1_scaled 60 = .ok (.lload 7, 2) := by decide +kernel
theorem dX1_scaled_62 : decode cX1_scaled 62 = .ok (.aload_n 0, 1) := by decide +kernel
theorem dX1_scaled_63 : decode cX1_scaled 63 = .ok (.getfield 15, 3) := by decide +kernel
theorem dX1_scaled_66 : decode cX1_scaled 66 = .ok (.lload 4, 2) := by decide +kernel
theorem dX1_scaled_68 : decode cX1_scaled 68 = .ok (.lsub, 1) := by decide +kernel
theorem dX1_scaled_69 : decode cX1_scaled 69 = .ok (.lcmp, 1) := by decide +kernel
theorem dX1_scaled_70 : decode cX1_scaled 70 = .ok (.ifCond .lt 22, 3) := by decide +kernel
theorem dX1_scaled_73 : decode cX1_scaled 73 = .ok (.lload 7, 2) := by decide +kernel
theorem dX1_scaled_75 : decode cX1_scaled 75 = .ok (.aload_n 0, 1) := by decide +kernel
theorem dX1_scaled_76 : decode cX1_scaled 76 = .ok (.getfield 15, 3) := by decide +kernel
theorem dX1_scaled_79 : decode cX1_scaled 79 = .ok (.lload 4, 2) := by decide +kernel
theorem dX1_scaled_81 : decode cX1_scaled 81 = .ok (.lsub, 1) := by decide +kernel
theorem dX1_scaled_82 : decode cX1_scaled 82 = .ok (.lsub, 1) := by decide +kernel
theorem dX1_scaled_83 : decode cX1_scaled 83 = .ok (.lstore 7, 2) := by decide +kernel
theorem dX1_scaled_85 : decode cX1_scaled 85 = .ok (.lload_n 2, 1) := by decide +kernel
theorem dX1_scaled_86 : decode cX1_scaled 86 = .ok (.lconst 1, 1) := by decide +kernel
theorem dX1_scaled_87 : decode cX1_scaled 87 = .ok (.ladd, 1) := by decide +kernel
theorem dX1_scaled_88 : decode cX1_scaled 88 = .ok (.lstore_n 2, 1) := by decide +kernel
theorem dX1_scaled_89 : decode cX1_scaled 89 = .ok (.goto 10, 3) := by decide +kernel
theorem dX1_scaled_92 : decode cX1_scaled 92 = .ok (.lload 7, 2) := by decide +kernel
theorem dX1_scaled_94 : decode cX1_scaled 94 = .ok (.lload 4, 2) := by decide +kernel
theorem dX1_scaled_96 : decode cX1_scaled 96 = .ok (.ladd, 1) := by decide +kernel
theorem dX1_scaled_97 : decode cX1_scaled 97 = .ok (.lstore 7, 2) := by decide +kernel
theorem dX1_scaled_99 : decode cX1_scaled 99 = .ok (.iinc 9 1, 3) := by decide +kernel
theorem dX1_scaled_102 : decode cX1_scaled 102 = .ok (.goto (-49), 3) := by decide +kernel
theorem dX1_scaled_105 : decode cX1_scaled 105 = .ok (.lload 7, 2) := by decide +kernel
theorem dX1_scaled_107 : decode cX1_scaled 107 = .ok (.lstore 4, 2) := by decide +kernel
theorem dX1_scaled_109 : decode cX1_scaled 109 = .ok (.iinc 6 1, 3) := by decide +kernel
theorem dX1_scaled_112 : decode cX1_scaled 112 = .ok (.goto (-77), 3) := by decide +kernel
theorem dX1_scaled_115 : decode cX1_scaled 115 = .ok (.aload_n 0, 1) := by decide +kernel
theorem dX1_scaled_116 : decode cX1_scaled 116 = .ok (.getfield 15, 3) := by decide +kernel
theorem dX1_scaled_119 : decode cX1_scaled 119 = .ok (.lload 4, 2) := by decide +kernel
theorem dX1_scaled_121 : decode cX1_scaled 121 = .ok (.lsub, 1) := by decide +kernel
theorem dX1_scaled_122 : decode cX1_scaled 122 = .ok (.lstore 6, 2) := by decide +kernel
theorem dX1_scaled_124 : decode cX1_scaled 124 = .ok (.lload 4, 2) := by decide +kernel
theorem dX1_scaled_126 : decode cX1_scaled 126 = .ok (.lload 6, 2) := by decide +kernel
theorem dX1_scaled_128 : decode cX1_scaled 128 = .ok (.lcmp, 1) := by decide +kernel
theorem dX1_scaled_129 : decode cX1_scaled 129 = .ok (.ifCond .gt 21, 3) := by decide +kernel
theorem dX1_scaled_132 : decode cX1_scaled 132 = .ok (.lload 4, 2) := by decide +kernel
theorem dX1_scaled_134 : decode cX1_scaled 134 = .ok (.lload 6, 2) := by decide +kernel
theorem dX1_scaled_136 : decode cX1_scaled 136 = .ok (.lcmp, 1) := by decide +kernel
theorem dX1_scaled_137 : decode cX1_scaled 137 = .ok (.ifCond .ne 17, 3) := by decide +kernel
theorem dX1_scaled_140 : decode cX1_scaled 140 = .ok (.lload_n 2, 1) := by decide +kernel
theorem dX1_scaled_141 : decode cX1_scaled 141 = .ok (.ldc2_w 24, 3) := by decide +kernel
theorem dX1_scaled_144 : decode cX1_scaled 144 = .ok (.lrem, 1) := by decide +kernel
theorem dX1_scaled_145 : decode cX1_scaled 145 = .ok (.lconst 0, 1) := by decide +kernel
theorem dX1_scaled_146 : decode cX1_scaled 146 = .ok (.lcmp, 1) := by decide +kernel
theorem dX1_scaled_147 : decode cX1_scaled 147 = .ok (.ifCond .eq 7, 3) := by decide +kernel
theorem dX1_scaled_150 : decode cX1_scaled 150 = .ok (.iconst 1, 1) := by decide +kernel
theorem dX1_scaled_151 : decode cX1_scaled 151 = .ok (.goto 4, 3) := by decide +kernel
theorem dX1_scaled_154 : decode cX1_scaled 154 = .ok (.iconst 0, 1) := by decide +kernel
theorem dX1_scaled_155 : decode cX1_scaled 155 = .ok (.istore 8, 2) := by decide +kernel
theorem dX1_scaled_157 : decode cX1_scaled 157 = .ok (.iload 8, 2) := by decide +kernel
theorem dX1_scaled_159 : decode cX1_scaled 159 = .ok (.ifCond .eq 9, 3) := by decide +kernel
theorem dX1_scaled_162 : decode cX1_scaled 162 = .ok (.lload_n 2, 1) := by decide +kernel
theorem dX1_scaled_163 : decode cX1_scaled 163 = .ok (.lconst 1, 1) := by decide +kernel
theorem dX1_scaled_164 : decode cX1_scaled 164 = .ok (.ladd, 1) := by decide +kernel
theorem dX1_scaled_165 : decode cX1_scaled 165 = .ok (.goto 4, 3) := by decide +kernel
theorem dX1_scaled_168 : decode cX1_scaled 168 = .ok (.lload_n 2, 1) := by decide +kernel
theorem dX1_scaled_169 : decode cX1_scaled 169 = .ok (.lreturn, 1) := by decide +kernel
theorem dX2_init_0 : decode cX2_init 0 = .ok (.aload_n 0, 1) := by decide +kernel
theorem dX2_init_1 : decode cX2_init 1 = .ok (.invokespecial 3, 3) := by decide +kernel
theorem dX2_init_4 : decode cX2_init 4 = .ok (.aload_n 0, 1) := by decide +kernel
theorem dX2_init_5 : decode cX2_init 5 = .ok (.iconst 4, 1) := by decide +kernel
theorem dX2_init_6 : decode cX2_init 6 = .ok (.newarray .int, 2) := by decide +kernel
theorem dX2_init_8 : decode cX2_init 8 = .ok (.putfield 9, 3) := by decide +kernel
theorem dX2_init_11 : decode cX2_init 11 = .ok (.aload_n 0, 1) := by decide +kernel
theorem dX2_init_12 : decode cX2_init 12 = .ok (.iconst 4, 1) := by decide +kernel
theorem dX2_init_13 : decode cX2_init 13 = .ok (.newarray .int, 2) := by decide +kernel
theorem dX2_init_15 : decode cX2_init 15 = .ok (.putfield 15, 3) := by decide +kernel
theorem dX2_init_18 : decode cX2_init 18 = .ok (.aload_n 0, 1) := by decide +kernel
theorem dX2_init_19 : decode cX2_init 19 = .ok (.iconst 4, 1) := by decide +kernel
theorem dX2_init_20 : decode cX2_init 20 = .ok (.newarray .int, 2) := by decide +kernel
theorem dX2_init_22 : decode cX2_init 22 = .ok (.putfield 18, 3) := by decide +kernel
theorem dX2_init_25 : decode cX2_init 25 = .ok (.aload_n 0, 1) := by decide +kernel
theorem dX2_init_26 : decode cX2_init 26 = .ok (.iconst 4, 1) := by decide +kernel
theorem dX2_init_27 : decode cX2_init 27 = .ok (.newarray .int, 2) := by decide +kernel
theorem dX2_init_29 : decode cX2_init 29 = .ok (.putfield 21, 3) := by decide +kernel
theorem dX2_init_32 : decode cX2_init 32 = .ok (.aload_n 0, 1) := by decide +kernel
theorem dX2_init_33 : decode cX2_init 33 = .ok (.iconst 4, 1) := by decide +kernel
theorem dX2_init_34 : decode cX2_init 34 = .ok (.bipush 61, 2) := by decide +kernel
theorem dX2_init_36 : decode cX2_init 36 = .ok (.multianewarray 24 2, 4) := by decide +kernel
theorem dX2_init_40 : decode cX2_init 40 = .ok (.putfield 26, 3) := by decide +kernel
theorem dX2_init_43 : decode cX2_init 43 = .ok (.return_, 1) := by decide +kernel
theorem dX2_hasStage_0 : decode cX2_hasStage 0 = .ok (.iload_n 1, 1) := by decide +kernel
theorem dX2_hasStage_1 : decode cX2_hasStage 1 = .ok (.ifCond .lt 15, 3) := by decide +kernel
theorem dX2_hasStage_4 : decode cX2_hasStage 4 = .ok (.iload_n 1, 1) := by decide +kernel
theorem dX2_hasStage_5 : decode cX2_hasStage 5 = .ok (.aload_n 0, 1) := by decide +kernel
theorem dX2_hasStage_6 : decode cX2_hasStage 6 = .ok (.getfield 29, 3) := by decide +kernel
theorem dX2_hasStage_9 : decode cX2_hasStage 9 = .ok (.if_icmp .ge 7, 3) := by decide +kernel
theorem dX2_hasStage_12 : decode cX2_hasStage 12 = .ok (.iconst 1, 1) := by decide +kernel
theorem dX2_hasStage_13 : decode cX2_hasStage 13 = .ok (.goto 4, 3) := by decide +kernel
theorem dX2_hasStage_16 : decode cX2_hasStage 16 = .ok (.iconst 0, 1) := by decide +kernel
theorem dX2_hasStage_17 : decode cX2_hasStage 17 = .ok (.ireturn, 1) := by decide +kernel
theorem dX2_total_0 : decode cX2_total 0 = .ok (.aload_n 0, 1) := by decide +kernel
theorem dX2_total_1 : decode cX2_total 1 = .ok (.aload_n 0, 1) := by decide +kernel
theorem dX2_total_2 : decode cX2_total 2 = .ok (.getfield 29, 3) := by decide +kernel
theorem dX2_total_5 : decode cX2_total 5 = .ok (.iconst 1, 1) := by decide +kernel
theorem dX2_total_6 : decode cX2_total 6 = .ok (.isub, 1) := by decide +kernel
theorem dX2_total_7 : decode cX2_total 7 = .ok (.invokevirtual 33, 3) := by decide +kernel
theorem dX2_total_10 : decode cX2_total 10 = .ok (.ifCond .eq 17, 3) := by decide +kernel
theorem dX2_total_13 : decode cX2_total 13 = .ok (.aload_n 0, 1) := by decide +kernel
theorem dX2_total_14 : decode cX2_total 14 = .ok (.getfield 21, 3) := by decide +kernel
theorem dX2_total_17 : decode cX2_total 17 = .ok (.aload_n 0, 1) := by decide +kernel
theorem dX2_total_18 : decode cX2_total 18 = .ok (.getfield 29, 3) := by decide +kernel
theorem dX2_total_21 : decode cX2_total 21 = .ok (.iconst 1, 1) := by decide +kernel
theorem dX2_total_22 : decode cX2_total 22 = .ok (.isub, 1) := by decide +kernel
theorem dX2_total_23 : decode cX2_total 23 = .ok (.iaload, 1) := by decide +kernel
theorem dX2_total_24 : decode cX2_total 24 = .ok (.goto 4, 3) := by decide +kernel
theorem dX2_total_27 : decode cX2_total 27 = .ok (.iconst 0, 1) := by decide +kernel
theorem dX2_total_28 : decode cX2_total 28 = .ok (.ireturn, 1) := by decide +kernel
theorem dX2_admits_0 : decode cX2_admits 0 = .ok (.aload_n 0, 1) := by decide +kernel
theorem dX2_admits_1 : decode cX2_admits 1 = .ok (.getfield 37, 3) := by decide +kernel
theorem dX2_admits_4 : decode cX2_admits 4 = .ok (.ifCond .ne 11, 3) := by decide +kernel
theorem dX2_admits_7 : decode cX2_admits 7 = .ok (.aload_n 0, 1) := by decide +kernel
theorem dX2_admits_8 : decode cX2_admits 8 = .ok (.getfield 29, 3) := by decide +kernel
theorem dX2_admits_11 : decode cX2_admits 11 = .ok (.iconst 4, 1) := by decide +kernel
theorem dX2_admits_12 : decode cX2_admits 12 = .ok (.if_icmp .lt 5, 3) := by decide +kernel
theorem dX2_admits_15 : decode cX2_admits 15 = .ok (.iconst 0, 1) := by decide +kernel
theorem dX2_admits_16 : decode cX2_admits 16 = .ok (.ireturn, 1) := by decide +kernel
theorem dX2_admits_17 : decode cX2_admits 17 = .ok (.iload_n 1, 1) := by decide +kernel
theorem dX2_admits_18 : decode cX2_admits 18 = .ok (.iconst 1, 1) := by decide +kernel
theorem dX2_admits_19 : decode cX2_admits 19 = .ok (.if_icmp .lt 20, 3) := by decide +kernel
theorem dX2_admits_22 : decode cX2_admits 22 = .ok (.iload_n 1, 1) := by decide +kernel
theorem dX2_admits_23 : decode cX2_admits 23 = .ok (.bipush 60, 2) := by decide +kernel
theorem dX2_admits_25 : decode cX2_admits 25 = .ok (.if_icmp .gt 14, 3) := by decide +kernel
theorem dX2_admits_28 : decode cX2_admits 28 = .ok (.aload_n 0, 1) := by decide +kernel
theorem dX2_admits_29 : decode cX2_admits 29 = .ok (.invokevirtual 41, 3) := by decide +kernel
theorem dX2_admits_32 : decode cX2_admits 32 = .ok (.iload_n 1, 1) := by decide +kernel
theorem dX2_admits_33 : decode cX2_admits 33 = .ok (.iadd, 1) := by decide +kernel
theorem dX2_admits_34 : decode cX2_admits 34 = .ok (.bipush 60, 2) := by decide +kernel
theorem dX2_admits_36 : decode cX2_admits 36 = .ok (.if_icmp .le 5, 3) := by decide +kernel
theorem dX2_admits_39 : decode cX2_admits 39 = .ok (.iconst 0, 1) := by decide +kernel
theorem dX2_admits_40 : decode cX2_admits 40 = .ok (.ireturn, 1) := by decide +kernel
theorem dX2_admits_41 : decode cX2_admits 41 = .ok (.iload_n 2, 1) := by decide +kernel
theorem dX2_admits_42 : decode cX2_admits 42 = .ok (.iconst (-1), 1) := by decide +kernel
theorem dX2_admits_43 : decode cX2_admits 43 = .ok (.if_icmp .lt 20, 3) := by decide +kernel
theorem dX2_admits_46 : decode cX2_admits 46 = .ok (.iload_n 2, 1) := by decide +kernel
theorem dX2_admits_47 : decode cX2_admits 47 = .ok (.bipush 60, 2) := by decide +kernel
theorem dX2_admits_49 : decode cX2_admits 49 = .ok (.if_icmp .gt 14, 3) := by decide +kernel
theorem dX2_admits_52 : decode cX2_admits 52 = .ok (.iload_n 3, 1) := by decide +kernel
theorem dX2_admits_53 : decode cX2_admits 53 = .ok (.iload_n 2, 1) := by decide +kernel
theorem dX2_admits_54 : decode cX2_admits 54 = .ok (.if_icmp .le 9, 3) := by decide +kernel
theorem dX2_admits_57 : decode cX2_admits 57 = .ok (.iload_n 3, 1) := by decide +kernel
theorem dX2_admits_58 : decode cX2_admits 58 = .ok (.bipush 61, 2) := by decide +kernel
theorem dX2_admits_60 : decode cX2_admits 60 = .ok (.if_icmp .le 5, 3) := by decide +kernel
theorem dX2_admits_63 : decode cX2_admits 63 = .ok (.iconst 0, 1) := by decide +kernel
theorem dX2_admits_64 : decode cX2_admits 64 = .ok (.ireturn, 1) := by decide +kernel
theorem dX2_admits_65 : decode cX2_admits 65 = .ok (.aload_n 0, 1) := by decide +kernel
theorem dX2_admits_66 : decode cX2_admits 66 = .ok (.getfield 29, 3) := by decide +kernel
theorem dX2_admits_69 : decode cX2_admits 69 = .ok (.iconst 3, 1) := by decide +kernel
theorem dX2_admits_70 : decode cX2_admits 70 = .ok (.if_icmp .lt 10, 3) := by decide +kernel
theorem dX2_admits_73 : decode cX2_admits 73 = .ok (.iload_n 3, 1) := by decide +kernel
theorem dX2_admits_74 : decode cX2_admits 74 = .ok (.iload_n 2, 1) := by decide +kernel
theorem dX2_admits_75 : decode cX2_admits 75 = .ok (.iconst 1, 1) := by decide +kernel
theorem dX2_admits_76 : decode cX2_admits 76 = .ok (.iadd, 1) := by decide +kernel
theorem dX2_admits_77 : decode cX2_admits 77 = .ok (.if_icmp .ne 7, 3) := by decide +kernel
theorem dX2_admits_80 : decode cX2_admits 80 = .ok (.iconst 1, 1) := by decide +kernel
theorem dX2_admits_81 : decode cX2_admits 81 = .ok (.goto 4, 3) := by decide +kernel
theorem dX2_admits_84 : decode cX2_admits 84 = .ok (.iconst 0, 1) := by decide +kernel
theorem dX2_admits_85 : decode cX2_admits 85 = .ok (.ireturn, 1) := by decide +kernel
theorem dX2_append_0 : decode cX2_append 0 = .ok (.aload_n 0, 1) := by decide +kernel
theorem dX2_append_1 : decode cX2_append 1 = .ok (.iload_n 1, 1) := by decide +kernel
theorem dX2_append_2 : decode cX2_append 2 = .ok (.iload_n 2, 1) := by decide +kernel
theorem dX2_append_3 : decode cX2_append 3 = .ok (.iload_n 3, 1) := by decide +kernel
theorem dX2_append_4 : decode cX2_append 4 = .ok (.invokevirtual 45, 3) := by decide +kernel
theorem dX2_append_7 : decode cX2_append 7 = .ok (.ifCond .ne 5, 3) := by decide +kernel
theorem dX2_append_10 : decode cX2_append 10 = .ok (.iconst 0, 1) := by decide +kernel
theorem dX2_append_11 : decode cX2_append 11 = .ok (.ireturn, 1) := by decide +kernel
theorem dX2_append_12 : decode cX2_append 12 = .ok (.aload_n 0, 1) := by decide +kernel
theorem dX2_append_13 : decode cX2_append 13 = .ok (.getfield 29, 3) := by decide +kernel
theorem dX2_append_16 : decode cX2_append 16 = .ok (.istore 5, 2) := by decide +kernel
theorem dX2_append_18 : decode cX2_append 18 = .ok (.aload_n 0, 1) := by decide +kernel
theorem dX2_append_19 : decode cX2_append 19 = .ok (.invokevirtual 41, 3) := by decide +kernel
theorem dX2_append_22 : decode cX2_append 22 = .ok (.istore 6, 2) := by decide +kernel
theorem dX2_append_24 : decode cX2_append 24 = .ok (.aload_n 0, 1) := by decide +kernel
theorem dX2_append_25 : decode cX2_append 25 = .ok (.getfield 9, 3) := by decide +kernel
theorem dX2_append_28 : decode cX2_append 28 = .ok (.iload 5, 2) := by decide +kernel
theorem dX2_append_30 : decode cX2_append 30 = .ok (.iload_n 1, 1) := by decide +kernel
theorem dX2_append_31 : decode cX2_append 31 = .ok (.iastore, 1) := by decide +kernel
theorem dX2_append_32 : decode cX2_append 32 = .ok (.aload_n 0, 1) := by decide +kernel
theorem dX2_append_33 : decode cX2_append 33 = .ok (.getfield 15, 3) := by decide +kernel
theorem dX2_append_36 : decode cX2_append 36 = .ok (.iload 5, 2) := by decide +kernel
theorem dX2_append_38 : decode cX2_append 38 = .ok (.iload_n 2, 1) := by decide +kernel
theorem dX2_append_39 : decode cX2_append 39 = .ok (.iastore, 1) := by decide +kernel
theorem dX2_append_40 : decode cX2_append 40 = .ok (.aload_n 0, 1) := by decide +kernel
theorem dX2_append_41 : decode cX2_append 41 = .ok (.getfield 18, 3) := by decide +kernel
theorem dX2_append_44 : decode cX2_append 44 = .ok (.iload 5, 2) := by decide +kernel
theorem dX2_append_46 : decode cX2_append 46 = .ok (.iload_n 3, 1) := by decide +kernel
theorem dX2_append_47 : decode cX2_append 47 = .ok (.iastore, 1) := by decide +kernel
theorem dX2_append_48 : decode cX2_append 48 = .ok (.aload_n 0, 1) := by decide +kernel
theorem dX2_append_49 : decode cX2_append 49 = .ok (.getfield 21, 3) := by decide +kernel
theorem dX2_append_52 : decode cX2_append 52 = .ok (.iload 5, 2) := by decide +kernel
theorem dX2_append_54 : decode cX2_append 54 = .ok (.iload 6, 2) := by decide +kernel
theorem dX2_append_56 : decode cX2_append 56 = .ok (.iload_n 1, 1) := by decide +kernel
theorem dX2_append_57 : decode cX2_append 57 = .ok (.iadd, 1) := by decide +kernel
theorem dX2_append_58 : decode cX2_append 58 = .ok (.iastore, 1) := by decide +kernel
theorem dX2_append_59 : decode cX2_append 59 = .ok (.iconst 0, 1) := by decide +kernel
theorem dX2_append_60 : decode cX2_append 60 = .ok (.istore 7, 2) := by decide +kernel
theorem dX2_append_62 : decode cX2_append 62 = .ok (.iload 7, 2) := by decide +kernel
theorem dX2_append_64 : decode cX2_append 64 = .ok (.iload 6, 2) := by decide +kernel
theorem dX2_append_66 : decode cX2_append 66 = .ok (.if_icmp .gt 61, 3) := by decide +kernel
theorem dX2_append_69 : decode cX2_append 69 = .ok (.aload_n 0, 1) := by decide +kernel
theorem dX2_append_70 : decode cX2_append 70 = .ok (.iload 5, 2) := by decide +kernel
theorem dX2_append_72 : decode cX2_append 72 = .ok (.iload 7, 2) := by decide +kernel
theorem dX2_append_74 : decode cX2_append 74 = .ok (.invokevirtual 49, 3) := by decide +kernel
theorem dX2_append_77 : decode cX2_append 77 = .ok (.lstore 8, 2) := by decide +kernel
theorem dX2_append_79 : decode cX2_append 79 = .ok (.iconst 0, 1) := by decide +kernel
theorem dX2_append_80 : decode cX2_append 80 = .ok (.istore 10, 2) := by decide +kernel
theorem dX2_append_82 : decode cX2_append 82 = .ok (.iload 10, 2) := by decide +kernel
theorem dX2_append_84 : decode cX2_append 84 = .ok (.iload_n 1, 1) := by decide +kernel
theorem dX2_append_85 : decode cX2_append 85 = .ok (.if_icmp .gt 36, 3) := by decide +kernel
theorem dX2_append_88 : decode cX2_append 88 = .ok (.aload_n 0, 1) := by decide +kernel
theorem dX2_append_89 : decode cX2_append 89 = .ok (.getfield 26, 3) := by decide +kernel
theorem dX2_append_92 : decode cX2_append 92 = .ok (.iload 5, 2) := by decide +kernel
theorem dX2_append_94 : decode cX2_append 94 = .ok (.aaload, 1) := by decide +kernel
theorem dX2_append_95 : decode cX2_append 95 = .ok (.iload 7, 2) := by decide +kernel
theorem dX2_append_97 : decode cX2_append 97 = .ok (.iload 10, 2) := by decide +kernel
theorem dX2_append_99 : decode cX2_append 99 = .ok (.iadd, 1) := by decide +kernel
theorem dX2_append_100 : decode cX2_append 100 = .ok (.dup2, 1) := by decide +kernel
theorem dX2_append_101 : decode cX2_append 101 = .ok (.laload, 1) := by decide +kernel
theorem dX2_append_102 : decode cX2_append 102 = .ok (.lload 8, 2) := by decide +kernel
theorem dX2_append_104 : decode cX2_append 104 = .ok (.aload 4, 2) := by decide +kernel
theorem dX2_append_106 : decode cX2_append 106 = .ok (.iload_n 1, 1) := by decide +kernel
theorem dX2_append_107 : decode cX2_append 107 = .ok (.iload 10, 2) := by decide +kernel
theorem dX2_append_109 : decode cX2_append 109 = .ok (.invokevirtual 53, 3) := by decide +kernel
theorem dX2_append_112 : decode cX2_append 112 = .ok (.lmul, 1) := by decide +kernel
theorem dX2_append_113 : decode cX2_append 113 = .ok (.ladd, 1) := by decide +kernel
theorem dX2_append_114 : decode cX2_append 114 = .ok (.lastore, 1) := by decide +kernel
theorem dX2_append_115 : decode cX2_append 115 = .ok (.iinc 10 1, 3) := by decide +kernel
theorem dX2_append_118 : decode cX2_append 118 = .ok (.goto (-36), 3) := by decide +kernel
theorem dX2_append_121 : decode cX2_append 121 = .ok (.iinc 7 1, 3) := by decide +kernel
theorem dX2_append_124 : decode cX2_append 124 = .ok (.goto (-62), 3) := by decide +kernel
theorem dX2_append_127 : decode cX2_append 127 = .ok (.aload_n 0, 1) := by decide +kernel
theorem dX2_append_128 : decode cX2_append 128 = .ok (.dup, 1) := by decide +kernel
theorem dX2_append_129 : decode cX2_append 129 = .ok (.getfield 29, 3) := by decide +kernel
theorem dX2_append_132 : decode cX2_append 132 = .ok (.iconst 1, 1) := by decide +kernel
theorem dX2_append_133 : decode cX2_append 133 = .ok (.iadd, 1) := by decide +kernel
theorem dX2_append_134 : decode cX2_append 134 = .ok (.putfield 29, 3) := by decide +kernel
theorem dX2_append_137 : decode cX2_append 137 = .ok (.aload_n 0, 1) := by decide +kernel
theorem dX2_append_138 : decode cX2_append 138 = .ok (.iload_n 3, 1) := by decide +kernel
theorem dX2_append_139 : decode cX2_append 139 = .ok (.iload_n 2, 1) := by decide +kernel
theorem dX2_append_140 : decode cX2_append 140 = .ok (.iconst 1, 1) := by decide +kernel
theorem dX2_append_141 : decode cX2_append 141 = .ok (.iadd, 1) := by decide +kernel
theorem dX2_append_142 : decode cX2_append 142 = .ok (.if_icmp .ne 7, 3) := by decide +kernel
theorem dX2_append_145 : decode cX2_append 145 = .ok (.iconst 1, 1) := by decide +kernel
theorem dX2_append_146 : decode cX2_append 146 = .ok (.goto 4, 3) := by decide +kernel
theorem dX2_append_149 : decode cX2_append 149 = .ok (.iconst 0, 1) := by decide +kernel
theorem dX2_append_150 : decode cX2_append 150 = .ok (.putfield 37, 3) := by decide +kernel
theorem dX2_append_153 : decode cX2_append 153 = .ok (.iconst 1, 1) := by decide +kernel
theorem dX2_append_154 : decode cX2_append 154 = .ok (.ireturn, 1) := by decide +kernel
theorem dX2_openWays_0 : decode cX2_openWays 0 = .ok (.iload_n 1, 1) := by decide +kernel
theorem dX2_openWays_1 : decode cX2_openWays 1 = .ok (.ifCond .ne 13, 3) := by decide +kernel
theorem dX2_openWays_4 : decode cX2_openWays 4 = .ok (.iload_n 2, 1) := by decide +kernel
theorem dX2_openWays_5 : decode cX2_openWays 5 = .ok (.ifCond .ne 7, 3) := by decide +kernel
theorem dX2_openWays_8 : decode cX2_openWays 8 = .ok (.lconst 1, 1) := by decide +kernel
theorem dX2_openWays_9 : decode cX2_openWays 9 = .ok (.goto 4, 3) := by decide +kernel
theorem dX2_openWays_12 : decode cX2_openWays 12 = .ok (.lconst 0, 1) := by decide +kernel
theorem dX2_openWays_13 : decode cX2_openWays 13 = .ok (.lreturn, 1) := by decide +kernel
theorem dX2_openWays_14 : decode cX2_openWays 14 = .ok (.aload_n 0, 1) := by decide +kernel
theorem dX2_openWays_15 : decode cX2_openWays 15 = .ok (.iload_n 1, 1) := by decide +kernel
theorem dX2_openWays_16 : decode cX2_openWays 16 = .ok (.iconst 1, 1) := by decide +kernel
theorem dX2_openWays_17 : decode cX2_openWays 17 = .ok (.isub, 1) := by decide +kernel
theorem dX2_openWays_18 : decode cX2_openWays 18 = .ok (.iload_n 2, 1) := by decide +kernel
theorem dX2_openWays_19 : decode cX2_openWays 19 = .ok (.invokevirtual 58, 3) := by decide +kernel
theorem dX2_openWays_22 : decode cX2_openWays 22 = .ok (.ifCond .eq 7, 3) := by decide +kernel
theorem dX2_openWays_25 : decode cX2_openWays 25 = .ok (.lconst 0, 1) := by decide +kernel
theorem dX2_openWays_26 : decode cX2_openWays 26 = .ok (.goto 13, 3) := by decide +kernel
theorem dX2_openWays_29 : decode cX2_openWays 29 = .ok (.aload_n 0, 1) := by decide +kernel
theorem dX2_openWays_30 : decode cX2_openWays 30 = .ok (.getfield 26, 3) := by decide +kernel
theorem dX2_openWays_33 : decode cX2_openWays 33 = .ok (.iload_n 1, 1) := by decide +kernel
theorem dX2_openWays_34 : decode cX2_openWays 34 = .ok (.iconst 1, 1) := by decide +kernel
theorem dX2_openWays_35 : decode cX2_openWays 35 = .ok (.isub, 1) := by decide +kernel
theorem dX2_openWays_36 : decode cX2_openWays 36 = .ok (.aaload, 1) := by decide +kernel
theorem dX2_openWays_37 : decode cX2_openWays 37 = .ok (.iload_n 2, 1) := by decide +kernel
theorem dX2_openWays_38 : decode cX2_openWays 38 = .ok (.laload, 1) := by decide +kernel
theorem dX2_openWays_39 : decode cX2_openWays 39 = .ok (.lreturn, 1) := by decide +kernel
theorem dX2_isTakenAt_0 : decode cX2_isTakenAt 0 = .ok (.aload_n 0, 1) := by decide +kernel
theorem dX2_isTakenAt_1 : decode cX2_isTakenAt 1 = .ok (.iload_n 1, 1) := by decide +kernel
theorem dX2_isTakenAt_2 : decode cX2_isTakenAt 2 = .ok (.invokevirtual 33, 3) := by decide +kernel
theorem dX2_isTakenAt_5 : decode cX2_isTakenAt 5 = .ok (.ifCond .eq 17, 3) := by decide +kernel
theorem dX2_isTakenAt_8 : decode cX2_isTakenAt 8 = .ok (.iload_n 2, 1) := by decide +kernel
theorem dX2_isTakenAt_9 : decode cX2_isTakenAt 9 = .ok (.aload_n 0, 1) := by decide +kernel
theorem dX2_isTakenAt_10 : decode cX2_isTakenAt 10 = .ok (.getfield 15, 3) := by decide +kernel
theorem dX2_isTakenAt_13 : decode cX2_isTakenAt 13 = .ok (.iload_n 1, 1) := by decide +kernel
theorem dX2_isTakenAt_14 : decode cX2_isTakenAt 14 = .ok (.iaload, 1) := by decide +kernel
theorem dX2_isTakenAt_15 : decode cX2_isTakenAt 15 = .ok (.if_icmp .gt 7, 3) := by decide +kernel
theorem dX2_isTakenAt_18 : decode cX2_isTakenAt 18 = .ok (.iconst 1, 1) := by decide +kernel
theorem dX2_isTakenAt_19 : decode cX2_isTakenAt 19 = .ok (.goto 4, 3) := by decide +kernel
theorem dX2_isTakenAt_22 : decode cX2_isTakenAt 22 = .ok (.iconst 0, 1) := by decide +kernel
theorem dX2_isTakenAt_23 : decode cX2_isTakenAt 23 = .ok (.ireturn, 1) := by decide +kernel
theorem dX2_isRefusedAt_0 : decode cX2_isRefusedAt 0 = .ok (.aload_n 0, 1) := by decide +kernel
theorem dX2_isRefusedAt_1 : decode cX2_isRefusedAt 1 = .ok (.iload_n 1, 1) := by decide +kernel
theorem dX2_isRefusedAt_2 : decode cX2_isRefusedAt 2 = .ok (.invokevirtual 33, 3) := by decide +kernel
theorem dX2_isRefusedAt_5 : decode cX2_isRefusedAt 5 = .ok (.ifCond .eq 17, 3) := by decide +kernel
theorem dX2_isRefusedAt_8 : decode cX2_isRefusedAt 8 = .ok (.iload_n 2, 1) := by decide +kernel
theorem dX2_isRefusedAt_9 : decode cX2_isRefusedAt 9 = .ok (.aload_n 0, 1) := by decide +kernel
theorem dX2_isRefusedAt_10 : decode cX2_isRefusedAt 10 = .ok (.getfield 18, 3) := by decide +kernel
theorem dX2_isRefusedAt_13 : decode cX2_isRefusedAt 13 = .ok (.iload_n 1, 1) := by decide +kernel
theorem dX2_isRefusedAt_14 : decode cX2_isRefusedAt 14 = .ok (.iaload, 1) := by decide +kernel
theorem dX2_isRefusedAt_15 : decode cX2_isRefusedAt 15 = .ok (.if_icmp .lt 7, 3) := by decide +kernel
theorem dX2_isRefusedAt_18 : decode cX2_isRefusedAt 18 = .ok (.iconst 1, 1) := by decide +kernel
theorem dX2_isRefusedAt_19 : decode cX2_isRefusedAt 19 = .ok (.goto 4, 3) := by decide +kernel
theorem dX2_isRefusedAt_22 : decode cX2_isRefusedAt 22 = .ok (.iconst 0, 1) := by decide +kernel
theorem dX2_isRefusedAt_23 : decode cX2_isRefusedAt 23 = .ok (.ireturn, 1) := by decide +kernel
theorem dX2_isDecidedAt_0 : decode cX2_isDecidedAt 0 = .ok (.aload_n 0, 1) := by decide +kernel
theorem dX2_isDecidedAt_1 : decode cX2_isDecidedAt 1 = .ok (.iload_n 1, 1) := by decide +kernel
theorem dX2_isDecidedAt_2 : decode cX2_isDecidedAt 2 = .ok (.iload_n 2, 1) := by decide +kernel
theorem dX2_isDecidedAt_3 : decode cX2_isDecidedAt 3 = .ok (.invokevirtual 62, 3) := by decide +kernel
theorem dX2_isDecidedAt_6 : decode cX2_isDecidedAt 6 = .ok (.ifCond .ne 12, 3) := by decide +kernel
theorem dX2_isDecidedAt_9 : decode cX2_isDecidedAt 9 = .ok (.aload_n 0, 1) := by decide +kernel
theorem dX2_isDecidedAt_10 : decode cX2_isDecidedAt 10 = .ok (.iload_n 1, 1) := by decide +kernel
theorem dX2_isDecidedAt_11 : decode cX2_isDecidedAt 11 = .ok (.iload_n 2, 1) := by decide +kernel
theorem dX2_isDecidedAt_12 : decode cX2_isDecidedAt 12 = .ok (.invokevirtual 65, 3) := by decide +kernel
theorem dX2_isDecidedAt_15 : decode cX2_isDecidedAt 15 = .ok (.ifCond .eq 7, 3) := by decide +kernel
theorem dX2_isDecidedAt_18 : decode cX2_isDecidedAt 18 = .ok (.iconst 1, 1) := by decide +kernel
theorem dX2_isDecidedAt_19 : decode cX2_isDecidedAt 19 = .ok (.goto 4, 3) := by decide +kernel
theorem dX2_isDecidedAt_22 : decode cX2_isDecidedAt 22 = .ok (.iconst 0, 1) := by decide +kernel
theorem dX2_isDecidedAt_23 : decode cX2_isDecidedAt 23 = .ok (.ireturn, 1) := by decide +kernel
theorem dX2_isEndOf_0 : decode cX2_isEndOf 0 = .ok (.aload_n 0, 1) := by decide +kernel
theorem dX2_isEndOf_1 : decode cX2_isEndOf 1 = .ok (.iload_n 1, 1) := by decide +kernel
theorem dX2_isEndOf_2 : decode cX2_isEndOf 2 = .ok (.invokevirtual 33, 3) := by decide +kernel
theorem dX2_isEndOf_5 : decode cX2_isEndOf 5 = .ok (.ifCond .eq 17, 3) := by decide +kernel
theorem dX2_isEndOf_8 : decode cX2_isEndOf 8 = .ok (.iload_n 2, 1) := by decide +kernel
theorem dX2_isEndOf_9 : decode cX2_isEndOf 9 = .ok (.aload_n 0, 1) := by decide +kernel
theorem dX2_isEndOf_10 : decode cX2_isEndOf 10 = .ok (.getfield 21, 3) := by decide +kernel
theorem dX2_isEndOf_13 : decode cX2_isEndOf 13 = .ok (.iload_n 1, 1) := by decide +kernel
theorem dX2_isEndOf_14 : decode cX2_isEndOf 14 = .ok (.iaload, 1) := by decide +kernel
theorem dX2_isEndOf_15 : decode cX2_isEndOf 15 = .ok (.if_icmp .ne 7, 3) := by decide +kernel
theorem dX2_isEndOf_18 : decode cX2_isEndOf 18 = .ok (.iconst 1, 1) := by decide +kernel
theorem dX2_isEndOf_19 : decode cX2_isEndOf 19 = .ok (.goto 4, 3) := by decide +kernel
theorem dX2_isEndOf_22 : decode cX2_isEndOf 22 = .ok (.iconst 0, 1) := by decide +kernel
theorem dX2_isEndOf_23 : decode cX2_isEndOf 23 = .ok (.ireturn, 1) := by decide +kernel
theorem dX2_sumOverOrders_0 : decode cX2_sumOverOrders 0 = .ok (.lconst 0, 1) := by decide +kernel
theorem dX2_sumOverOrders_1 : decode cX2_sumOverOrders 1 = .ok (.lstore 5, 2) := by decide +kernel
theorem dX2_sumOverOrders_3 : decode cX2_sumOverOrders 3 = .ok (.iconst 0, 1) := by decide +kernel
theorem dX2_sumOverOrders_4 : decode cX2_sumOverOrders 4 = .ok (.istore 7, 2) := by decide +kernel
theorem dX2_sumOverOrders_6 : decode cX2_sumOverOrders 6 = .ok (.iload 7, 2) := by decide +kernel
theorem dX2_sumOverOrders_8 : decode cX2_sumOverOrders 8 = .ok (.aload_n 0, 1) := by decide +kernel
theorem dX2_sumOverOrders_9 : decode cX2_sumOverOrders 9 = .ok (.getfield 29, 3) := by decide +kernel
theorem dX2_sumOverOrders_12 : decode cX2_sumOverOrders 12 = .ok (.if_icmp .ge 81, 3) := by decide +kernel
theorem dX2_sumOverOrders_15 : decode cX2_sumOverOrders 15 = .ok (.iconst 0, 1) := by decide +kernel
theorem dX2_sumOverOrders_16 : decode cX2_sumOverOrders 16 = .ok (.istore 8, 2) := by decide +kernel
theorem dX2_sumOverOrders_18 : decode cX2_sumOverOrders 18 = .ok (.iload 8, 2) := by decide +kernel
theorem dX2_sumOverOrders_20 : decode cX2_sumOverOrders 20 = .ok (.aload_n 0, 1) := by decide +kernel
theorem dX2_sumOverOrders_21 : decode cX2_sumOverOrders 21 = .ok (.getfield 21, 3) := by decide +kernel
theorem dX2_sumOverOrders_24 : decode cX2_sumOverOrders 24 = .ok (.iload 7, 2) := by decide +kernel
theorem dX2_sumOverOrders_26 : decode cX2_sumOverOrders 26 = .ok (.iaload, 1) := by decide +kernel
theorem dX2_sumOverOrders_27 : decode cX2_sumOverOrders 27 = .ok (.if_icmp .gt 60, 3) := by decide +kernel
theorem dX2_sumOverOrders_30 : decode cX2_sumOverOrders 30 = .ok (.iload 8, 2) := by decide +kernel
theorem dX2_sumOverOrders_32 : decode cX2_sumOverOrders 32 = .ok (.iload_n 3, 1) := by decide +kernel
theorem dX2_sumOverOrders_33 : decode cX2_sumOverOrders 33 = .ok (.if_icmp .gt 54, 3) := by decide +kernel
theorem dX2_sumOverOrders_36 : decode cX2_sumOverOrders 36 = .ok (.lload 5, 2) := by decide +kernel
theorem dX2_sumOverOrders_38 : decode cX2_sumOverOrders 38 = .ok (.aload_n 0, 1) := by decide +kernel
theorem dX2_sumOverOrders_39 : decode cX2_sumOverOrders 39 = .ok (.iload 7, 2) := by decide +kernel
theorem dX2_sumOverOrders_41 : decode cX2_sumOverOrders 41 = .ok (.iload 8, 2) := by decide +kernel
theorem dX2_sumOverOrders_43 : decode cX2_sumOverOrders 43 = .ok (.iload_n 3, 1) := by decide +kernel
theorem dX2_sumOverOrders_44 : decode cX2_sumOverOrders 44 = .ok (.iload 4, 2) := by decide +kernel
theorem dX2_sumOverOrders_46 : decode cX2_sumOverOrders 46 = .ok (.invokevirtual 68, 3) := by decide +kernel
theorem dX2_sumOverOrders_49 : decode cX2_sumOverOrders 49 = .ok (.aload_n 0, 1) := by decide +kernel
theorem dX2_sumOverOrders_50 : decode cX2_sumOverOrders 50 = .ok (.getfield 26, 3) := by decide +kernel
theorem dX2_sumOverOrders_53 : decode cX2_sumOverOrders 53 = .ok (.iload 7, 2) := by decide +kernel
theorem dX2_sumOverOrders_55 : decode cX2_sumOverOrders 55 = .ok (.aaload, 1) := by decide +kernel
theorem dX2_sumOverOrders_56 : decode cX2_sumOverOrders 56 = .ok (.iload 8, 2) := by decide +kernel
theorem dX2_sumOverOrders_58 : decode cX2_sumOverOrders 58 = .ok (.laload, 1) := by decide +kernel
theorem dX2_sumOverOrders_59 : decode cX2_sumOverOrders 59 = .ok (.lmul, 1) := by decide +kernel
theorem dX2_sumOverOrders_60 : decode cX2_sumOverOrders 60 = .ok (.aload_n 1, 1) := by decide +kernel
theorem dX2_sumOverOrders_61 : decode cX2_sumOverOrders 61 = .ok (.iload_n 2, 1) := by decide +kernel
theorem dX2_sumOverOrders_62 : decode cX2_sumOverOrders 62 = .ok (.aload_n 0, 1) := by decide +kernel
theorem dX2_sumOverOrders_63 : decode cX2_sumOverOrders 63 = .ok (.getfield 21, 3) := by decide +kernel
theorem dX2_sumOverOrders_66 : decode cX2_sumOverOrders 66 = .ok (.iload 7, 2) := by decide +kernel
theorem dX2_sumOverOrders_68 : decode cX2_sumOverOrders 68 = .ok (.iaload, 1) := by decide +kernel
theorem dX2_sumOverOrders_69 : decode cX2_sumOverOrders 69 = .ok (.isub, 1) := by decide +kernel
theorem dX2_sumOverOrders_70 : decode cX2_sumOverOrders 70 = .ok (.iload_n 3, 1) := by decide +kernel
theorem dX2_sumOverOrders_71 : decode cX2_sumOverOrders 71 = .ok (.iload 8, 2) := by decide +kernel
theorem dX2_sumOverOrders_73 : decode cX2_sumOverOrders 73 = .ok (.isub, 1) := by decide +kernel
theorem dX2_sumOverOrders_74 : decode cX2_sumOverOrders 74 = .ok (.invokevirtual 53, 3) := by decide +kernel
theorem dX2_sumOverOrders_77 : decode cX2_sumOverOrders 77 = .ok (.lmul, 1) := by decide +kernel
theorem dX2_sumOverOrders_78 : decode cX2_sumOverOrders 78 = .ok (.ladd, 1) := by decide +kernel
theorem dX2_sumOverOrders_79 : decode cX2_sumOverOrders 79 = .ok (.lstore 5, 2) := by decide +kernel
theorem dX2_sumOverOrders_81 : decode cX2_sumOverOrders 81 = .ok (.iinc 8 1, 3) := by decide +kernel
theorem dX2_sumOverOrders_84 : decode cX2_sumOverOrders 84 = .ok (.goto (-66), 3) := by decide +kernel
theorem dX2_sumOverOrders_87 : decode cX2_sumOverOrders 87 = .ok (.iinc 7 1, 3) := by decide +kernel
theorem dX2_sumOverOrders_90 : decode cX2_sumOverOrders 90 = .ok (.goto (-84), 3) := by decide +kernel
theorem dX2_sumOverOrders_93 : decode cX2_sumOverOrders 93 = .ok (.lload 5, 2) := by decide +kernel
theorem dX2_sumOverOrders_95 : decode cX2_sumOverOrders 95 = .ok (.lreturn, 1) := by decide +kernel
theorem dX2_weight_0 : decode cX2_weight 0 = .ok (.iload 4, 2) := by decide +kernel
theorem dX2_weight_2 : decode cX2_weight 2 = .ok (.lookupswitch 62 #[(0, 26), (1, 41)], 26) := by decide +kernel
theorem dX2_weight_28 : decode cX2_weight 28 = .ok (.aload_n 0, 1) := by decide +kernel
theorem dX2_weight_29 : decode cX2_weight 29 = .ok (.iload_n 1, 1) := by decide +kernel
theorem dX2_weight_30 : decode cX2_weight 30 = .ok (.iload_n 2, 1) := by decide +kernel
theorem dX2_weight_31 : decode cX2_weight 31 = .ok (.invokevirtual 62, 3) := by decide +kernel
theorem dX2_weight_34 : decode cX2_weight 34 = .ok (.ifCond .eq 7, 3) := by decide +kernel
theorem dX2_weight_37 : decode cX2_weight 37 = .ok (.lconst 1, 1) := by decide +kernel
theorem dX2_weight_38 : decode cX2_weight 38 = .ok (.goto 4, 3) := by decide +kernel
theorem dX2_weight_41 : decode cX2_weight 41 = .ok (.lconst 0, 1) := by decide +kernel
theorem dX2_weight_42 : decode cX2_weight 42 = .ok (.lreturn, 1) := by decide +kernel
theorem dX2_weight_43 : decode cX2_weight 43 = .ok (.aload_n 0, 1) := by decide +kernel
theorem dX2_weight_44 : decode cX2_weight 44 = .ok (.iload_n 1, 1) := by decide +kernel
theorem dX2_weight_45 : decode cX2_weight 45 = .ok (.iload_n 2, 1) := by decide +kernel
theorem dX2_weight_46 : decode cX2_weight 46 = .ok (.invokevirtual 58, 3) := by decide +kernel
theorem dX2_weight_49 : decode cX2_weight 49 = .ok (.ifCond .eq 13, 3) := by decide +kernel
theorem dX2_weight_52 : decode cX2_weight 52 = .ok (.aload_n 0, 1) := by decide +kernel
theorem dX2_weight_53 : decode cX2_weight 53 = .ok (.getfield 21, 3) := by decide +kernel
theorem dX2_weight_56 : decode cX2_weight 56 = .ok (.iload_n 1, 1) := by decide +kernel
theorem dX2_weight_57 : decode cX2_weight 57 = .ok (.iaload, 1) := by decide +kernel
theorem dX2_weight_58 : decode cX2_weight 58 = .ok (.i2l, 1) := by decide +kernel
theorem dX2_weight_59 : decode cX2_weight 59 = .ok (.goto 4, 3) := by decide +kernel
theorem dX2_weight_62 : decode cX2_weight 62 = .ok (.lconst 0, 1) := by decide +kernel
theorem dX2_weight_63 : decode cX2_weight 63 = .ok (.lreturn, 1) := by decide +kernel
theorem dX2_weight_64 : decode cX2_weight 64 = .ok (.aload_n 0, 1) := by decide +kernel
theorem dX2_weight_65 : decode cX2_weight 65 = .ok (.iload_n 1, 1) := by decide +kernel
theorem dX2_weight_66 : decode cX2_weight 66 = .ok (.iload_n 2, 1) := by decide +kernel
theorem dX2_weight_67 : decode cX2_weight 67 = .ok (.invokevirtual 62, 3) := by decide +kernel
theorem dX2_weight_70 : decode cX2_weight 70 = .ok (.ifCond .eq 10, 3) := by decide +kernel
theorem dX2_weight_73 : decode cX2_weight 73 = .ok (.iload_n 3, 1) := by decide +kernel
theorem dX2_weight_74 : decode cX2_weight 74 = .ok (.iload_n 2, 1) := by decide +kernel
theorem dX2_weight_75 : decode cX2_weight 75 = .ok (.isub, 1) := by decide +kernel
theorem dX2_weight_76 : decode cX2_weight 76 = .ok (.i2l, 1) := by decide +kernel
theorem dX2_weight_77 : decode cX2_weight 77 = .ok (.goto 4, 3) := by decide +kernel
theorem dX2_weight_80 : decode cX2_weight 80 = .ok (.lconst 0, 1) := by decide +kernel
theorem dX2_weight_81 : decode cX2_weight 81 = .ok (.lreturn, 1) := by decide +kernel
theorem dX3_init_0 : decode cX3_init 0 = .ok (.aload_n 0, 1) := by decide +kernel
theorem dX3_init_1 : decode cX3_init 1 = .ok (.invokespecial 1, 3) := by decide +kernel
theorem dX3_init_4 : decode cX3_init 4 = .ok (.aload_n 0, 1) := by decide +kernel
theorem dX3_init_5 : decode cX3_init 5 = .ok (.iconst 1, 1) := by decide +kernel
theorem dX3_init_6 : decode cX3_init 6 = .ok (.putfield 7, 3) := by decide +kernel
theorem dX3_init_9 : decode cX3_init 9 = .ok (.return_, 1) := by decide +kernel
theorem dX3_tell_0 : decode cX3_tell 0 = .ok (.aload_n 0, 1) := by decide +kernel
theorem dX3_tell_1 : decode cX3_tell 1 = .ok (.iconst 1, 1) := by decide +kernel
theorem dX3_tell_2 : decode cX3_tell 2 = .ok (.putfield 13, 3) := by decide +kernel
theorem dX3_tell_5 : decode cX3_tell 5 = .ok (.aload_n 0, 1) := by decide +kernel
theorem dX3_tell_6 : decode cX3_tell 6 = .ok (.iload_n 1, 1) := by decide +kernel
theorem dX3_tell_7 : decode cX3_tell 7 = .ok (.putfield 17, 3) := by decide +kernel
theorem dX3_tell_10 : decode cX3_tell 10 = .ok (.aload_n 0, 1) := by decide +kernel
theorem dX3_tell_11 : decode cX3_tell 11 = .ok (.iload_n 2, 1) := by decide +kernel
theorem dX3_tell_12 : decode cX3_tell 12 = .ok (.putfield 20, 3) := by decide +kernel
theorem dX3_tell_15 : decode cX3_tell 15 = .ok (.aload_n 0, 1) := by decide +kernel
theorem dX3_tell_16 : decode cX3_tell 16 = .ok (.iload_n 3, 1) := by decide +kernel
theorem dX3_tell_17 : decode cX3_tell 17 = .ok (.putfield 7, 3) := by decide +kernel
theorem dX3_tell_20 : decode cX3_tell 20 = .ok (.return_, 1) := by decide +kernel
theorem dX3_fits_0 : decode cX3_fits 0 = .ok (.aload_n 0, 1) := by decide +kernel
theorem dX3_fits_1 : decode cX3_fits 1 = .ok (.getfield 13, 3) := by decide +kernel
theorem dX3_fits_4 : decode cX3_fits 4 = .ok (.ifCond .eq 11, 3) := by decide +kernel
theorem dX3_fits_7 : decode cX3_fits 7 = .ok (.aload_n 0, 1) := by decide +kernel
theorem dX3_fits_8 : decode cX3_fits 8 = .ok (.getfield 17, 3) := by decide +kernel
theorem dX3_fits_11 : decode cX3_fits 11 = .ok (.iload_n 1, 1) := by decide +kernel
theorem dX3_fits_12 : decode cX3_fits 12 = .ok (.if_icmp .gt 7, 3) := by decide +kernel
theorem dX3_fits_15 : decode cX3_fits 15 = .ok (.iconst 1, 1) := by decide +kernel
theorem dX3_fits_16 : decode cX3_fits 16 = .ok (.goto 4, 3) := by decide +kernel
theorem dX3_fits_19 : decode cX3_fits 19 = .ok (.iconst 0, 1) := by decide +kernel
theorem dX3_fits_20 : decode cX3_fits 20 = .ok (.ireturn, 1) := by decide +kernel
theorem dX3_isReached_0 : decode cX3_isReached 0 = .ok (.aload_n 0, 1) := by decide +kernel
theorem dX3_isReached_1 : decode cX3_isReached 1 = .ok (.getfield 13, 3) := by decide +kernel
theorem dX3_isReached_4 : decode cX3_isReached 4 = .ok (.ifCond .eq 12, 3) := by decide +kernel
theorem dX3_isReached_7 : decode cX3_isReached 7 = .ok (.aload_n 0, 1) := by decide +kernel
theorem dX3_isReached_8 : decode cX3_isReached 8 = .ok (.lload_n 1, 1) := by decide +kernel
theorem dX3_isReached_9 : decode cX3_isReached 9 = .ok (.lload_n 3, 1) := by decide +kernel
theorem dX3_isReached_10 : decode cX3_isReached 10 = .ok (.invokevirtual 23, 3) := by decide +kernel
theorem dX3_isReached_13 : decode cX3_isReached 13 = .ok (.ifCond .lt 7, 3) := by decide +kernel
theorem dX3_isReached_16 : decode cX3_isReached 16 = .ok (.iconst 1, 1) := by decide +kernel
theorem dX3_isReached_17 : decode cX3_isReached 17 = .ok (.goto 4, 3) := by decide +kernel
theorem dX3_isReached_20 : decode cX3_isReached 20 = .ok (.iconst 0, 1) := by decide +kernel
theorem dX3_isReached_21 : decode cX3_isReached 21 = .ok (.ireturn, 1) := by decide +kernel
theorem dX3_isKept_0 : decode cX3_isKept 0 = .ok (.aload_n 0, 1) := by decide +kernel
theorem dX3_isKept_1 : decode cX3_isKept 1 = .ok (.getfield 13, 3) := by decide +kernel
theorem dX3_isKept_4 : decode cX3_isKept 4 = .ok (.ifCond .eq 12, 3) := by decide +kernel
theorem dX3_isKept_7 : decode cX3_isKept 7 = .ok (.aload_n 0, 1) := by decide +kernel
theorem dX3_isKept_8 : decode cX3_isKept 8 = .ok (.lload_n 1, 1) := by decide +kernel
theorem dX3_isKept_9 : decode cX3_isKept 9 = .ok (.lload_n 3, 1) := by decide +kernel
theorem dX3_isKept_10 : decode cX3_isKept 10 = .ok (.invokevirtual 23, 3) := by decide +kernel
theorem dX3_isKept_13 : decode cX3_isKept 13 = .ok (.ifCond .gt 7, 3) := by decide +kernel
theorem dX3_isKept_16 : decode cX3_isKept 16 = .ok (.iconst 1, 1) := by decide +kernel
theorem dX3_isKept_17 : decode cX3_isKept 17 = .ok (.goto 4, 3) := by decide +kernel
theorem dX3_isKept_20 : decode cX3_isKept 20 = .ok (.iconst 0, 1) := by decide +kernel
theorem dX3_isKept_21 : decode cX3_isKept 21 = .ok (.ireturn, 1) := by decide +kernel
theorem dX3_against_0 : decode cX3_against 0 = .ok (.aload_n 0, 1) := by decide +kernel
theorem dX3_against_1 : decode cX3_against 1 = .ok (.getfield 7, 3) := by decide +kernel
theorem dX3_against_4 : decode cX3_against 4 = .ok (.ifCond .gt 5, 3) := by decide +kernel
theorem dX3_against_7 : decode cX3_against 7 = .ok (.iconst 0, 1) := by decide +kernel
theorem dX3_against_8 : decode cX3_against 8 = .ok (.ireturn, 1) := by decide +kernel
theorem dX3_against_9 : decode cX3_against 9 = .ok (.lload_n 3, 1) := by decide +kernel
theorem dX3_against_10 : decode cX3_against 10 = .ok (.aload_n 0, 1) := by decide +kernel
theorem dX3_against_11 : decode cX3_against 11 = .ok (.getfield 7, 3) := by decide +kernel
theorem dX3_against_14 : decode cX3_against 14 = .ok (.i2l, 1) := by decide +kernel
theorem dX3_against_15 : decode cX3_against 15 = .ok (.lrem, 1) := by decide +kernel
theorem dX3_against_16 : decode cX3_against 16 = .ok (.aload_n 0, 1) := by decide +kernel
theorem dX3_against_17 : decode cX3_against 17 = .ok (.getfield 20, 3) := by decide +kernel
theorem dX3_against_20 : decode cX3_against 20 = .ok (.i2l, 1) := by decide +kernel
theorem dX3_against_21 : decode cX3_against 21 = .ok (.lmul, 1) := by decide +kernel
theorem dX3_against_22 : decode cX3_against 22 = .ok (.lstore 5, 2) := by decide +kernel
theorem dX3_against_24 : decode cX3_against 24 = .ok (.lload_n 3, 1) := by decide +kernel
theorem dX3_against_25 : decode cX3_against 25 = .ok (.aload_n 0, 1) := by decide +kernel
theorem dX3_against_26 : decode cX3_against 26 = .ok (.getfield 7, 3) := by decide +kernel
theorem dX3_against_29 : decode cX3_against 29 = .ok (.i2l, 1) := by decide +kernel
theorem dX3_against_30 : decode cX3_against 30 = .ok (.ldiv, 1) := by decide +kernel
theorem dX3_against_31 : decode cX3_against 31 = .ok (.aload_n 0, 1) := by decide +kernel
theorem dX3_against_32 : decode cX3_against 32 = .ok (.getfield 20, 3) := by decide +kernel
theorem dX3_against_35 : decode cX3_against 35 = .ok (.i2l, 1) := by decide +kernel
theorem dX3_against_36 : decode cX3_against 36 = .ok (.lmul, 1) := by decide +kernel
theorem dX3_against_37 : decode cX3_against 37 = .ok (.lload 5, 2) := by decide +kernel
theorem dX3_against_39 : decode cX3_against 39 = .ok (.aload_n 0, 1) := by decide +kernel
theorem dX3_against_40 : decode cX3_against 40 = .ok (.getfield 7, 3) := by decide +kernel
theorem dX3_against_43 : decode cX3_against 43 = .ok (.i2l, 1) := by decide +kernel
theorem dX3_against_44 : decode cX3_against 44 = .ok (.ldiv, 1) := by decide +kernel
theorem dX3_against_45 : decode cX3_against 45 = .ok (.ladd, 1) := by decide +kernel
theorem dX3_against_46 : decode cX3_against 46 = .ok (.lstore 7, 2) := by decide +kernel
theorem dX3_against_48 : decode cX3_against 48 = .ok (.lload_n 1, 1) := by decide +kernel
theorem dX3_against_49 : decode cX3_against 49 = .ok (.lload 7, 2) := by decide +kernel
theorem dX3_against_51 : decode cX3_against 51 = .ok (.lcmp, 1) := by decide +kernel
theorem dX3_against_52 : decode cX3_against 52 = .ok (.ifCond .eq 16, 3) := by decide +kernel
theorem dX3_against_55 : decode cX3_against 55 = .ok (.lload_n 1, 1) := by decide +kernel
theorem dX3_against_56 : decode cX3_against 56 = .ok (.lload 7, 2) := by decide +kernel
theorem dX3_against_58 : decode cX3_against 58 = .ok (.lcmp, 1) := by decide +kernel
theorem dX3_against_59 : decode cX3_against 59 = .ok (.ifCond .le 7, 3) := by decide +kernel
theorem dX3_against_62 : decode cX3_against 62 = .ok (.iconst 1, 1) := by decide +kernel
theorem dX3_against_63 : decode cX3_against 63 = .ok (.goto 4, 3) := by decide +kernel
theorem dX3_against_66 : decode cX3_against 66 = .ok (.iconst (-1), 1) := by decide +kernel
theorem dX3_against_67 : decode cX3_against 67 = .ok (.ireturn, 1) := by decide +kernel
theorem dX3_against_68 : decode cX3_against 68 = .ok (.lload 5, 2) := by decide +kernel
theorem dX3_against_70 : decode cX3_against 70 = .ok (.aload_n 0, 1) := by decide +kernel
theorem dX3_against_71 : decode cX3_against 71 = .ok (.getfield 7, 3) := by decide +kernel
theorem dX3_against_74 : decode cX3_against 74 = .ok (.i2l, 1) := by decide +kernel
theorem dX3_against_75 : decode cX3_against 75 = .ok (.lrem, 1) := by decide +kernel
theorem dX3_against_76 : decode cX3_against 76 = .ok (.lconst 0, 1) := by decide +kernel
theorem dX3_against_77 : decode cX3_against 77 = .ok (.lcmp, 1) := by decide +kernel
theorem dX3_against_78 : decode cX3_against 78 = .ok (.ifCond .ne 7, 3) := by decide +kernel
theorem dX3_against_81 : decode cX3_against 81 = .ok (.iconst 0, 1) := by decide +kernel
theorem dX3_against_82 : decode cX3_against 82 = .ok (.goto 4, 3) := by decide +kernel
theorem dX3_against_85 : decode cX3_against 85 = .ok (.iconst (-1), 1) := by decide +kernel
theorem dX3_against_86 : decode cX3_against 86 = .ok (.ireturn, 1) := by decide +kernel
theorem dX4_init_0 : decode cX4_init 0 = .ok (.aload_n 0, 1) := by decide +kernel
theorem dX4_init_1 : decode cX4_init 1 = .ok (.invokespecial 3, 3) := by decide +kernel
theorem dX4_init_4 : decode cX4_init 4 = .ok (.aload_n 0, 1) := by decide +kernel
theorem dX4_init_5 : decode cX4_init 5 = .ok (.iconst 3, 1) := by decide +kernel
theorem dX4_init_6 : decode cX4_init 6 = .ok (.newarray .int, 2) := by decide +kernel
theorem dX4_init_8 : decode cX4_init 8 = .ok (.putfield 9, 3) := by decide +kernel
theorem dX4_init_11 : decode cX4_init 11 = .ok (.aload_n 0, 1) := by decide +kernel
theorem dX4_init_12 : decode cX4_init 12 = .ok (.bipush 60, 2) := by decide +kernel
theorem dX4_init_14 : decode cX4_init 14 = .ok (.newarray .int, 2) := by decide +kernel
theorem dX4_init_16 : decode cX4_init 16 = .ok (.putfield 15, 3) := by decide +kernel
theorem dX4_init_19 : decode cX4_init 19 = .ok (.aload_n 0, 1) := by decide +kernel
theorem dX4_init_20 : decode cX4_init 20 = .ok (.iconst 0, 1) := by decide +kernel
theorem dX4_init_21 : decode cX4_init 21 = .ok (.putfield 18, 3) := by decide +kernel
theorem dX4_init_24 : decode cX4_init 24 = .ok (.aload_n 0, 1) := by decide +kernel
theorem dX4_init_25 : decode cX4_init 25 = .ok (.getfield 9, 3) := by decide +kernel
theorem dX4_init_28 : decode cX4_init 28 = .ok (.iconst 0, 1) := by decide +kernel
theorem dX4_init_29 : decode cX4_init 29 = .ok (.iload_n 1, 1) := by decide +kernel
theorem dX4_init_30 : decode cX4_init 30 = .ok (.iastore, 1) := by decide +kernel
theorem dX4_init_31 : decode cX4_init 31 = .ok (.aload_n 0, 1) := by decide +kernel
theorem dX4_init_32 : decode cX4_init 32 = .ok (.getfield 9, 3) := by decide +kernel
theorem dX4_init_35 : decode cX4_init 35 = .ok (.iconst 1, 1) := by decide +kernel
theorem dX4_init_36 : decode cX4_init 36 = .ok (.iload_n 2, 1) := by decide +kernel
theorem dX4_init_37 : decode cX4_init 37 = .ok (.iastore, 1) := by decide +kernel
theorem dX4_init_38 : decode cX4_init 38 = .ok (.aload_n 0, 1) := by decide +kernel
theorem dX4_init_39 : decode cX4_init 39 = .ok (.getfield 9, 3) := by decide +kernel
theorem dX4_init_42 : decode cX4_init 42 = .ok (.iconst 2, 1) := by decide +kernel
theorem dX4_init_43 : decode cX4_init 43 = .ok (.iload_n 3, 1) := by decide +kernel
theorem dX4_init_44 : decode cX4_init 44 = .ok (.iastore, 1) := by decide +kernel
theorem dX4_init_45 : decode cX4_init 45 = .ok (.return_, 1) := by decide +kernel
theorem dX4_planNow_0 : decode cX4_planNow 0 = .ok (.aload_n 0, 1) := by decide +kernel
theorem dX4_planNow_1 : decode cX4_planNow 1 = .ok (.getfield 9, 3) := by decide +kernel
theorem dX4_planNow_4 : decode cX4_planNow 4 = .ok (.aload_n 0, 1) := by decide +kernel
theorem dX4_planNow_5 : decode cX4_planNow 5 = .ok (.getfield 18, 3) := by decide +kernel
theorem dX4_planNow_8 : decode cX4_planNow 8 = .ok (.iaload, 1) := by decide +kernel
theorem dX4_planNow_9 : decode cX4_planNow 9 = .ok (.ireturn, 1) := by decide +kernel
theorem dX4_latest_0 : decode cX4_latest 0 = .ok (.iload_n 1, 1) := by decide +kernel
theorem dX4_latest_1 : decode cX4_latest 1 = .ok (.ifCond .lt 27, 3) := by decide +kernel
theorem dX4_latest_4 : decode cX4_latest 4 = .ok (.iload_n 1, 1) := by decide +kernel
theorem dX4_latest_5 : decode cX4_latest 5 = .ok (.aload_n 0, 1) := by decide +kernel
theorem dX4_latest_6 : decode cX4_latest 6 = .ok (.getfield 22, 3) := by decide +kernel
theorem dX4_latest_9 : decode cX4_latest 9 = .ok (.if_icmp .ge 19, 3) := by decide +kernel
theorem dX4_latest_12 : decode cX4_latest 12 = .ok (.aload_n 0, 1) := by decide +kernel
theorem dX4_latest_13 : decode cX4_latest 13 = .ok (.getfield 15, 3) := by decide +kernel
theorem dX4_latest_16 : decode cX4_latest 16 = .ok (.aload_n 0, 1) := by decide +kernel
theorem dX4_latest_17 : decode cX4_latest 17 = .ok (.getfield 22, 3) := by decide +kernel
theorem dX4_latest_20 : decode cX4_latest 20 = .ok (.iconst 1, 1) := by decide +kernel
theorem dX4_latest_21 : decode cX4_latest 21 = .ok (.isub, 1) := by decide +kernel
theorem dX4_latest_22 : decode cX4_latest 22 = .ok (.iload_n 1, 1) := by decide +kernel
theorem dX4_latest_23 : decode cX4_latest 23 = .ok (.isub, 1) := by decide +kernel
theorem dX4_latest_24 : decode cX4_latest 24 = .ok (.iaload, 1) := by decide +kernel
theorem dX4_latest_25 : decode cX4_latest 25 = .ok (.goto 4, 3) := by decide +kernel
theorem dX4_latest_28 : decode cX4_latest 28 = .ok (.iconst 0, 1) := by decide +kernel
theorem dX4_latest_29 : decode cX4_latest 29 = .ok (.ireturn, 1) := by decide +kernel
theorem dX4_receive_0 : decode cX4_receive 0 = .ok (.aload_n 0, 1) := by decide +kernel
theorem dX4_receive_1 : decode cX4_receive 1 = .ok (.getfield 22, 3) := by decide +kernel
theorem dX4_receive_4 : decode cX4_receive 4 = .ok (.bipush 60, 2) := by decide +kernel
theorem dX4_receive_6 : decode cX4_receive 6 = .ok (.if_icmp .lt 4, 3) := by decide +kernel
theorem dX4_receive_9 : decode cX4_receive 9 = .ok (.return_, 1) := by decide +kernel
theorem dX4_receive_10 : decode cX4_receive 10 = .ok (.aload_n 0, 1) := by decide +kernel
theorem dX4_receive_11 : decode cX4_receive 11 = .ok (.getfield 15, 3) := by decide +kernel
theorem dX4_receive_14 : decode cX4_receive 14 = .ok (.aload_n 0, 1) := by decide +kernel
theorem dX4_receive_15 : decode cX4_receive 15 = .ok (.getfield 22, 3) := by decide +kernel
theorem dX4_receive_18 : decode cX4_receive 18 = .ok (.iload_n 1, 1) := by decide +kernel
theorem dX4_receive_19 : decode cX4_receive 19 = .ok (.iastore, 1) := by decide +kernel
theorem dX4_receive_20 : decode cX4_receive 20 = .ok (.aload_n 0, 1) := by decide +kernel
theorem dX4_receive_21 : decode cX4_receive 21 = .ok (.dup, 1) := by decide +kernel
theorem dX4_receive_22 : decode cX4_receive 22 = .ok (.getfield 22, 3) := by decide +kernel
theorem dX4_receive_25 : decode cX4_receive 25 = .ok (.iconst 1, 1) := by decide +kernel
theorem dX4_receive_26 : decode cX4_receive 26 = .ok (.iadd, 1) := by decide +kernel
theorem dX4_receive_27 : decode cX4_receive 27 = .ok (.putfield 22, 3) := by decide +kernel
theorem dX4_receive_30 : decode cX4_receive 30 = .ok (.aload_n 0, 1) := by decide +kernel
theorem dX4_receive_31 : decode cX4_receive 31 = .ok (.invokevirtual 25, 3) := by decide +kernel
theorem dX4_receive_34 : decode cX4_receive 34 = .ok (.istore_n 2, 1) := by decide +kernel
theorem dX4_receive_35 : decode cX4_receive 35 = .ok (.iload_n 2, 1) := by decide +kernel
theorem dX4_receive_36 : decode cX4_receive 36 = .ok (.aload_n 0, 1) := by decide +kernel
theorem dX4_receive_37 : decode cX4_receive 37 = .ok (.getfield 18, 3) := by decide +kernel
theorem dX4_receive_40 : decode cX4_receive 40 = .ok (.if_icmp .eq 23, 3) := by decide +kernel
theorem dX4_receive_43 : decode cX4_receive 43 = .ok (.aload_n 0, 1) := by decide +kernel
theorem dX4_receive_44 : decode cX4_receive 44 = .ok (.iload_n 2, 1) := by decide +kernel
theorem dX4_receive_45 : decode cX4_receive 45 = .ok (.putfield 18, 3) := by decide +kernel
theorem dX4_receive_48 : decode cX4_receive 48 = .ok (.aload_n 0, 1) := by decide +kernel
theorem dX4_receive_49 : decode cX4_receive 49 = .ok (.dup, 1) := by decide +kernel
theorem dX4_receive_50 : decode cX4_receive 50 = .ok (.getfield 29, 3) := by decide +kernel
theorem dX4_receive_53 : decode cX4_receive 53 = .ok (.iconst 1, 1) := by decide +kernel
theorem dX4_receive_54 : decode cX4_receive 54 = .ok (.iadd, 1) := by decide +kernel
theorem dX4_receive_55 : decode cX4_receive 55 = .ok (.putfield 29, 3) := by decide +kernel
theorem dX4_receive_58 : decode cX4_receive 58 = .ok (.aload_n 0, 1) := by decide +kernel
theorem dX4_receive_59 : decode cX4_receive 59 = .ok (.iconst 0, 1) := by decide +kernel
theorem dX4_receive_60 : decode cX4_receive 60 = .ok (.putfield 22, 3) := by decide +kernel
theorem dX4_receive_63 : decode cX4_receive 63 = .ok (.return_, 1) := by decide +kernel
theorem dX4_nextRule_0 : decode cX4_nextRule 0 = .ok (.aload_n 0, 1) := by decide +kernel
theorem dX4_nextRule_1 : decode cX4_nextRule 1 = .ok (.getfield 18, 3) := by decide +kernel
theorem dX4_nextRule_4 : decode cX4_nextRule 4 = .ok (.lookupswitch 74 #[(0, 28), (1, 58)], 28) := by decide +kernel
theorem dX4_nextRule_32 : decode cX4_nextRule 32 = .ok (.aload_n 0, 1) := by decide +kernel
theorem dX4_nextRule_33 : decode cX4_nextRule 33 = .ok (.iconst 5, 1) := by decide +kernel
theorem dX4_nextRule_34 : decode cX4_nextRule 34 = .ok (.iconst 2, 1) := by decide +kernel
theorem dX4_nextRule_35 : decode cX4_nextRule 35 = .ok (.invokevirtual 32, 3) := by decide +kernel
theorem dX4_nextRule_38 : decode cX4_nextRule 38 = .ok (.iconst 2, 1) := by decide +kernel
theorem dX4_nextRule_39 : decode cX4_nextRule 39 = .ok (.if_icmp .lt 5, 3) := by decide +kernel
theorem dX4_nextRule_42 : decode cX4_nextRule 42 = .ok (.iconst 1, 1) := by decide +kernel
theorem dX4_nextRule_43 : decode cX4_nextRule 43 = .ok (.ireturn, 1) := by decide +kernel
theorem dX4_nextRule_44 : decode cX4_nextRule 44 = .ok (.aload_n 0, 1) := by decide +kernel
theorem dX4_nextRule_45 : decode cX4_nextRule 45 = .ok (.bipush 6, 2) := by decide +kernel
theorem dX4_nextRule_47 : decode cX4_nextRule 47 = .ok (.iconst 1, 1) := by decide +kernel
theorem dX4_nextRule_48 : decode cX4_nextRule 48 = .ok (.invokevirtual 32, 3) := by decide +kernel
theorem dX4_nextRule_51 : decode cX4_nextRule 51 = .ok (.bipush 6, 2) := by decide +kernel
theorem dX4_nextRule_53 : decode cX4_nextRule 53 = .ok (.if_icmp .ne 7, 3) := by decide +kernel
theorem dX4_nextRule_56 : decode cX4_nextRule 56 = .ok (.iconst 2, 1) := by decide +kernel
theorem dX4_nextRule_57 : decode cX4_nextRule 57 = .ok (.goto 4, 3) := by decide +kernel
theorem dX4_nextRule_60 : decode cX4_nextRule 60 = .ok (.iconst 0, 1) := by decide +kernel
theorem dX4_nextRule_61 : decode cX4_nextRule 61 = .ok (.ireturn, 1) := by decide +kernel
theorem dX4_nextRule_62 : decode cX4_nextRule 62 = .ok (.aload_n 0, 1) := by decide +kernel
theorem dX4_nextRule_63 : decode cX4_nextRule 63 = .ok (.iconst 5, 1) := by decide +kernel
theorem dX4_nextRule_64 : decode cX4_nextRule 64 = .ok (.iconst 1, 1) := by decide +kernel
theorem dX4_nextRule_65 : decode cX4_nextRule 65 = .ok (.invokevirtual 32, 3) := by decide +kernel
theorem dX4_nextRule_68 : decode cX4_nextRule 68 = .ok (.iconst 5, 1) := by decide +kernel
theorem dX4_nextRule_69 : decode cX4_nextRule 69 = .ok (.if_icmp .ne 7, 3) := by decide +kernel
theorem dX4_nextRule_72 : decode cX4_nextRule 72 = .ok (.iconst 0, 1) := by decide +kernel
theorem dX4_nextRule_73 : decode cX4_nextRule 73 = .ok (.goto 4, 3) := by decide +kernel
theorem dX4_nextRule_76 : decode cX4_nextRule 76 = .ok (.iconst 1, 1) := by decide +kernel
theorem dX4_nextRule_77 : decode cX4_nextRule 77 = .ok (.ireturn, 1) := by decide +kernel
theorem dX4_nextRule_78 : decode cX4_nextRule 78 = .ok (.aload_n 0, 1) := by decide +kernel
theorem dX4_nextRule_79 : decode cX4_nextRule 79 = .ok (.iconst 0, 1) := by decide +kernel
theorem dX4_nextRule_80 : decode cX4_nextRule 80 = .ok (.invokevirtual 36, 3) := by decide +kernel
theorem dX4_nextRule_83 : decode cX4_nextRule 83 = .ok (.iconst 2, 1) := by decide +kernel
theorem dX4_nextRule_84 : decode cX4_nextRule 84 = .ok (.if_icmp .ne 7, 3) := by decide +kernel
theorem dX4_nextRule_87 : decode cX4_nextRule 87 = .ok (.iconst 0, 1) := by decide +kernel
theorem dX4_nextRule_88 : decode cX4_nextRule 88 = .ok (.goto 4, 3) := by decide +kernel
theorem dX4_nextRule_91 : decode cX4_nextRule 91 = .ok (.iconst 2, 1) := by decide +kernel
theorem dX4_nextRule_92 : decode cX4_nextRule 92 = .ok (.ireturn, 1) := by decide +kernel
theorem dX4_amongLatest_0 : decode cX4_amongLatest 0 = .ok (.iconst 0, 1) := by decide +kernel
theorem dX4_amongLatest_1 : decode cX4_amongLatest 1 = .ok (.istore_n 3, 1) := by decide +kernel
theorem dX4_amongLatest_2 : decode cX4_amongLatest 2 = .ok (.iconst 0, 1) := by decide +kernel
theorem dX4_amongLatest_3 : decode cX4_amongLatest 3 = .ok (.istore 4, 2) := by decide +kernel
theorem dX4_amongLatest_5 : decode cX4_amongLatest 5 = .ok (.iload 4, 2) := by decide +kernel
theorem dX4_amongLatest_7 : decode cX4_amongLatest 7 = .ok (.iload_n 1, 1) := by decide +kernel
theorem dX4_amongLatest_8 : decode cX4_amongLatest 8 = .ok (.if_icmp .ge 22, 3) := by decide +kernel
theorem dX4_amongLatest_11 : decode cX4_amongLatest 11 = .ok (.aload_n 0, 1) := by decide +kernel
theorem dX4_amongLatest_12 : decode cX4_amongLatest 12 = .ok (.iload 4, 2) := by decide +kernel
theorem dX4_amongLatest_14 : decode cX4_amongLatest 14 = .ok (.invokevirtual 36, 3) := by decide +kernel
theorem dX4_amongLatest_17 : decode cX4_amongLatest 17 = .ok (.iload_n 2, 1) := by decide +kernel
theorem dX4_amongLatest_18 : decode cX4_amongLatest 18 = .ok (.if_icmp .ne 6, 3) := by decide +kernel
theorem dX4_amongLatest_21 : decode cX4_amongLatest 21 = .ok (.iinc 3 1, 3) := by decide +kernel
theorem dX4_amongLatest_24 : decode cX4_amongLatest 24 = .ok (.iinc 4 1, 3) := by decide +kernel
theorem dX4_amongLatest_27 : decode cX4_amongLatest 27 = .ok (.goto (-22), 3) := by decide +kernel
theorem dX4_amongLatest_30 : decode cX4_amongLatest 30 = .ok (.iload_n 3, 1) := by decide +kernel
theorem dX4_amongLatest_31 : decode cX4_amongLatest 31 = .ok (.ireturn, 1) := by decide +kernel
theorem dX5_init_0 : decode cX5_init 0 = .ok (.aload_n 0, 1) := by decide +kernel
theorem dX5_init_1 : decode cX5_init 1 = .ok (.invokespecial 3, 3) := by decide +kernel
theorem dX5_init_4 : decode cX5_init 4 = .ok (.aload_n 0, 1) := by decide +kernel
theorem dX5_init_5 : decode cX5_init 5 = .ok (.bipush 61, 2) := by decide +kernel
theorem dX5_init_7 : decode cX5_init 7 = .ok (.bipush 61, 2) := by decide +kernel
theorem dX5_init_9 : decode cX5_init 9 = .ok (.multianewarray 9 2, 4) := by decide +kernel
theorem dX5_init_13 : decode cX5_init 13 = .ok (.putfield 11, 3) := by decide +kernel
theorem dX5_init_16 : decode cX5_init 16 = .ok (.aload_n 0, 1) := by decide +kernel
theorem dX5_init_17 : decode cX5_init 17 = .ok (.getfield 11, 3) := by decide +kernel
theorem dX5_init_20 : decode cX5_init 20 = .ok (.iconst 0, 1) := by decide +kernel
theorem dX5_init_21 : decode cX5_init 21 = .ok (.aaload, 1) := by decide +kernel
theorem dX5_init_22 : decode cX5_init 22 = .ok (.iconst 0, 1) := by decide +kernel
theorem dX5_init_23 : decode cX5_init 23 = .ok (.lconst 1, 1) := by decide +kernel
theorem dX5_init_24 : decode cX5_init 24 = .ok (.lastore, 1) := by decide +kernel
theorem dX5_init_25 : decode cX5_init 25 = .ok (.iconst 1, 1) := by decide +kernel
theorem dX5_init_26 : decode cX5_init 26 = .ok (.istore_n 1, 1) := by decide +kernel
theorem dX5_init_27 : decode cX5_init 27 = .ok (.iload_n 1, 1) := by decide +kernel
theorem dX5_init_28 : decode cX5_init 28 = .ok (.bipush 60, 2) := by decide +kernel
theorem dX5_init_30 : decode cX5_init 30 = .ok (.if_icmp .gt 62, 3) := by decide +kernel
theorem dX5_init_33 : decode cX5_init 33 = .ok (.aload_n 0, 1) := by decide +kernel
theorem dX5_init_34 : decode cX5_init 34 = .ok (.getfield 11, 3) := by decide +kernel
theorem dX5_init_37 : decode cX5_init 37 = .ok (.iload_n 1, 1) := by decide +kernel
theorem dX5_init_38 : decode cX5_init 38 = .ok (.aaload, 1) := by decide +kernel
theorem dX5_init_39 : decode cX5_init 39 = .ok (.iconst 0, 1) := by decide +kernel
theorem dX5_init_40 : decode cX5_init 40 = .ok (.lconst 1, 1) := by decide +kernel
theorem dX5_init_41 : decode cX5_init 41 = .ok (.lastore, 1) := by decide +kernel
theorem dX5_init_42 : decode cX5_init 42 = .ok (.iconst 1, 1) := by decide +kernel
theorem dX5_init_43 : decode cX5_init 43 = .ok (.istore_n 2, 1) := by decide +kernel
theorem dX5_init_44 : decode cX5_init 44 = .ok (.iload_n 2, 1) := by decide +kernel
theorem dX5_init_45 : decode cX5_init 45 = .ok (.iload_n 1, 1) := by decide +kernel
theorem dX5_init_46 : decode cX5_init 46 = .ok (.if_icmp .gt 40, 3) := by decide +kernel
theorem dX5_init_49 : decode cX5_init 49 = .ok (.aload_n 0, 1) := by decide +kernel
theorem dX5_init_50 : decode cX5_init 50 = .ok (.getfield 11, 3) := by decide +kernel
theorem dX5_init_53 : decode cX5_init 53 = .ok (.iload_n 1, 1) := by decide +kernel
theorem dX5_init_54 : decode cX5_init 54 = .ok (.aaload, 1) := by decide +kernel
theorem dX5_init_55 : decode cX5_init 55 = .ok (.iload_n 2, 1) := by decide +kernel
theorem dX5_init_56 : decode cX5_init 56 = .ok (.aload_n 0, 1) := by decide +kernel
theorem dX5_init_57 : decode cX5_init 57 = .ok (.getfield 11, 3) := by decide +kernel
theorem dX5_init_60 : decode cX5_init 60 = .ok (.iload_n 1, 1) := by decide +kernel
theorem dX5_init_61 : decode cX5_init 61 = .ok (.iconst 1, 1) := by decide +kernel
theorem dX5_init_62 : decode cX5_init 62 = .ok (.isub, 1) := by decide +kernel
theorem dX5_init_63 : decode cX5_init 63 = .ok (.aaload, 1) := by decide +kernel
theorem dX5_init_64 : decode cX5_init 64 = .ok (.iload_n 2, 1) := by decide +kernel
theorem dX5_init_65 : decode cX5_init 65 = .ok (.iconst 1, 1) := by decide +kernel
theorem dX5_init_66 : decode cX5_init 66 = .ok (.isub, 1) := by decide +kernel
theorem dX5_init_67 : decode cX5_init 67 = .ok (.laload, 1) := by decide +kernel
theorem dX5_init_68 : decode cX5_init 68 = .ok (.aload_n 0, 1) := by decide +kernel
theorem dX5_init_69 : decode cX5_init 69 = .ok (.getfield 11, 3) := by decide +kernel
theorem dX5_init_72 : decode cX5_init 72 = .ok (.iload_n 1, 1) := by decide +kernel
theorem dX5_init_73 : decode cX5_init 73 = .ok (.iconst 1, 1) := by decide +kernel
theorem dX5_init_74 : decode cX5_init 74 = .ok (.isub, 1) := by decide +kernel
theorem dX5_init_75 : decode cX5_init 75 = .ok (.aaload, 1) := by decide +kernel
theorem dX5_init_76 : decode cX5_init 76 = .ok (.iload_n 2, 1) := by decide +kernel
theorem dX5_init_77 : decode cX5_init 77 = .ok (.laload, 1) := by decide +kernel
theorem dX5_init_78 : decode cX5_init 78 = .ok (.ladd, 1) := by decide +kernel
theorem dX5_init_79 : decode cX5_init 79 = .ok (.lastore, 1) := by decide +kernel
theorem dX5_init_80 : decode cX5_init 80 = .ok (.iinc 2 1, 3) := by decide +kernel
theorem dX5_init_83 : decode cX5_init 83 = .ok (.goto (-39), 3) := by decide +kernel
theorem dX5_init_86 : decode cX5_init 86 = .ok (.iinc 1 1, 3) := by decide +kernel
theorem dX5_init_89 : decode cX5_init 89 = .ok (.goto (-62), 3) := by decide +kernel
theorem dX5_init_92 : decode cX5_init 92 = .ok (.return_, 1) := by decide +kernel
theorem dX5_choose_0 : decode cX5_choose 0 = .ok (.iload_n 1, 1) := by decide +kernel
theorem dX5_choose_1 : decode cX5_choose 1 = .ok (.ifCond .lt 18, 3) := by decide +kernel
theorem dX5_choose_4 : decode cX5_choose 4 = .ok (.iload_n 1, 1) := by decide +kernel
theorem dX5_choose_5 : decode cX5_choose 5 = .ok (.bipush 60, 2) := by decide +kernel
theorem dX5_choose_7 : decode cX5_choose 7 = .ok (.if_icmp .gt 12, 3) := by decide +kernel
theorem dX5_choose_10 : decode cX5_choose 10 = .ok (.iload_n 2, 1) := by decide +kernel
theorem dX5_choose_11 : decode cX5_choose 11 = .ok (.ifCond .lt 8, 3) := by decide +kernel
theorem dX5_choose_14 : decode cX5_choose 14 = .ok (.iload_n 2, 1) := by decide +kernel
theorem dX5_choose_15 : decode cX5_choose 15 = .ok (.iload_n 1, 1) := by decide +kernel
theorem dX5_choose_16 : decode cX5_choose 16 = .ok (.if_icmp .le 5, 3) := by decide +kernel
theorem dX5_choose_19 : decode cX5_choose 19 = .ok (.lconst 0, 1) := by decide +kernel
theorem dX5_choose_20 : decode cX5_choose 20 = .ok (.lreturn, 1) := by decide +kernel
theorem dX5_choose_21 : decode cX5_choose 21 = .ok (.aload_n 0, 1) := by decide +kernel
theorem dX5_choose_22 : decode cX5_choose 22 = .ok (.getfield 11, 3) := by decide +kernel
theorem dX5_choose_25 : decode cX5_choose 25 = .ok (.iload_n 1, 1) := by decide +kernel
theorem dX5_choose_26 : decode cX5_choose 26 = .ok (.aaload, 1) := by decide +kernel
theorem dX5_choose_27 : decode cX5_choose 27 = .ok (.iload_n 2, 1) := by decide +kernel
theorem dX5_choose_28 : decode cX5_choose 28 = .ok (.laload, 1) := by decide +kernel
theorem dX5_choose_29 : decode cX5_choose 29 = .ok (.lreturn, 1) := by decide +kernel
end
section
theorem dX6_init_0 : decode cX6_init 0 = .ok (.aload_n 0, 1) := by decide +kernel
theorem dX6_init_1 : decode cX6_init 1 = .ok (.invokespecial 1, 3) := by decide +kernel
theorem dX6_init_4 : decode cX6_init 4 = .ok (.aload_n 0, 1) := by decide +kernel
theorem dX6_init_5 : decode cX6_init 5 = .ok (.new 7, 3) := by decide +kernel
theorem dX6_init_8 : decode cX6_init 8 = .ok (.dup, 1) := by decide +kernel
theorem dX6_init_9 : decode cX6_init 9 = .ok (.invokespecial 9, 3) := by decide +kernel
theorem dX6_init_12 : decode cX6_init 12 = .ok (.putfield 10, 3) := by decide +kernel
theorem dX6_init_15 : decode cX6_init 15 = .ok (.aload_n 0, 1) := by decide +kernel
theorem dX6_init_16 : decode cX6_init 16 = .ok (.new 16, 3) := by decide +kernel
theorem dX6_init_19 : decode cX6_init 19 = .ok (.dup, 1) := by decide +kernel
theorem dX6_init_20 : decode cX6_init 20 = .ok (.invokespecial 18, 3) := by decide +kernel
theorem dX6_init_23 : decode cX6_init 23 = .ok (.putfield 19, 3) := by decide +kernel
theorem dX6_init_26 : decode cX6_init 26 = .ok (.aload_n 0, 1) := by decide +kernel
theorem dX6_init_27 : decode cX6_init 27 = .ok (.bipush 24, 2) := by decide +kernel
theorem dX6_init_29 : decode cX6_init 29 = .ok (.anewarray 23, 3) := by decide +kernel
theorem dX6_init_32 : decode cX6_init 32 = .ok (.putfield 25, 3) := by decide +kernel
theorem dX6_init_35 : decode cX6_init 35 = .ok (.aload_n 0, 1) := by decide +kernel
theorem dX6_init_36 : decode cX6_init 36 = .ok (.new 29, 3) := by decide +kernel
theorem dX6_init_39 : decode cX6_init 39 = .ok (.dup, 1) := by decide +kernel
theorem dX6_init_40 : decode cX6_init 40 = .ok (.invokespecial 31, 3) := by decide +kernel
theorem dX6_init_43 : decode cX6_init 43 = .ok (.putfield 32, 3) := by decide +kernel
theorem dX6_init_46 : decode cX6_init 46 = .ok (.aload_n 0, 1) := by decide +kernel
theorem dX6_init_47 : decode cX6_init 47 = .ok (.new 29, 3) := by decide +kernel
theorem dX6_init_50 : decode cX6_init 50 = .ok (.dup, 1) := by decide +kernel
theorem dX6_init_51 : decode cX6_init 51 = .ok (.invokespecial 31, 3) := by decide +kernel
theorem dX6_init_54 : decode cX6_init 54 = .ok (.putfield 36, 3) := by decide +kernel
theorem dX6_init_57 : decode cX6_init 57 = .ok (.aload_n 0, 1) := by decide +kernel
theorem dX6_init_58 : decode cX6_init 58 = .ok (.bipush 8, 2) := by decide +kernel
theorem dX6_init_60 : decode cX6_init 60 = .ok (.anewarray 39, 3) := by decide +kernel
theorem dX6_init_63 : decode cX6_init 63 = .ok (.putfield 41, 3) := by decide +kernel
theorem dX6_init_66 : decode cX6_init 66 = .ok (.aload_n 0, 1) := by decide +kernel
theorem dX6_init_67 : decode cX6_init 67 = .ok (.bipush 60, 2) := by decide +kernel
theorem dX6_init_69 : decode cX6_init 69 = .ok (.anewarray 45, 3) := by decide +kernel
theorem dX6_init_72 : decode cX6_init 72 = .ok (.putfield 47, 3) := by decide +kernel
theorem dX6_init_75 : decode cX6_init 75 = .ok (.aload_n 0, 1) := by decide +kernel
theorem dX6_init_76 : decode cX6_init 76 = .ok (.iconst 4, 1) := by decide +kernel
theorem dX6_init_77 : decode cX6_init 77 = .ok (.newarray .int, 2) := by decide +kernel
theorem dX6_init_79 : decode cX6_init 79 = .ok (.putfield 51, 3) := by decide +kernel
theorem dX6_init_82 : decode cX6_init 82 = .ok (.return_, 1) := by decide +kernel
theorem dX6_plan_0 : decode cX6_plan 0 = .ok (.aload_n 0, 1) := by decide +kernel
theorem dX6_plan_1 : decode cX6_plan 1 = .ok (.getfield 55, 3) := by decide +kernel
theorem dX6_plan_4 : decode cX6_plan 4 = .ok (.bipush 24, 2) := by decide +kernel
theorem dX6_plan_6 : decode cX6_plan 6 = .ok (.if_icmp .lt 6, 3) := by decide +kernel
theorem dX6_plan_9 : decode cX6_plan 9 = .ok (.bipush (-2), 2) := by decide +kernel
theorem dX6_plan_11 : decode cX6_plan 11 = .ok (.ireturn, 1) := by decide +kernel
theorem dX6_plan_12 : decode cX6_plan 12 = .ok (.aload_n 0, 1) := by decide +kernel
theorem dX6_plan_13 : decode cX6_plan 13 = .ok (.getfield 25, 3) := by decide +kernel
theorem dX6_plan_16 : decode cX6_plan 16 = .ok (.aload_n 0, 1) := by decide +kernel
theorem dX6_plan_17 : decode cX6_plan 17 = .ok (.getfield 55, 3) := by decide +kernel
theorem dX6_plan_20 : decode cX6_plan 20 = .ok (.new 23, 3) := by decide +kernel
theorem dX6_plan_23 : decode cX6_plan 23 = .ok (.dup, 1) := by decide +kernel
theorem dX6_plan_24 : decode cX6_plan 24 = .ok (.invokespecial 59, 3) := by decide +kernel
theorem dX6_plan_27 : decode cX6_plan 27 = .ok (.aastore, 1) := by decide +kernel
theorem dX6_plan_28 : decode cX6_plan 28 = .ok (.aload_n 0, 1) := by decide +kernel
theorem dX6_plan_29 : decode cX6_plan 29 = .ok (.dup, 1) := by decide +kernel
theorem dX6_plan_30 : decode cX6_plan 30 = .ok (.getfield 55, 3) := by decide +kernel
theorem dX6_plan_33 : decode cX6_plan 33 = .ok (.iconst 1, 1) := by decide +kernel
theorem dX6_plan_34 : decode cX6_plan 34 = .ok (.iadd, 1) := by decide +kernel
theorem dX6_plan_35 : decode cX6_plan 35 = .ok (.putfield 55, 3) := by decide +kernel
theorem dX6_plan_38 : decode cX6_plan 38 = .ok (.aload_n 0, 1) := by decide +kernel
theorem dX6_plan_39 : decode cX6_plan 39 = .ok (.getfield 55, 3) := by decide +kernel
theorem dX6_plan_42 : decode cX6_plan 42 = .ok (.iconst 1, 1) := by decide +kernel
theorem dX6_plan_43 : decode cX6_plan 43 = .ok (.isub, 1) := by decide +kernel
theorem dX6_plan_44 : decode cX6_plan 44 = .ok (.ireturn, 1) := by decide +kernel
theorem dX6_stage_0 : decode cX6_stage 0 = .ok (.aload_n 0, 1) := by decide +kernel
theorem dX6_stage_1 : decode cX6_stage 1 = .ok (.iload_n 1, 1) := by decide +kernel
theorem dX6_stage_2 : decode cX6_stage 2 = .ok (.invokevirtual 60, 3) := by decide +kernel
theorem dX6_stage_5 : decode cX6_stage 5 = .ok (.astore 5, 2) := by decide +kernel
theorem dX6_stage_7 : decode cX6_stage 7 = .ok (.aload 5, 2) := by decide +kernel
theorem dX6_stage_9 : decode cX6_stage 9 = .ok (.ifnull 19, 3) := by decide +kernel
theorem dX6_stage_12 : decode cX6_stage 12 = .ok (.aload 5, 2) := by decide +kernel
theorem dX6_stage_14 : decode cX6_stage 14 = .ok (.iload_n 2, 1) := by decide +kernel
theorem dX6_stage_15 : decode cX6_stage 15 = .ok (.iload_n 3, 1) := by decide +kernel
theorem dX6_stage_16 : decode cX6_stage 16 = .ok (.iload 4, 2) := by decide +kernel
theorem dX6_stage_18 : decode cX6_stage 18 = .ok (.aload_n 0, 1) := by decide +kernel
theorem dX6_stage_19 : decode cX6_stage 19 = .ok (.getfield 10, 3) := by decide +kernel
theorem dX6_stage_22 : decode cX6_stage 22 = .ok (.invokevirtual 64, 3) := by decide +kernel
theorem dX6_stage_25 : decode cX6_stage 25 = .ok (.ifCond .ne 6, 3) := by decide +kernel
theorem dX6_stage_28 : decode cX6_stage 28 = .ok (.bipush (-2), 2) := by decide +kernel
theorem dX6_stage_30 : decode cX6_stage 30 = .ok (.ireturn, 1) := by decide +kernel
theorem dX6_stage_31 : decode cX6_stage 31 = .ok (.aload 5, 2) := by decide +kernel
theorem dX6_stage_33 : decode cX6_stage 33 = .ok (.getfield 68, 3) := by decide +kernel
theorem dX6_stage_36 : decode cX6_stage 36 = .ok (.ireturn, 1) := by decide +kernel
theorem dX6_of_0 : decode cX6_of 0 = .ok (.aload_n 0, 1) := by decide +kernel
theorem dX6_of_1 : decode cX6_of 1 = .ok (.iload_n 1, 1) := by decide +kernel
theorem dX6_of_2 : decode cX6_of 2 = .ok (.invokevirtual 60, 3) := by decide +kernel
theorem dX6_of_5 : decode cX6_of 5 = .ok (.astore 4, 2) := by decide +kernel
theorem dX6_of_7 : decode cX6_of 7 = .ok (.aload 4, 2) := by decide +kernel
theorem dX6_of_9 : decode cX6_of 9 = .ok (.ifnull 12, 3) := by decide +kernel
theorem dX6_of_12 : decode cX6_of 12 = .ok (.aload 4, 2) := by decide +kernel
theorem dX6_of_14 : decode cX6_of 14 = .ok (.iload_n 2, 1) := by decide +kernel
theorem dX6_of_15 : decode cX6_of 15 = .ok (.invokevirtual 71, 3) := by decide +kernel
theorem dX6_of_18 : decode cX6_of 18 = .ok (.ifCond .ne 6, 3) := by decide +kernel
theorem dX6_of_21 : decode cX6_of 21 = .ok (.bipush (-2), 2) := by decide +kernel
theorem dX6_of_23 : decode cX6_of 23 = .ok (.ireturn, 1) := by decide +kernel
theorem dX6_of_24 : decode cX6_of 24 = .ok (.iload_n 3, 1) := by decide +kernel
theorem dX6_of_25 : decode cX6_of 25 = .ok (.tableswitch 51 0 2 #[27, 35, 43], 27) := by decide +kernel
theorem dX6_of_52 : decode cX6_of 52 = .ok (.aload 4, 2) := by decide +kernel
theorem dX6_of_54 : decode cX6_of 54 = .ok (.getfield 75, 3) := by decide +kernel
theorem dX6_of_57 : decode cX6_of 57 = .ok (.iload_n 2, 1) := by decide +kernel
theorem dX6_of_58 : decode cX6_of 58 = .ok (.iaload, 1) := by decide +kernel
theorem dX6_of_59 : decode cX6_of 59 = .ok (.ireturn, 1) := by decide +kernel
theorem dX6_of_60 : decode cX6_of 60 = .ok (.aload 4, 2) := by decide +kernel
theorem dX6_of_62 : decode cX6_of 62 = .ok (.getfield 78, 3) := by decide +kernel
theorem dX6_of_65 : decode cX6_of 65 = .ok (.iload_n 2, 1) := by decide +kernel
theorem dX6_of_66 : decode cX6_of 66 = .ok (.iaload, 1) := by decide +kernel
theorem dX6_of_67 : decode cX6_of 67 = .ok (.ireturn, 1) := by decide +kernel
theorem dX6_of_68 : decode cX6_of 68 = .ok (.aload 4, 2) := by decide +kernel
theorem dX6_of_70 : decode cX6_of 70 = .ok (.getfield 81, 3) := by decide +kernel
theorem dX6_of_73 : decode cX6_of 73 = .ok (.iload_n 2, 1) := by decide +kernel
theorem dX6_of_74 : decode cX6_of 74 = .ok (.iaload, 1) := by decide +kernel
theorem dX6_of_75 : decode cX6_of 75 = .ok (.ireturn, 1) := by decide +kernel
theorem dX6_of_76 : decode cX6_of 76 = .ok (.bipush (-2), 2) := by decide +kernel
theorem dX6_of_78 : decode cX6_of 78 = .ok (.ireturn, 1) := by decide +kernel
theorem dX6_part_0 : decode cX6_part 0 = .ok (.aload_n 0, 1) := by decide +kernel
theorem dX6_part_1 : decode cX6_part 1 = .ok (.iload_n 1, 1) := by decide +kernel
theorem dX6_part_2 : decode cX6_part 2 = .ok (.iload_n 2, 1) := by decide +kernel
theorem dX6_part_3 : decode cX6_part 3 = .ok (.invokevirtual 84, 3) := by decide +kernel
theorem dX6_part_6 : decode cX6_part 6 = .ok (.astore 5, 2) := by decide +kernel
theorem dX6_part_8 : decode cX6_part 8 = .ok (.aload 5, 2) := by decide +kernel
theorem dX6_part_10 : decode cX6_part 10 = .ok (.ifnull 23, 3) := by decide +kernel
theorem dX6_part_13 : decode cX6_part 13 = .ok (.iload_n 3, 1) := by decide +kernel
theorem dX6_part_14 : decode cX6_part 14 = .ok (.ifCond .lt 19, 3) := by decide +kernel
theorem dX6_part_17 : decode cX6_part 17 = .ok (.iload_n 3, 1) := by decide +kernel
theorem dX6_part_18 : decode cX6_part 18 = .ok (.iload_n 2, 1) := by decide +kernel
theorem dX6_part_19 : decode cX6_part 19 = .ok (.if_icmp .gt 14, 3) := by decide +kernel
theorem dX6_part_22 : decode cX6_part 22 = .ok (.iload 4, 2) := by decide +kernel
theorem dX6_part_24 : decode cX6_part 24 = .ok (.ifCond .lt 9, 3) := by decide +kernel
theorem dX6_part_27 : decode cX6_part 27 = .ok (.iload 4, 2) := by decide +kernel
theorem dX6_part_29 : decode cX6_part 29 = .ok (.iconst 2, 1) := by decide +kernel
theorem dX6_part_30 : decode cX6_part 30 = .ok (.if_icmp .le 6, 3) := by decide +kernel
theorem dX6_part_33 : decode cX6_part 33 = .ok (.bipush (-2), 2) := by decide +kernel
theorem dX6_part_35 : decode cX6_part 35 = .ok (.ireturn, 1) := by decide +kernel
theorem dX6_part_36 : decode cX6_part 36 = .ok (.aload_n 0, 1) := by decide +kernel
theorem dX6_part_37 : decode cX6_part 37 = .ok (.getfield 10, 3) := by decide +kernel
theorem dX6_part_40 : decode cX6_part 40 = .ok (.iload_n 2, 1) := by decide +kernel
theorem dX6_part_41 : decode cX6_part 41 = .ok (.iload_n 3, 1) := by decide +kernel
theorem dX6_part_42 : decode cX6_part 42 = .ok (.invokevirtual 88, 3) := by decide +kernel
theorem dX6_part_45 : decode cX6_part 45 = .ok (.lstore 6, 2) := by decide +kernel
theorem dX6_part_47 : decode cX6_part 47 = .ok (.iload 4, 2) := by decide +kernel
theorem dX6_part_49 : decode cX6_part 49 = .ok (.iconst 2, 1) := by decide +kernel
theorem dX6_part_50 : decode cX6_part 50 = .ok (.if_icmp .ne 11, 3) := by decide +kernel
theorem dX6_part_53 : decode cX6_part 53 = .ok (.lload 6, 2) := by decide +kernel
theorem dX6_part_55 : decode cX6_part 55 = .ok (.iload_n 2, 1) := by decide +kernel
theorem dX6_part_56 : decode cX6_part 56 = .ok (.i2l, 1) := by decide +kernel
theorem dX6_part_57 : decode cX6_part 57 = .ok (.lmul, 1) := by decide +kernel
theorem dX6_part_58 : decode cX6_part 58 = .ok (.goto 5, 3) := by decide +kernel
theorem dX6_part_61 : decode cX6_part 61 = .ok (.lload 6, 2) := by decide +kernel
theorem dX6_part_63 : decode cX6_part 63 = .ok (.lstore 8, 2) := by decide +kernel
theorem dX6_part_65 : decode cX6_part 65 = .ok (.aload_n 0, 1) := by decide +kernel
theorem dX6_part_66 : decode cX6_part 66 = .ok (.getfield 19, 3) := by decide +kernel
theorem dX6_part_69 : decode cX6_part 69 = .ok (.aload 5, 2) := by decide +kernel
theorem dX6_part_71 : decode cX6_part 71 = .ok (.aload_n 0, 1) := by decide +kernel
theorem dX6_part_72 : decode cX6_part 72 = .ok (.getfield 10, 3) := by decide +kernel
theorem dX6_part_75 : decode cX6_part 75 = .ok (.iload_n 2, 1) := by decide +kernel
theorem dX6_part_76 : decode cX6_part 76 = .ok (.iload_n 3, 1) := by decide +kernel
theorem dX6_part_77 : decode cX6_part 77 = .ok (.iload 4, 2) := by decide +kernel
theorem dX6_part_79 : decode cX6_part 79 = .ok (.invokevirtual 92, 3) := by decide +kernel
theorem dX6_part_82 : decode cX6_part 82 = .ok (.lload 8, 2) := by decide +kernel
theorem dX6_part_84 : decode cX6_part 84 = .ok (.invokevirtual 96, 3) := by decide +kernel
theorem dX6_part_87 : decode cX6_part 87 = .ok (.iconst 1, 1) := by decide +kernel
theorem dX6_part_88 : decode cX6_part 88 = .ok (.ireturn, 1) := by decide +kernel
theorem dX6_up_0 : decode cX6_up 0 = .ok (.aload_n 0, 1) := by decide +kernel
theorem dX6_up_1 : decode cX6_up 1 = .ok (.getfield 19, 3) := by decide +kernel
theorem dX6_up_4 : decode cX6_up 4 = .ok (.getfield 100, 3) := by decide +kernel
theorem dX6_up_7 : decode cX6_up 7 = .ok (.lreturn, 1) := by decide +kernel
theorem dX6_down_0 : decode cX6_down 0 = .ok (.aload_n 0, 1) := by decide +kernel
theorem dX6_down_1 : decode cX6_down 1 = .ok (.getfield 19, 3) := by decide +kernel
theorem dX6_down_4 : decode cX6_down 4 = .ok (.getfield 104, 3) := by decide +kernel
theorem dX6_down_7 : decode cX6_down 7 = .ok (.lreturn, 1) := by decide +kernel
theorem dX6_rounded_0 : decode cX6_rounded 0 = .ok (.iload_n 1, 1) := by decide +kernel
theorem dX6_rounded_1 : decode cX6_rounded 1 = .ok (.ifCond .lt 9, 3) := by decide +kernel
theorem dX6_rounded_4 : decode cX6_rounded 4 = .ok (.iload_n 1, 1) := by decide +kernel
theorem dX6_rounded_5 : decode cX6_rounded 5 = .ok (.bipush 6, 2) := by decide +kernel
theorem dX6_rounded_7 : decode cX6_rounded 7 = .ok (.if_icmp .le 7, 3) := by decide +kernel
theorem dX6_rounded_10 : decode cX6_rounded 10 = .ok (.ldc2_w 107, 3) := by decide +kernel
theorem dX6_rounded_13 : decode cX6_rounded 13 = .ok (.lreturn, 1) := by decide +kernel
theorem dX6_rounded_14 : decode cX6_rounded 14 = .ok (.aload_n 0, 1) := by decide +kernel
theorem dX6_rounded_15 : decode cX6_rounded 15 = .ok (.getfield 19, 3) := by decide +kernel
theorem dX6_rounded_18 : decode cX6_rounded 18 = .ok (.iload_n 1, 1) := by decide +kernel
theorem dX6_rounded_19 : decode cX6_rounded 19 = .ok (.invokevirtual 109, 3) := by decide +kernel
theorem dX6_rounded_22 : decode cX6_rounded 22 = .ok (.lreturn, 1) := by decide +kernel
theorem dX6_compare_0 : decode cX6_compare 0 = .ok (.aload_n 0, 1) := by decide +kernel
theorem dX6_compare_1 : decode cX6_compare 1 = .ok (.iload_n 1, 1) := by decide +kernel
theorem dX6_compare_2 : decode cX6_compare 2 = .ok (.iload_n 3, 1) := by decide +kernel
theorem dX6_compare_3 : decode cX6_compare 3 = .ok (.invokevirtual 84, 3) := by decide +kernel
theorem dX6_compare_6 : decode cX6_compare 6 = .ok (.astore 5, 2) := by decide +kernel
theorem dX6_compare_8 : decode cX6_compare 8 = .ok (.aload_n 0, 1) := by decide +kernel
theorem dX6_compare_9 : decode cX6_compare 9 = .ok (.iload_n 2, 1) := by decide +kernel
theorem dX6_compare_10 : decode cX6_compare 10 = .ok (.iload_n 3, 1) := by decide +kernel
theorem dX6_compare_11 : decode cX6_compare 11 = .ok (.invokevirtual 84, 3) := by decide +kernel
theorem dX6_compare_14 : decode cX6_compare 14 = .ok (.astore 6, 2) := by decide +kernel
theorem dX6_compare_16 : decode cX6_compare 16 = .ok (.aload 5, 2) := by decide +kernel
theorem dX6_compare_18 : decode cX6_compare 18 = .ok (.ifnull 19, 3) := by decide +kernel
theorem dX6_compare_21 : decode cX6_compare 21 = .ok (.aload 6, 2) := by decide +kernel
theorem dX6_compare_23 : decode cX6_compare 23 = .ok (.ifnull 14, 3) := by decide +kernel
theorem dX6_compare_26 : decode cX6_compare 26 = .ok (.iload 4, 2) := by decide +kernel
theorem dX6_compare_28 : decode cX6_compare 28 = .ok (.ifCond .lt 9, 3) := by decide +kernel
theorem dX6_compare_31 : decode cX6_compare 31 = .ok (.iload 4, 2) := by decide +kernel
theorem dX6_compare_33 : decode cX6_compare 33 = .ok (.iload_n 3, 1) := by decide +kernel
theorem dX6_compare_34 : decode cX6_compare 34 = .ok (.if_icmp .le 6, 3) := by decide +kernel
theorem dX6_compare_37 : decode cX6_compare 37 = .ok (.bipush (-2), 2) := by decide +kernel
theorem dX6_compare_39 : decode cX6_compare 39 = .ok (.ireturn, 1) := by decide +kernel
theorem dX6_compare_40 : decode cX6_compare 40 = .ok (.aload_n 0, 1) := by decide +kernel
theorem dX6_compare_41 : decode cX6_compare 41 = .ok (.aload 5, 2) := by decide +kernel
theorem dX6_compare_43 : decode cX6_compare 43 = .ok (.aload 6, 2) := by decide +kernel
theorem dX6_compare_45 : decode cX6_compare 45 = .ok (.iload_n 3, 1) := by decide +kernel
theorem dX6_compare_46 : decode cX6_compare 46 = .ok (.iload 4, 2) := by decide +kernel
theorem dX6_compare_48 : decode cX6_compare 48 = .ok (.invokevirtual 113, 3) := by decide +kernel
theorem dX6_compare_51 : decode cX6_compare 51 = .ok (.ireturn, 1) := by decide +kernel
theorem dX6_crossing_0 : decode cX6_crossing 0 = .ok (.aload_n 0, 1) := by decide +kernel
theorem dX6_crossing_1 : decode cX6_crossing 1 = .ok (.iload_n 1, 1) := by decide +kernel
theorem dX6_crossing_2 : decode cX6_crossing 2 = .ok (.iload_n 3, 1) := by decide +kernel
theorem dX6_crossing_3 : decode cX6_crossing 3 = .ok (.invokevirtual 84, 3) := by decide +kernel
theorem dX6_crossing_6 : decode cX6_crossing 6 = .ok (.astore 5, 2) := by decide +kernel
theorem dX6_crossing_8 : decode cX6_crossing 8 = .ok (.aload_n 0, 1) := by decide +kernel
theorem dX6_crossing_9 : decode cX6_crossing 9 = .ok (.iload_n 2, 1) := by decide +kernel
theorem dX6_crossing_10 : decode cX6_crossing 10 = .ok (.iload_n 3, 1) := by decide +kernel
theorem dX6_crossing_11 : decode cX6_crossing 11 = .ok (.invokevirtual 84, 3) := by decide +kernel
theorem dX6_crossing_14 : decode cX6_crossing 14 = .ok (.astore 6, 2) := by decide +kernel
theorem dX6_crossing_16 : decode cX6_crossing 16 = .ok (.aload 5, 2) := by decide +kernel
theorem dX6_crossing_18 : decode cX6_crossing 18 = .ok (.ifnull 13, 3) := by decide +kernel
theorem dX6_crossing_21 : decode cX6_crossing 21 = .ok (.aload 6, 2) := by decide +kernel
theorem dX6_crossing_23 : decode cX6_crossing 23 = .ok (.ifnull 8, 3) := by decide +kernel
theorem dX6_crossing_26 : decode cX6_crossing 26 = .ok (.iload 4, 2) := by decide +kernel
theorem dX6_crossing_28 : decode cX6_crossing 28 = .ok (.ifCond .ge 6, 3) := by decide +kernel
theorem dX6_crossing_31 : decode cX6_crossing 31 = .ok (.bipush (-2), 2) := by decide +kernel
theorem dX6_crossing_33 : decode cX6_crossing 33 = .ok (.ireturn, 1) := by decide +kernel
theorem dX6_crossing_34 : decode cX6_crossing 34 = .ok (.iconst 0, 1) := by decide +kernel
theorem dX6_crossing_35 : decode cX6_crossing 35 = .ok (.istore 7, 2) := by decide +kernel
theorem dX6_crossing_37 : decode cX6_crossing 37 = .ok (.aload_n 0, 1) := by decide +kernel
theorem dX6_crossing_38 : decode cX6_crossing 38 = .ok (.aload 5, 2) := by decide +kernel
theorem dX6_crossing_40 : decode cX6_crossing 40 = .ok (.aload 6, 2) := by decide +kernel
theorem dX6_crossing_42 : decode cX6_crossing 42 = .ok (.iload_n 3, 1) := by decide +kernel
theorem dX6_crossing_43 : decode cX6_crossing 43 = .ok (.iconst 0, 1) := by decide +kernel
theorem dX6_crossing_44 : decode cX6_crossing 44 = .ok (.invokevirtual 113, 3) := by decide +kernel
theorem dX6_crossing_47 : decode cX6_crossing 47 = .ok (.istore 8, 2) := by decide +kernel
theorem dX6_crossing_49 : decode cX6_crossing 49 = .ok (.iconst 0, 1) := by decide +kernel
theorem dX6_crossing_50 : decode cX6_crossing 50 = .ok (.istore 9, 2) := by decide +kernel
theorem dX6_crossing_52 : decode cX6_crossing 52 = .ok (.iload 9, 2) := by decide +kernel
theorem dX6_crossing_54 : decode cX6_crossing 54 = .ok (.iload_n 3, 1) := by decide +kernel
theorem dX6_crossing_55 : decode cX6_crossing 55 = .ok (.if_icmp .ge 54, 3) := by decide +kernel
theorem dX6_crossing_58 : decode cX6_crossing 58 = .ok (.aload_n 0, 1) := by decide +kernel
theorem dX6_crossing_59 : decode cX6_crossing 59 = .ok (.aload 5, 2) := by decide +kernel
theorem dX6_crossing_61 : decode cX6_crossing 61 = .ok (.aload 6, 2) := by decide +kernel
theorem dX6_crossing_63 : decode cX6_crossing 63 = .ok (.iload_n 3, 1) := by decide +kernel
theorem dX6_crossing_64 : decode cX6_crossing 64 = .ok (.iload 9, 2) := by decide +kernel
theorem dX6_crossing_66 : decode cX6_crossing 66 = .ok (.iconst 1, 1) := by decide +kernel
theorem dX6_crossing_67 : decode cX6_crossing 67 = .ok (.iadd, 1) := by decide +kernel
theorem dX6_crossing_68 : decode cX6_crossing 68 = .ok (.invokevirtual 113, 3) := by decide +kernel
theorem dX6_crossing_71 : decode cX6_crossing 71 = .ok (.istore 10, 2) := by decide +kernel
theorem dX6_crossing_73 : decode cX6_crossing 73 = .ok (.iload 8, 2) := by decide +kernel
theorem dX6_crossing_75 : decode cX6_crossing 75 = .ok (.ifCond .eq 24, 3) := by decide +kernel
theorem dX6_crossing_78 : decode cX6_crossing 78 = .ok (.iload 10, 2) := by decide +kernel
theorem dX6_crossing_80 : decode cX6_crossing 80 = .ok (.iload 8, 2) := by decide +kernel
theorem dX6_crossing_82 : decode cX6_crossing 82 = .ok (.ineg, 1) := by decide +kernel
theorem dX6_crossing_83 : decode cX6_crossing 83 = .ok (.if_icmp .ne 16, 3) := by decide +kernel
theorem dX6_crossing_86 : decode cX6_crossing 86 = .ok (.iload 7, 2) := by decide +kernel
theorem dX6_crossing_88 : decode cX6_crossing 88 = .ok (.iload 4, 2) := by decide +kernel
theorem dX6_crossing_90 : decode cX6_crossing 90 = .ok (.if_icmp .ne 6, 3) := by decide +kernel
theorem dX6_crossing_93 : decode cX6_crossing 93 = .ok (.iload 9, 2) := by decide +kernel
theorem dX6_crossing_95 : decode cX6_crossing 95 = .ok (.ireturn, 1) := by decide +kernel
theorem dX6_crossing_96 : decode cX6_crossing 96 = .ok (.iinc 7 1, 3) := by decide +kernel
theorem dX6_crossing_99 : decode cX6_crossing 99 = .ok (.iload 10, 2) := by decide +kernel
theorem dX6_crossing_101 : decode cX6_crossing 101 = .ok (.istore 8, 2) := by decide +kernel
theorem dX6_crossing_103 : decode cX6_crossing 103 = .ok (.iinc 9 1, 3) := by decide +kernel
theorem dX6_crossing_106 : decode cX6_crossing 106 = .ok (.goto (-54), 3) := by decide +kernel
theorem dX6_crossing_109 : decode cX6_crossing 109 = .ok (.iconst (-1), 1) := by decide +kernel
theorem dX6_crossing_110 : decode cX6_crossing 110 = .ok (.ireturn, 1) := by decide +kernel
theorem dX6_signOfTaken_0 : decode cX6_signOfTaken 0 = .ok (.aload_n 1, 1) := by decide +kernel
theorem dX6_signOfTaken_1 : decode cX6_signOfTaken 1 = .ok (.aload_n 0, 1) := by decide +kernel
theorem dX6_signOfTaken_2 : decode cX6_signOfTaken 2 = .ok (.getfield 10, 3) := by decide +kernel
theorem dX6_signOfTaken_5 : decode cX6_signOfTaken 5 = .ok (.iload_n 3, 1) := by decide +kernel
theorem dX6_signOfTaken_6 : decode cX6_signOfTaken 6 = .ok (.iload 4, 2) := by decide +kernel
theorem dX6_signOfTaken_8 : decode cX6_signOfTaken 8 = .ok (.iconst 0, 1) := by decide +kernel
theorem dX6_signOfTaken_9 : decode cX6_signOfTaken 9 = .ok (.invokevirtual 92, 3) := by decide +kernel
theorem dX6_signOfTaken_12 : decode cX6_signOfTaken 12 = .ok (.lstore 5, 2) := by decide +kernel
theorem dX6_signOfTaken_14 : decode cX6_signOfTaken 14 = .ok (.aload_n 2, 1) := by decide +kernel
theorem dX6_signOfTaken_15 : decode cX6_signOfTaken 15 = .ok (.aload_n 0, 1) := by decide +kernel
theorem dX6_signOfTaken_16 : decode cX6_signOfTaken 16 = .ok (.getfield 10, 3) := by decide +kernel
theorem dX6_signOfTaken_19 : decode cX6_signOfTaken 19 = .ok (.iload_n 3, 1) := by decide +kernel
theorem dX6_signOfTaken_20 : decode cX6_signOfTaken 20 = .ok (.iload 4, 2) := by decide +kernel
theorem dX6_signOfTaken_22 : decode cX6_signOfTaken 22 = .ok (.iconst 0, 1) := by decide +kernel
theorem dX6_signOfTaken_23 : decode cX6_signOfTaken 23 = .ok (.invokevirtual 92, 3) := by decide +kernel
theorem dX6_signOfTaken_26 : decode cX6_signOfTaken 26 = .ok (.lstore 7, 2) := by decide +kernel
theorem dX6_signOfTaken_28 : decode cX6_signOfTaken 28 = .ok (.lload 5, 2) := by decide +kernel
theorem dX6_signOfTaken_30 : decode cX6_signOfTaken 30 = .ok (.lload 7, 2) := by decide +kernel
theorem dX6_signOfTaken_32 : decode cX6_signOfTaken 32 = .ok (.lcmp, 1) := by decide +kernel
theorem dX6_signOfTaken_33 : decode cX6_signOfTaken 33 = .ok (.ifCond .ne 5, 3) := by decide +kernel
theorem dX6_signOfTaken_36 : decode cX6_signOfTaken 36 = .ok (.iconst 0, 1) := by decide +kernel
theorem dX6_signOfTaken_37 : decode cX6_signOfTaken 37 = .ok (.ireturn, 1) := by decide +kernel
theorem dX6_signOfTaken_38 : decode cX6_signOfTaken 38 = .ok (.lload 5, 2) := by decide +kernel
theorem dX6_signOfTaken_40 : decode cX6_signOfTaken 40 = .ok (.lload 7, 2) := by decide +kernel
theorem dX6_signOfTaken_42 : decode cX6_signOfTaken 42 = .ok (.lcmp, 1) := by decide +kernel
theorem dX6_signOfTaken_43 : decode cX6_signOfTaken 43 = .ok (.ifCond .le 7, 3) := by decide +kernel
theorem dX6_signOfTaken_46 : decode cX6_signOfTaken 46 = .ok (.iconst 1, 1) := by decide +kernel
theorem dX6_signOfTaken_47 : decode cX6_signOfTaken 47 = .ok (.goto 4, 3) := by decide +kernel
theorem dX6_signOfTaken_50 : decode cX6_signOfTaken 50 = .ok (.iconst (-1), 1) := by decide +kernel
theorem dX6_signOfTaken_51 : decode cX6_signOfTaken 51 = .ok (.ireturn, 1) := by decide +kernel
theorem dX6_planAt_0 : decode cX6_planAt 0 = .ok (.iload_n 1, 1) := by decide +kernel
theorem dX6_planAt_1 : decode cX6_planAt 1 = .ok (.ifCond .lt 20, 3) := by decide +kernel
theorem dX6_planAt_4 : decode cX6_planAt 4 = .ok (.iload_n 1, 1) := by decide +kernel
theorem dX6_planAt_5 : decode cX6_planAt 5 = .ok (.aload_n 0, 1) := by decide +kernel
theorem dX6_planAt_6 : decode cX6_planAt 6 = .ok (.getfield 55, 3) := by decide +kernel
theorem dX6_planAt_9 : decode cX6_planAt 9 = .ok (.if_icmp .ge 12, 3) := by decide +kernel
theorem dX6_planAt_12 : decode cX6_planAt 12 = .ok (.aload_n 0, 1) := by decide +kernel
theorem dX6_planAt_13 : decode cX6_planAt 13 = .ok (.getfield 25, 3) := by decide +kernel
theorem dX6_planAt_16 : decode cX6_planAt 16 = .ok (.iload_n 1, 1) := by decide +kernel
theorem dX6_planAt_17 : decode cX6_planAt 17 = .ok (.aaload, 1) := by decide +kernel
theorem dX6_planAt_18 : decode cX6_planAt 18 = .ok (.goto 4, 3) := by decide +kernel
theorem dX6_planAt_21 : decode cX6_planAt 21 = .ok (.aconst_null, 1) := by decide +kernel
theorem dX6_planAt_22 : decode cX6_planAt 22 = .ok (.areturn, 1) := by decide +kernel
theorem dX6_closedPlanAt_0 : decode cX6_closedPlanAt 0 = .ok (.aload_n 0, 1) := by decide +kernel
theorem dX6_closedPlanAt_1 : decode cX6_closedPlanAt 1 = .ok (.iload_n 1, 1) := by decide +kernel
theorem dX6_closedPlanAt_2 : decode cX6_closedPlanAt 2 = .ok (.invokevirtual 60, 3) := by decide +kernel
theorem dX6_closedPlanAt_5 : decode cX6_closedPlanAt 5 = .ok (.astore_n 2, 1) := by decide +kernel
theorem dX6_closedPlanAt_6 : decode cX6_closedPlanAt 6 = .ok (.aload_n 2, 1) := by decide +kernel
theorem dX6_closedPlanAt_7 : decode cX6_closedPlanAt 7 = .ok (.ifnull 14, 3) := by decide +kernel
theorem dX6_closedPlanAt_10 : decode cX6_closedPlanAt 10 = .ok (.aload_n 2, 1) := by decide +kernel
theorem dX6_closedPlanAt_11 : decode cX6_closedPlanAt 11 = .ok (.getfield 117, 3) := by decide +kernel
theorem dX6_closedPlanAt_14 : decode cX6_closedPlanAt 14 = .ok (.ifCond .eq 7, 3) := by decide +kernel
theorem dX6_closedPlanAt_17 : decode cX6_closedPlanAt 17 = .ok (.aload_n 2, 1) := by decide +kernel
theorem dX6_closedPlanAt_18 : decode cX6_closedPlanAt 18 = .ok (.goto 4, 3) := by decide +kernel
theorem dX6_closedPlanAt_21 : decode cX6_closedPlanAt 21 = .ok (.aconst_null, 1) := by decide +kernel
theorem dX6_closedPlanAt_22 : decode cX6_closedPlanAt 22 = .ok (.areturn, 1) := by decide +kernel
theorem dX6_planForLot_0 : decode cX6_planForLot 0 = .ok (.aload_n 0, 1) := by decide +kernel
theorem dX6_planForLot_1 : decode cX6_planForLot 1 = .ok (.iload_n 1, 1) := by decide +kernel
theorem dX6_planForLot_2 : decode cX6_planForLot 2 = .ok (.invokevirtual 121, 3) := by decide +kernel
theorem dX6_planForLot_5 : decode cX6_planForLot 5 = .ok (.astore_n 3, 1) := by decide +kernel
theorem dX6_planForLot_6 : decode cX6_planForLot 6 = .ok (.aload_n 3, 1) := by decide +kernel
theorem dX6_planForLot_7 : decode cX6_planForLot 7 = .ok (.ifnull 22, 3) := by decide +kernel
theorem dX6_planForLot_10 : decode cX6_planForLot 10 = .ok (.iload_n 2, 1) := by decide +kernel
theorem dX6_planForLot_11 : decode cX6_planForLot 11 = .ok (.invokestatic 124, 3) := by decide +kernel
theorem dX6_planForLot_14 : decode cX6_planForLot 14 = .ok (.ifCond .eq 15, 3) := by decide +kernel
theorem dX6_planForLot_17 : decode cX6_planForLot 17 = .ok (.aload_n 3, 1) := by decide +kernel
theorem dX6_planForLot_18 : decode cX6_planForLot 18 = .ok (.invokevirtual 127, 3) := by decide +kernel
theorem dX6_planForLot_21 : decode cX6_planForLot 21 = .ok (.iload_n 2, 1) := by decide +kernel
theorem dX6_planForLot_22 : decode cX6_planForLot 22 = .ok (.if_icmp .gt 7, 3) := by decide +kernel
theorem dX6_planForLot_25 : decode cX6_planForLot 25 = .ok (.aload_n 3, 1) := by decide +kernel
theorem dX6_planForLot_26 : decode cX6_planForLot 26 = .ok (.goto 4, 3) := by decide +kernel
theorem dX6_planForLot_29 : decode cX6_planForLot 29 = .ok (.aconst_null, 1) := by decide +kernel
theorem dX6_planForLot_30 : decode cX6_planForLot 30 = .ok (.areturn, 1) := by decide +kernel
theorem dX6_isLotSize_0 : decode cX6_isLotSize 0 = .ok (.iload_n 0, 1) := by decide +kernel
theorem dX6_isLotSize_1 : decode cX6_isLotSize 1 = .ok (.iconst 1, 1) := by decide +kernel
theorem dX6_isLotSize_2 : decode cX6_isLotSize 2 = .ok (.if_icmp .lt 13, 3) := by decide +kernel
theorem dX6_isLotSize_5 : decode cX6_isLotSize 5 = .ok (.iload_n 0, 1) := by decide +kernel
theorem dX6_isLotSize_6 : decode cX6_isLotSize 6 = .ok (.bipush 60, 2) := by decide +kernel
theorem dX6_isLotSize_8 : decode cX6_isLotSize 8 = .ok (.if_icmp .gt 7, 3) := by decide +kernel
theorem dX6_isLotSize_11 : decode cX6_isLotSize 11 = .ok (.iconst 1, 1) := by decide +kernel
theorem dX6_isLotSize_12 : decode cX6_isLotSize 12 = .ok (.goto 4, 3) := by decide +kernel
theorem dX6_isLotSize_15 : decode cX6_isLotSize 15 = .ok (.iconst 0, 1) := by decide +kernel
theorem dX6_isLotSize_16 : decode cX6_isLotSize 16 = .ok (.ireturn, 1) := by decide +kernel
theorem dX6_risk_0 : decode cX6_risk 0 = .ok (.iload_n 1, 1) := by decide +kernel
theorem dX6_risk_1 : decode cX6_risk 1 = .ok (.ifCond .eq 11, 3) := by decide +kernel
theorem dX6_risk_4 : decode cX6_risk 4 = .ok (.iload_n 1, 1) := by decide +kernel
theorem dX6_risk_5 : decode cX6_risk 5 = .ok (.iconst 1, 1) := by decide +kernel
theorem dX6_risk_6 : decode cX6_risk 6 = .ok (.if_icmp .eq 6, 3) := by decide +kernel
theorem dX6_risk_9 : decode cX6_risk 9 = .ok (.bipush (-2), 2) := by decide +kernel
theorem dX6_risk_11 : decode cX6_risk 11 = .ok (.ireturn, 1) := by decide +kernel
theorem dX6_risk_12 : decode cX6_risk 12 = .ok (.iload_n 2, 1) := by decide +kernel
theorem dX6_risk_13 : decode cX6_risk 13 = .ok (.ifCond .lt 33, 3) := by decide +kernel
theorem dX6_risk_16 : decode cX6_risk 16 = .ok (.iload_n 2, 1) := by decide +kernel
theorem dX6_risk_17 : decode cX6_risk 17 = .ok (.bipush 60, 2) := by decide +kernel
theorem dX6_risk_19 : decode cX6_risk 19 = .ok (.if_icmp .gt 27, 3) := by decide +kernel
theorem dX6_risk_22 : decode cX6_risk 22 = .ok (.iload 4, 2) := by decide +kernel
theorem dX6_risk_24 : decode cX6_risk 24 = .ok (.iconst 1, 1) := by decide +kernel
theorem dX6_risk_25 : decode cX6_risk 25 = .ok (.if_icmp .lt 21, 3) := by decide +kernel
theorem dX6_risk_28 : decode cX6_risk 28 = .ok (.iload 4, 2) := by decide +kernel
theorem dX6_risk_30 : decode cX6_risk 30 = .ok (.sipush 1000, 3) := by decide +kernel
theorem dX6_risk_33 : decode cX6_risk 33 = .ok (.if_icmp .gt 13, 3) := by decide +kernel
theorem dX6_risk_36 : decode cX6_risk 36 = .ok (.iload_n 3, 1) := by decide +kernel
theorem dX6_risk_37 : decode cX6_risk 37 = .ok (.ifCond .lt 9, 3) := by decide +kernel
theorem dX6_risk_40 : decode cX6_risk 40 = .ok (.iload_n 3, 1) := by decide +kernel
theorem dX6_risk_41 : decode cX6_risk 41 = .ok (.iload 4, 2) := by decide +kernel
theorem dX6_risk_43 : decode cX6_risk 43 = .ok (.if_icmp .le 6, 3) := by decide +kernel
theorem dX6_risk_46 : decode cX6_risk 46 = .ok (.bipush (-2), 2) := by decide +kernel
theorem dX6_risk_48 : decode cX6_risk 48 = .ok (.ireturn, 1) := by decide +kernel
theorem dX6_risk_49 : decode cX6_risk 49 = .ok (.iload_n 1, 1) := by decide +kernel
theorem dX6_risk_50 : decode cX6_risk 50 = .ok (.ifCond .ne 10, 3) := by decide +kernel
theorem dX6_risk_53 : decode cX6_risk 53 = .ok (.aload_n 0, 1) := by decide +kernel
theorem dX6_risk_54 : decode cX6_risk 54 = .ok (.getfield 32, 3) := by decide +kernel
theorem dX6_risk_57 : decode cX6_risk 57 = .ok (.goto 7, 3) := by decide +kernel
theorem dX6_risk_60 : decode cX6_risk 60 = .ok (.aload_n 0, 1) := by decide +kernel
theorem dX6_risk_61 : decode cX6_risk 61 = .ok (.getfield 36, 3) := by decide +kernel
theorem dX6_risk_64 : decode cX6_risk 64 = .ok (.astore 5, 2) := by decide +kernel
theorem dX6_risk_66 : decode cX6_risk 66 = .ok (.aload 5, 2) := by decide +kernel
theorem dX6_risk_68 : decode cX6_risk 68 = .ok (.iload_n 2, 1) := by decide +kernel
theorem dX6_risk_69 : decode cX6_risk 69 = .ok (.iload_n 3, 1) := by decide +kernel
theorem dX6_risk_70 : decode cX6_risk 70 = .ok (.iload 4, 2) := by decide +kernel
theorem dX6_risk_72 : decode cX6_risk 72 = .ok (.invokevirtual 131, 3) := by decide +kernel
theorem dX6_risk_75 : decode cX6_risk 75 = .ok (.iconst 1, 1) := by decide +kernel
theorem dX6_risk_76 : decode cX6_risk 76 = .ok (.ireturn, 1) := by decide +kernel
theorem dX6_forget_0 : decode cX6_forget 0 = .ok (.aload_n 0, 1) := by decide +kernel
theorem dX6_forget_1 : decode cX6_forget 1 = .ok (.invokevirtual 135, 3) := by decide +kernel
theorem dX6_forget_4 : decode cX6_forget 4 = .ok (.istore_n 1, 1) := by decide +kernel
theorem dX6_forget_5 : decode cX6_forget 5 = .ok (.aload_n 0, 1) := by decide +kernel
theorem dX6_forget_6 : decode cX6_forget 6 = .ok (.getfield 32, 3) := by decide +kernel
theorem dX6_forget_9 : decode cX6_forget 9 = .ok (.iconst 0, 1) := by decide +kernel
theorem dX6_forget_10 : decode cX6_forget 10 = .ok (.putfield 138, 3) := by decide +kernel
theorem dX6_forget_13 : decode cX6_forget 13 = .ok (.aload_n 0, 1) := by decide +kernel
theorem dX6_forget_14 : decode cX6_forget 14 = .ok (.getfield 36, 3) := by decide +kernel
theorem dX6_forget_17 : decode cX6_forget 17 = .ok (.iconst 0, 1) := by decide +kernel
theorem dX6_forget_18 : decode cX6_forget 18 = .ok (.putfield 138, 3) := by decide +kernel
theorem dX6_forget_21 : decode cX6_forget 21 = .ok (.iload_n 1, 1) := by decide +kernel
theorem dX6_forget_22 : decode cX6_forget 22 = .ok (.ireturn, 1) := by decide +kernel
theorem dX6_search_0 : decode cX6_search 0 = .ok (.aload_n 0, 1) := by decide +kernel
theorem dX6_search_1 : decode cX6_search 1 = .ok (.iload_n 1, 1) := by decide +kernel
theorem dX6_search_2 : decode cX6_search 2 = .ok (.invokevirtual 141, 3) := by decide +kernel
theorem dX6_search_5 : decode cX6_search 5 = .ok (.ifCond .ne 6, 3) := by decide +kernel
theorem dX6_search_8 : decode cX6_search 8 = .ok (.bipush (-2), 2) := by decide +kernel
theorem dX6_search_10 : decode cX6_search 10 = .ok (.ireturn, 1) := by decide +kernel
theorem dX6_search_11 : decode cX6_search 11 = .ok (.aload_n 0, 1) := by decide +kernel
theorem dX6_search_12 : decode cX6_search 12 = .ok (.iload_n 1, 1) := by decide +kernel
theorem dX6_search_13 : decode cX6_search 13 = .ok (.iconst 0, 1) := by decide +kernel
theorem dX6_search_14 : decode cX6_search 14 = .ok (.invokevirtual 144, 3) := by decide +kernel
theorem dX6_search_17 : decode cX6_search 17 = .ok (.ireturn, 1) := by decide +kernel
theorem dX6_minimal_0 : decode cX6_minimal 0 = .ok (.aload_n 0, 1) := by decide +kernel
theorem dX6_minimal_1 : decode cX6_minimal 1 = .ok (.iload_n 1, 1) := by decide +kernel
theorem dX6_minimal_2 : decode cX6_minimal 2 = .ok (.invokevirtual 141, 3) := by decide +kernel
theorem dX6_minimal_5 : decode cX6_minimal 5 = .ok (.ifCond .eq 7, 3) := by decide +kernel
theorem dX6_minimal_8 : decode cX6_minimal 8 = .ok (.iload_n 2, 1) := by decide +kernel
theorem dX6_minimal_9 : decode cX6_minimal 9 = .ok (.ifCond .ge 6, 3) := by decide +kernel
theorem dX6_minimal_12 : decode cX6_minimal 12 = .ok (.bipush (-2), 2) := by decide +kernel
theorem dX6_minimal_14 : decode cX6_minimal 14 = .ok (.ireturn, 1) := by decide +kernel
theorem dX6_minimal_15 : decode cX6_minimal 15 = .ok (.aload_n 0, 1) := by decide +kernel
theorem dX6_minimal_16 : decode cX6_minimal 16 = .ok (.iload_n 1, 1) := by decide +kernel
theorem dX6_minimal_17 : decode cX6_minimal 17 = .ok (.iload_n 2, 1) := by decide +kernel
theorem dX6_minimal_18 : decode cX6_minimal 18 = .ok (.invokevirtual 144, 3) := by decide +kernel
theorem dX6_minimal_21 : decode cX6_minimal 21 = .ok (.ireturn, 1) := by decide +kernel
theorem dX6_risksTold_0 : decode cX6_risksTold 0 = .ok (.aload_n 0, 1) := by decide +kernel
theorem dX6_risksTold_1 : decode cX6_risksTold 1 = .ok (.getfield 32, 3) := by decide +kernel
theorem dX6_risksTold_4 : decode cX6_risksTold 4 = .ok (.getfield 138, 3) := by decide +kernel
theorem dX6_risksTold_7 : decode cX6_risksTold 7 = .ok (.ifCond .eq 7, 3) := by decide +kernel
theorem dX6_risksTold_10 : decode cX6_risksTold 10 = .ok (.iconst 1, 1) := by decide +kernel
theorem dX6_risksTold_11 : decode cX6_risksTold 11 = .ok (.goto 4, 3) := by decide +kernel
theorem dX6_risksTold_14 : decode cX6_risksTold 14 = .ok (.iconst 0, 1) := by decide +kernel
theorem dX6_risksTold_15 : decode cX6_risksTold 15 = .ok (.aload_n 0, 1) := by decide +kernel
theorem dX6_risksTold_16 : decode cX6_risksTold 16 = .ok (.getfield 36, 3) := by decide +kernel
theorem dX6_risksTold_19 : decode cX6_risksTold 19 = .ok (.getfield 138, 3) := by decide +kernel
theorem dX6_risksTold_22 : decode cX6_risksTold 22 = .ok (.ifCond .eq 7, 3) := by decide +kernel
theorem dX6_risksTold_25 : decode cX6_risksTold 25 = .ok (.iconst 1, 1) := by decide +kernel
theorem dX6_risksTold_26 : decode cX6_risksTold 26 = .ok (.goto 4, 3) := by decide +kernel
theorem dX6_risksTold_29 : decode cX6_risksTold 29 = .ok (.iconst 0, 1) := by decide +kernel
theorem dX6_risksTold_30 : decode cX6_risksTold 30 = .ok (.iadd, 1) := by decide +kernel
theorem dX6_risksTold_31 : decode cX6_risksTold 31 = .ok (.ireturn, 1) := by decide +kernel
theorem dX6_canSearch_0 : decode cX6_canSearch 0 = .ok (.iload_n 1, 1) := by decide +kernel
theorem dX6_canSearch_1 : decode cX6_canSearch 1 = .ok (.invokestatic 124, 3) := by decide +kernel
theorem dX6_canSearch_4 : decode cX6_canSearch 4 = .ok (.ifCond .eq 29, 3) := by decide +kernel
theorem dX6_canSearch_7 : decode cX6_canSearch 7 = .ok (.aload_n 0, 1) := by decide +kernel
theorem dX6_canSearch_8 : decode cX6_canSearch 8 = .ok (.getfield 32, 3) := by decide +kernel
theorem dX6_canSearch_11 : decode cX6_canSearch 11 = .ok (.iload_n 1, 1) := by decide +kernel
theorem dX6_canSearch_12 : decode cX6_canSearch 12 = .ok (.invokevirtual 148, 3) := by decide +kernel
theorem dX6_canSearch_15 : decode cX6_canSearch 15 = .ok (.ifCond .eq 18, 3) := by decide +kernel
theorem dX6_canSearch_18 : decode cX6_canSearch 18 = .ok (.aload_n 0, 1) := by decide +kernel
theorem dX6_canSearch_19 : decode cX6_canSearch 19 = .ok (.getfield 36, 3) := by decide +kernel
theorem dX6_canSearch_22 : decode cX6_canSearch 22 = .ok (.iload_n 1, 1) := by decide +kernel
theorem dX6_canSearch_23 : decode cX6_canSearch 23 = .ok (.invokevirtual 148, 3) := by decide +kernel
theorem dX6_canSearch_26 : decode cX6_canSearch 26 = .ok (.ifCond .eq 7, 3) := by decide +kernel
theorem dX6_canSearch_29 : decode cX6_canSearch 29 = .ok (.iconst 1, 1) := by decide +kernel
theorem dX6_canSearch_30 : decode cX6_canSearch 30 = .ok (.goto 4, 3) := by decide +kernel
theorem dX6_canSearch_33 : decode cX6_canSearch 33 = .ok (.iconst 0, 1) := by decide +kernel
theorem dX6_canSearch_34 : decode cX6_canSearch 34 = .ok (.ireturn, 1) := by decide +kernel
theorem dX6_minimalPlan_0 : decode cX6_minimalPlan 0 = .ok (.iconst 0, 1) := by decide +kernel
theorem dX6_minimalPlan_1 : decode cX6_minimalPlan 1 = .ok (.istore_n 3, 1) := by decide +kernel
theorem dX6_minimalPlan_2 : decode cX6_minimalPlan 2 = .ok (.bipush 61, 2) := by decide +kernel
theorem dX6_minimalPlan_4 : decode cX6_minimalPlan 4 = .ok (.istore 4, 2) := by decide +kernel
theorem dX6_minimalPlan_6 : decode cX6_minimalPlan 6 = .ok (.iconst 1, 1) := by decide +kernel
theorem dX6_minimalPlan_7 : decode cX6_minimalPlan 7 = .ok (.istore 5, 2) := by decide +kernel
theorem dX6_minimalPlan_9 : decode cX6_minimalPlan 9 = .ok (.iload 5, 2) := by decide +kernel
theorem dX6_minimalPlan_11 : decode cX6_minimalPlan 11 = .ok (.iload_n 1, 1) := by decide +kernel
theorem dX6_minimalPlan_12 : decode cX6_minimalPlan 12 = .ok (.if_icmp .gt 52, 3) := by decide +kernel
theorem dX6_minimalPlan_15 : decode cX6_minimalPlan 15 = .ok (.aload_n 0, 1) := by decide +kernel
theorem dX6_minimalPlan_16 : decode cX6_minimalPlan 16 = .ok (.iload_n 1, 1) := by decide +kernel
theorem dX6_minimalPlan_17 : decode cX6_minimalPlan 17 = .ok (.iload 5, 2) := by decide +kernel
theorem dX6_minimalPlan_19 : decode cX6_minimalPlan 19 = .ok (.invokevirtual 151, 3) := by decide +kernel
theorem dX6_minimalPlan_22 : decode cX6_minimalPlan 22 = .ok (.istore 6, 2) := by decide +kernel
theorem dX6_minimalPlan_24 : decode cX6_minimalPlan 24 = .ok (.iload 6, 2) := by decide +kernel
theorem dX6_minimalPlan_26 : decode cX6_minimalPlan 26 = .ok (.iconst (-1), 1) := by decide +kernel
theorem dX6_minimalPlan_27 : decode cX6_minimalPlan 27 = .ok (.if_icmp .eq 31, 3) := by decide +kernel
theorem dX6_minimalPlan_30 : decode cX6_minimalPlan 30 = .ok (.iload 6, 2) := by decide +kernel
theorem dX6_minimalPlan_32 : decode cX6_minimalPlan 32 = .ok (.iload 4, 2) := by decide +kernel
theorem dX6_minimalPlan_34 : decode cX6_minimalPlan 34 = .ok (.if_icmp .ge 24, 3) := by decide +kernel
theorem dX6_minimalPlan_37 : decode cX6_minimalPlan 37 = .ok (.iload_n 3, 1) := by decide +kernel
theorem dX6_minimalPlan_38 : decode cX6_minimalPlan 38 = .ok (.iload_n 2, 1) := by decide +kernel
theorem dX6_minimalPlan_39 : decode cX6_minimalPlan 39 = .ok (.if_icmp .ne 12, 3) := by decide +kernel
theorem dX6_minimalPlan_42 : decode cX6_minimalPlan 42 = .ok (.bipush 100, 2) := by decide +kernel
theorem dX6_minimalPlan_44 : decode cX6_minimalPlan 44 = .ok (.iload 5, 2) := by decide +kernel
theorem dX6_minimalPlan_46 : decode cX6_minimalPlan 46 = .ok (.imul, 1) := by decide +kernel
theorem dX6_minimalPlan_47 : decode cX6_minimalPlan 47 = .ok (.iload 6, 2) := by decide +kernel
theorem dX6_minimalPlan_49 : decode cX6_minimalPlan 49 = .ok (.iadd, 1) := by decide +kernel
theorem dX6_minimalPlan_50 : decode cX6_minimalPlan 50 = .ok (.ireturn, 1) := by decide +kernel
theorem dX6_minimalPlan_51 : decode cX6_minimalPlan 51 = .ok (.iinc 3 1, 3) := by decide +kernel
theorem dX6_minimalPlan_54 : decode cX6_minimalPlan 54 = .ok (.iload 6, 2) := by decide +kernel
theorem dX6_minimalPlan_56 : decode cX6_minimalPlan 56 = .ok (.istore 4, 2) := by decide +kernel
theorem dX6_minimalPlan_58 : decode cX6_minimalPlan 58 = .ok (.iinc 5 1, 3) := by decide +kernel
theorem dX6_minimalPlan_61 : decode cX6_minimalPlan 61 = .ok (.goto (-52), 3) := by decide +kernel
theorem dX6_minimalPlan_64 : decode cX6_minimalPlan 64 = .ok (.iconst (-1), 1) := by decide +kernel
theorem dX6_minimalPlan_65 : decode cX6_minimalPlan 65 = .ok (.ireturn, 1) := by decide +kernel
theorem dX6_leastAccept_0 : decode cX6_leastAccept 0 = .ok (.aload_n 0, 1) := by decide +kernel
theorem dX6_leastAccept_1 : decode cX6_leastAccept 1 = .ok (.getfield 10, 3) := by decide +kernel
theorem dX6_leastAccept_4 : decode cX6_leastAccept 4 = .ok (.iload_n 1, 1) := by decide +kernel
theorem dX6_leastAccept_5 : decode cX6_leastAccept 5 = .ok (.aload_n 0, 1) := by decide +kernel
theorem dX6_leastAccept_6 : decode cX6_leastAccept 6 = .ok (.getfield 32, 3) := by decide +kernel
theorem dX6_leastAccept_9 : decode cX6_leastAccept 9 = .ok (.getfield 154, 3) := by decide +kernel
theorem dX6_leastAccept_12 : decode cX6_leastAccept 12 = .ok (.invokevirtual 88, 3) := by decide +kernel
theorem dX6_leastAccept_15 : decode cX6_leastAccept 15 = .ok (.lstore_n 3, 1) := by decide +kernel
theorem dX6_leastAccept_16 : decode cX6_leastAccept 16 = .ok (.aload_n 0, 1) := by decide +kernel
theorem dX6_leastAccept_17 : decode cX6_leastAccept 17 = .ok (.getfield 10, 3) := by decide +kernel
theorem dX6_leastAccept_20 : decode cX6_leastAccept 20 = .ok (.iload_n 1, 1) := by decide +kernel
theorem dX6_leastAccept_21 : decode cX6_leastAccept 21 = .ok (.aload_n 0, 1) := by decide +kernel
theorem dX6_leastAccept_22 : decode cX6_leastAccept 22 = .ok (.getfield 36, 3) := by decide +kernel
theorem dX6_leastAccept_25 : decode cX6_leastAccept 25 = .ok (.getfield 154, 3) := by decide +kernel
theorem dX6_leastAccept_28 : decode cX6_leastAccept 28 = .ok (.invokevirtual 88, 3) := by decide +kernel
theorem dX6_leastAccept_31 : decode cX6_leastAccept 31 = .ok (.lstore 5, 2) := by decide +kernel
theorem dX6_leastAccept_33 : decode cX6_leastAccept 33 = .ok (.lconst 0, 1) := by decide +kernel
theorem dX6_leastAccept_34 : decode cX6_leastAccept 34 = .ok (.lstore 7, 2) := by decide +kernel
theorem dX6_leastAccept_36 : decode cX6_leastAccept 36 = .ok (.lconst 0, 1) := by decide +kernel
theorem dX6_leastAccept_37 : decode cX6_leastAccept 37 = .ok (.lstore 9, 2) := by decide +kernel
theorem dX6_leastAccept_39 : decode cX6_leastAccept 39 = .ok (.iconst 0, 1) := by decide +kernel
theorem dX6_leastAccept_40 : decode cX6_leastAccept 40 = .ok (.istore 11, 2) := by decide +kernel
theorem dX6_leastAccept_42 : decode cX6_leastAccept 42 = .ok (.iload 11, 2) := by decide +kernel
theorem dX6_leastAccept_44 : decode cX6_leastAccept 44 = .ok (.iload_n 2, 1) := by decide +kernel
theorem dX6_leastAccept_45 : decode cX6_leastAccept 45 = .ok (.if_icmp .gt 79, 3) := by decide +kernel
theorem dX6_leastAccept_48 : decode cX6_leastAccept 48 = .ok (.lload 7, 2) := by decide +kernel
theorem dX6_leastAccept_50 : decode cX6_leastAccept 50 = .ok (.aload_n 0, 1) := by decide +kernel
theorem dX6_leastAccept_51 : decode cX6_leastAccept 51 = .ok (.iload_n 1, 1) := by decide +kernel
theorem dX6_leastAccept_52 : decode cX6_leastAccept 52 = .ok (.aload_n 0, 1) := by decide +kernel
theorem dX6_leastAccept_53 : decode cX6_leastAccept 53 = .ok (.getfield 32, 3) := by decide +kernel
theorem dX6_leastAccept_56 : decode cX6_leastAccept 56 = .ok (.getfield 154, 3) := by decide +kernel
theorem dX6_leastAccept_59 : decode cX6_leastAccept 59 = .ok (.iload_n 2, 1) := by decide +kernel
theorem dX6_leastAccept_60 : decode cX6_leastAccept 60 = .ok (.iload 11, 2) := by decide +kernel
theorem dX6_leastAccept_62 : decode cX6_leastAccept 62 = .ok (.invokevirtual 157, 3) := by decide +kernel
theorem dX6_leastAccept_65 : decode cX6_leastAccept 65 = .ok (.ladd, 1) := by decide +kernel
theorem dX6_leastAccept_66 : decode cX6_leastAccept 66 = .ok (.lstore 7, 2) := by decide +kernel
theorem dX6_leastAccept_68 : decode cX6_leastAccept 68 = .ok (.lload 9, 2) := by decide +kernel
theorem dX6_leastAccept_70 : decode cX6_leastAccept 70 = .ok (.aload_n 0, 1) := by decide +kernel
theorem dX6_leastAccept_71 : decode cX6_leastAccept 71 = .ok (.iload_n 1, 1) := by decide +kernel
theorem dX6_leastAccept_72 : decode cX6_leastAccept 72 = .ok (.aload_n 0, 1) := by decide +kernel
theorem dX6_leastAccept_73 : decode cX6_leastAccept 73 = .ok (.getfield 36, 3) := by decide +kernel
theorem dX6_leastAccept_76 : decode cX6_leastAccept 76 = .ok (.getfield 154, 3) := by decide +kernel
theorem dX6_leastAccept_79 : decode cX6_leastAccept 79 = .ok (.iload_n 2, 1) := by decide +kernel
theorem dX6_leastAccept_80 : decode cX6_leastAccept 80 = .ok (.iload 11, 2) := by decide +kernel
theorem dX6_leastAccept_82 : decode cX6_leastAccept 82 = .ok (.invokevirtual 157, 3) := by decide +kernel
theorem dX6_leastAccept_85 : decode cX6_leastAccept 85 = .ok (.ladd, 1) := by decide +kernel
theorem dX6_leastAccept_86 : decode cX6_leastAccept 86 = .ok (.lstore 9, 2) := by decide +kernel
theorem dX6_leastAccept_88 : decode cX6_leastAccept 88 = .ok (.aload_n 0, 1) := by decide +kernel
theorem dX6_leastAccept_89 : decode cX6_leastAccept 89 = .ok (.getfield 32, 3) := by decide +kernel
theorem dX6_leastAccept_92 : decode cX6_leastAccept 92 = .ok (.lload 7, 2) := by decide +kernel
theorem dX6_leastAccept_94 : decode cX6_leastAccept 94 = .ok (.lload_n 3, 1) := by decide +kernel
theorem dX6_leastAccept_95 : decode cX6_leastAccept 95 = .ok (.invokevirtual 161, 3) := by decide +kernel
theorem dX6_leastAccept_98 : decode cX6_leastAccept 98 = .ok (.ifCond .eq 20, 3) := by decide +kernel
theorem dX6_leastAccept_101 : decode cX6_leastAccept 101 = .ok (.aload_n 0, 1) := by decide +kernel
theorem dX6_leastAccept_102 : decode cX6_leastAccept 102 = .ok (.getfield 36, 3) := by decide +kernel
theorem dX6_leastAccept_105 : decode cX6_leastAccept 105 = .ok (.lload 9, 2) := by decide +kernel
theorem dX6_leastAccept_107 : decode cX6_leastAccept 107 = .ok (.lload 5, 2) := by decide +kernel
theorem dX6_leastAccept_109 : decode cX6_leastAccept 109 = .ok (.invokevirtual 165, 3) := by decide +kernel
theorem dX6_leastAccept_112 : decode cX6_leastAccept 112 = .ok (.ifCond .eq 6, 3) := by decide +kernel
theorem dX6_leastAccept_115 : decode cX6_leastAccept 115 = .ok (.iload 11, 2) := by decide +kernel
theorem dX6_leastAccept_117 : decode cX6_leastAccept 117 = .ok (.ireturn, 1) := by decide +kernel
theorem dX6_leastAccept_118 : decode cX6_leastAccept 118 = .ok (.iinc 11 1, 3) := by decide +kernel
theorem dX6_leastAccept_121 : decode cX6_leastAccept 121 = .ok (.goto (-79), 3) := by decide +kernel
theorem dX6_leastAccept_124 : decode cX6_leastAccept 124 = .ok (.iconst (-1), 1) := by decide +kernel
theorem dX6_leastAccept_125 : decode cX6_leastAccept 125 = .ok (.ireturn, 1) := by decide +kernel
theorem dX6_ordersWith_0 : decode cX6_ordersWith 0 = .ok (.aload_n 0, 1) := by decide +kernel
theorem dX6_ordersWith_1 : decode cX6_ordersWith 1 = .ok (.getfield 10, 3) := by decide +kernel
theorem dX6_ordersWith_4 : decode cX6_ordersWith 4 = .ok (.iload_n 3, 1) := by decide +kernel
theorem dX6_ordersWith_5 : decode cX6_ordersWith 5 = .ok (.iload 4, 2) := by decide +kernel
theorem dX6_ordersWith_7 : decode cX6_ordersWith 7 = .ok (.invokevirtual 88, 3) := by decide +kernel
theorem dX6_ordersWith_10 : decode cX6_ordersWith 10 = .ok (.aload_n 0, 1) := by decide +kernel
theorem dX6_ordersWith_11 : decode cX6_ordersWith 11 = .ok (.getfield 10, 3) := by decide +kernel
theorem dX6_ordersWith_14 : decode cX6_ordersWith 14 = .ok (.iload_n 1, 1) := by decide +kernel
theorem dX6_ordersWith_15 : decode cX6_ordersWith 15 = .ok (.iload_n 3, 1) := by decide +kernel
theorem dX6_ordersWith_16 : decode cX6_ordersWith 16 = .ok (.isub, 1) := by decide +kernel
theorem dX6_ordersWith_17 : decode cX6_ordersWith 17 = .ok (.iload_n 2, 1) := by decide +kernel
theorem dX6_ordersWith_18 : decode cX6_ordersWith 18 = .ok (.iload 4, 2) := by decide +kernel
theorem dX6_ordersWith_20 : decode cX6_ordersWith 20 = .ok (.isub, 1) := by decide +kernel
theorem dX6_ordersWith_21 : decode cX6_ordersWith 21 = .ok (.invokevirtual 88, 3) := by decide +kernel
theorem dX6_ordersWith_24 : decode cX6_ordersWith 24 = .ok (.lmul, 1) := by decide +kernel
theorem dX6_ordersWith_25 : decode cX6_ordersWith 25 = .ok (.lreturn, 1) := by decide +kernel
theorem dX6_supplier_0 : decode cX6_supplier 0 = .ok (.aload_n 0, 1) := by decide +kernel
theorem dX6_supplier_1 : decode cX6_supplier 1 = .ok (.iload_n 1, 1) := by decide +kernel
theorem dX6_supplier_2 : decode cX6_supplier 2 = .ok (.invokevirtual 121, 3) := by decide +kernel
theorem dX6_supplier_5 : decode cX6_supplier 5 = .ok (.ifnull 28, 3) := by decide +kernel
theorem dX6_supplier_8 : decode cX6_supplier 8 = .ok (.aload_n 0, 1) := by decide +kernel
theorem dX6_supplier_9 : decode cX6_supplier 9 = .ok (.iload_n 2, 1) := by decide +kernel
theorem dX6_supplier_10 : decode cX6_supplier 10 = .ok (.invokevirtual 121, 3) := by decide +kernel
theorem dX6_supplier_13 : decode cX6_supplier 13 = .ok (.ifnull 20, 3) := by decide +kernel
theorem dX6_supplier_16 : decode cX6_supplier 16 = .ok (.aload_n 0, 1) := by decide +kernel
theorem dX6_supplier_17 : decode cX6_supplier 17 = .ok (.iload_n 3, 1) := by decide +kernel
theorem dX6_supplier_18 : decode cX6_supplier 18 = .ok (.invokevirtual 121, 3) := by decide +kernel
theorem dX6_supplier_21 : decode cX6_supplier 21 = .ok (.ifnull 12, 3) := by decide +kernel
theorem dX6_supplier_24 : decode cX6_supplier 24 = .ok (.aload_n 0, 1) := by decide +kernel
theorem dX6_supplier_25 : decode cX6_supplier 25 = .ok (.getfield 168, 3) := by decide +kernel
theorem dX6_supplier_28 : decode cX6_supplier 28 = .ok (.bipush 8, 2) := by decide +kernel
theorem dX6_supplier_30 : decode cX6_supplier 30 = .ok (.if_icmp .lt 6, 3) := by decide +kernel
theorem dX6_supplier_33 : decode cX6_supplier 33 = .ok (.bipush (-2), 2) := by decide +kernel
theorem dX6_supplier_35 : decode cX6_supplier 35 = .ok (.ireturn, 1) := by decide +kernel
theorem dX6_supplier_36 : decode cX6_supplier 36 = .ok (.aload_n 0, 1) := by decide +kernel
theorem dX6_supplier_37 : decode cX6_supplier 37 = .ok (.getfield 41, 3) := by decide +kernel
theorem dX6_supplier_40 : decode cX6_supplier 40 = .ok (.aload_n 0, 1) := by decide +kernel
theorem dX6_supplier_41 : decode cX6_supplier 41 = .ok (.getfield 168, 3) := by decide +kernel
theorem dX6_supplier_44 : decode cX6_supplier 44 = .ok (.new 39, 3) := by decide +kernel
theorem dX6_supplier_47 : decode cX6_supplier 47 = .ok (.dup, 1) := by decide +kernel
theorem dX6_supplier_48 : decode cX6_supplier 48 = .ok (.iload_n 1, 1) := by decide +kernel
theorem dX6_supplier_49 : decode cX6_supplier 49 = .ok (.iload_n 2, 1) := by decide +kernel
theorem dX6_supplier_50 : decode cX6_supplier 50 = .ok (.iload_n 3, 1) := by decide +kernel
theorem dX6_supplier_51 : decode cX6_supplier 51 = .ok (.invokespecial 171, 3) := by decide +kernel
theorem dX6_supplier_54 : decode cX6_supplier 54 = .ok (.aastore, 1) := by decide +kernel
theorem dX6_supplier_55 : decode cX6_supplier 55 = .ok (.aload_n 0, 1) := by decide +kernel
theorem dX6_supplier_56 : decode cX6_supplier 56 = .ok (.dup, 1) := by decide +kernel
theorem dX6_supplier_57 : decode cX6_supplier 57 = .ok (.getfield 168, 3) := by decide +kernel
theorem dX6_supplier_60 : decode cX6_supplier 60 = .ok (.iconst 1, 1) := by decide +kernel
theorem dX6_supplier_61 : decode cX6_supplier 61 = .ok (.iadd, 1) := by decide +kernel
theorem dX6_supplier_62 : decode cX6_supplier 62 = .ok (.putfield 168, 3) := by decide +kernel
theorem dX6_supplier_65 : decode cX6_supplier 65 = .ok (.aload_n 0, 1) := by decide +kernel
theorem dX6_supplier_66 : decode cX6_supplier 66 = .ok (.getfield 168, 3) := by decide +kernel
theorem dX6_supplier_69 : decode cX6_supplier 69 = .ok (.iconst 1, 1) := by decide +kernel
theorem dX6_supplier_70 : decode cX6_supplier 70 = .ok (.isub, 1) := by decide +kernel
theorem dX6_supplier_71 : decode cX6_supplier 71 = .ok (.ireturn, 1) := by decide +kernel
theorem dX6_lot_0 : decode cX6_lot 0 = .ok (.aload_n 0, 1) := by decide +kernel
theorem dX6_lot_1 : decode cX6_lot 1 = .ok (.iload_n 1, 1) := by decide +kernel
theorem dX6_lot_2 : decode cX6_lot 2 = .ok (.invokevirtual 173, 3) := by decide +kernel
theorem dX6_lot_5 : decode cX6_lot 5 = .ok (.astore_n 3, 1) := by decide +kernel
theorem dX6_lot_6 : decode cX6_lot 6 = .ok (.aload_n 3, 1) := by decide +kernel
theorem dX6_lot_7 : decode cX6_lot 7 = .ok (.ifnull 12, 3) := by decide +kernel
theorem dX6_lot_10 : decode cX6_lot 10 = .ok (.aload_n 0, 1) := by decide +kernel
theorem dX6_lot_11 : decode cX6_lot 11 = .ok (.getfield 177, 3) := by decide +kernel
theorem dX6_lot_14 : decode cX6_lot 14 = .ok (.bipush 60, 2) := by decide +kernel
theorem dX6_lot_16 : decode cX6_lot 16 = .ok (.if_icmp .lt 6, 3) := by decide +kernel
theorem dX6_lot_19 : decode cX6_lot 19 = .ok (.bipush (-2), 2) := by decide +kernel
theorem dX6_lot_21 : decode cX6_lot 21 = .ok (.ireturn, 1) := by decide +kernel
theorem dX6_lot_22 : decode cX6_lot 22 = .ok (.aload_n 0, 1) := by decide +kernel
theorem dX6_lot_23 : decode cX6_lot 23 = .ok (.aload_n 3, 1) := by decide +kernel
theorem dX6_lot_24 : decode cX6_lot 24 = .ok (.invokevirtual 180, 3) := by decide +kernel
theorem dX6_lot_27 : decode cX6_lot 27 = .ok (.iload_n 2, 1) := by decide +kernel
theorem dX6_lot_28 : decode cX6_lot 28 = .ok (.invokevirtual 84, 3) := by decide +kernel
theorem dX6_lot_31 : decode cX6_lot 31 = .ok (.astore 4, 2) := by decide +kernel
theorem dX6_lot_33 : decode cX6_lot 33 = .ok (.aload 4, 2) := by decide +kernel
theorem dX6_lot_35 : decode cX6_lot 35 = .ok (.ifnonnull 6, 3) := by decide +kernel
theorem dX6_lot_38 : decode cX6_lot 38 = .ok (.bipush (-2), 2) := by decide +kernel
theorem dX6_lot_40 : decode cX6_lot 40 = .ok (.ireturn, 1) := by decide +kernel
theorem dX6_lot_41 : decode cX6_lot 41 = .ok (.aload_n 0, 1) := by decide +kernel
theorem dX6_lot_42 : decode cX6_lot 42 = .ok (.getfield 47, 3) := by decide +kernel
theorem dX6_lot_45 : decode cX6_lot 45 = .ok (.aload_n 0, 1) := by decide +kernel
theorem dX6_lot_46 : decode cX6_lot 46 = .ok (.getfield 177, 3) := by decide +kernel
theorem dX6_lot_49 : decode cX6_lot 49 = .ok (.new 45, 3) := by decide +kernel
theorem dX6_lot_52 : decode cX6_lot 52 = .ok (.dup, 1) := by decide +kernel
theorem dX6_lot_53 : decode cX6_lot 53 = .ok (.iload_n 1, 1) := by decide +kernel
theorem dX6_lot_54 : decode cX6_lot 54 = .ok (.iload_n 2, 1) := by decide +kernel
theorem dX6_lot_55 : decode cX6_lot 55 = .ok (.aload 4, 2) := by decide +kernel
theorem dX6_lot_57 : decode cX6_lot 57 = .ok (.aload_n 3, 1) := by decide +kernel
theorem dX6_lot_58 : decode cX6_lot 58 = .ok (.invokevirtual 180, 3) := by decide +kernel
theorem dX6_lot_61 : decode cX6_lot 61 = .ok (.aload_n 3, 1) := by decide +kernel
theorem dX6_lot_62 : decode cX6_lot 62 = .ok (.getfield 183, 3) := by decide +kernel
theorem dX6_lot_65 : decode cX6_lot 65 = .ok (.invokespecial 186, 3) := by decide +kernel
theorem dX6_lot_68 : decode cX6_lot 68 = .ok (.aastore, 1) := by decide +kernel
theorem dX6_lot_69 : decode cX6_lot 69 = .ok (.aload_n 0, 1) := by decide +kernel
theorem dX6_lot_70 : decode cX6_lot 70 = .ok (.dup, 1) := by decide +kernel
theorem dX6_lot_71 : decode cX6_lot 71 = .ok (.getfield 177, 3) := by decide +kernel
theorem dX6_lot_74 : decode cX6_lot 74 = .ok (.iconst 1, 1) := by decide +kernel
theorem dX6_lot_75 : decode cX6_lot 75 = .ok (.iadd, 1) := by decide +kernel
theorem dX6_lot_76 : decode cX6_lot 76 = .ok (.putfield 177, 3) := by decide +kernel
theorem dX6_lot_79 : decode cX6_lot 79 = .ok (.aload_n 0, 1) := by decide +kernel
theorem dX6_lot_80 : decode cX6_lot 80 = .ok (.getfield 177, 3) := by decide +kernel
theorem dX6_lot_83 : decode cX6_lot 83 = .ok (.iconst 1, 1) := by decide +kernel
theorem dX6_lot_84 : decode cX6_lot 84 = .ok (.isub, 1) := by decide +kernel
theorem dX6_lot_85 : decode cX6_lot 85 = .ok (.ireturn, 1) := by decide +kernel
theorem dX6_item_0 : decode cX6_item 0 = .ok (.aload_n 0, 1) := by decide +kernel
theorem dX6_item_1 : decode cX6_item 1 = .ok (.iload_n 1, 1) := by decide +kernel
theorem dX6_item_2 : decode cX6_item 2 = .ok (.invokevirtual 189, 3) := by decide +kernel
theorem dX6_item_5 : decode cX6_item 5 = .ok (.astore_n 3, 1) := by decide +kernel
theorem dX6_item_6 : decode cX6_item 6 = .ok (.aload_n 3, 1) := by decide +kernel
theorem dX6_item_7 : decode cX6_item 7 = .ok (.ifnull 10, 3) := by decide +kernel
theorem dX6_item_10 : decode cX6_item 10 = .ok (.iload_n 2, 1) := by decide +kernel
theorem dX6_item_11 : decode cX6_item 11 = .ok (.invokestatic 193, 3) := by decide +kernel
theorem dX6_item_14 : decode cX6_item 14 = .ok (.ifCond .ne 6, 3) := by decide +kernel
theorem dX6_item_17 : decode cX6_item 17 = .ok (.bipush (-2), 2) := by decide +kernel
theorem dX6_item_19 : decode cX6_item 19 = .ok (.ireturn, 1) := by decide +kernel
theorem dX6_item_20 : decode cX6_item 20 = .ok (.aload_n 3, 1) := by decide +kernel
theorem dX6_item_21 : decode cX6_item 21 = .ok (.iload_n 2, 1) := by decide +kernel
theorem dX6_item_22 : decode cX6_item 22 = .ok (.invokevirtual 196, 3) := by decide +kernel
theorem dX6_item_25 : decode cX6_item 25 = .ok (.aload_n 0, 1) := by decide +kernel
theorem dX6_item_26 : decode cX6_item 26 = .ok (.aload_n 3, 1) := by decide +kernel
theorem dX6_item_27 : decode cX6_item 27 = .ok (.invokevirtual 200, 3) := by decide +kernel
theorem dX6_item_30 : decode cX6_item 30 = .ok (.ireturn, 1) := by decide +kernel
theorem dX6_undo_0 : decode cX6_undo 0 = .ok (.aload_n 0, 1) := by decide +kernel
theorem dX6_undo_1 : decode cX6_undo 1 = .ok (.iload_n 1, 1) := by decide +kernel
theorem dX6_undo_2 : decode cX6_undo 2 = .ok (.invokevirtual 189, 3) := by decide +kernel
theorem dX6_undo_5 : decode cX6_undo 5 = .ok (.astore_n 2, 1) := by decide +kernel
theorem dX6_undo_6 : decode cX6_undo 6 = .ok (.aload_n 2, 1) := by decide +kernel
theorem dX6_undo_7 : decode cX6_undo 7 = .ok (.ifnull 10, 3) := by decide +kernel
theorem dX6_undo_10 : decode cX6_undo 10 = .ok (.aload_n 2, 1) := by decide +kernel
theorem dX6_undo_11 : decode cX6_undo 11 = .ok (.getfield 204, 3) := by decide +kernel
theorem dX6_undo_14 : decode cX6_undo 14 = .ok (.ifCond .ne 6, 3) := by decide +kernel
theorem dX6_undo_17 : decode cX6_undo 17 = .ok (.bipush (-2), 2) := by decide +kernel
theorem dX6_undo_19 : decode cX6_undo 19 = .ok (.ireturn, 1) := by decide +kernel
theorem dX6_undo_20 : decode cX6_undo 20 = .ok (.aload_n 2, 1) := by decide +kernel
theorem dX6_undo_21 : decode cX6_undo 21 = .ok (.aload_n 2, 1) := by decide +kernel
theorem dX6_undo_22 : decode cX6_undo 22 = .ok (.getfield 204, 3) := by decide +kernel
theorem dX6_undo_25 : decode cX6_undo 25 = .ok (.iconst 1, 1) := by decide +kernel
theorem dX6_undo_26 : decode cX6_undo 26 = .ok (.isub, 1) := by decide +kernel
theorem dX6_undo_27 : decode cX6_undo 27 = .ok (.invokevirtual 207, 3) := by decide +kernel
theorem dX6_undo_30 : decode cX6_undo 30 = .ok (.aload_n 2, 1) := by decide +kernel
theorem dX6_undo_31 : decode cX6_undo 31 = .ok (.getfield 204, 3) := by decide +kernel
theorem dX6_undo_34 : decode cX6_undo 34 = .ok (.ireturn, 1) := by decide +kernel
theorem dX6_correct_0 : decode cX6_correct 0 = .ok (.aload_n 0, 1) := by decide +kernel
theorem dX6_correct_1 : decode cX6_correct 1 = .ok (.iload_n 1, 1) := by decide +kernel
theorem dX6_correct_2 : decode cX6_correct 2 = .ok (.invokevirtual 189, 3) := by decide +kernel
theorem dX6_correct_5 : decode cX6_correct 5 = .ok (.astore 4, 2) := by decide +kernel
theorem dX6_correct_7 : decode cX6_correct 7 = .ok (.aload 4, 2) := by decide +kernel
theorem dX6_correct_9 : decode cX6_correct 9 = .ok (.ifnull 19, 3) := by decide +kernel
theorem dX6_correct_12 : decode cX6_correct 12 = .ok (.aload 4, 2) := by decide +kernel
theorem dX6_correct_14 : decode cX6_correct 14 = .ok (.iload_n 2, 1) := by decide +kernel
theorem dX6_correct_15 : decode cX6_correct 15 = .ok (.invokevirtual 210, 3) := by decide +kernel
theorem dX6_correct_18 : decode cX6_correct 18 = .ok (.ifCond .eq 10, 3) := by decide +kernel
theorem dX6_correct_21 : decode cX6_correct 21 = .ok (.iload_n 3, 1) := by decide +kernel
theorem dX6_correct_22 : decode cX6_correct 22 = .ok (.invokestatic 193, 3) := by decide +kernel
theorem dX6_correct_25 : decode cX6_correct 25 = .ok (.ifCond .ne 6, 3) := by decide +kernel
theorem dX6_correct_28 : decode cX6_correct 28 = .ok (.bipush (-2), 2) := by decide +kernel
theorem dX6_correct_30 : decode cX6_correct 30 = .ok (.ireturn, 1) := by decide +kernel
theorem dX6_correct_31 : decode cX6_correct 31 = .ok (.aload 4, 2) := by decide +kernel
theorem dX6_correct_33 : decode cX6_correct 33 = .ok (.getfield 213, 3) := by decide +kernel
theorem dX6_correct_36 : decode cX6_correct 36 = .ok (.iload_n 2, 1) := by decide +kernel
theorem dX6_correct_37 : decode cX6_correct 37 = .ok (.iload_n 3, 1) := by decide +kernel
theorem dX6_correct_38 : decode cX6_correct 38 = .ok (.iastore, 1) := by decide +kernel
theorem dX6_correct_39 : decode cX6_correct 39 = .ok (.aload 4, 2) := by decide +kernel
theorem dX6_correct_41 : decode cX6_correct 41 = .ok (.aload 4, 2) := by decide +kernel
theorem dX6_correct_43 : decode cX6_correct 43 = .ok (.getfield 204, 3) := by decide +kernel
theorem dX6_correct_46 : decode cX6_correct 46 = .ok (.invokevirtual 207, 3) := by decide +kernel
theorem dX6_correct_49 : decode cX6_correct 49 = .ok (.aload_n 0, 1) := by decide +kernel
theorem dX6_correct_50 : decode cX6_correct 50 = .ok (.aload 4, 2) := by decide +kernel
theorem dX6_correct_52 : decode cX6_correct 52 = .ok (.invokevirtual 200, 3) := by decide +kernel
theorem dX6_correct_55 : decode cX6_correct 55 = .ok (.ireturn, 1) := by decide +kernel
theorem dX6_about_0 : decode cX6_about 0 = .ok (.aload_n 0, 1) := by decide +kernel
theorem dX6_about_1 : decode cX6_about 1 = .ok (.iload_n 1, 1) := by decide +kernel
theorem dX6_about_2 : decode cX6_about 2 = .ok (.invokevirtual 216, 3) := by decide +kernel
theorem dX6_about_5 : decode cX6_about 5 = .ok (.astore_n 3, 1) := by decide +kernel
theorem dX6_about_6 : decode cX6_about 6 = .ok (.aload_n 3, 1) := by decide +kernel
theorem dX6_about_7 : decode cX6_about 7 = .ok (.ifnonnull 6, 3) := by decide +kernel
theorem dX6_about_10 : decode cX6_about 10 = .ok (.bipush (-2), 2) := by decide +kernel
theorem dX6_about_12 : decode cX6_about 12 = .ok (.ireturn, 1) := by decide +kernel
theorem dX6_about_13 : decode cX6_about 13 = .ok (.iload_n 2, 1) := by decide +kernel
theorem dX6_about_14 : decode cX6_about 14 = .ok (.tableswitch 77 0 6 #[42, 47, 52, 57, 62, 67, 72], 42) := by decide +kernel
theorem dX6_about_56 : decode cX6_about 56 = .ok (.aload_n 3, 1) := by decide +kernel
theorem dX6_about_57 : decode cX6_about 57 = .ok (.getfield 219, 3) := by decide +kernel
theorem dX6_about_60 : decode cX6_about 60 = .ok (.ireturn, 1) := by decide +kernel
theorem dX6_about_61 : decode cX6_about 61 = .ok (.aload_n 3, 1) := by decide +kernel
theorem dX6_about_62 : decode cX6_about 62 = .ok (.getfield 204, 3) := by decide +kernel
theorem dX6_about_65 : decode cX6_about 65 = .ok (.ireturn, 1) := by decide +kernel
theorem dX6_about_66 : decode cX6_about 66 = .ok (.aload_n 3, 1) := by decide +kernel
theorem dX6_about_67 : decode cX6_about 67 = .ok (.invokevirtual 222, 3) := by decide +kernel
theorem dX6_about_70 : decode cX6_about 70 = .ok (.ireturn, 1) := by decide +kernel
theorem dX6_about_71 : decode cX6_about 71 = .ok (.aload_n 3, 1) := by decide +kernel
theorem dX6_about_72 : decode cX6_about 72 = .ok (.getfield 225, 3) := by decide +kernel
theorem dX6_about_75 : decode cX6_about 75 = .ok (.ireturn, 1) := by decide +kernel
theorem dX6_about_76 : decode cX6_about 76 = .ok (.aload_n 3, 1) := by decide +kernel
theorem dX6_about_77 : decode cX6_about 77 = .ok (.getfield 228, 3) := by decide +kernel
theorem dX6_about_80 : decode cX6_about 80 = .ok (.ireturn, 1) := by decide +kernel
theorem dX6_about_81 : decode cX6_about 81 = .ok (.aload_n 3, 1) := by decide +kernel
theorem dX6_about_82 : decode cX6_about 82 = .ok (.getfield 231, 3) := by decide +kernel
theorem dX6_about_85 : decode cX6_about 85 = .ok (.ireturn, 1) := by decide +kernel
theorem dX6_about_86 : decode cX6_about 86 = .ok (.aload_n 3, 1) := by decide +kernel
theorem dX6_about_87 : decode cX6_about 87 = .ok (.getfield 234, 3) := by decide +kernel
theorem dX6_about_90 : decode cX6_about 90 = .ok (.ireturn, 1) := by decide +kernel
theorem dX6_about_91 : decode cX6_about 91 = .ok (.bipush (-2), 2) := by decide +kernel
theorem dX6_about_93 : decode cX6_about 93 = .ok (.ireturn, 1) := by decide +kernel
theorem dX6_needed_0 : decode cX6_needed 0 = .ok (.aload_n 0, 1) := by decide +kernel
theorem dX6_needed_1 : decode cX6_needed 1 = .ok (.iload_n 1, 1) := by decide +kernel
theorem dX6_needed_2 : decode cX6_needed 2 = .ok (.invokevirtual 216, 3) := by decide +kernel
theorem dX6_needed_5 : decode cX6_needed 5 = .ok (.astore_n 2, 1) := by decide +kernel
theorem dX6_needed_6 : decode cX6_needed 6 = .ok (.aload_n 2, 1) := by decide +kernel
theorem dX6_needed_7 : decode cX6_needed 7 = .ok (.ifnonnull 8, 3) := by decide +kernel
theorem dX6_needed_10 : decode cX6_needed 10 = .ok (.bipush (-2), 2) := by decide +kernel
theorem dX6_needed_12 : decode cX6_needed 12 = .ok (.goto 7, 3) := by decide +kernel
theorem dX6_needed_15 : decode cX6_needed 15 = .ok (.aload_n 2, 1) := by decide +kernel
theorem dX6_needed_16 : decode cX6_needed 16 = .ok (.invokevirtual 237, 3) := by decide +kernel
theorem dX6_needed_19 : decode cX6_needed 19 = .ok (.ireturn, 1) := by decide +kernel
theorem dX6_rule_0 : decode cX6_rule 0 = .ok (.aload_n 0, 1) := by decide +kernel
theorem dX6_rule_1 : decode cX6_rule 1 = .ok (.iload_n 1, 1) := by decide +kernel
theorem dX6_rule_2 : decode cX6_rule 2 = .ok (.invokevirtual 173, 3) := by decide +kernel
theorem dX6_rule_5 : decode cX6_rule 5 = .ok (.astore_n 2, 1) := by decide +kernel
theorem dX6_rule_6 : decode cX6_rule 6 = .ok (.aload_n 2, 1) := by decide +kernel
theorem dX6_rule_7 : decode cX6_rule 7 = .ok (.ifnonnull 8, 3) := by decide +kernel
theorem dX6_rule_10 : decode cX6_rule 10 = .ok (.bipush (-2), 2) := by decide +kernel
theorem dX6_rule_12 : decode cX6_rule 12 = .ok (.goto 7, 3) := by decide +kernel
theorem dX6_rule_15 : decode cX6_rule 15 = .ok (.aload_n 2, 1) := by decide +kernel
theorem dX6_rule_16 : decode cX6_rule 16 = .ok (.getfield 183, 3) := by decide +kernel
theorem dX6_rule_19 : decode cX6_rule 19 = .ok (.ireturn, 1) := by decide +kernel
theorem dX6_run_0 : decode cX6_run 0 = .ok (.aload_n 0, 1) := by decide +kernel
theorem dX6_run_1 : decode cX6_run 1 = .ok (.iload_n 1, 1) := by decide +kernel
theorem dX6_run_2 : decode cX6_run 2 = .ok (.invokevirtual 173, 3) := by decide +kernel
theorem dX6_run_5 : decode cX6_run 5 = .ok (.astore_n 3, 1) := by decide +kernel
theorem dX6_run_6 : decode cX6_run 6 = .ok (.aload_n 3, 1) := by decide +kernel
theorem dX6_run_7 : decode cX6_run 7 = .ok (.ifnull 7, 3) := by decide +kernel
theorem dX6_run_10 : decode cX6_run 10 = .ok (.iload_n 2, 1) := by decide +kernel
theorem dX6_run_11 : decode cX6_run 11 = .ok (.ifCond .ge 6, 3) := by decide +kernel
theorem dX6_run_14 : decode cX6_run 14 = .ok (.bipush (-2), 2) := by decide +kernel
theorem dX6_run_16 : decode cX6_run 16 = .ok (.ireturn, 1) := by decide +kernel
theorem dX6_run_17 : decode cX6_run 17 = .ok (.aload_n 3, 1) := by decide +kernel
theorem dX6_run_18 : decode cX6_run 18 = .ok (.iload_n 2, 1) := by decide +kernel
theorem dX6_run_19 : decode cX6_run 19 = .ok (.invokevirtual 240, 3) := by decide +kernel
theorem dX6_run_22 : decode cX6_run 22 = .ok (.ireturn, 1) := by decide +kernel
theorem dX6_settle_0 : decode cX6_settle 0 = .ok (.aload_n 0, 1) := by decide +kernel
theorem dX6_settle_1 : decode cX6_settle 1 = .ok (.aload_n 1, 1) := by decide +kernel
theorem dX6_settle_2 : decode cX6_settle 2 = .ok (.getfield 244, 3) := by decide +kernel
theorem dX6_settle_5 : decode cX6_settle 5 = .ok (.invokevirtual 173, 3) := by decide +kernel
theorem dX6_settle_8 : decode cX6_settle 8 = .ok (.astore_n 2, 1) := by decide +kernel
theorem dX6_settle_9 : decode cX6_settle 9 = .ok (.aload_n 1, 1) := by decide +kernel
theorem dX6_settle_10 : decode cX6_settle 10 = .ok (.getfield 219, 3) := by decide +kernel
theorem dX6_settle_13 : decode cX6_settle 13 = .ok (.ifCond .eq 15, 3) := by decide +kernel
theorem dX6_settle_16 : decode cX6_settle 16 = .ok (.aload_n 2, 1) := by decide +kernel
theorem dX6_settle_17 : decode cX6_settle 17 = .ok (.ifnull 11, 3) := by decide +kernel
theorem dX6_settle_20 : decode cX6_settle 20 = .ok (.aload_n 2, 1) := by decide +kernel
theorem dX6_settle_21 : decode cX6_settle 21 = .ok (.aload_n 1, 1) := by decide +kernel
theorem dX6_settle_22 : decode cX6_settle 22 = .ok (.getfield 219, 3) := by decide +kernel
theorem dX6_settle_25 : decode cX6_settle 25 = .ok (.invokevirtual 247, 3) := by decide +kernel
theorem dX6_settle_28 : decode cX6_settle 28 = .ok (.aload_n 1, 1) := by decide +kernel
theorem dX6_settle_29 : decode cX6_settle 29 = .ok (.getfield 219, 3) := by decide +kernel
theorem dX6_settle_32 : decode cX6_settle 32 = .ok (.ireturn, 1) := by decide +kernel
theorem dX6_supplierAt_0 : decode cX6_supplierAt 0 = .ok (.iload_n 1, 1) := by decide +kernel
theorem dX6_supplierAt_1 : decode cX6_supplierAt 1 = .ok (.ifCond .lt 20, 3) := by decide +kernel
theorem dX6_supplierAt_4 : decode cX6_supplierAt 4 = .ok (.iload_n 1, 1) := by decide +kernel
theorem dX6_supplierAt_5 : decode cX6_supplierAt 5 = .ok (.aload_n 0, 1) := by decide +kernel
theorem dX6_supplierAt_6 : decode cX6_supplierAt 6 = .ok (.getfield 168, 3) := by decide +kernel
theorem dX6_supplierAt_9 : decode cX6_supplierAt 9 = .ok (.if_icmp .ge 12, 3) := by decide +kernel
theorem dX6_supplierAt_12 : decode cX6_supplierAt 12 = .ok (.aload_n 0, 1) := by decide +kernel
theorem dX6_supplierAt_13 : decode cX6_supplierAt 13 = .ok (.getfield 41, 3) := by decide +kernel
theorem dX6_supplierAt_16 : decode cX6_supplierAt 16 = .ok (.iload_n 1, 1) := by decide +kernel
theorem dX6_supplierAt_17 : decode cX6_supplierAt 17 = .ok (.aaload, 1) := by decide +kernel
theorem dX6_supplierAt_18 : decode cX6_supplierAt 18 = .ok (.goto 4, 3) := by decide +kernel
theorem dX6_supplierAt_21 : decode cX6_supplierAt 21 = .ok (.aconst_null, 1) := by decide +kernel
theorem dX6_supplierAt_22 : decode cX6_supplierAt 22 = .ok (.areturn, 1) := by decide +kernel
theorem dX6_lotAt_0 : decode cX6_lotAt 0 = .ok (.iload_n 1, 1) := by decide +kernel
theorem dX6_lotAt_1 : decode cX6_lotAt 1 = .ok (.ifCond .lt 20, 3) := by decide +kernel
theorem dX6_lotAt_4 : decode cX6_lotAt 4 = .ok (.iload_n 1, 1) := by decide +kernel
theorem dX6_lotAt_5 : decode cX6_lotAt 5 = .ok (.aload_n 0, 1) := by decide +kernel
theorem dX6_lotAt_6 : decode cX6_lotAt 6 = .ok (.getfield 177, 3) := by decide +kernel
theorem dX6_lotAt_9 : decode cX6_lotAt 9 = .ok (.if_icmp .ge 12, 3) := by decide +kernel
theorem dX6_lotAt_12 : decode cX6_lotAt 12 = .ok (.aload_n 0, 1) := by decide +kernel
theorem dX6_lotAt_13 : decode cX6_lotAt 13 = .ok (.getfield 47, 3) := by decide +kernel
theorem dX6_lotAt_16 : decode cX6_lotAt 16 = .ok (.iload_n 1, 1) := by decide +kernel
theorem dX6_lotAt_17 : decode cX6_lotAt 17 = .ok (.aaload, 1) := by decide +kernel
theorem dX6_lotAt_18 : decode cX6_lotAt 18 = .ok (.goto 4, 3) := by decide +kernel
theorem dX6_lotAt_21 : decode cX6_lotAt 21 = .ok (.aconst_null, 1) := by decide +kernel
theorem dX6_lotAt_22 : decode cX6_lotAt 22 = .ok (.areturn, 1) := by decide +kernel
theorem dX6_openLotAt_0 : decode cX6_openLotAt 0 = .ok (.aload_n 0, 1) := by decide +kernel
theorem dX6_openLotAt_1 : decode cX6_openLotAt 1 = .ok (.iload_n 1, 1) := by decide +kernel
theorem dX6_openLotAt_2 : decode cX6_openLotAt 2 = .ok (.invokevirtual 216, 3) := by decide +kernel
theorem dX6_openLotAt_5 : decode cX6_openLotAt 5 = .ok (.astore_n 2, 1) := by decide +kernel
theorem dX6_openLotAt_6 : decode cX6_openLotAt 6 = .ok (.aload_n 2, 1) := by decide +kernel
theorem dX6_openLotAt_7 : decode cX6_openLotAt 7 = .ok (.ifnull 14, 3) := by decide +kernel
theorem dX6_openLotAt_10 : decode cX6_openLotAt 10 = .ok (.aload_n 2, 1) := by decide +kernel
theorem dX6_openLotAt_11 : decode cX6_openLotAt 11 = .ok (.getfield 219, 3) := by decide +kernel
theorem dX6_openLotAt_14 : decode cX6_openLotAt 14 = .ok (.ifCond .ne 7, 3) := by decide +kernel
theorem dX6_openLotAt_17 : decode cX6_openLotAt 17 = .ok (.aload_n 2, 1) := by decide +kernel
theorem dX6_openLotAt_18 : decode cX6_openLotAt 18 = .ok (.goto 4, 3) := by decide +kernel
theorem dX6_openLotAt_21 : decode cX6_openLotAt 21 = .ok (.aconst_null, 1) := by decide +kernel
theorem dX6_openLotAt_22 : decode cX6_openLotAt 22 = .ok (.areturn, 1) := by decide +kernel
theorem dX6_isClass_0 : decode cX6_isClass 0 = .ok (.iload_n 0, 1) := by decide +kernel
theorem dX6_isClass_1 : decode cX6_isClass 1 = .ok (.ifCond .lt 12, 3) := by decide +kernel
theorem dX6_isClass_4 : decode cX6_isClass 4 = .ok (.iload_n 0, 1) := by decide +kernel
theorem dX6_isClass_5 : decode cX6_isClass 5 = .ok (.iconst 3, 1) := by decide +kernel
theorem dX6_isClass_6 : decode cX6_isClass 6 = .ok (.if_icmp .gt 7, 3) := by decide +kernel
theorem dX6_isClass_9 : decode cX6_isClass 9 = .ok (.iconst 1, 1) := by decide +kernel
theorem dX6_isClass_10 : decode cX6_isClass 10 = .ok (.goto 4, 3) := by decide +kernel
theorem dX6_isClass_13 : decode cX6_isClass 13 = .ok (.iconst 0, 1) := by decide +kernel
theorem dX6_isClass_14 : decode cX6_isClass 14 = .ok (.ireturn, 1) := by decide +kernel
theorem dX6_cost_0 : decode cX6_cost 0 = .ok (.iload_n 1, 1) := by decide +kernel
theorem dX6_cost_1 : decode cX6_cost 1 = .ok (.invokestatic 193, 3) := by decide +kernel
theorem dX6_cost_4 : decode cX6_cost 4 = .ok (.ifCond .eq 13, 3) := by decide +kernel
theorem dX6_cost_7 : decode cX6_cost 7 = .ok (.iload_n 2, 1) := by decide +kernel
theorem dX6_cost_8 : decode cX6_cost 8 = .ok (.ifCond .lt 9, 3) := by decide +kernel
theorem dX6_cost_11 : decode cX6_cost 11 = .ok (.iload_n 2, 1) := by decide +kernel
theorem dX6_cost_12 : decode cX6_cost 12 = .ok (.ldc 250, 2) := by decide +kernel
theorem dX6_cost_14 : decode cX6_cost 14 = .ok (.if_icmp .le 6, 3) := by decide +kernel
theorem dX6_cost_17 : decode cX6_cost 17 = .ok (.bipush (-2), 2) := by decide +kernel
theorem dX6_cost_19 : decode cX6_cost 19 = .ok (.ireturn, 1) := by decide +kernel
theorem dX6_cost_20 : decode cX6_cost 20 = .ok (.aload_n 0, 1) := by decide +kernel
theorem dX6_cost_21 : decode cX6_cost 21 = .ok (.getfield 51, 3) := by decide +kernel
theorem dX6_cost_24 : decode cX6_cost 24 = .ok (.iload_n 1, 1) := by decide +kernel
theorem dX6_cost_25 : decode cX6_cost 25 = .ok (.iaload, 1) := by decide +kernel
theorem dX6_cost_26 : decode cX6_cost 26 = .ok (.istore_n 3, 1) := by decide +kernel
theorem dX6_cost_27 : decode cX6_cost 27 = .ok (.aload_n 0, 1) := by decide +kernel
theorem dX6_cost_28 : decode cX6_cost 28 = .ok (.getfield 51, 3) := by decide +kernel
theorem dX6_cost_31 : decode cX6_cost 31 = .ok (.iload_n 1, 1) := by decide +kernel
theorem dX6_cost_32 : decode cX6_cost 32 = .ok (.iload_n 2, 1) := by decide +kernel
theorem dX6_cost_33 : decode cX6_cost 33 = .ok (.iastore, 1) := by decide +kernel
theorem dX6_cost_34 : decode cX6_cost 34 = .ok (.iload_n 3, 1) := by decide +kernel
theorem dX6_cost_35 : decode cX6_cost 35 = .ok (.ireturn, 1) := by decide +kernel
theorem dX6_score_0 : decode cX6_score 0 = .ok (.aload_n 0, 1) := by decide +kernel
theorem dX6_score_1 : decode cX6_score 1 = .ok (.iload_n 1, 1) := by decide +kernel
theorem dX6_score_2 : decode cX6_score 2 = .ok (.invokevirtual 173, 3) := by decide +kernel
theorem dX6_score_5 : decode cX6_score 5 = .ok (.astore_n 3, 1) := by decide +kernel
theorem dX6_score_6 : decode cX6_score 6 = .ok (.aload_n 3, 1) := by decide +kernel
theorem dX6_score_7 : decode cX6_score 7 = .ok (.ifnull 13, 3) := by decide +kernel
theorem dX6_score_10 : decode cX6_score 10 = .ok (.iload_n 2, 1) := by decide +kernel
theorem dX6_score_11 : decode cX6_score 11 = .ok (.ifCond .lt 9, 3) := by decide +kernel
theorem dX6_score_14 : decode cX6_score 14 = .ok (.iload_n 2, 1) := by decide +kernel
theorem dX6_score_15 : decode cX6_score 15 = .ok (.bipush 6, 2) := by decide +kernel
theorem dX6_score_17 : decode cX6_score 17 = .ok (.if_icmp .le 7, 3) := by decide +kernel
theorem dX6_score_20 : decode cX6_score 20 = .ok (.ldc2_w 107, 3) := by decide +kernel
theorem dX6_score_23 : decode cX6_score 23 = .ok (.lreturn, 1) := by decide +kernel
theorem dX6_score_24 : decode cX6_score 24 = .ok (.iload_n 2, 1) := by decide +kernel
theorem dX6_score_25 : decode cX6_score 25 = .ok (.bipush 6, 2) := by decide +kernel
theorem dX6_score_27 : decode cX6_score 27 = .ok (.if_icmp .ne 9, 3) := by decide +kernel
theorem dX6_score_30 : decode cX6_score 30 = .ok (.aload_n 3, 1) := by decide +kernel
theorem dX6_score_31 : decode cX6_score 31 = .ok (.getfield 251, 3) := by decide +kernel
theorem dX6_score_34 : decode cX6_score 34 = .ok (.i2l, 1) := by decide +kernel
theorem dX6_score_35 : decode cX6_score 35 = .ok (.lreturn, 1) := by decide +kernel
theorem dX6_score_36 : decode cX6_score 36 = .ok (.lconst 0, 1) := by decide +kernel
theorem dX6_score_37 : decode cX6_score 37 = .ok (.lstore 4, 2) := by decide +kernel
theorem dX6_score_39 : decode cX6_score 39 = .ok (.iconst 0, 1) := by decide +kernel
theorem dX6_score_40 : decode cX6_score 40 = .ok (.istore 6, 2) := by decide +kernel
theorem dX6_score_42 : decode cX6_score 42 = .ok (.iload 6, 2) := by decide +kernel
theorem dX6_score_44 : decode cX6_score 44 = .ok (.aload_n 0, 1) := by decide +kernel
theorem dX6_score_45 : decode cX6_score 45 = .ok (.getfield 177, 3) := by decide +kernel
theorem dX6_score_48 : decode cX6_score 48 = .ok (.if_icmp .ge 43, 3) := by decide +kernel
theorem dX6_score_51 : decode cX6_score 51 = .ok (.aload_n 0, 1) := by decide +kernel
theorem dX6_score_52 : decode cX6_score 52 = .ok (.iload 6, 2) := by decide +kernel
theorem dX6_score_54 : decode cX6_score 54 = .ok (.invokevirtual 216, 3) := by decide +kernel
theorem dX6_score_57 : decode cX6_score 57 = .ok (.astore 7, 2) := by decide +kernel
theorem dX6_score_59 : decode cX6_score 59 = .ok (.aload 7, 2) := by decide +kernel
theorem dX6_score_61 : decode cX6_score 61 = .ok (.ifnull 24, 3) := by decide +kernel
theorem dX6_score_64 : decode cX6_score 64 = .ok (.aload 7, 2) := by decide +kernel
theorem dX6_score_66 : decode cX6_score 66 = .ok (.getfield 244, 3) := by decide +kernel
theorem dX6_score_69 : decode cX6_score 69 = .ok (.iload_n 1, 1) := by decide +kernel
theorem dX6_score_70 : decode cX6_score 70 = .ok (.if_icmp .ne 15, 3) := by decide +kernel
theorem dX6_score_73 : decode cX6_score 73 = .ok (.lload 4, 2) := by decide +kernel
theorem dX6_score_75 : decode cX6_score 75 = .ok (.aload_n 0, 1) := by decide +kernel
theorem dX6_score_76 : decode cX6_score 76 = .ok (.aload 7, 2) := by decide +kernel
theorem dX6_score_78 : decode cX6_score 78 = .ok (.iload_n 2, 1) := by decide +kernel
theorem dX6_score_79 : decode cX6_score 79 = .ok (.invokevirtual 254, 3) := by decide +kernel
theorem dX6_score_82 : decode cX6_score 82 = .ok (.ladd, 1) := by decide +kernel
theorem dX6_score_83 : decode cX6_score 83 = .ok (.lstore 4, 2) := by decide +kernel
theorem dX6_score_85 : decode cX6_score 85 = .ok (.iinc 6 1, 3) := by decide +kernel
theorem dX6_score_88 : decode cX6_score 88 = .ok (.goto (-46), 3) := by decide +kernel
theorem dX6_score_91 : decode cX6_score 91 = .ok (.lload 4, 2) := by decide +kernel
theorem dX6_score_93 : decode cX6_score 93 = .ok (.lreturn, 1) := by decide +kernel
theorem dX6_count_0 : decode cX6_count 0 = .ok (.iload_n 1, 1) := by decide +kernel
theorem dX6_count_1 : decode cX6_count 1 = .ok (.tableswitch 69 0 5 #[39, 44, 49, 54, 59, 64], 39) := by decide +kernel
theorem dX6_count_40 : decode cX6_count 40 = .ok (.aload_n 0, 1) := by decide +kernel
theorem dX6_count_41 : decode cX6_count 41 = .ok (.getfield 55, 3) := by decide +kernel
theorem dX6_count_44 : decode cX6_count 44 = .ok (.ireturn, 1) := by decide +kernel
theorem dX6_count_45 : decode cX6_count 45 = .ok (.aload_n 0, 1) := by decide +kernel
theorem dX6_count_46 : decode cX6_count 46 = .ok (.invokevirtual 258, 3) := by decide +kernel
theorem dX6_count_49 : decode cX6_count 49 = .ok (.ireturn, 1) := by decide +kernel
theorem dX6_count_50 : decode cX6_count 50 = .ok (.aload_n 0, 1) := by decide +kernel
theorem dX6_count_51 : decode cX6_count 51 = .ok (.getfield 168, 3) := by decide +kernel
theorem dX6_count_54 : decode cX6_count 54 = .ok (.ireturn, 1) := by decide +kernel
theorem dX6_count_55 : decode cX6_count 55 = .ok (.aload_n 0, 1) := by decide +kernel
theorem dX6_count_56 : decode cX6_count 56 = .ok (.getfield 177, 3) := by decide +kernel
theorem dX6_count_59 : decode cX6_count 59 = .ok (.ireturn, 1) := by decide +kernel
theorem dX6_count_60 : decode cX6_count 60 = .ok (.aload_n 0, 1) := by decide +kernel
theorem dX6_count_61 : decode cX6_count 61 = .ok (.invokevirtual 261, 3) := by decide +kernel
theorem dX6_count_64 : decode cX6_count 64 = .ok (.ireturn, 1) := by decide +kernel
theorem dX6_count_65 : decode cX6_count 65 = .ok (.aload_n 0, 1) := by decide +kernel
theorem dX6_count_66 : decode cX6_count 66 = .ok (.invokevirtual 135, 3) := by decide +kernel
theorem dX6_count_69 : decode cX6_count 69 = .ok (.ireturn, 1) := by decide +kernel
theorem dX6_count_70 : decode cX6_count 70 = .ok (.bipush (-2), 2) := by decide +kernel
theorem dX6_count_72 : decode cX6_count 72 = .ok (.ireturn, 1) := by decide +kernel
theorem dX6_scoreOfLot_0 : decode cX6_scoreOfLot 0 = .ok (.iload_n 2, 1) := by decide +kernel
theorem dX6_scoreOfLot_1 : decode cX6_scoreOfLot 1 = .ok (.tableswitch 95 0 4 #[35, 49, 63, 76, 82], 35) := by decide +kernel
theorem dX6_scoreOfLot_36 : decode cX6_scoreOfLot 36 = .ok (.aload_n 1, 1) := by decide +kernel
theorem dX6_scoreOfLot_37 : decode cX6_scoreOfLot 37 = .ok (.getfield 219, 3) := by decide +kernel
theorem dX6_scoreOfLot_40 : decode cX6_scoreOfLot 40 = .ok (.iconst 1, 1) := by decide +kernel
theorem dX6_scoreOfLot_41 : decode cX6_scoreOfLot 41 = .ok (.if_icmp .ne 7, 3) := by decide +kernel
theorem dX6_scoreOfLot_44 : decode cX6_scoreOfLot 44 = .ok (.lconst 1, 1) := by decide +kernel
theorem dX6_scoreOfLot_45 : decode cX6_scoreOfLot 45 = .ok (.goto 4, 3) := by decide +kernel
theorem dX6_scoreOfLot_48 : decode cX6_scoreOfLot 48 = .ok (.lconst 0, 1) := by decide +kernel
theorem dX6_scoreOfLot_49 : decode cX6_scoreOfLot 49 = .ok (.lreturn, 1) := by decide +kernel
theorem dX6_scoreOfLot_50 : decode cX6_scoreOfLot 50 = .ok (.aload_n 1, 1) := by decide +kernel
theorem dX6_scoreOfLot_51 : decode cX6_scoreOfLot 51 = .ok (.getfield 219, 3) := by decide +kernel
theorem dX6_scoreOfLot_54 : decode cX6_scoreOfLot 54 = .ok (.iconst 2, 1) := by decide +kernel
theorem dX6_scoreOfLot_55 : decode cX6_scoreOfLot 55 = .ok (.if_icmp .ne 7, 3) := by decide +kernel
theorem dX6_scoreOfLot_58 : decode cX6_scoreOfLot 58 = .ok (.lconst 1, 1) := by decide +kernel
theorem dX6_scoreOfLot_59 : decode cX6_scoreOfLot 59 = .ok (.goto 4, 3) := by decide +kernel
theorem dX6_scoreOfLot_62 : decode cX6_scoreOfLot 62 = .ok (.lconst 0, 1) := by decide +kernel
theorem dX6_scoreOfLot_63 : decode cX6_scoreOfLot 63 = .ok (.lreturn, 1) := by decide +kernel
theorem dX6_scoreOfLot_64 : decode cX6_scoreOfLot 64 = .ok (.aload_n 1, 1) := by decide +kernel
theorem dX6_scoreOfLot_65 : decode cX6_scoreOfLot 65 = .ok (.getfield 219, 3) := by decide +kernel
theorem dX6_scoreOfLot_68 : decode cX6_scoreOfLot 68 = .ok (.ifCond .ne 7, 3) := by decide +kernel
theorem dX6_scoreOfLot_71 : decode cX6_scoreOfLot 71 = .ok (.lconst 1, 1) := by decide +kernel
theorem dX6_scoreOfLot_72 : decode cX6_scoreOfLot 72 = .ok (.goto 4, 3) := by decide +kernel
theorem dX6_scoreOfLot_75 : decode cX6_scoreOfLot 75 = .ok (.lconst 0, 1) := by decide +kernel
theorem dX6_scoreOfLot_76 : decode cX6_scoreOfLot 76 = .ok (.lreturn, 1) := by decide +kernel
theorem dX6_scoreOfLot_77 : decode cX6_scoreOfLot 77 = .ok (.aload_n 1, 1) := by decide +kernel
theorem dX6_scoreOfLot_78 : decode cX6_scoreOfLot 78 = .ok (.getfield 204, 3) := by decide +kernel
theorem dX6_scoreOfLot_81 : decode cX6_scoreOfLot 81 = .ok (.i2l, 1) := by decide +kernel
theorem dX6_scoreOfLot_82 : decode cX6_scoreOfLot 82 = .ok (.lreturn, 1) := by decide +kernel
theorem dX6_scoreOfLot_83 : decode cX6_scoreOfLot 83 = .ok (.aload_n 1, 1) := by decide +kernel
theorem dX6_scoreOfLot_84 : decode cX6_scoreOfLot 84 = .ok (.getfield 204, 3) := by decide +kernel
theorem dX6_scoreOfLot_87 : decode cX6_scoreOfLot 87 = .ok (.aload_n 1, 1) := by decide +kernel
theorem dX6_scoreOfLot_88 : decode cX6_scoreOfLot 88 = .ok (.getfield 264, 3) := by decide +kernel
theorem dX6_scoreOfLot_91 : decode cX6_scoreOfLot 91 = .ok (.iconst 0, 1) := by decide +kernel
theorem dX6_scoreOfLot_92 : decode cX6_scoreOfLot 92 = .ok (.iaload, 1) := by decide +kernel
theorem dX6_scoreOfLot_93 : decode cX6_scoreOfLot 93 = .ok (.isub, 1) := by decide +kernel
theorem dX6_scoreOfLot_94 : decode cX6_scoreOfLot 94 = .ok (.i2l, 1) := by decide +kernel
theorem dX6_scoreOfLot_95 : decode cX6_scoreOfLot 95 = .ok (.lreturn, 1) := by decide +kernel
theorem dX6_scoreOfLot_96 : decode cX6_scoreOfLot 96 = .ok (.aload_n 1, 1) := by decide +kernel
theorem dX6_scoreOfLot_97 : decode cX6_scoreOfLot 97 = .ok (.aload_n 0, 1) := by decide +kernel
theorem dX6_scoreOfLot_98 : decode cX6_scoreOfLot 98 = .ok (.getfield 51, 3) := by decide +kernel
theorem dX6_scoreOfLot_101 : decode cX6_scoreOfLot 101 = .ok (.invokevirtual 267, 3) := by decide +kernel
theorem dX6_scoreOfLot_104 : decode cX6_scoreOfLot 104 = .ok (.lreturn, 1) := by decide +kernel
theorem dX6_closedPlans_0 : decode cX6_closedPlans 0 = .ok (.iconst 0, 1) := by decide +kernel
theorem dX6_closedPlans_1 : decode cX6_closedPlans 1 = .ok (.istore_n 1, 1) := by decide +kernel
theorem dX6_closedPlans_2 : decode cX6_closedPlans 2 = .ok (.iconst 0, 1) := by decide +kernel
theorem dX6_closedPlans_3 : decode cX6_closedPlans 3 = .ok (.istore_n 2, 1) := by decide +kernel
theorem dX6_closedPlans_4 : decode cX6_closedPlans 4 = .ok (.iload_n 2, 1) := by decide +kernel
theorem dX6_closedPlans_5 : decode cX6_closedPlans 5 = .ok (.aload_n 0, 1) := by decide +kernel
theorem dX6_closedPlans_6 : decode cX6_closedPlans 6 = .ok (.getfield 55, 3) := by decide +kernel
theorem dX6_closedPlans_9 : decode cX6_closedPlans 9 = .ok (.if_icmp .ge 20, 3) := by decide +kernel
theorem dX6_closedPlans_12 : decode cX6_closedPlans 12 = .ok (.aload_n 0, 1) := by decide +kernel
theorem dX6_closedPlans_13 : decode cX6_closedPlans 13 = .ok (.iload_n 2, 1) := by decide +kernel
theorem dX6_closedPlans_14 : decode cX6_closedPlans 14 = .ok (.invokevirtual 121, 3) := by decide +kernel
theorem dX6_closedPlans_17 : decode cX6_closedPlans 17 = .ok (.ifnull 6, 3) := by decide +kernel
theorem dX6_closedPlans_20 : decode cX6_closedPlans 20 = .ok (.iinc 1 1, 3) := by decide +kernel
theorem dX6_closedPlans_23 : decode cX6_closedPlans 23 = .ok (.iinc 2 1, 3) := by decide +kernel
theorem dX6_closedPlans_26 : decode cX6_closedPlans 26 = .ok (.goto (-22), 3) := by decide +kernel
theorem dX6_closedPlans_29 : decode cX6_closedPlans 29 = .ok (.iload_n 1, 1) := by decide +kernel
theorem dX6_closedPlans_30 : decode cX6_closedPlans 30 = .ok (.ireturn, 1) := by decide +kernel
theorem dX6_decidedLots_0 : decode cX6_decidedLots 0 = .ok (.iconst 0, 1) := by decide +kernel
theorem dX6_decidedLots_1 : decode cX6_decidedLots 1 = .ok (.istore_n 1, 1) := by decide +kernel
theorem dX6_decidedLots_2 : decode cX6_decidedLots 2 = .ok (.iconst 0, 1) := by decide +kernel
theorem dX6_decidedLots_3 : decode cX6_decidedLots 3 = .ok (.istore_n 2, 1) := by decide +kernel
theorem dX6_decidedLots_4 : decode cX6_decidedLots 4 = .ok (.iload_n 2, 1) := by decide +kernel
theorem dX6_decidedLots_5 : decode cX6_decidedLots 5 = .ok (.aload_n 0, 1) := by decide +kernel
theorem dX6_decidedLots_6 : decode cX6_decidedLots 6 = .ok (.getfield 177, 3) := by decide +kernel
theorem dX6_decidedLots_9 : decode cX6_decidedLots 9 = .ok (.if_icmp .ge 20, 3) := by decide +kernel
theorem dX6_decidedLots_12 : decode cX6_decidedLots 12 = .ok (.aload_n 0, 1) := by decide +kernel
theorem dX6_decidedLots_13 : decode cX6_decidedLots 13 = .ok (.iload_n 2, 1) := by decide +kernel
theorem dX6_decidedLots_14 : decode cX6_decidedLots 14 = .ok (.invokevirtual 189, 3) := by decide +kernel
theorem dX6_decidedLots_17 : decode cX6_decidedLots 17 = .ok (.ifnonnull 6, 3) := by decide +kernel
theorem dX6_decidedLots_20 : decode cX6_decidedLots 20 = .ok (.iinc 1 1, 3) := by decide +kernel
theorem dX6_decidedLots_23 : decode cX6_decidedLots 23 = .ok (.iinc 2 1, 3) := by decide +kernel
theorem dX6_decidedLots_26 : decode cX6_decidedLots 26 = .ok (.goto (-22), 3) := by decide +kernel
theorem dX6_decidedLots_29 : decode cX6_decidedLots 29 = .ok (.iload_n 1, 1) := by decide +kernel
theorem dX6_decidedLots_30 : decode cX6_decidedLots 30 = .ok (.ireturn, 1) := by decide +kernel
end
section
theorem dX7_init_0 : decode cX7_init 0 = .ok (.aload_n 0, 1) := by decide +kernel
theorem dX7_init_1 : decode cX7_init 1 = .ok (.invokespecial 1, 3) := by decide +kernel
theorem dX7_init_4 : decode cX7_init 4 = .ok (.aload_n 0, 1) := by decide +kernel
theorem dX7_init_5 : decode cX7_init 5 = .ok (.bipush 24, 2) := by decide +kernel
theorem dX7_init_7 : decode cX7_init 7 = .ok (.newarray .int, 2) := by decide +kernel
theorem dX7_init_9 : decode cX7_init 9 = .ok (.putfield 7, 3) := by decide +kernel
theorem dX7_init_12 : decode cX7_init 12 = .ok (.aload_n 0, 1) := by decide +kernel
theorem dX7_init_13 : decode cX7_init 13 = .ok (.bipush 96, 2) := by decide +kernel
theorem dX7_init_15 : decode cX7_init 15 = .ok (.newarray .int, 2) := by decide +kernel
theorem dX7_init_17 : decode cX7_init 17 = .ok (.putfield 13, 3) := by decide +kernel
theorem dX7_init_20 : decode cX7_init 20 = .ok (.aload_n 0, 1) := by decide +kernel
theorem dX7_init_21 : decode cX7_init 21 = .ok (.bipush 96, 2) := by decide +kernel
theorem dX7_init_23 : decode cX7_init 23 = .ok (.newarray .int, 2) := by decide +kernel
theorem dX7_init_25 : decode cX7_init 25 = .ok (.putfield 16, 3) := by decide +kernel
theorem dX7_init_28 : decode cX7_init 28 = .ok (.aload_n 0, 1) := by decide +kernel
theorem dX7_init_29 : decode cX7_init 29 = .ok (.bipush 96, 2) := by decide +kernel
theorem dX7_init_31 : decode cX7_init 31 = .ok (.newarray .int, 2) := by decide +kernel
theorem dX7_init_33 : decode cX7_init 33 = .ok (.putfield 19, 3) := by decide +kernel
theorem dX7_init_36 : decode cX7_init 36 = .ok (.aload_n 0, 1) := by decide +kernel
theorem dX7_init_37 : decode cX7_init 37 = .ok (.lconst 1, 1) := by decide +kernel
theorem dX7_init_38 : decode cX7_init 38 = .ok (.putfield 22, 3) := by decide +kernel
theorem dX7_init_41 : decode cX7_init 41 = .ok (.aload_n 0, 1) := by decide +kernel
theorem dX7_init_42 : decode cX7_init 42 = .ok (.sipush 3721, 3) := by decide +kernel
theorem dX7_init_45 : decode cX7_init 45 = .ok (.newarray .long, 2) := by decide +kernel
theorem dX7_init_47 : decode cX7_init 47 = .ok (.putfield 26, 3) := by decide +kernel
theorem dX7_init_50 : decode cX7_init 50 = .ok (.aload_n 0, 1) := by decide +kernel
theorem dX7_init_51 : decode cX7_init 51 = .ok (.iconst 2, 1) := by decide +kernel
theorem dX7_init_52 : decode cX7_init 52 = .ok (.newarray .int, 2) := by decide +kernel
theorem dX7_init_54 : decode cX7_init 54 = .ok (.putfield 30, 3) := by decide +kernel
theorem dX7_init_57 : decode cX7_init 57 = .ok (.aload_n 0, 1) := by decide +kernel
theorem dX7_init_58 : decode cX7_init 58 = .ok (.iconst 2, 1) := by decide +kernel
theorem dX7_init_59 : decode cX7_init 59 = .ok (.newarray .int, 2) := by decide +kernel
theorem dX7_init_61 : decode cX7_init 61 = .ok (.putfield 33, 3) := by decide +kernel
theorem dX7_init_64 : decode cX7_init 64 = .ok (.aload_n 0, 1) := by decide +kernel
theorem dX7_init_65 : decode cX7_init 65 = .ok (.iconst 2, 1) := by decide +kernel
theorem dX7_init_66 : decode cX7_init 66 = .ok (.newarray .int, 2) := by decide +kernel
theorem dX7_init_68 : decode cX7_init 68 = .ok (.putfield 36, 3) := by decide +kernel
theorem dX7_init_71 : decode cX7_init 71 = .ok (.aload_n 0, 1) := by decide +kernel
theorem dX7_init_72 : decode cX7_init 72 = .ok (.iconst 2, 1) := by decide +kernel
theorem dX7_init_73 : decode cX7_init 73 = .ok (.newarray .boolean, 2) := by decide +kernel
theorem dX7_init_75 : decode cX7_init 75 = .ok (.putfield 39, 3) := by decide +kernel
theorem dX7_init_78 : decode cX7_init 78 = .ok (.aload_n 0, 1) := by decide +kernel
theorem dX7_init_79 : decode cX7_init 79 = .ok (.bipush 24, 2) := by decide +kernel
theorem dX7_init_81 : decode cX7_init 81 = .ok (.newarray .int, 2) := by decide +kernel
theorem dX7_init_83 : decode cX7_init 83 = .ok (.putfield 43, 3) := by decide +kernel
theorem dX7_init_86 : decode cX7_init 86 = .ok (.aload_n 0, 1) := by decide +kernel
theorem dX7_init_87 : decode cX7_init 87 = .ok (.bipush 8, 2) := by decide +kernel
theorem dX7_init_89 : decode cX7_init 89 = .ok (.newarray .int, 2) := by decide +kernel
theorem dX7_init_91 : decode cX7_init 91 = .ok (.putfield 46, 3) := by decide +kernel
theorem dX7_init_94 : decode cX7_init 94 = .ok (.aload_n 0, 1) := by decide +kernel
theorem dX7_init_95 : decode cX7_init 95 = .ok (.bipush 8, 2) := by decide +kernel
theorem dX7_init_97 : decode cX7_init 97 = .ok (.newarray .int, 2) := by decide +kernel
theorem dX7_init_99 : decode cX7_init 99 = .ok (.putfield 49, 3) := by decide +kernel
theorem dX7_init_102 : decode cX7_init 102 = .ok (.aload_n 0, 1) := by decide +kernel
theorem dX7_init_103 : decode cX7_init 103 = .ok (.bipush 8, 2) := by decide +kernel
theorem dX7_init_105 : decode cX7_init 105 = .ok (.newarray .int, 2) := by decide +kernel
theorem dX7_init_107 : decode cX7_init 107 = .ok (.putfield 52, 3) := by decide +kernel
theorem dX7_init_110 : decode cX7_init 110 = .ok (.aload_n 0, 1) := by decide +kernel
theorem dX7_init_111 : decode cX7_init 111 = .ok (.sipush 480, 3) := by decide +kernel
theorem dX7_init_114 : decode cX7_init 114 = .ok (.newarray .int, 2) := by decide +kernel
theorem dX7_init_116 : decode cX7_init 116 = .ok (.putfield 55, 3) := by decide +kernel
theorem dX7_init_119 : decode cX7_init 119 = .ok (.aload_n 0, 1) := by decide +kernel
theorem dX7_init_120 : decode cX7_init 120 = .ok (.bipush 60, 2) := by decide +kernel
theorem dX7_init_122 : decode cX7_init 122 = .ok (.newarray .int, 2) := by decide +kernel
theorem dX7_init_124 : decode cX7_init 124 = .ok (.putfield 58, 3) := by decide +kernel
theorem dX7_init_127 : decode cX7_init 127 = .ok (.aload_n 0, 1) := by decide +kernel
theorem dX7_init_128 : decode cX7_init 128 = .ok (.bipush 60, 2) := by decide +kernel
theorem dX7_init_130 : decode cX7_init 130 = .ok (.newarray .int, 2) := by decide +kernel
theorem dX7_init_132 : decode cX7_init 132 = .ok (.putfield 61, 3) := by decide +kernel
theorem dX7_init_135 : decode cX7_init 135 = .ok (.aload_n 0, 1) := by decide +kernel
theorem dX7_init_136 : decode cX7_init 136 = .ok (.bipush 60, 2) := by decide +kernel
theorem dX7_init_138 : decode cX7_init 138 = .ok (.newarray .int, 2) := by decide +kernel
theorem dX7_init_140 : decode cX7_init 140 = .ok (.putfield 64, 3) := by decide +kernel
theorem dX7_init_143 : decode cX7_init 143 = .ok (.aload_n 0, 1) := by decide +kernel
theorem dX7_init_144 : decode cX7_init 144 = .ok (.bipush 60, 2) := by decide +kernel
theorem dX7_init_146 : decode cX7_init 146 = .ok (.newarray .int, 2) := by decide +kernel
theorem dX7_init_148 : decode cX7_init 148 = .ok (.putfield 67, 3) := by decide +kernel
theorem dX7_init_151 : decode cX7_init 151 = .ok (.aload_n 0, 1) := by decide +kernel
theorem dX7_init_152 : decode cX7_init 152 = .ok (.bipush 60, 2) := by decide +kernel
theorem dX7_init_154 : decode cX7_init 154 = .ok (.newarray .int, 2) := by decide +kernel
theorem dX7_init_156 : decode cX7_init 156 = .ok (.putfield 70, 3) := by decide +kernel
theorem dX7_init_159 : decode cX7_init 159 = .ok (.aload_n 0, 1) := by decide +kernel
theorem dX7_init_160 : decode cX7_init 160 = .ok (.sipush 3600, 3) := by decide +kernel
theorem dX7_init_163 : decode cX7_init 163 = .ok (.newarray .int, 2) := by decide +kernel
theorem dX7_init_165 : decode cX7_init 165 = .ok (.putfield 73, 3) := by decide +kernel
theorem dX7_init_168 : decode cX7_init 168 = .ok (.aload_n 0, 1) := by decide +kernel
theorem dX7_init_169 : decode cX7_init 169 = .ok (.iconst 4, 1) := by decide +kernel
theorem dX7_init_170 : decode cX7_init 170 = .ok (.newarray .int, 2) := by decide +kernel
theorem dX7_init_172 : decode cX7_init 172 = .ok (.putfield 76, 3) := by decide +kernel
theorem dX7_init_175 : decode cX7_init 175 = .ok (.aload_n 0, 1) := by decide +kernel
theorem dX7_init_176 : decode cX7_init 176 = .ok (.bipush 62, 2) := by decide +kernel
theorem dX7_init_178 : decode cX7_init 178 = .ok (.newarray .long, 2) := by decide +kernel
theorem dX7_init_180 : decode cX7_init 180 = .ok (.putfield 79, 3) := by decide +kernel
theorem dX7_init_183 : decode cX7_init 183 = .ok (.aload_n 0, 1) := by decide +kernel
theorem dX7_init_184 : decode cX7_init 184 = .ok (.bipush 62, 2) := by decide +kernel
theorem dX7_init_186 : decode cX7_init 186 = .ok (.newarray .long, 2) := by decide +kernel
theorem dX7_init_188 : decode cX7_init 188 = .ok (.putfield 82, 3) := by decide +kernel
theorem dX7_init_191 : decode cX7_init 191 = .ok (.aload_n 0, 1) := by decide +kernel
theorem dX7_init_192 : decode cX7_init 192 = .ok (.sipush 210, 3) := by decide +kernel
theorem dX7_init_195 : decode cX7_init 195 = .ok (.newarray .boolean, 2) := by decide +kernel
theorem dX7_init_197 : decode cX7_init 197 = .ok (.putfield 85, 3) := by decide +kernel
theorem dX7_init_200 : decode cX7_init 200 = .ok (.aload_n 0, 1) := by decide +kernel
theorem dX7_init_201 : decode cX7_init 201 = .ok (.sipush 210, 3) := by decide +kernel
theorem dX7_init_204 : decode cX7_init 204 = .ok (.newarray .boolean, 2) := by decide +kernel
theorem dX7_init_206 : decode cX7_init 206 = .ok (.putfield 88, 3) := by decide +kernel
theorem dX7_init_209 : decode cX7_init 209 = .ok (.iconst 0, 1) := by decide +kernel
theorem dX7_init_210 : decode cX7_init 210 = .ok (.istore_n 1, 1) := by decide +kernel
theorem dX7_init_211 : decode cX7_init 211 = .ok (.iload_n 1, 1) := by decide +kernel
theorem dX7_init_212 : decode cX7_init 212 = .ok (.bipush 60, 2) := by decide +kernel
theorem dX7_init_214 : decode cX7_init 214 = .ok (.if_icmp .gt 79, 3) := by decide +kernel
theorem dX7_init_217 : decode cX7_init 217 = .ok (.iconst 0, 1) := by decide +kernel
theorem dX7_init_218 : decode cX7_init 218 = .ok (.istore_n 2, 1) := by decide +kernel
theorem dX7_init_219 : decode cX7_init 219 = .ok (.iload_n 2, 1) := by decide +kernel
theorem dX7_init_220 : decode cX7_init 220 = .ok (.iload_n 1, 1) := by decide +kernel
theorem dX7_init_221 : decode cX7_init 221 = .ok (.if_icmp .gt 66, 3) := by decide +kernel
theorem dX7_init_224 : decode cX7_init 224 = .ok (.aload_n 0, 1) := by decide +kernel
theorem dX7_init_225 : decode cX7_init 225 = .ok (.getfield 26, 3) := by decide +kernel
theorem dX7_init_228 : decode cX7_init 228 = .ok (.bipush 61, 2) := by decide +kernel
theorem dX7_init_230 : decode cX7_init 230 = .ok (.iload_n 1, 1) := by decide +kernel
theorem dX7_init_231 : decode cX7_init 231 = .ok (.imul, 1) := by decide +kernel
theorem dX7_init_232 : decode cX7_init 232 = .ok (.iload_n 2, 1) := by decide +kernel
theorem dX7_init_233 : decode cX7_init 233 = .ok (.iadd, 1) := by decide +kernel
theorem dX7_init_234 : decode cX7_init 234 = .ok (.iload_n 2, 1) := by decide +kernel
theorem dX7_init_235 : decode cX7_init 235 = .ok (.ifCond .ne 7, 3) := by decide +kernel
theorem dX7_init_238 : decode cX7_init 238 = .ok (.lconst 1, 1) := by decide +kernel
theorem dX7_init_239 : decode cX7_init 239 = .ok (.goto 41, 3) := by decide +kernel
theorem dX7_init_242 : decode cX7_init 242 = .ok (.aload_n 0, 1) := by decide +kernel
theorem dX7_init_243 : decode cX7_init 243 = .ok (.getfield 26, 3) := by decide +kernel
theorem dX7_init_246 : decode cX7_init 246 = .ok (.bipush 61, 2) := by decide +kernel
theorem dX7_init_248 : decode cX7_init 248 = .ok (.iload_n 1, 1) := by decide +kernel
theorem dX7_init_249 : decode cX7_init 249 = .ok (.iconst 1, 1) := by decide +kernel
theorem dX7_init_250 : decode cX7_init 250 = .ok (.isub, 1) := by decide +kernel
theorem dX7_init_251 : decode cX7_init 251 = .ok (.imul, 1) := by decide +kernel
theorem dX7_init_252 : decode cX7_init 252 = .ok (.iload_n 2, 1) := by decide +kernel
theorem dX7_init_253 : decode cX7_init 253 = .ok (.iadd, 1) := by decide +kernel
theorem dX7_init_254 : decode cX7_init 254 = .ok (.iconst 1, 1) := by decide +kernel
theorem dX7_init_255 : decode cX7_init 255 = .ok (.isub, 1) := by decide +kernel
theorem dX7_init_256 : decode cX7_init 256 = .ok (.laload, 1) := by decide +kernel
theorem dX7_init_257 : decode cX7_init 257 = .ok (.iload_n 2, 1) := by decide +kernel
theorem dX7_init_258 : decode cX7_init 258 = .ok (.iload_n 1, 1) := by decide +kernel
theorem dX7_init_259 : decode cX7_init 259 = .ok (.if_icmp .ge 19, 3) := by decide +kernel
theorem dX7_init_262 : decode cX7_init 262 = .ok (.aload_n 0, 1) := by decide +kernel
theorem dX7_init_263 : decode cX7_init 263 = .ok (.getfield 26, 3) := by decide +kernel
theorem dX7_init_266 : decode cX7_init 266 = .ok (.bipush 61, 2) := by decide +kernel
theorem dX7_init_268 : decode cX7_init 268 = .ok (.iload_n 1, 1) := by decide +kernel
theorem dX7_init_269 : decode cX7_init 269 = .ok (.iconst 1, 1) := by decide +kernel
theorem dX7_init_270 : decode cX7_init 270 = .ok (.isub, 1) := by decide +kernel
theorem dX7_init_271 : decode cX7_init 271 = .ok (.imul, 1) := by decide +kernel
theorem dX7_init_272 : decode cX7_init 272 = .ok (.iload_n 2, 1) := by decide +kernel
theorem dX7_init_273 : decode cX7_init 273 = .ok (.iadd, 1) := by decide +kernel
theorem dX7_init_274 : decode cX7_init 274 = .ok (.laload, 1) := by decide +kernel
theorem dX7_init_275 : decode cX7_init 275 = .ok (.goto 4, 3) := by decide +kernel
theorem dX7_init_278 : decode cX7_init 278 = .ok (.lconst 0, 1) := by decide +kernel
theorem dX7_init_279 : decode cX7_init 279 = .ok (.ladd, 1) := by decide +kernel
theorem dX7_init_280 : decode cX7_init 280 = .ok (.lastore, 1) := by decide +kernel
theorem dX7_init_281 : decode cX7_init 281 = .ok (.iinc 2 1, 3) := by decide +kernel
theorem dX7_init_284 : decode cX7_init 284 = .ok (.goto (-65), 3) := by decide +kernel
theorem dX7_init_287 : decode cX7_init 287 = .ok (.iinc 1 1, 3) := by decide +kernel
theorem dX7_init_290 : decode cX7_init 290 = .ok (.goto (-79), 3) := by decide +kernel
theorem dX7_init_293 : decode cX7_init 293 = .ok (.return_, 1) := by decide +kernel
theorem dX7_in_0 : decode cX7_in 0 = .ok (.iload_n 0, 1) := by decide +kernel
theorem dX7_in_1 : decode cX7_in 1 = .ok (.iload_n 1, 1) := by decide +kernel
theorem dX7_in_2 : decode cX7_in 2 = .ok (.if_icmp .lt 12, 3) := by decide +kernel
theorem dX7_in_5 : decode cX7_in 5 = .ok (.iload_n 0, 1) := by decide +kernel
theorem dX7_in_6 : decode cX7_in 6 = .ok (.iload_n 2, 1) := by decide +kernel
theorem dX7_in_7 : decode cX7_in 7 = .ok (.if_icmp .gt 7, 3) := by decide +kernel
theorem dX7_in_10 : decode cX7_in 10 = .ok (.iconst 1, 1) := by decide +kernel
theorem dX7_in_11 : decode cX7_in 11 = .ok (.goto 4, 3) := by decide +kernel
theorem dX7_in_14 : decode cX7_in 14 = .ok (.iconst 0, 1) := by decide +kernel
theorem dX7_in_15 : decode cX7_in 15 = .ok (.ireturn, 1) := by decide +kernel
theorem dX7_ways_0 : decode cX7_ways 0 = .ok (.iload_n 2, 1) := by decide +kernel
theorem dX7_ways_1 : decode cX7_ways 1 = .ok (.ifCond .lt 8, 3) := by decide +kernel
theorem dX7_ways_4 : decode cX7_ways 4 = .ok (.iload_n 2, 1) := by decide +kernel
theorem dX7_ways_5 : decode cX7_ways 5 = .ok (.iload_n 1, 1) := by decide +kernel
theorem dX7_ways_6 : decode cX7_ways 6 = .ok (.if_icmp .le 7, 3) := by decide +kernel
theorem dX7_ways_9 : decode cX7_ways 9 = .ok (.lconst 0, 1) := by decide +kernel
theorem dX7_ways_10 : decode cX7_ways 10 = .ok (.goto 14, 3) := by decide +kernel
theorem dX7_ways_13 : decode cX7_ways 13 = .ok (.aload_n 0, 1) := by decide +kernel
theorem dX7_ways_14 : decode cX7_ways 14 = .ok (.getfield 26, 3) := by decide +kernel
theorem dX7_ways_17 : decode cX7_ways 17 = .ok (.bipush 61, 2) := by decide +kernel
theorem dX7_ways_19 : decode cX7_ways 19 = .ok (.iload_n 1, 1) := by decide +kernel
theorem dX7_ways_20 : decode cX7_ways 20 = .ok (.imul, 1) := by decide +kernel
theorem dX7_ways_21 : decode cX7_ways 21 = .ok (.iload_n 2, 1) := by decide +kernel
theorem dX7_ways_22 : decode cX7_ways 22 = .ok (.iadd, 1) := by decide +kernel
theorem dX7_ways_23 : decode cX7_ways 23 = .ok (.laload, 1) := by decide +kernel
theorem dX7_ways_24 : decode cX7_ways 24 = .ok (.lreturn, 1) := by decide +kernel
theorem dX7_isPlan_0 : decode cX7_isPlan 0 = .ok (.iload_n 1, 1) := by decide +kernel
theorem dX7_isPlan_1 : decode cX7_isPlan 1 = .ok (.iconst 0, 1) := by decide +kernel
theorem dX7_isPlan_2 : decode cX7_isPlan 2 = .ok (.aload_n 0, 1) := by decide +kernel
theorem dX7_isPlan_3 : decode cX7_isPlan 3 = .ok (.getfield 91, 3) := by decide +kernel
theorem dX7_isPlan_6 : decode cX7_isPlan 6 = .ok (.iconst 1, 1) := by decide +kernel
theorem dX7_isPlan_7 : decode cX7_isPlan 7 = .ok (.isub, 1) := by decide +kernel
theorem dX7_isPlan_8 : decode cX7_isPlan 8 = .ok (.invokestatic 95, 3) := by decide +kernel
theorem dX7_isPlan_11 : decode cX7_isPlan 11 = .ok (.ireturn, 1) := by decide +kernel
theorem dX7_isClosed_0 : decode cX7_isClosed 0 = .ok (.aload_n 0, 1) := by decide +kernel
theorem dX7_isClosed_1 : decode cX7_isClosed 1 = .ok (.iload_n 1, 1) := by decide +kernel
theorem dX7_isClosed_2 : decode cX7_isClosed 2 = .ok (.invokevirtual 99, 3) := by decide +kernel
theorem dX7_isClosed_5 : decode cX7_isClosed 5 = .ok (.ifCond .eq 55, 3) := by decide +kernel
theorem dX7_isClosed_8 : decode cX7_isClosed 8 = .ok (.aload_n 0, 1) := by decide +kernel
theorem dX7_isClosed_9 : decode cX7_isClosed 9 = .ok (.getfield 7, 3) := by decide +kernel
theorem dX7_isClosed_12 : decode cX7_isClosed 12 = .ok (.iload_n 1, 1) := by decide +kernel
theorem dX7_isClosed_13 : decode cX7_isClosed 13 = .ok (.iaload, 1) := by decide +kernel
theorem dX7_isClosed_14 : decode cX7_isClosed 14 = .ok (.ifCond .le 46, 3) := by decide +kernel
theorem dX7_isClosed_17 : decode cX7_isClosed 17 = .ok (.aload_n 0, 1) := by decide +kernel
theorem dX7_isClosed_18 : decode cX7_isClosed 18 = .ok (.getfield 19, 3) := by decide +kernel
theorem dX7_isClosed_21 : decode cX7_isClosed 21 = .ok (.iconst 4, 1) := by decide +kernel
theorem dX7_isClosed_22 : decode cX7_isClosed 22 = .ok (.iload_n 1, 1) := by decide +kernel
theorem dX7_isClosed_23 : decode cX7_isClosed 23 = .ok (.imul, 1) := by decide +kernel
theorem dX7_isClosed_24 : decode cX7_isClosed 24 = .ok (.aload_n 0, 1) := by decide +kernel
theorem dX7_isClosed_25 : decode cX7_isClosed 25 = .ok (.getfield 7, 3) := by decide +kernel
theorem dX7_isClosed_28 : decode cX7_isClosed 28 = .ok (.iload_n 1, 1) := by decide +kernel
theorem dX7_isClosed_29 : decode cX7_isClosed 29 = .ok (.iaload, 1) := by decide +kernel
theorem dX7_isClosed_30 : decode cX7_isClosed 30 = .ok (.iadd, 1) := by decide +kernel
theorem dX7_isClosed_31 : decode cX7_isClosed 31 = .ok (.iconst 1, 1) := by decide +kernel
theorem dX7_isClosed_32 : decode cX7_isClosed 32 = .ok (.isub, 1) := by decide +kernel
theorem dX7_isClosed_33 : decode cX7_isClosed 33 = .ok (.iaload, 1) := by decide +kernel
theorem dX7_isClosed_34 : decode cX7_isClosed 34 = .ok (.aload_n 0, 1) := by decide +kernel
theorem dX7_isClosed_35 : decode cX7_isClosed 35 = .ok (.getfield 16, 3) := by decide +kernel
theorem dX7_isClosed_38 : decode cX7_isClosed 38 = .ok (.iconst 4, 1) := by decide +kernel
theorem dX7_isClosed_39 : decode cX7_isClosed 39 = .ok (.iload_n 1, 1) := by decide +kernel
theorem dX7_isClosed_40 : decode cX7_isClosed 40 = .ok (.imul, 1) := by decide +kernel
theorem dX7_isClosed_41 : decode cX7_isClosed 41 = .ok (.aload_n 0, 1) := by decide +kernel
theorem dX7_isClosed_42 : decode cX7_isClosed 42 = .ok (.getfield 7, 3) := by decide +kernel
theorem dX7_isClosed_45 : decode cX7_isClosed 45 = .ok (.iload_n 1, 1) := by decide +kernel
theorem dX7_isClosed_46 : decode cX7_isClosed 46 = .ok (.iaload, 1) := by decide +kernel
theorem dX7_isClosed_47 : decode cX7_isClosed 47 = .ok (.iadd, 1) := by decide +kernel
theorem dX7_isClosed_48 : decode cX7_isClosed 48 = .ok (.iconst 1, 1) := by decide +kernel
theorem dX7_isClosed_49 : decode cX7_isClosed 49 = .ok (.isub, 1) := by decide +kernel
theorem dX7_isClosed_50 : decode cX7_isClosed 50 = .ok (.iaload, 1) := by decide +kernel
theorem dX7_isClosed_51 : decode cX7_isClosed 51 = .ok (.iconst 1, 1) := by decide +kernel
theorem dX7_isClosed_52 : decode cX7_isClosed 52 = .ok (.iadd, 1) := by decide +kernel
theorem dX7_isClosed_53 : decode cX7_isClosed 53 = .ok (.if_icmp .ne 7, 3) := by decide +kernel
theorem dX7_isClosed_56 : decode cX7_isClosed 56 = .ok (.iconst 1, 1) := by decide +kernel
theorem dX7_isClosed_57 : decode cX7_isClosed 57 = .ok (.goto 4, 3) := by decide +kernel
theorem dX7_isClosed_60 : decode cX7_isClosed 60 = .ok (.iconst 0, 1) := by decide +kernel
theorem dX7_isClosed_61 : decode cX7_isClosed 61 = .ok (.ireturn, 1) := by decide +kernel
theorem dX7_upTo_0 : decode cX7_upTo 0 = .ok (.iconst 0, 1) := by decide +kernel
theorem dX7_upTo_1 : decode cX7_upTo 1 = .ok (.istore_n 3, 1) := by decide +kernel
theorem dX7_upTo_2 : decode cX7_upTo 2 = .ok (.iconst 0, 1) := by decide +kernel
theorem dX7_upTo_3 : decode cX7_upTo 3 = .ok (.istore 4, 2) := by decide +kernel
theorem dX7_upTo_5 : decode cX7_upTo 5 = .ok (.iload 4, 2) := by decide +kernel
theorem dX7_upTo_7 : decode cX7_upTo 7 = .ok (.iload_n 2, 1) := by decide +kernel
theorem dX7_upTo_8 : decode cX7_upTo 8 = .ok (.if_icmp .gt 23, 3) := by decide +kernel
theorem dX7_upTo_11 : decode cX7_upTo 11 = .ok (.iload_n 3, 1) := by decide +kernel
theorem dX7_upTo_12 : decode cX7_upTo 12 = .ok (.aload_n 0, 1) := by decide +kernel
theorem dX7_upTo_13 : decode cX7_upTo 13 = .ok (.getfield 13, 3) := by decide +kernel
theorem dX7_upTo_16 : decode cX7_upTo 16 = .ok (.iconst 4, 1) := by decide +kernel
theorem dX7_upTo_17 : decode cX7_upTo 17 = .ok (.iload_n 1, 1) := by decide +kernel
theorem dX7_upTo_18 : decode cX7_upTo 18 = .ok (.imul, 1) := by decide +kernel
theorem dX7_upTo_19 : decode cX7_upTo 19 = .ok (.iload 4, 2) := by decide +kernel
theorem dX7_upTo_21 : decode cX7_upTo 21 = .ok (.iadd, 1) := by decide +kernel
theorem dX7_upTo_22 : decode cX7_upTo 22 = .ok (.iaload, 1) := by decide +kernel
theorem dX7_upTo_23 : decode cX7_upTo 23 = .ok (.iadd, 1) := by decide +kernel
theorem dX7_upTo_24 : decode cX7_upTo 24 = .ok (.istore_n 3, 1) := by decide +kernel
theorem dX7_upTo_25 : decode cX7_upTo 25 = .ok (.iinc 4 1, 3) := by decide +kernel
theorem dX7_upTo_28 : decode cX7_upTo 28 = .ok (.goto (-23), 3) := by decide +kernel
theorem dX7_upTo_31 : decode cX7_upTo 31 = .ok (.iload_n 3, 1) := by decide +kernel
theorem dX7_upTo_32 : decode cX7_upTo 32 = .ok (.ireturn, 1) := by decide +kernel
theorem dX7_all_0 : decode cX7_all 0 = .ok (.aload_n 0, 1) := by decide +kernel
theorem dX7_all_1 : decode cX7_all 1 = .ok (.iload_n 1, 1) := by decide +kernel
theorem dX7_all_2 : decode cX7_all 2 = .ok (.aload_n 0, 1) := by decide +kernel
theorem dX7_all_3 : decode cX7_all 3 = .ok (.getfield 7, 3) := by decide +kernel
theorem dX7_all_6 : decode cX7_all 6 = .ok (.iload_n 1, 1) := by decide +kernel
theorem dX7_all_7 : decode cX7_all 7 = .ok (.iaload, 1) := by decide +kernel
theorem dX7_all_8 : decode cX7_all 8 = .ok (.iconst 1, 1) := by decide +kernel
theorem dX7_all_9 : decode cX7_all 9 = .ok (.isub, 1) := by decide +kernel
theorem dX7_all_10 : decode cX7_all 10 = .ok (.invokevirtual 103, 3) := by decide +kernel
theorem dX7_all_13 : decode cX7_all 13 = .ok (.ireturn, 1) := by decide +kernel
theorem dX7_plan_0 : decode cX7_plan 0 = .ok (.aload_n 0, 1) := by decide +kernel
theorem dX7_plan_1 : decode cX7_plan 1 = .ok (.getfield 91, 3) := by decide +kernel
theorem dX7_plan_4 : decode cX7_plan 4 = .ok (.bipush 24, 2) := by decide +kernel
theorem dX7_plan_6 : decode cX7_plan 6 = .ok (.if_icmp .ne 6, 3) := by decide +kernel
theorem dX7_plan_9 : decode cX7_plan 9 = .ok (.bipush (-2), 2) := by decide +kernel
theorem dX7_plan_11 : decode cX7_plan 11 = .ok (.ireturn, 1) := by decide +kernel
theorem dX7_plan_12 : decode cX7_plan 12 = .ok (.aload_n 0, 1) := by decide +kernel
theorem dX7_plan_13 : decode cX7_plan 13 = .ok (.getfield 7, 3) := by decide +kernel
theorem dX7_plan_16 : decode cX7_plan 16 = .ok (.aload_n 0, 1) := by decide +kernel
theorem dX7_plan_17 : decode cX7_plan 17 = .ok (.getfield 91, 3) := by decide +kernel
theorem dX7_plan_20 : decode cX7_plan 20 = .ok (.iconst 0, 1) := by decide +kernel
theorem dX7_plan_21 : decode cX7_plan 21 = .ok (.iastore, 1) := by decide +kernel
theorem dX7_plan_22 : decode cX7_plan 22 = .ok (.aload_n 0, 1) := by decide +kernel
theorem dX7_plan_23 : decode cX7_plan 23 = .ok (.dup, 1) := by decide +kernel
theorem dX7_plan_24 : decode cX7_plan 24 = .ok (.getfield 91, 3) := by decide +kernel
theorem dX7_plan_27 : decode cX7_plan 27 = .ok (.iconst 1, 1) := by decide +kernel
theorem dX7_plan_28 : decode cX7_plan 28 = .ok (.iadd, 1) := by decide +kernel
theorem dX7_plan_29 : decode cX7_plan 29 = .ok (.putfield 91, 3) := by decide +kernel
theorem dX7_plan_32 : decode cX7_plan 32 = .ok (.aload_n 0, 1) := by decide +kernel
theorem dX7_plan_33 : decode cX7_plan 33 = .ok (.getfield 91, 3) := by decide +kernel
theorem dX7_plan_36 : decode cX7_plan 36 = .ok (.iconst 1, 1) := by decide +kernel
theorem dX7_plan_37 : decode cX7_plan 37 = .ok (.isub, 1) := by decide +kernel
theorem dX7_plan_38 : decode cX7_plan 38 = .ok (.ireturn, 1) := by decide +kernel
theorem dX7_stage_0 : decode cX7_stage 0 = .ok (.aload_n 0, 1) := by decide +kernel
theorem dX7_stage_1 : decode cX7_stage 1 = .ok (.iload_n 1, 1) := by decide +kernel
theorem dX7_stage_2 : decode cX7_stage 2 = .ok (.invokevirtual 99, 3) := by decide +kernel
theorem dX7_stage_5 : decode cX7_stage 5 = .ok (.ifCond .eq 42, 3) := by decide +kernel
theorem dX7_stage_8 : decode cX7_stage 8 = .ok (.aload_n 0, 1) := by decide +kernel
theorem dX7_stage_9 : decode cX7_stage 9 = .ok (.iload_n 1, 1) := by decide +kernel
theorem dX7_stage_10 : decode cX7_stage 10 = .ok (.invokevirtual 107, 3) := by decide +kernel
theorem dX7_stage_13 : decode cX7_stage 13 = .ok (.ifCond .ne 34, 3) := by decide +kernel
theorem dX7_stage_16 : decode cX7_stage 16 = .ok (.aload_n 0, 1) := by decide +kernel
theorem dX7_stage_17 : decode cX7_stage 17 = .ok (.getfield 7, 3) := by decide +kernel
theorem dX7_stage_20 : decode cX7_stage 20 = .ok (.iload_n 1, 1) := by decide +kernel
theorem dX7_stage_21 : decode cX7_stage 21 = .ok (.iaload, 1) := by decide +kernel
theorem dX7_stage_22 : decode cX7_stage 22 = .ok (.iconst 4, 1) := by decide +kernel
theorem dX7_stage_23 : decode cX7_stage 23 = .ok (.if_icmp .eq 24, 3) := by decide +kernel
theorem dX7_stage_26 : decode cX7_stage 26 = .ok (.aload_n 0, 1) := by decide +kernel
theorem dX7_stage_27 : decode cX7_stage 27 = .ok (.getfield 7, 3) := by decide +kernel
theorem dX7_stage_30 : decode cX7_stage 30 = .ok (.iload_n 1, 1) := by decide +kernel
theorem dX7_stage_31 : decode cX7_stage 31 = .ok (.iaload, 1) := by decide +kernel
theorem dX7_stage_32 : decode cX7_stage 32 = .ok (.iconst 3, 1) := by decide +kernel
theorem dX7_stage_33 : decode cX7_stage 33 = .ok (.if_icmp .ne 17, 3) := by decide +kernel
theorem dX7_stage_36 : decode cX7_stage 36 = .ok (.iload 4, 2) := by decide +kernel
theorem dX7_stage_38 : decode cX7_stage 38 = .ok (.i2l, 1) := by decide +kernel
theorem dX7_stage_39 : decode cX7_stage 39 = .ok (.iload_n 3, 1) := by decide +kernel
theorem dX7_stage_40 : decode cX7_stage 40 = .ok (.i2l, 1) := by decide +kernel
theorem dX7_stage_41 : decode cX7_stage 41 = .ok (.lconst 1, 1) := by decide +kernel
theorem dX7_stage_42 : decode cX7_stage 42 = .ok (.ladd, 1) := by decide +kernel
theorem dX7_stage_43 : decode cX7_stage 43 = .ok (.lcmp, 1) := by decide +kernel
theorem dX7_stage_44 : decode cX7_stage 44 = .ok (.ifCond .eq 6, 3) := by decide +kernel
theorem dX7_stage_47 : decode cX7_stage 47 = .ok (.bipush (-2), 2) := by decide +kernel
theorem dX7_stage_49 : decode cX7_stage 49 = .ok (.ireturn, 1) := by decide +kernel
theorem dX7_stage_50 : decode cX7_stage 50 = .ok (.iload_n 2, 1) := by decide +kernel
theorem dX7_stage_51 : decode cX7_stage 51 = .ok (.iconst 1, 1) := by decide +kernel
theorem dX7_stage_52 : decode cX7_stage 52 = .ok (.bipush 60, 2) := by decide +kernel
theorem dX7_stage_54 : decode cX7_stage 54 = .ok (.invokestatic 95, 3) := by decide +kernel
theorem dX7_stage_57 : decode cX7_stage 57 = .ok (.ifCond .eq 38, 3) := by decide +kernel
theorem dX7_stage_60 : decode cX7_stage 60 = .ok (.iload_n 3, 1) := by decide +kernel
theorem dX7_stage_61 : decode cX7_stage 61 = .ok (.iconst (-1), 1) := by decide +kernel
theorem dX7_stage_62 : decode cX7_stage 62 = .ok (.bipush 60, 2) := by decide +kernel
theorem dX7_stage_64 : decode cX7_stage 64 = .ok (.invokestatic 95, 3) := by decide +kernel
theorem dX7_stage_67 : decode cX7_stage 67 = .ok (.ifCond .eq 28, 3) := by decide +kernel
theorem dX7_stage_70 : decode cX7_stage 70 = .ok (.iload 4, 2) := by decide +kernel
theorem dX7_stage_72 : decode cX7_stage 72 = .ok (.iload_n 3, 1) := by decide +kernel
theorem dX7_stage_73 : decode cX7_stage 73 = .ok (.if_icmp .le 22, 3) := by decide +kernel
theorem dX7_stage_76 : decode cX7_stage 76 = .ok (.iload 4, 2) := by decide +kernel
theorem dX7_stage_78 : decode cX7_stage 78 = .ok (.bipush 61, 2) := by decide +kernel
theorem dX7_stage_80 : decode cX7_stage 80 = .ok (.if_icmp .gt 15, 3) := by decide +kernel
theorem dX7_stage_83 : decode cX7_stage 83 = .ok (.aload_n 0, 1) := by decide +kernel
theorem dX7_stage_84 : decode cX7_stage 84 = .ok (.iload_n 1, 1) := by decide +kernel
theorem dX7_stage_85 : decode cX7_stage 85 = .ok (.invokevirtual 110, 3) := by decide +kernel
theorem dX7_stage_88 : decode cX7_stage 88 = .ok (.iload_n 2, 1) := by decide +kernel
theorem dX7_stage_89 : decode cX7_stage 89 = .ok (.iadd, 1) := by decide +kernel
theorem dX7_stage_90 : decode cX7_stage 90 = .ok (.bipush 60, 2) := by decide +kernel
theorem dX7_stage_92 : decode cX7_stage 92 = .ok (.if_icmp .le 6, 3) := by decide +kernel
theorem dX7_stage_95 : decode cX7_stage 95 = .ok (.bipush (-2), 2) := by decide +kernel
theorem dX7_stage_97 : decode cX7_stage 97 = .ok (.ireturn, 1) := by decide +kernel
theorem dX7_stage_98 : decode cX7_stage 98 = .ok (.iconst 4, 1) := by decide +kernel
theorem dX7_stage_99 : decode cX7_stage 99 = .ok (.iload_n 1, 1) := by decide +kernel
theorem dX7_stage_100 : decode cX7_stage 100 = .ok (.imul, 1) := by decide +kernel
theorem dX7_stage_101 : decode cX7_stage 101 = .ok (.aload_n 0, 1) := by decide +kernel
theorem dX7_stage_102 : decode cX7_stage 102 = .ok (.getfield 7, 3) := by decide +kernel
theorem dX7_stage_105 : decode cX7_stage 105 = .ok (.iload_n 1, 1) := by decide +kernel
theorem dX7_stage_106 : decode cX7_stage 106 = .ok (.iaload, 1) := by decide +kernel
theorem dX7_stage_107 : decode cX7_stage 107 = .ok (.iadd, 1) := by decide +kernel
theorem dX7_stage_108 : decode cX7_stage 108 = .ok (.istore 5, 2) := by decide +kernel
theorem dX7_stage_110 : decode cX7_stage 110 = .ok (.aload_n 0, 1) := by decide +kernel
theorem dX7_stage_111 : decode cX7_stage 111 = .ok (.getfield 13, 3) := by decide +kernel
theorem dX7_stage_114 : decode cX7_stage 114 = .ok (.iload 5, 2) := by decide +kernel
theorem dX7_stage_116 : decode cX7_stage 116 = .ok (.iload_n 2, 1) := by decide +kernel
theorem dX7_stage_117 : decode cX7_stage 117 = .ok (.iastore, 1) := by decide +kernel
theorem dX7_stage_118 : decode cX7_stage 118 = .ok (.aload_n 0, 1) := by decide +kernel
theorem dX7_stage_119 : decode cX7_stage 119 = .ok (.getfield 16, 3) := by decide +kernel
theorem dX7_stage_122 : decode cX7_stage 122 = .ok (.iload 5, 2) := by decide +kernel
theorem dX7_stage_124 : decode cX7_stage 124 = .ok (.iload_n 3, 1) := by decide +kernel
theorem dX7_stage_125 : decode cX7_stage 125 = .ok (.iastore, 1) := by decide +kernel
theorem dX7_stage_126 : decode cX7_stage 126 = .ok (.aload_n 0, 1) := by decide +kernel
theorem dX7_stage_127 : decode cX7_stage 127 = .ok (.getfield 19, 3) := by decide +kernel
theorem dX7_stage_130 : decode cX7_stage 130 = .ok (.iload 5, 2) := by decide +kernel
theorem dX7_stage_132 : decode cX7_stage 132 = .ok (.iload 4, 2) := by decide +kernel
theorem dX7_stage_134 : decode cX7_stage 134 = .ok (.iastore, 1) := by decide +kernel
theorem dX7_stage_135 : decode cX7_stage 135 = .ok (.aload_n 0, 1) := by decide +kernel
theorem dX7_stage_136 : decode cX7_stage 136 = .ok (.getfield 7, 3) := by decide +kernel
theorem dX7_stage_139 : decode cX7_stage 139 = .ok (.iload_n 1, 1) := by decide +kernel
theorem dX7_stage_140 : decode cX7_stage 140 = .ok (.dup2, 1) := by decide +kernel
theorem dX7_stage_141 : decode cX7_stage 141 = .ok (.iaload, 1) := by decide +kernel
theorem dX7_stage_142 : decode cX7_stage 142 = .ok (.iconst 1, 1) := by decide +kernel
theorem dX7_stage_143 : decode cX7_stage 143 = .ok (.iadd, 1) := by decide +kernel
theorem dX7_stage_144 : decode cX7_stage 144 = .ok (.iastore, 1) := by decide +kernel
theorem dX7_stage_145 : decode cX7_stage 145 = .ok (.aload_n 0, 1) := by decide +kernel
theorem dX7_stage_146 : decode cX7_stage 146 = .ok (.getfield 7, 3) := by decide +kernel
theorem dX7_stage_149 : decode cX7_stage 149 = .ok (.iload_n 1, 1) := by decide +kernel
theorem dX7_stage_150 : decode cX7_stage 150 = .ok (.iaload, 1) := by decide +kernel
theorem dX7_stage_151 : decode cX7_stage 151 = .ok (.ireturn, 1) := by decide +kernel
theorem dX7_of_0 : decode cX7_of 0 = .ok (.aload_n 0, 1) := by decide +kernel
theorem dX7_of_1 : decode cX7_of 1 = .ok (.iload_n 1, 1) := by decide +kernel
theorem dX7_of_2 : decode cX7_of 2 = .ok (.invokevirtual 99, 3) := by decide +kernel
theorem dX7_of_5 : decode cX7_of 5 = .ok (.ifCond .eq 19, 3) := by decide +kernel
theorem dX7_of_8 : decode cX7_of 8 = .ok (.iload_n 2, 1) := by decide +kernel
theorem dX7_of_9 : decode cX7_of 9 = .ok (.iconst 0, 1) := by decide +kernel
theorem dX7_of_10 : decode cX7_of 10 = .ok (.aload_n 0, 1) := by decide +kernel
theorem dX7_of_11 : decode cX7_of 11 = .ok (.getfield 7, 3) := by decide +kernel
theorem dX7_of_14 : decode cX7_of 14 = .ok (.iload_n 1, 1) := by decide +kernel
theorem dX7_of_15 : decode cX7_of 15 = .ok (.iaload, 1) := by decide +kernel
theorem dX7_of_16 : decode cX7_of 16 = .ok (.iconst 1, 1) := by decide +kernel
theorem dX7_of_17 : decode cX7_of 17 = .ok (.isub, 1) := by decide +kernel
theorem dX7_of_18 : decode cX7_of 18 = .ok (.invokestatic 95, 3) := by decide +kernel
theorem dX7_of_21 : decode cX7_of 21 = .ok (.ifCond .ne 6, 3) := by decide +kernel
theorem dX7_of_24 : decode cX7_of 24 = .ok (.bipush (-2), 2) := by decide +kernel
theorem dX7_of_26 : decode cX7_of 26 = .ok (.ireturn, 1) := by decide +kernel
theorem dX7_of_27 : decode cX7_of 27 = .ok (.iload_n 3, 1) := by decide +kernel
theorem dX7_of_28 : decode cX7_of 28 = .ok (.ifCond .ne 16, 3) := by decide +kernel
theorem dX7_of_31 : decode cX7_of 31 = .ok (.aload_n 0, 1) := by decide +kernel
theorem dX7_of_32 : decode cX7_of 32 = .ok (.getfield 13, 3) := by decide +kernel
theorem dX7_of_35 : decode cX7_of 35 = .ok (.iconst 4, 1) := by decide +kernel
theorem dX7_of_36 : decode cX7_of 36 = .ok (.iload_n 1, 1) := by decide +kernel
theorem dX7_of_37 : decode cX7_of 37 = .ok (.imul, 1) := by decide +kernel
theorem dX7_of_38 : decode cX7_of 38 = .ok (.iload_n 2, 1) := by decide +kernel
theorem dX7_of_39 : decode cX7_of 39 = .ok (.iadd, 1) := by decide +kernel
theorem dX7_of_40 : decode cX7_of 40 = .ok (.iaload, 1) := by decide +kernel
theorem dX7_of_41 : decode cX7_of 41 = .ok (.goto 41, 3) := by decide +kernel
theorem dX7_of_44 : decode cX7_of 44 = .ok (.iload_n 3, 1) := by decide +kernel
theorem dX7_of_45 : decode cX7_of 45 = .ok (.iconst 1, 1) := by decide +kernel
theorem dX7_of_46 : decode cX7_of 46 = .ok (.if_icmp .ne 16, 3) := by decide +kernel
theorem dX7_of_49 : decode cX7_of 49 = .ok (.aload_n 0, 1) := by decide +kernel
theorem dX7_of_50 : decode cX7_of 50 = .ok (.getfield 16, 3) := by decide +kernel
theorem dX7_of_53 : decode cX7_of 53 = .ok (.iconst 4, 1) := by decide +kernel
theorem dX7_of_54 : decode cX7_of 54 = .ok (.iload_n 1, 1) := by decide +kernel
theorem dX7_of_55 : decode cX7_of 55 = .ok (.imul, 1) := by decide +kernel
theorem dX7_of_56 : decode cX7_of 56 = .ok (.iload_n 2, 1) := by decide +kernel
theorem dX7_of_57 : decode cX7_of 57 = .ok (.iadd, 1) := by decide +kernel
theorem dX7_of_58 : decode cX7_of 58 = .ok (.iaload, 1) := by decide +kernel
theorem dX7_of_59 : decode cX7_of 59 = .ok (.goto 23, 3) := by decide +kernel
theorem dX7_of_62 : decode cX7_of 62 = .ok (.iload_n 3, 1) := by decide +kernel
theorem dX7_of_63 : decode cX7_of 63 = .ok (.iconst 2, 1) := by decide +kernel
theorem dX7_of_64 : decode cX7_of 64 = .ok (.if_icmp .ne 16, 3) := by decide +kernel
theorem dX7_of_67 : decode cX7_of 67 = .ok (.aload_n 0, 1) := by decide +kernel
theorem dX7_of_68 : decode cX7_of 68 = .ok (.getfield 19, 3) := by decide +kernel
theorem dX7_of_71 : decode cX7_of 71 = .ok (.iconst 4, 1) := by decide +kernel
theorem dX7_of_72 : decode cX7_of 72 = .ok (.iload_n 1, 1) := by decide +kernel
theorem dX7_of_73 : decode cX7_of 73 = .ok (.imul, 1) := by decide +kernel
theorem dX7_of_74 : decode cX7_of 74 = .ok (.iload_n 2, 1) := by decide +kernel
theorem dX7_of_75 : decode cX7_of 75 = .ok (.iadd, 1) := by decide +kernel
theorem dX7_of_76 : decode cX7_of 76 = .ok (.iaload, 1) := by decide +kernel
theorem dX7_of_77 : decode cX7_of 77 = .ok (.goto 5, 3) := by decide +kernel
theorem dX7_of_80 : decode cX7_of 80 = .ok (.bipush (-2), 2) := by decide +kernel
theorem dX7_of_82 : decode cX7_of 82 = .ok (.ireturn, 1) := by decide +kernel
theorem dX7_go_0 : decode cX7_go 0 = .ok (.aload_n 0, 1) := by decide +kernel
theorem dX7_go_1 : decode cX7_go 1 = .ok (.lconst 0, 1) := by decide +kernel
theorem dX7_go_2 : decode cX7_go 2 = .ok (.putfield 114, 3) := by decide +kernel
theorem dX7_go_5 : decode cX7_go 5 = .ok (.aload_n 0, 1) := by decide +kernel
theorem dX7_go_6 : decode cX7_go 6 = .ok (.lconst 0, 1) := by decide +kernel
theorem dX7_go_7 : decode cX7_go 7 = .ok (.putfield 117, 3) := by decide +kernel
theorem dX7_go_10 : decode cX7_go 10 = .ok (.aload_n 0, 1) := by decide +kernel
theorem dX7_go_11 : decode cX7_go 11 = .ok (.lconst 0, 1) := by decide +kernel
theorem dX7_go_12 : decode cX7_go 12 = .ok (.putfield 120, 3) := by decide +kernel
theorem dX7_go_15 : decode cX7_go 15 = .ok (.iconst 0, 1) := by decide +kernel
theorem dX7_go_16 : decode cX7_go 16 = .ok (.istore 4, 2) := by decide +kernel
theorem dX7_go_18 : decode cX7_go 18 = .ok (.iload 4, 2) := by decide +kernel
theorem dX7_go_20 : decode cX7_go 20 = .ok (.bipush 62, 2) := by decide +kernel
theorem dX7_go_22 : decode cX7_go 22 = .ok (.if_icmp .ge 17, 3) := by decide +kernel
theorem dX7_go_25 : decode cX7_go 25 = .ok (.aload_n 0, 1) := by decide +kernel
theorem dX7_go_26 : decode cX7_go 26 = .ok (.getfield 79, 3) := by decide +kernel
theorem dX7_go_29 : decode cX7_go 29 = .ok (.iload 4, 2) := by decide +kernel
theorem dX7_go_31 : decode cX7_go 31 = .ok (.lconst 0, 1) := by decide +kernel
theorem dX7_go_32 : decode cX7_go 32 = .ok (.lastore, 1) := by decide +kernel
theorem dX7_go_33 : decode cX7_go 33 = .ok (.iinc 4 1, 3) := by decide +kernel
theorem dX7_go_36 : decode cX7_go 36 = .ok (.goto (-18), 3) := by decide +kernel
theorem dX7_go_39 : decode cX7_go 39 = .ok (.aload_n 0, 1) := by decide +kernel
theorem dX7_go_40 : decode cX7_go 40 = .ok (.getfield 79, 3) := by decide +kernel
theorem dX7_go_43 : decode cX7_go 43 = .ok (.iconst 0, 1) := by decide +kernel
theorem dX7_go_44 : decode cX7_go 44 = .ok (.lconst 1, 1) := by decide +kernel
theorem dX7_go_45 : decode cX7_go 45 = .ok (.lastore, 1) := by decide +kernel
theorem dX7_go_46 : decode cX7_go 46 = .ok (.iconst 0, 1) := by decide +kernel
theorem dX7_go_47 : decode cX7_go 47 = .ok (.istore 4, 2) := by decide +kernel
theorem dX7_go_49 : decode cX7_go 49 = .ok (.aload_n 0, 1) := by decide +kernel
theorem dX7_go_50 : decode cX7_go 50 = .ok (.iload_n 1, 1) := by decide +kernel
theorem dX7_go_51 : decode cX7_go 51 = .ok (.invokevirtual 110, 3) := by decide +kernel
theorem dX7_go_54 : decode cX7_go 54 = .ok (.istore 5, 2) := by decide +kernel
theorem dX7_go_56 : decode cX7_go 56 = .ok (.iconst 1, 1) := by decide +kernel
theorem dX7_go_57 : decode cX7_go 57 = .ok (.istore 6, 2) := by decide +kernel
theorem dX7_go_59 : decode cX7_go 59 = .ok (.iload 6, 2) := by decide +kernel
theorem dX7_go_61 : decode cX7_go 61 = .ok (.iload 5, 2) := by decide +kernel
theorem dX7_go_63 : decode cX7_go 63 = .ok (.if_icmp .gt 284, 3) := by decide +kernel
theorem dX7_go_66 : decode cX7_go 66 = .ok (.iconst 0, 1) := by decide +kernel
theorem dX7_go_67 : decode cX7_go 67 = .ok (.istore 7, 2) := by decide +kernel
theorem dX7_go_69 : decode cX7_go 69 = .ok (.iload 7, 2) := by decide +kernel
theorem dX7_go_71 : decode cX7_go 71 = .ok (.bipush 62, 2) := by decide +kernel
theorem dX7_go_73 : decode cX7_go 73 = .ok (.if_icmp .ge 42, 3) := by decide +kernel
theorem dX7_go_76 : decode cX7_go 76 = .ok (.aload_n 0, 1) := by decide +kernel
theorem dX7_go_77 : decode cX7_go 77 = .ok (.getfield 82, 3) := by decide +kernel
theorem dX7_go_80 : decode cX7_go 80 = .ok (.iload 7, 2) := by decide +kernel
theorem dX7_go_82 : decode cX7_go 82 = .ok (.aload_n 0, 1) := by decide +kernel
theorem dX7_go_83 : decode cX7_go 83 = .ok (.getfield 79, 3) := by decide +kernel
theorem dX7_go_86 : decode cX7_go 86 = .ok (.iload 7, 2) := by decide +kernel
theorem dX7_go_88 : decode cX7_go 88 = .ok (.laload, 1) := by decide +kernel
theorem dX7_go_89 : decode cX7_go 89 = .ok (.iload 7, 2) := by decide +kernel
theorem dX7_go_91 : decode cX7_go 91 = .ok (.ifCond .le 15, 3) := by decide +kernel
theorem dX7_go_94 : decode cX7_go 94 = .ok (.aload_n 0, 1) := by decide +kernel
theorem dX7_go_95 : decode cX7_go 95 = .ok (.getfield 79, 3) := by decide +kernel
theorem dX7_go_98 : decode cX7_go 98 = .ok (.iload 7, 2) := by decide +kernel
theorem dX7_go_100 : decode cX7_go 100 = .ok (.iconst 1, 1) := by decide +kernel
theorem dX7_go_101 : decode cX7_go 101 = .ok (.isub, 1) := by decide +kernel
theorem dX7_go_102 : decode cX7_go 102 = .ok (.laload, 1) := by decide +kernel
theorem dX7_go_103 : decode cX7_go 103 = .ok (.goto 4, 3) := by decide +kernel
theorem dX7_go_106 : decode cX7_go 106 = .ok (.lconst 0, 1) := by decide +kernel
theorem dX7_go_107 : decode cX7_go 107 = .ok (.ladd, 1) := by decide +kernel
theorem dX7_go_108 : decode cX7_go 108 = .ok (.lastore, 1) := by decide +kernel
theorem dX7_go_109 : decode cX7_go 109 = .ok (.iinc 7 1, 3) := by decide +kernel
theorem dX7_go_112 : decode cX7_go 112 = .ok (.goto (-43), 3) := by decide +kernel
theorem dX7_go_115 : decode cX7_go 115 = .ok (.aload_n 0, 1) := by decide +kernel
theorem dX7_go_116 : decode cX7_go 116 = .ok (.iload_n 1, 1) := by decide +kernel
theorem dX7_go_117 : decode cX7_go 117 = .ok (.iload 4, 2) := by decide +kernel
theorem dX7_go_119 : decode cX7_go 119 = .ok (.invokevirtual 103, 3) := by decide +kernel
theorem dX7_go_122 : decode cX7_go 122 = .ok (.istore 7, 2) := by decide +kernel
theorem dX7_go_124 : decode cX7_go 124 = .ok (.iconst 0, 1) := by decide +kernel
theorem dX7_go_125 : decode cX7_go 125 = .ok (.istore 8, 2) := by decide +kernel
theorem dX7_go_127 : decode cX7_go 127 = .ok (.iload 8, 2) := by decide +kernel
theorem dX7_go_129 : decode cX7_go 129 = .ok (.bipush 62, 2) := by decide +kernel
theorem dX7_go_131 : decode cX7_go 131 = .ok (.if_icmp .ge 200, 3) := by decide +kernel
theorem dX7_go_134 : decode cX7_go 134 = .ok (.aload_n 0, 1) := by decide +kernel
theorem dX7_go_135 : decode cX7_go 135 = .ok (.getfield 79, 3) := by decide +kernel
theorem dX7_go_138 : decode cX7_go 138 = .ok (.iload 8, 2) := by decide +kernel
theorem dX7_go_140 : decode cX7_go 140 = .ok (.aload_n 0, 1) := by decide +kernel
theorem dX7_go_141 : decode cX7_go 141 = .ok (.getfield 82, 3) := by decide +kernel
theorem dX7_go_144 : decode cX7_go 144 = .ok (.iload 8, 2) := by decide +kernel
theorem dX7_go_146 : decode cX7_go 146 = .ok (.laload, 1) := by decide +kernel
theorem dX7_go_147 : decode cX7_go 147 = .ok (.lastore, 1) := by decide +kernel
theorem dX7_go_148 : decode cX7_go 148 = .ok (.aload_n 0, 1) := by decide +kernel
theorem dX7_go_149 : decode cX7_go 149 = .ok (.getfield 82, 3) := by decide +kernel
theorem dX7_go_152 : decode cX7_go 152 = .ok (.iload 8, 2) := by decide +kernel
theorem dX7_go_154 : decode cX7_go 154 = .ok (.laload, 1) := by decide +kernel
theorem dX7_go_155 : decode cX7_go 155 = .ok (.lconst 0, 1) := by decide +kernel
theorem dX7_go_156 : decode cX7_go 156 = .ok (.lcmp, 1) := by decide +kernel
theorem dX7_go_157 : decode cX7_go 157 = .ok (.ifCond .ne 6, 3) := by decide +kernel
theorem dX7_go_160 : decode cX7_go 160 = .ok (.goto 165, 3) := by decide +kernel
theorem dX7_go_163 : decode cX7_go 163 = .ok (.iload 8, 2) := by decide +kernel
theorem dX7_go_165 : decode cX7_go 165 = .ok (.aload_n 0, 1) := by decide +kernel
theorem dX7_go_166 : decode cX7_go 166 = .ok (.getfield 19, 3) := by decide +kernel
theorem dX7_go_169 : decode cX7_go 169 = .ok (.iconst 4, 1) := by decide +kernel
theorem dX7_go_170 : decode cX7_go 170 = .ok (.iload_n 1, 1) := by decide +kernel
theorem dX7_go_171 : decode cX7_go 171 = .ok (.imul, 1) := by decide +kernel
theorem dX7_go_172 : decode cX7_go 172 = .ok (.iload 4, 2) := by decide +kernel
theorem dX7_go_174 : decode cX7_go 174 = .ok (.iadd, 1) := by decide +kernel
theorem dX7_go_175 : decode cX7_go 175 = .ok (.iaload, 1) := by decide +kernel
theorem dX7_go_176 : decode cX7_go 176 = .ok (.if_icmp .lt 7, 3) := by decide +kernel
theorem dX7_go_179 : decode cX7_go 179 = .ok (.iconst 1, 1) := by decide +kernel
theorem dX7_go_180 : decode cX7_go 180 = .ok (.goto 4, 3) := by decide +kernel
theorem dX7_go_183 : decode cX7_go 183 = .ok (.iconst 0, 1) := by decide +kernel
theorem dX7_go_184 : decode cX7_go 184 = .ok (.istore 9, 2) := by decide +kernel
theorem dX7_go_186 : decode cX7_go 186 = .ok (.iload 9, 2) := by decide +kernel
theorem dX7_go_188 : decode cX7_go 188 = .ok (.ifCond .ne 30, 3) := by decide +kernel
theorem dX7_go_191 : decode cX7_go 191 = .ok (.iload 6, 2) := by decide +kernel
theorem dX7_go_193 : decode cX7_go 193 = .ok (.iload 7, 2) := by decide +kernel
theorem dX7_go_195 : decode cX7_go 195 = .ok (.if_icmp .ne 23, 3) := by decide +kernel
theorem dX7_go_198 : decode cX7_go 198 = .ok (.iload 8, 2) := by decide +kernel
theorem dX7_go_200 : decode cX7_go 200 = .ok (.aload_n 0, 1) := by decide +kernel
theorem dX7_go_201 : decode cX7_go 201 = .ok (.getfield 16, 3) := by decide +kernel
theorem dX7_go_204 : decode cX7_go 204 = .ok (.iconst 4, 1) := by decide +kernel
theorem dX7_go_205 : decode cX7_go 205 = .ok (.iload_n 1, 1) := by decide +kernel
theorem dX7_go_206 : decode cX7_go 206 = .ok (.imul, 1) := by decide +kernel
theorem dX7_go_207 : decode cX7_go 207 = .ok (.iload 4, 2) := by decide +kernel
theorem dX7_go_209 : decode cX7_go 209 = .ok (.iadd, 1) := by decide +kernel
theorem dX7_go_210 : decode cX7_go 210 = .ok (.iaload, 1) := by decide +kernel
theorem dX7_go_211 : decode cX7_go 211 = .ok (.if_icmp .gt 7, 3) := by decide +kernel
theorem dX7_go_214 : decode cX7_go 214 = .ok (.iconst 1, 1) := by decide +kernel
theorem dX7_go_215 : decode cX7_go 215 = .ok (.goto 4, 3) := by decide +kernel
theorem dX7_go_218 : decode cX7_go 218 = .ok (.iconst 0, 1) := by decide +kernel
theorem dX7_go_219 : decode cX7_go 219 = .ok (.istore 10, 2) := by decide +kernel
theorem dX7_go_221 : decode cX7_go 221 = .ok (.iload 9, 2) := by decide +kernel
theorem dX7_go_223 : decode cX7_go 223 = .ok (.ifCond .ne 11, 3) := by decide +kernel
theorem dX7_go_226 : decode cX7_go 226 = .ok (.iload 10, 2) := by decide +kernel
theorem dX7_go_228 : decode cX7_go 228 = .ok (.ifCond .ne 6, 3) := by decide +kernel
theorem dX7_go_231 : decode cX7_go 231 = .ok (.goto 94, 3) := by decide +kernel
theorem dX7_go_234 : decode cX7_go 234 = .ok (.aload_n 0, 1) := by decide +kernel
theorem dX7_go_235 : decode cX7_go 235 = .ok (.getfield 82, 3) := by decide +kernel
theorem dX7_go_238 : decode cX7_go 238 = .ok (.iload 8, 2) := by decide +kernel
theorem dX7_go_240 : decode cX7_go 240 = .ok (.laload, 1) := by decide +kernel
theorem dX7_go_241 : decode cX7_go 241 = .ok (.aload_n 0, 1) := by decide +kernel
theorem dX7_go_242 : decode cX7_go 242 = .ok (.iload_n 2, 1) := by decide +kernel
theorem dX7_go_243 : decode cX7_go 243 = .ok (.iload 6, 2) := by decide +kernel
theorem dX7_go_245 : decode cX7_go 245 = .ok (.isub, 1) := by decide +kernel
theorem dX7_go_246 : decode cX7_go 246 = .ok (.iload_n 3, 1) := by decide +kernel
theorem dX7_go_247 : decode cX7_go 247 = .ok (.iload 8, 2) := by decide +kernel
theorem dX7_go_249 : decode cX7_go 249 = .ok (.isub, 1) := by decide +kernel
theorem dX7_go_250 : decode cX7_go 250 = .ok (.invokevirtual 123, 3) := by decide +kernel
theorem dX7_go_253 : decode cX7_go 253 = .ok (.lmul, 1) := by decide +kernel
theorem dX7_go_254 : decode cX7_go 254 = .ok (.lstore 11, 2) := by decide +kernel
theorem dX7_go_256 : decode cX7_go 256 = .ok (.aload_n 0, 1) := by decide +kernel
theorem dX7_go_257 : decode cX7_go 257 = .ok (.dup, 1) := by decide +kernel
theorem dX7_go_258 : decode cX7_go 258 = .ok (.getfield 117, 3) := by decide +kernel
theorem dX7_go_261 : decode cX7_go 261 = .ok (.lload 11, 2) := by decide +kernel
theorem dX7_go_263 : decode cX7_go 263 = .ok (.iload 7, 2) := by decide +kernel
theorem dX7_go_265 : decode cX7_go 265 = .ok (.i2l, 1) := by decide +kernel
theorem dX7_go_266 : decode cX7_go 266 = .ok (.lmul, 1) := by decide +kernel
theorem dX7_go_267 : decode cX7_go 267 = .ok (.ladd, 1) := by decide +kernel
theorem dX7_go_268 : decode cX7_go 268 = .ok (.putfield 117, 3) := by decide +kernel
theorem dX7_go_271 : decode cX7_go 271 = .ok (.aload_n 0, 1) := by decide +kernel
theorem dX7_go_272 : decode cX7_go 272 = .ok (.dup, 1) := by decide +kernel
theorem dX7_go_273 : decode cX7_go 273 = .ok (.getfield 114, 3) := by decide +kernel
theorem dX7_go_276 : decode cX7_go 276 = .ok (.iload 10, 2) := by decide +kernel
theorem dX7_go_278 : decode cX7_go 278 = .ok (.ifCond .eq 8, 3) := by decide +kernel
theorem dX7_go_281 : decode cX7_go 281 = .ok (.lload 11, 2) := by decide +kernel
theorem dX7_go_283 : decode cX7_go 283 = .ok (.goto 4, 3) := by decide +kernel
theorem dX7_go_286 : decode cX7_go 286 = .ok (.lconst 0, 1) := by decide +kernel
theorem dX7_go_287 : decode cX7_go 287 = .ok (.ladd, 1) := by decide +kernel
theorem dX7_go_288 : decode cX7_go 288 = .ok (.putfield 114, 3) := by decide +kernel
theorem dX7_go_291 : decode cX7_go 291 = .ok (.aload_n 0, 1) := by decide +kernel
theorem dX7_go_292 : decode cX7_go 292 = .ok (.dup, 1) := by decide +kernel
theorem dX7_go_293 : decode cX7_go 293 = .ok (.getfield 120, 3) := by decide +kernel
theorem dX7_go_296 : decode cX7_go 296 = .ok (.iload 10, 2) := by decide +kernel
theorem dX7_go_298 : decode cX7_go 298 = .ok (.ifCond .eq 14, 3) := by decide +kernel
theorem dX7_go_301 : decode cX7_go 301 = .ok (.lload 11, 2) := by decide +kernel
theorem dX7_go_303 : decode cX7_go 303 = .ok (.iload_n 3, 1) := by decide +kernel
theorem dX7_go_304 : decode cX7_go 304 = .ok (.iload 8, 2) := by decide +kernel
theorem dX7_go_306 : decode cX7_go 306 = .ok (.isub, 1) := by decide +kernel
theorem dX7_go_307 : decode cX7_go 307 = .ok (.i2l, 1) := by decide +kernel
theorem dX7_go_308 : decode cX7_go 308 = .ok (.lmul, 1) := by decide +kernel
theorem dX7_go_309 : decode cX7_go 309 = .ok (.goto 4, 3) := by decide +kernel
theorem dX7_go_312 : decode cX7_go 312 = .ok (.lconst 0, 1) := by decide +kernel
theorem dX7_go_313 : decode cX7_go 313 = .ok (.ladd, 1) := by decide +kernel
theorem dX7_go_314 : decode cX7_go 314 = .ok (.putfield 120, 3) := by decide +kernel
theorem dX7_go_317 : decode cX7_go 317 = .ok (.aload_n 0, 1) := by decide +kernel
theorem dX7_go_318 : decode cX7_go 318 = .ok (.getfield 79, 3) := by decide +kernel
theorem dX7_go_321 : decode cX7_go 321 = .ok (.iload 8, 2) := by decide +kernel
theorem dX7_go_323 : decode cX7_go 323 = .ok (.lconst 0, 1) := by decide +kernel
theorem dX7_go_324 : decode cX7_go 324 = .ok (.lastore, 1) := by decide +kernel
theorem dX7_go_325 : decode cX7_go 325 = .ok (.iinc 8 1, 3) := by decide +kernel
theorem dX7_go_328 : decode cX7_go 328 = .ok (.goto (-201), 3) := by decide +kernel
theorem dX7_go_331 : decode cX7_go 331 = .ok (.iload 6, 2) := by decide +kernel
theorem dX7_go_333 : decode cX7_go 333 = .ok (.iload 7, 2) := by decide +kernel
theorem dX7_go_335 : decode cX7_go 335 = .ok (.if_icmp .ne 6, 3) := by decide +kernel
theorem dX7_go_338 : decode cX7_go 338 = .ok (.iinc 4 1, 3) := by decide +kernel
theorem dX7_go_341 : decode cX7_go 341 = .ok (.iinc 6 1, 3) := by decide +kernel
theorem dX7_go_344 : decode cX7_go 344 = .ok (.goto (-285), 3) := by decide +kernel
theorem dX7_go_347 : decode cX7_go 347 = .ok (.return_, 1) := by decide +kernel
theorem dX7_common_0 : decode cX7_common 0 = .ok (.lload_n 0, 1) := by decide +kernel
theorem dX7_common_1 : decode cX7_common 1 = .ok (.lstore 4, 2) := by decide +kernel
theorem dX7_common_3 : decode cX7_common 3 = .ok (.lload_n 2, 1) := by decide +kernel
theorem dX7_common_4 : decode cX7_common 4 = .ok (.lstore 6, 2) := by decide +kernel
theorem dX7_common_6 : decode cX7_common 6 = .ok (.lload 6, 2) := by decide +kernel
theorem dX7_common_8 : decode cX7_common 8 = .ok (.lconst 0, 1) := by decide +kernel
theorem dX7_common_9 : decode cX7_common 9 = .ok (.lcmp, 1) := by decide +kernel
theorem dX7_common_10 : decode cX7_common 10 = .ok (.ifCond .eq 21, 3) := by decide +kernel
theorem dX7_common_13 : decode cX7_common 13 = .ok (.lload 4, 2) := by decide +kernel
theorem dX7_common_15 : decode cX7_common 15 = .ok (.lload 6, 2) := by decide +kernel
theorem dX7_common_17 : decode cX7_common 17 = .ok (.lrem, 1) := by decide +kernel
theorem dX7_common_18 : decode cX7_common 18 = .ok (.lstore 8, 2) := by decide +kernel
theorem dX7_common_20 : decode cX7_common 20 = .ok (.lload 6, 2) := by decide +kernel
theorem dX7_common_22 : decode cX7_common 22 = .ok (.lstore 4, 2) := by decide +kernel
theorem dX7_common_24 : decode cX7_common 24 = .ok (.lload 8, 2) := by decide +kernel
theorem dX7_common_26 : decode cX7_common 26 = .ok (.lstore 6, 2) := by decide +kernel
theorem dX7_common_28 : decode cX7_common 28 = .ok (.goto (-22), 3) := by decide +kernel
theorem dX7_common_31 : decode cX7_common 31 = .ok (.lload 4, 2) := by decide +kernel
theorem dX7_common_33 : decode cX7_common 33 = .ok (.lreturn, 1) := by decide +kernel
theorem dX7_fits_0 : decode cX7_fits 0 = .ok (.aload_n 0, 1) := by decide +kernel
theorem dX7_fits_1 : decode cX7_fits 1 = .ok (.iload_n 1, 1) := by decide +kernel
theorem dX7_fits_2 : decode cX7_fits 2 = .ok (.invokevirtual 107, 3) := by decide +kernel
theorem dX7_fits_5 : decode cX7_fits 5 = .ok (.ifCond .eq 26, 3) := by decide +kernel
theorem dX7_fits_8 : decode cX7_fits 8 = .ok (.iload_n 2, 1) := by decide +kernel
theorem dX7_fits_9 : decode cX7_fits 9 = .ok (.iconst 1, 1) := by decide +kernel
theorem dX7_fits_10 : decode cX7_fits 10 = .ok (.bipush 60, 2) := by decide +kernel
theorem dX7_fits_12 : decode cX7_fits 12 = .ok (.invokestatic 95, 3) := by decide +kernel
theorem dX7_fits_15 : decode cX7_fits 15 = .ok (.ifCond .eq 16, 3) := by decide +kernel
theorem dX7_fits_18 : decode cX7_fits 18 = .ok (.aload_n 0, 1) := by decide +kernel
theorem dX7_fits_19 : decode cX7_fits 19 = .ok (.iload_n 1, 1) := by decide +kernel
theorem dX7_fits_20 : decode cX7_fits 20 = .ok (.invokevirtual 110, 3) := by decide +kernel
theorem dX7_fits_23 : decode cX7_fits 23 = .ok (.iload_n 2, 1) := by decide +kernel
theorem dX7_fits_24 : decode cX7_fits 24 = .ok (.if_icmp .gt 7, 3) := by decide +kernel
theorem dX7_fits_27 : decode cX7_fits 27 = .ok (.iconst 1, 1) := by decide +kernel
theorem dX7_fits_28 : decode cX7_fits 28 = .ok (.goto 4, 3) := by decide +kernel
theorem dX7_fits_31 : decode cX7_fits 31 = .ok (.iconst 0, 1) := by decide +kernel
theorem dX7_fits_32 : decode cX7_fits 32 = .ok (.ireturn, 1) := by decide +kernel
theorem dX7_part_0 : decode cX7_part 0 = .ok (.aload_n 0, 1) := by decide +kernel
theorem dX7_part_1 : decode cX7_part 1 = .ok (.iload_n 1, 1) := by decide +kernel
theorem dX7_part_2 : decode cX7_part 2 = .ok (.iload_n 2, 1) := by decide +kernel
theorem dX7_part_3 : decode cX7_part 3 = .ok (.invokevirtual 127, 3) := by decide +kernel
theorem dX7_part_6 : decode cX7_part 6 = .ok (.ifCond .eq 22, 3) := by decide +kernel
theorem dX7_part_9 : decode cX7_part 9 = .ok (.iload_n 3, 1) := by decide +kernel
theorem dX7_part_10 : decode cX7_part 10 = .ok (.iconst 0, 1) := by decide +kernel
theorem dX7_part_11 : decode cX7_part 11 = .ok (.iload_n 2, 1) := by decide +kernel
theorem dX7_part_12 : decode cX7_part 12 = .ok (.invokestatic 95, 3) := by decide +kernel
theorem dX7_part_15 : decode cX7_part 15 = .ok (.ifCond .eq 13, 3) := by decide +kernel
theorem dX7_part_18 : decode cX7_part 18 = .ok (.iload 4, 2) := by decide +kernel
theorem dX7_part_20 : decode cX7_part 20 = .ok (.iconst 0, 1) := by decide +kernel
theorem dX7_part_21 : decode cX7_part 21 = .ok (.iconst 2, 1) := by decide +kernel
theorem dX7_part_22 : decode cX7_part 22 = .ok (.invokestatic 95, 3) := by decide +kernel
theorem dX7_part_25 : decode cX7_part 25 = .ok (.ifCond .ne 6, 3) := by decide +kernel
theorem dX7_part_28 : decode cX7_part 28 = .ok (.bipush (-2), 2) := by decide +kernel
theorem dX7_part_30 : decode cX7_part 30 = .ok (.ireturn, 1) := by decide +kernel
theorem dX7_part_31 : decode cX7_part 31 = .ok (.aload_n 0, 1) := by decide +kernel
theorem dX7_part_32 : decode cX7_part 32 = .ok (.iload_n 1, 1) := by decide +kernel
theorem dX7_part_33 : decode cX7_part 33 = .ok (.iload_n 2, 1) := by decide +kernel
theorem dX7_part_34 : decode cX7_part 34 = .ok (.iload_n 3, 1) := by decide +kernel
theorem dX7_part_35 : decode cX7_part 35 = .ok (.invokevirtual 131, 3) := by decide +kernel
theorem dX7_part_38 : decode cX7_part 38 = .ok (.iload 4, 2) := by decide +kernel
theorem dX7_part_40 : decode cX7_part 40 = .ok (.ifCond .ne 10, 3) := by decide +kernel
theorem dX7_part_43 : decode cX7_part 43 = .ok (.aload_n 0, 1) := by decide +kernel
theorem dX7_part_44 : decode cX7_part 44 = .ok (.getfield 114, 3) := by decide +kernel
theorem dX7_part_47 : decode cX7_part 47 = .ok (.goto 20, 3) := by decide +kernel
theorem dX7_part_50 : decode cX7_part 50 = .ok (.iload 4, 2) := by decide +kernel
theorem dX7_part_52 : decode cX7_part 52 = .ok (.iconst 1, 1) := by decide +kernel
theorem dX7_part_53 : decode cX7_part 53 = .ok (.if_icmp .ne 10, 3) := by decide +kernel
theorem dX7_part_56 : decode cX7_part 56 = .ok (.aload_n 0, 1) := by decide +kernel
theorem dX7_part_57 : decode cX7_part 57 = .ok (.getfield 117, 3) := by decide +kernel
theorem dX7_part_60 : decode cX7_part 60 = .ok (.goto 7, 3) := by decide +kernel
theorem dX7_part_63 : decode cX7_part 63 = .ok (.aload_n 0, 1) := by decide +kernel
theorem dX7_part_64 : decode cX7_part 64 = .ok (.getfield 120, 3) := by decide +kernel
theorem dX7_part_67 : decode cX7_part 67 = .ok (.lstore 5, 2) := by decide +kernel
theorem dX7_part_69 : decode cX7_part 69 = .ok (.iload 4, 2) := by decide +kernel
theorem dX7_part_71 : decode cX7_part 71 = .ok (.iconst 2, 1) := by decide +kernel
theorem dX7_part_72 : decode cX7_part 72 = .ok (.if_icmp .ne 15, 3) := by decide +kernel
theorem dX7_part_75 : decode cX7_part 75 = .ok (.iload_n 2, 1) := by decide +kernel
theorem dX7_part_76 : decode cX7_part 76 = .ok (.i2l, 1) := by decide +kernel
theorem dX7_part_77 : decode cX7_part 77 = .ok (.aload_n 0, 1) := by decide +kernel
theorem dX7_part_78 : decode cX7_part 78 = .ok (.iload_n 2, 1) := by decide +kernel
theorem dX7_part_79 : decode cX7_part 79 = .ok (.iload_n 3, 1) := by decide +kernel
theorem dX7_part_80 : decode cX7_part 80 = .ok (.invokevirtual 123, 3) := by decide +kernel
theorem dX7_part_83 : decode cX7_part 83 = .ok (.lmul, 1) := by decide +kernel
theorem dX7_part_84 : decode cX7_part 84 = .ok (.goto 9, 3) := by decide +kernel
theorem dX7_part_87 : decode cX7_part 87 = .ok (.aload_n 0, 1) := by decide +kernel
theorem dX7_part_88 : decode cX7_part 88 = .ok (.iload_n 2, 1) := by decide +kernel
theorem dX7_part_89 : decode cX7_part 89 = .ok (.iload_n 3, 1) := by decide +kernel
theorem dX7_part_90 : decode cX7_part 90 = .ok (.invokevirtual 123, 3) := by decide +kernel
theorem dX7_part_93 : decode cX7_part 93 = .ok (.lstore 7, 2) := by decide +kernel
theorem dX7_part_95 : decode cX7_part 95 = .ok (.lload 5, 2) := by decide +kernel
theorem dX7_part_97 : decode cX7_part 97 = .ok (.lload 7, 2) := by decide +kernel
theorem dX7_part_99 : decode cX7_part 99 = .ok (.invokestatic 135, 3) := by decide +kernel
theorem dX7_part_102 : decode cX7_part 102 = .ok (.lstore 9, 2) := by decide +kernel
theorem dX7_part_104 : decode cX7_part 104 = .ok (.aload_n 0, 1) := by decide +kernel
theorem dX7_part_105 : decode cX7_part 105 = .ok (.lload 5, 2) := by decide +kernel
theorem dX7_part_107 : decode cX7_part 107 = .ok (.lload 9, 2) := by decide +kernel
theorem dX7_part_109 : decode cX7_part 109 = .ok (.ldiv, 1) := by decide +kernel
theorem dX7_part_110 : decode cX7_part 110 = .ok (.putfield 139, 3) := by decide +kernel
theorem dX7_part_113 : decode cX7_part 113 = .ok (.aload_n 0, 1) := by decide +kernel
theorem dX7_part_114 : decode cX7_part 114 = .ok (.lload 7, 2) := by decide +kernel
theorem dX7_part_116 : decode cX7_part 116 = .ok (.lload 9, 2) := by decide +kernel
theorem dX7_part_118 : decode cX7_part 118 = .ok (.ldiv, 1) := by decide +kernel
theorem dX7_part_119 : decode cX7_part 119 = .ok (.putfield 22, 3) := by decide +kernel
theorem dX7_part_122 : decode cX7_part 122 = .ok (.iconst 1, 1) := by decide +kernel
theorem dX7_part_123 : decode cX7_part 123 = .ok (.ireturn, 1) := by decide +kernel
theorem dX7_up_0 : decode cX7_up 0 = .ok (.aload_n 0, 1) := by decide +kernel
theorem dX7_up_1 : decode cX7_up 1 = .ok (.getfield 139, 3) := by decide +kernel
theorem dX7_up_4 : decode cX7_up 4 = .ok (.lreturn, 1) := by decide +kernel
theorem dX7_down_0 : decode cX7_down 0 = .ok (.aload_n 0, 1) := by decide +kernel
theorem dX7_down_1 : decode cX7_down 1 = .ok (.getfield 22, 3) := by decide +kernel
theorem dX7_down_4 : decode cX7_down 4 = .ok (.lreturn, 1) := by decide +kernel
theorem dX7_rounded_0 : decode cX7_rounded 0 = .ok (.iload_n 1, 1) := by decide +kernel
theorem dX7_rounded_1 : decode cX7_rounded 1 = .ok (.iconst 0, 1) := by decide +kernel
theorem dX7_rounded_2 : decode cX7_rounded 2 = .ok (.bipush 6, 2) := by decide +kernel
theorem dX7_rounded_4 : decode cX7_rounded 4 = .ok (.invokestatic 95, 3) := by decide +kernel
theorem dX7_rounded_7 : decode cX7_rounded 7 = .ok (.ifCond .ne 7, 3) := by decide +kernel
theorem dX7_rounded_10 : decode cX7_rounded 10 = .ok (.ldc2_w 142, 3) := by decide +kernel
theorem dX7_rounded_13 : decode cX7_rounded 13 = .ok (.lreturn, 1) := by decide +kernel
theorem dX7_rounded_14 : decode cX7_rounded 14 = .ok (.aload_n 0, 1) := by decide +kernel
theorem dX7_rounded_15 : decode cX7_rounded 15 = .ok (.getfield 139, 3) := by decide +kernel
theorem dX7_rounded_18 : decode cX7_rounded 18 = .ok (.aload_n 0, 1) := by decide +kernel
theorem dX7_rounded_19 : decode cX7_rounded 19 = .ok (.getfield 22, 3) := by decide +kernel
theorem dX7_rounded_22 : decode cX7_rounded 22 = .ok (.ldiv, 1) := by decide +kernel
theorem dX7_rounded_23 : decode cX7_rounded 23 = .ok (.lstore_n 2, 1) := by decide +kernel
theorem dX7_rounded_24 : decode cX7_rounded 24 = .ok (.aload_n 0, 1) := by decide +kernel
theorem dX7_rounded_25 : decode cX7_rounded 25 = .ok (.getfield 139, 3) := by decide +kernel
theorem dX7_rounded_28 : decode cX7_rounded 28 = .ok (.aload_n 0, 1) := by decide +kernel
theorem dX7_rounded_29 : decode cX7_rounded 29 = .ok (.getfield 22, 3) := by decide +kernel
theorem dX7_rounded_32 : decode cX7_rounded 32 = .ok (.lrem, 1) := by decide +kernel
theorem dX7_rounded_33 : decode cX7_rounded 33 = .ok (.lstore 4, 2) := by decide +kernel
theorem dX7_rounded_35 : decode cX7_rounded 35 = .ok (.iconst 0, 1) := by decide +kernel
theorem dX7_rounded_36 : decode cX7_rounded 36 = .ok (.istore 6, 2) := by decide +kernel
theorem dX7_rounded_38 : decode cX7_rounded 38 = .ok (.iload 6, 2) := by decide +kernel
theorem dX7_rounded_40 : decode cX7_rounded 40 = .ok (.iload_n 1, 1) := by decide +kernel
theorem dX7_rounded_41 : decode cX7_rounded 41 = .ok (.if_icmp .ge 83, 3) := by decide +kernel
theorem dX7_rounded_44 : decode cX7_rounded 44 = .ok (.lconst 0, 1) := by decide +kernel
theorem dX7_rounded_45 : decode cX7_rounded 45 = .ok (.lstore 7, 2) := by decide +kernel
theorem dX7_rounded_47 : decode cX7_rounded 47 = .ok (.iconst 0, 1) := by decide +kernel
theorem dX7_rounded_48 : decode cX7_rounded 48 = .ok (.istore 9, 2) := by decide +kernel
theorem dX7_rounded_50 : decode cX7_rounded 50 = .ok (.iconst 0, 1) := by decide +kernel
theorem dX7_rounded_51 : decode cX7_rounded 51 = .ok (.istore 10, 2) := by decide +kernel
theorem dX7_rounded_53 : decode cX7_rounded 53 = .ok (.iload 10, 2) := by decide +kernel
theorem dX7_rounded_55 : decode cX7_rounded 55 = .ok (.bipush 10, 2) := by decide +kernel
theorem dX7_rounded_57 : decode cX7_rounded 57 = .ok (.if_icmp .ge 47, 3) := by decide +kernel
theorem dX7_rounded_60 : decode cX7_rounded 60 = .ok (.lload 7, 2) := by decide +kernel
theorem dX7_rounded_62 : decode cX7_rounded 62 = .ok (.aload_n 0, 1) := by decide +kernel
theorem dX7_rounded_63 : decode cX7_rounded 63 = .ok (.getfield 22, 3) := by decide +kernel
theorem dX7_rounded_66 : decode cX7_rounded 66 = .ok (.lload 4, 2) := by decide +kernel
theorem dX7_rounded_68 : decode cX7_rounded 68 = .ok (.lsub, 1) := by decide +kernel
theorem dX7_rounded_69 : decode cX7_rounded 69 = .ok (.lcmp, 1) := by decide +kernel
theorem dX7_rounded_70 : decode cX7_rounded 70 = .ok (.ifCond .lt 21, 3) := by decide +kernel
theorem dX7_rounded_73 : decode cX7_rounded 73 = .ok (.lload 7, 2) := by decide +kernel
theorem dX7_rounded_75 : decode cX7_rounded 75 = .ok (.aload_n 0, 1) := by decide +kernel
theorem dX7_rounded_76 : decode cX7_rounded 76 = .ok (.getfield 22, 3) := by decide +kernel
theorem dX7_rounded_79 : decode cX7_rounded 79 = .ok (.lload 4, 2) := by decide +kernel
theorem dX7_rounded_81 : decode cX7_rounded 81 = .ok (.lsub, 1) := by decide +kernel
theorem dX7_rounded_82 : decode cX7_rounded 82 = .ok (.lsub, 1) := by decide +kernel
theorem dX7_rounded_83 : decode cX7_rounded 83 = .ok (.lstore 7, 2) := by decide +kernel
theorem dX7_rounded_85 : decode cX7_rounded 85 = .ok (.iinc 9 1, 3) := by decide +kernel
theorem dX7_rounded_88 : decode cX7_rounded 88 = .ok (.goto 10, 3) := by decide +kernel
theorem dX7_rounded_91 : decode cX7_rounded 91 = .ok (.lload 7, 2) := by decide +kernel
theorem dX7_rounded_93 : decode cX7_rounded 93 = .ok (.lload 4, 2) := by decide +kernel
theorem dX7_rounded_95 : decode cX7_rounded 95 = .ok (.ladd, 1) := by decide +kernel
theorem dX7_rounded_96 : decode cX7_rounded 96 = .ok (.lstore 7, 2) := by decide +kernel
theorem dX7_rounded_98 : decode cX7_rounded 98 = .ok (.iinc 10 1, 3) := by decide +kernel
theorem dX7_rounded_101 : decode cX7_rounded 101 = .ok (.goto (-48), 3) := by decide +kernel
theorem dX7_rounded_104 : decode cX7_rounded 104 = .ok (.ldc2_w 144, 3) := by decide +kernel
theorem dX7_rounded_107 : decode cX7_rounded 107 = .ok (.lload_n 2, 1) := by decide +kernel
theorem dX7_rounded_108 : decode cX7_rounded 108 = .ok (.lmul, 1) := by decide +kernel
theorem dX7_rounded_109 : decode cX7_rounded 109 = .ok (.iload 9, 2) := by decide +kernel
theorem dX7_rounded_111 : decode cX7_rounded 111 = .ok (.i2l, 1) := by decide +kernel
theorem dX7_rounded_112 : decode cX7_rounded 112 = .ok (.ladd, 1) := by decide +kernel
theorem dX7_rounded_113 : decode cX7_rounded 113 = .ok (.lstore_n 2, 1) := by decide +kernel
theorem dX7_rounded_114 : decode cX7_rounded 114 = .ok (.lload 7, 2) := by decide +kernel
theorem dX7_rounded_116 : decode cX7_rounded 116 = .ok (.lstore 4, 2) := by decide +kernel
theorem dX7_rounded_118 : decode cX7_rounded 118 = .ok (.iinc 6 1, 3) := by decide +kernel
theorem dX7_rounded_121 : decode cX7_rounded 121 = .ok (.goto (-83), 3) := by decide +kernel
theorem dX7_rounded_124 : decode cX7_rounded 124 = .ok (.aload_n 0, 1) := by decide +kernel
theorem dX7_rounded_125 : decode cX7_rounded 125 = .ok (.getfield 22, 3) := by decide +kernel
theorem dX7_rounded_128 : decode cX7_rounded 128 = .ok (.lload 4, 2) := by decide +kernel
theorem dX7_rounded_130 : decode cX7_rounded 130 = .ok (.lsub, 1) := by decide +kernel
theorem dX7_rounded_131 : decode cX7_rounded 131 = .ok (.lstore 6, 2) := by decide +kernel
theorem dX7_rounded_133 : decode cX7_rounded 133 = .ok (.lload 4, 2) := by decide +kernel
theorem dX7_rounded_135 : decode cX7_rounded 135 = .ok (.lload 6, 2) := by decide +kernel
theorem dX7_rounded_137 : decode cX7_rounded 137 = .ok (.lcmp, 1) := by decide +kernel
theorem dX7_rounded_138 : decode cX7_rounded 138 = .ok (.ifCond .gt 21, 3) := by decide +kernel
theorem dX7_rounded_141 : decode cX7_rounded 141 = .ok (.lload 4, 2) := by decide +kernel
theorem dX7_rounded_143 : decode cX7_rounded 143 = .ok (.lload 6, 2) := by decide +kernel
theorem dX7_rounded_145 : decode cX7_rounded 145 = .ok (.lcmp, 1) := by decide +kernel
theorem dX7_rounded_146 : decode cX7_rounded 146 = .ok (.ifCond .ne 19, 3) := by decide +kernel
theorem dX7_rounded_149 : decode cX7_rounded 149 = .ok (.lload_n 2, 1) := by decide +kernel
theorem dX7_rounded_150 : decode cX7_rounded 150 = .ok (.ldc2_w 146, 3) := by decide +kernel
theorem dX7_rounded_153 : decode cX7_rounded 153 = .ok (.lrem, 1) := by decide +kernel
theorem dX7_rounded_154 : decode cX7_rounded 154 = .ok (.lconst 1, 1) := by decide +kernel
theorem dX7_rounded_155 : decode cX7_rounded 155 = .ok (.lcmp, 1) := by decide +kernel
theorem dX7_rounded_156 : decode cX7_rounded 156 = .ok (.ifCond .ne 9, 3) := by decide +kernel
theorem dX7_rounded_159 : decode cX7_rounded 159 = .ok (.lload_n 2, 1) := by decide +kernel
theorem dX7_rounded_160 : decode cX7_rounded 160 = .ok (.lconst 1, 1) := by decide +kernel
theorem dX7_rounded_161 : decode cX7_rounded 161 = .ok (.ladd, 1) := by decide +kernel
theorem dX7_rounded_162 : decode cX7_rounded 162 = .ok (.goto 4, 3) := by decide +kernel
theorem dX7_rounded_165 : decode cX7_rounded 165 = .ok (.lload_n 2, 1) := by decide +kernel
theorem dX7_rounded_166 : decode cX7_rounded 166 = .ok (.lreturn, 1) := by decide +kernel
theorem dX7_compared_0 : decode cX7_compared 0 = .ok (.aload_n 0, 1) := by decide +kernel
theorem dX7_compared_1 : decode cX7_compared 1 = .ok (.iload_n 1, 1) := by decide +kernel
theorem dX7_compared_2 : decode cX7_compared 2 = .ok (.iload_n 3, 1) := by decide +kernel
theorem dX7_compared_3 : decode cX7_compared 3 = .ok (.iload 4, 2) := by decide +kernel
theorem dX7_compared_5 : decode cX7_compared 5 = .ok (.invokevirtual 131, 3) := by decide +kernel
theorem dX7_compared_8 : decode cX7_compared 8 = .ok (.aload_n 0, 1) := by decide +kernel
theorem dX7_compared_9 : decode cX7_compared 9 = .ok (.getfield 114, 3) := by decide +kernel
theorem dX7_compared_12 : decode cX7_compared 12 = .ok (.lstore 5, 2) := by decide +kernel
theorem dX7_compared_14 : decode cX7_compared 14 = .ok (.aload_n 0, 1) := by decide +kernel
theorem dX7_compared_15 : decode cX7_compared 15 = .ok (.iload_n 2, 1) := by decide +kernel
theorem dX7_compared_16 : decode cX7_compared 16 = .ok (.iload_n 3, 1) := by decide +kernel
theorem dX7_compared_17 : decode cX7_compared 17 = .ok (.iload 4, 2) := by decide +kernel
theorem dX7_compared_19 : decode cX7_compared 19 = .ok (.invokevirtual 131, 3) := by decide +kernel
theorem dX7_compared_22 : decode cX7_compared 22 = .ok (.lload 5, 2) := by decide +kernel
theorem dX7_compared_24 : decode cX7_compared 24 = .ok (.aload_n 0, 1) := by decide +kernel
theorem dX7_compared_25 : decode cX7_compared 25 = .ok (.getfield 114, 3) := by decide +kernel
theorem dX7_compared_28 : decode cX7_compared 28 = .ok (.lcmp, 1) := by decide +kernel
theorem dX7_compared_29 : decode cX7_compared 29 = .ok (.ifCond .le 7, 3) := by decide +kernel
theorem dX7_compared_32 : decode cX7_compared 32 = .ok (.iconst 1, 1) := by decide +kernel
theorem dX7_compared_33 : decode cX7_compared 33 = .ok (.goto 18, 3) := by decide +kernel
theorem dX7_compared_36 : decode cX7_compared 36 = .ok (.lload 5, 2) := by decide +kernel
theorem dX7_compared_38 : decode cX7_compared 38 = .ok (.aload_n 0, 1) := by decide +kernel
theorem dX7_compared_39 : decode cX7_compared 39 = .ok (.getfield 114, 3) := by decide +kernel
theorem dX7_compared_42 : decode cX7_compared 42 = .ok (.lcmp, 1) := by decide +kernel
theorem dX7_compared_43 : decode cX7_compared 43 = .ok (.ifCond .ge 7, 3) := by decide +kernel
theorem dX7_compared_46 : decode cX7_compared 46 = .ok (.iconst (-1), 1) := by decide +kernel
theorem dX7_compared_47 : decode cX7_compared 47 = .ok (.goto 4, 3) := by decide +kernel
theorem dX7_compared_50 : decode cX7_compared 50 = .ok (.iconst 0, 1) := by decide +kernel
theorem dX7_compared_51 : decode cX7_compared 51 = .ok (.ireturn, 1) := by decide +kernel
theorem dX7_compare_0 : decode cX7_compare 0 = .ok (.aload_n 0, 1) := by decide +kernel
theorem dX7_compare_1 : decode cX7_compare 1 = .ok (.iload_n 1, 1) := by decide +kernel
theorem dX7_compare_2 : decode cX7_compare 2 = .ok (.iload_n 3, 1) := by decide +kernel
theorem dX7_compare_3 : decode cX7_compare 3 = .ok (.invokevirtual 127, 3) := by decide +kernel
theorem dX7_compare_6 : decode cX7_compare 6 = .ok (.ifCond .eq 34, 3) := by decide +kernel
theorem dX7_compare_9 : decode cX7_compare 9 = .ok (.aload_n 0, 1) := by decide +kernel
theorem dX7_compare_10 : decode cX7_compare 10 = .ok (.iload_n 2, 1) := by decide +kernel
theorem dX7_compare_11 : decode cX7_compare 11 = .ok (.iload_n 3, 1) := by decide +kernel
theorem dX7_compare_12 : decode cX7_compare 12 = .ok (.invokevirtual 127, 3) := by decide +kernel
theorem dX7_compare_15 : decode cX7_compare 15 = .ok (.ifCond .eq 25, 3) := by decide +kernel
theorem dX7_compare_18 : decode cX7_compare 18 = .ok (.iload 4, 2) := by decide +kernel
theorem dX7_compare_20 : decode cX7_compare 20 = .ok (.iconst 0, 1) := by decide +kernel
theorem dX7_compare_21 : decode cX7_compare 21 = .ok (.iload_n 3, 1) := by decide +kernel
theorem dX7_compare_22 : decode cX7_compare 22 = .ok (.invokestatic 95, 3) := by decide +kernel
theorem dX7_compare_25 : decode cX7_compare 25 = .ok (.ifCond .eq 15, 3) := by decide +kernel
theorem dX7_compare_28 : decode cX7_compare 28 = .ok (.aload_n 0, 1) := by decide +kernel
theorem dX7_compare_29 : decode cX7_compare 29 = .ok (.iload_n 1, 1) := by decide +kernel
theorem dX7_compare_30 : decode cX7_compare 30 = .ok (.iload_n 2, 1) := by decide +kernel
theorem dX7_compare_31 : decode cX7_compare 31 = .ok (.iload_n 3, 1) := by decide +kernel
theorem dX7_compare_32 : decode cX7_compare 32 = .ok (.iload 4, 2) := by decide +kernel
theorem dX7_compare_34 : decode cX7_compare 34 = .ok (.invokevirtual 148, 3) := by decide +kernel
theorem dX7_compare_37 : decode cX7_compare 37 = .ok (.goto 5, 3) := by decide +kernel
theorem dX7_compare_40 : decode cX7_compare 40 = .ok (.bipush (-2), 2) := by decide +kernel
theorem dX7_compare_42 : decode cX7_compare 42 = .ok (.ireturn, 1) := by decide +kernel
theorem dX7_crossing_0 : decode cX7_crossing 0 = .ok (.aload_n 0, 1) := by decide +kernel
theorem dX7_crossing_1 : decode cX7_crossing 1 = .ok (.iload_n 1, 1) := by decide +kernel
theorem dX7_crossing_2 : decode cX7_crossing 2 = .ok (.iload_n 3, 1) := by decide +kernel
theorem dX7_crossing_3 : decode cX7_crossing 3 = .ok (.invokevirtual 127, 3) := by decide +kernel
theorem dX7_crossing_6 : decode cX7_crossing 6 = .ok (.ifCond .eq 17, 3) := by decide +kernel
theorem dX7_crossing_9 : decode cX7_crossing 9 = .ok (.aload_n 0, 1) := by decide +kernel
theorem dX7_crossing_10 : decode cX7_crossing 10 = .ok (.iload_n 2, 1) := by decide +kernel
theorem dX7_crossing_11 : decode cX7_crossing 11 = .ok (.iload_n 3, 1) := by decide +kernel
theorem dX7_crossing_12 : decode cX7_crossing 12 = .ok (.invokevirtual 127, 3) := by decide +kernel
theorem dX7_crossing_15 : decode cX7_crossing 15 = .ok (.ifCond .eq 8, 3) := by decide +kernel
theorem dX7_crossing_18 : decode cX7_crossing 18 = .ok (.iload 4, 2) := by decide +kernel
theorem dX7_crossing_20 : decode cX7_crossing 20 = .ok (.ifCond .ge 6, 3) := by decide +kernel
theorem dX7_crossing_23 : decode cX7_crossing 23 = .ok (.bipush (-2), 2) := by decide +kernel
theorem dX7_crossing_25 : decode cX7_crossing 25 = .ok (.ireturn, 1) := by decide +kernel
theorem dX7_crossing_26 : decode cX7_crossing 26 = .ok (.iconst 0, 1) := by decide +kernel
theorem dX7_crossing_27 : decode cX7_crossing 27 = .ok (.istore 5, 2) := by decide +kernel
theorem dX7_crossing_29 : decode cX7_crossing 29 = .ok (.iconst 0, 1) := by decide +kernel
theorem dX7_crossing_30 : decode cX7_crossing 30 = .ok (.istore 6, 2) := by decide +kernel
theorem dX7_crossing_32 : decode cX7_crossing 32 = .ok (.iload 6, 2) := by decide +kernel
theorem dX7_crossing_34 : decode cX7_crossing 34 = .ok (.iload_n 3, 1) := by decide +kernel
theorem dX7_crossing_35 : decode cX7_crossing 35 = .ok (.if_icmp .ge 50, 3) := by decide +kernel
theorem dX7_crossing_38 : decode cX7_crossing 38 = .ok (.aload_n 0, 1) := by decide +kernel
theorem dX7_crossing_39 : decode cX7_crossing 39 = .ok (.iload_n 1, 1) := by decide +kernel
theorem dX7_crossing_40 : decode cX7_crossing 40 = .ok (.iload_n 2, 1) := by decide +kernel
theorem dX7_crossing_41 : decode cX7_crossing 41 = .ok (.iload_n 3, 1) := by decide +kernel
theorem dX7_crossing_42 : decode cX7_crossing 42 = .ok (.iload 6, 2) := by decide +kernel
theorem dX7_crossing_44 : decode cX7_crossing 44 = .ok (.invokevirtual 148, 3) := by decide +kernel
theorem dX7_crossing_47 : decode cX7_crossing 47 = .ok (.aload_n 0, 1) := by decide +kernel
theorem dX7_crossing_48 : decode cX7_crossing 48 = .ok (.iload_n 1, 1) := by decide +kernel
theorem dX7_crossing_49 : decode cX7_crossing 49 = .ok (.iload_n 2, 1) := by decide +kernel
theorem dX7_crossing_50 : decode cX7_crossing 50 = .ok (.iload_n 3, 1) := by decide +kernel
theorem dX7_crossing_51 : decode cX7_crossing 51 = .ok (.iload 6, 2) := by decide +kernel
theorem dX7_crossing_53 : decode cX7_crossing 53 = .ok (.iconst 1, 1) := by decide +kernel
theorem dX7_crossing_54 : decode cX7_crossing 54 = .ok (.iadd, 1) := by decide +kernel
theorem dX7_crossing_55 : decode cX7_crossing 55 = .ok (.invokevirtual 148, 3) := by decide +kernel
theorem dX7_crossing_58 : decode cX7_crossing 58 = .ok (.imul, 1) := by decide +kernel
theorem dX7_crossing_59 : decode cX7_crossing 59 = .ok (.iconst (-1), 1) := by decide +kernel
theorem dX7_crossing_60 : decode cX7_crossing 60 = .ok (.if_icmp .eq 6, 3) := by decide +kernel
theorem dX7_crossing_63 : decode cX7_crossing 63 = .ok (.goto 16, 3) := by decide +kernel
theorem dX7_crossing_66 : decode cX7_crossing 66 = .ok (.iload 5, 2) := by decide +kernel
theorem dX7_crossing_68 : decode cX7_crossing 68 = .ok (.iload 4, 2) := by decide +kernel
theorem dX7_crossing_70 : decode cX7_crossing 70 = .ok (.if_icmp .ne 6, 3) := by decide +kernel
theorem dX7_crossing_73 : decode cX7_crossing 73 = .ok (.iload 6, 2) := by decide +kernel
theorem dX7_crossing_75 : decode cX7_crossing 75 = .ok (.ireturn, 1) := by decide +kernel
theorem dX7_crossing_76 : decode cX7_crossing 76 = .ok (.iinc 5 1, 3) := by decide +kernel
theorem dX7_crossing_79 : decode cX7_crossing 79 = .ok (.iinc 6 1, 3) := by decide +kernel
theorem dX7_crossing_82 : decode cX7_crossing 82 = .ok (.goto (-50), 3) := by decide +kernel
theorem dX7_crossing_85 : decode cX7_crossing 85 = .ok (.iconst (-1), 1) := by decide +kernel
theorem dX7_crossing_86 : decode cX7_crossing 86 = .ok (.ireturn, 1) := by decide +kernel
theorem dX7_risk_0 : decode cX7_risk 0 = .ok (.iload_n 1, 1) := by decide +kernel
theorem dX7_risk_1 : decode cX7_risk 1 = .ok (.iconst 0, 1) := by decide +kernel
theorem dX7_risk_2 : decode cX7_risk 2 = .ok (.iconst 1, 1) := by decide +kernel
theorem dX7_risk_3 : decode cX7_risk 3 = .ok (.invokestatic 95, 3) := by decide +kernel
theorem dX7_risk_6 : decode cX7_risk 6 = .ok (.ifCond .eq 35, 3) := by decide +kernel
theorem dX7_risk_9 : decode cX7_risk 9 = .ok (.iload_n 2, 1) := by decide +kernel
theorem dX7_risk_10 : decode cX7_risk 10 = .ok (.iconst 0, 1) := by decide +kernel
theorem dX7_risk_11 : decode cX7_risk 11 = .ok (.bipush 60, 2) := by decide +kernel
theorem dX7_risk_13 : decode cX7_risk 13 = .ok (.invokestatic 95, 3) := by decide +kernel
theorem dX7_risk_16 : decode cX7_risk 16 = .ok (.ifCond .eq 25, 3) := by decide +kernel
theorem dX7_risk_19 : decode cX7_risk 19 = .ok (.iload 4, 2) := by decide +kernel
theorem dX7_risk_21 : decode cX7_risk 21 = .ok (.iconst 1, 1) := by decide +kernel
theorem dX7_risk_22 : decode cX7_risk 22 = .ok (.sipush 1000, 3) := by decide +kernel
theorem dX7_risk_25 : decode cX7_risk 25 = .ok (.invokestatic 95, 3) := by decide +kernel
theorem dX7_risk_28 : decode cX7_risk 28 = .ok (.ifCond .eq 13, 3) := by decide +kernel
theorem dX7_risk_31 : decode cX7_risk 31 = .ok (.iload_n 3, 1) := by decide +kernel
theorem dX7_risk_32 : decode cX7_risk 32 = .ok (.iconst 0, 1) := by decide +kernel
theorem dX7_risk_33 : decode cX7_risk 33 = .ok (.iload 4, 2) := by decide +kernel
theorem dX7_risk_35 : decode cX7_risk 35 = .ok (.invokestatic 95, 3) := by decide +kernel
theorem dX7_risk_38 : decode cX7_risk 38 = .ok (.ifCond .ne 6, 3) := by decide +kernel
theorem dX7_risk_41 : decode cX7_risk 41 = .ok (.bipush (-2), 2) := by decide +kernel
theorem dX7_risk_43 : decode cX7_risk 43 = .ok (.ireturn, 1) := by decide +kernel
theorem dX7_risk_44 : decode cX7_risk 44 = .ok (.aload_n 0, 1) := by decide +kernel
theorem dX7_risk_45 : decode cX7_risk 45 = .ok (.getfield 39, 3) := by decide +kernel
theorem dX7_risk_48 : decode cX7_risk 48 = .ok (.iload_n 1, 1) := by decide +kernel
theorem dX7_risk_49 : decode cX7_risk 49 = .ok (.iconst 1, 1) := by decide +kernel
theorem dX7_risk_50 : decode cX7_risk 50 = .ok (.bastore, 1) := by decide +kernel
theorem dX7_risk_51 : decode cX7_risk 51 = .ok (.aload_n 0, 1) := by decide +kernel
theorem dX7_risk_52 : decode cX7_risk 52 = .ok (.getfield 30, 3) := by decide +kernel
theorem dX7_risk_55 : decode cX7_risk 55 = .ok (.iload_n 1, 1) := by decide +kernel
theorem dX7_risk_56 : decode cX7_risk 56 = .ok (.iload_n 2, 1) := by decide +kernel
theorem dX7_risk_57 : decode cX7_risk 57 = .ok (.iastore, 1) := by decide +kernel
theorem dX7_risk_58 : decode cX7_risk 58 = .ok (.aload_n 0, 1) := by decide +kernel
theorem dX7_risk_59 : decode cX7_risk 59 = .ok (.getfield 33, 3) := by decide +kernel
theorem dX7_risk_62 : decode cX7_risk 62 = .ok (.iload_n 1, 1) := by decide +kernel
theorem dX7_risk_63 : decode cX7_risk 63 = .ok (.iload_n 3, 1) := by decide +kernel
theorem dX7_risk_64 : decode cX7_risk 64 = .ok (.iastore, 1) := by decide +kernel
theorem dX7_risk_65 : decode cX7_risk 65 = .ok (.aload_n 0, 1) := by decide +kernel
theorem dX7_risk_66 : decode cX7_risk 66 = .ok (.getfield 36, 3) := by decide +kernel
theorem dX7_risk_69 : decode cX7_risk 69 = .ok (.iload_n 1, 1) := by decide +kernel
theorem dX7_risk_70 : decode cX7_risk 70 = .ok (.iload 4, 2) := by decide +kernel
theorem dX7_risk_72 : decode cX7_risk 72 = .ok (.iastore, 1) := by decide +kernel
theorem dX7_risk_73 : decode cX7_risk 73 = .ok (.iconst 1, 1) := by decide +kernel
theorem dX7_risk_74 : decode cX7_risk 74 = .ok (.ireturn, 1) := by decide +kernel
theorem dX7_risks_0 : decode cX7_risks 0 = .ok (.aload_n 0, 1) := by decide +kernel
theorem dX7_risks_1 : decode cX7_risks 1 = .ok (.getfield 39, 3) := by decide +kernel
theorem dX7_risks_4 : decode cX7_risks 4 = .ok (.iconst 0, 1) := by decide +kernel
theorem dX7_risks_5 : decode cX7_risks 5 = .ok (.baload, 1) := by decide +kernel
theorem dX7_risks_6 : decode cX7_risks 6 = .ok (.ifCond .eq 7, 3) := by decide +kernel
theorem dX7_risks_9 : decode cX7_risks 9 = .ok (.iconst 1, 1) := by decide +kernel
theorem dX7_risks_10 : decode cX7_risks 10 = .ok (.goto 4, 3) := by decide +kernel
theorem dX7_risks_13 : decode cX7_risks 13 = .ok (.iconst 0, 1) := by decide +kernel
theorem dX7_risks_14 : decode cX7_risks 14 = .ok (.aload_n 0, 1) := by decide +kernel
theorem dX7_risks_15 : decode cX7_risks 15 = .ok (.getfield 39, 3) := by decide +kernel
theorem dX7_risks_18 : decode cX7_risks 18 = .ok (.iconst 1, 1) := by decide +kernel
theorem dX7_risks_19 : decode cX7_risks 19 = .ok (.baload, 1) := by decide +kernel
theorem dX7_risks_20 : decode cX7_risks 20 = .ok (.ifCond .eq 7, 3) := by decide +kernel
theorem dX7_risks_23 : decode cX7_risks 23 = .ok (.iconst 1, 1) := by decide +kernel
theorem dX7_risks_24 : decode cX7_risks 24 = .ok (.goto 4, 3) := by decide +kernel
theorem dX7_risks_27 : decode cX7_risks 27 = .ok (.iconst 0, 1) := by decide +kernel
theorem dX7_risks_28 : decode cX7_risks 28 = .ok (.iadd, 1) := by decide +kernel
theorem dX7_risks_29 : decode cX7_risks 29 = .ok (.ireturn, 1) := by decide +kernel
theorem dX7_forget_0 : decode cX7_forget 0 = .ok (.aload_n 0, 1) := by decide +kernel
theorem dX7_forget_1 : decode cX7_forget 1 = .ok (.invokevirtual 152, 3) := by decide +kernel
theorem dX7_forget_4 : decode cX7_forget 4 = .ok (.istore_n 1, 1) := by decide +kernel
theorem dX7_forget_5 : decode cX7_forget 5 = .ok (.aload_n 0, 1) := by decide +kernel
theorem dX7_forget_6 : decode cX7_forget 6 = .ok (.getfield 39, 3) := by decide +kernel
theorem dX7_forget_9 : decode cX7_forget 9 = .ok (.iconst 0, 1) := by decide +kernel
theorem dX7_forget_10 : decode cX7_forget 10 = .ok (.iconst 0, 1) := by decide +kernel
theorem dX7_forget_11 : decode cX7_forget 11 = .ok (.bastore, 1) := by decide +kernel
theorem dX7_forget_12 : decode cX7_forget 12 = .ok (.aload_n 0, 1) := by decide +kernel
theorem dX7_forget_13 : decode cX7_forget 13 = .ok (.getfield 39, 3) := by decide +kernel
theorem dX7_forget_16 : decode cX7_forget 16 = .ok (.iconst 1, 1) := by decide +kernel
theorem dX7_forget_17 : decode cX7_forget 17 = .ok (.iconst 0, 1) := by decide +kernel
theorem dX7_forget_18 : decode cX7_forget 18 = .ok (.bastore, 1) := by decide +kernel
theorem dX7_forget_19 : decode cX7_forget 19 = .ok (.iload_n 1, 1) := by decide +kernel
theorem dX7_forget_20 : decode cX7_forget 20 = .ok (.ireturn, 1) := by decide +kernel
theorem dX7_against_0 : decode cX7_against 0 = .ok (.lload_n 0, 1) := by decide +kernel
theorem dX7_against_1 : decode cX7_against 1 = .ok (.ldc2_w 156, 3) := by decide +kernel
theorem dX7_against_4 : decode cX7_against 4 = .ok (.lrem, 1) := by decide +kernel
theorem dX7_against_5 : decode cX7_against 5 = .ok (.iload_n 2, 1) := by decide +kernel
theorem dX7_against_6 : decode cX7_against 6 = .ok (.i2l, 1) := by decide +kernel
theorem dX7_against_7 : decode cX7_against 7 = .ok (.lmul, 1) := by decide +kernel
theorem dX7_against_8 : decode cX7_against 8 = .ok (.lstore 6, 2) := by decide +kernel
theorem dX7_against_10 : decode cX7_against 10 = .ok (.lload_n 0, 1) := by decide +kernel
theorem dX7_against_11 : decode cX7_against 11 = .ok (.ldc2_w 156, 3) := by decide +kernel
theorem dX7_against_14 : decode cX7_against 14 = .ok (.ldiv, 1) := by decide +kernel
theorem dX7_against_15 : decode cX7_against 15 = .ok (.iload_n 2, 1) := by decide +kernel
theorem dX7_against_16 : decode cX7_against 16 = .ok (.i2l, 1) := by decide +kernel
theorem dX7_against_17 : decode cX7_against 17 = .ok (.lmul, 1) := by decide +kernel
theorem dX7_against_18 : decode cX7_against 18 = .ok (.lload 6, 2) := by decide +kernel
theorem dX7_against_20 : decode cX7_against 20 = .ok (.ldc2_w 156, 3) := by decide +kernel
theorem dX7_against_23 : decode cX7_against 23 = .ok (.ldiv, 1) := by decide +kernel
theorem dX7_against_24 : decode cX7_against 24 = .ok (.ladd, 1) := by decide +kernel
theorem dX7_against_25 : decode cX7_against 25 = .ok (.lstore 8, 2) := by decide +kernel
theorem dX7_against_27 : decode cX7_against 27 = .ok (.lload_n 3, 1) := by decide +kernel
theorem dX7_against_28 : decode cX7_against 28 = .ok (.ldc2_w 156, 3) := by decide +kernel
theorem dX7_against_31 : decode cX7_against 31 = .ok (.lrem, 1) := by decide +kernel
theorem dX7_against_32 : decode cX7_against 32 = .ok (.iload 5, 2) := by decide +kernel
theorem dX7_against_34 : decode cX7_against 34 = .ok (.i2l, 1) := by decide +kernel
theorem dX7_against_35 : decode cX7_against 35 = .ok (.lmul, 1) := by decide +kernel
theorem dX7_against_36 : decode cX7_against 36 = .ok (.lstore 10, 2) := by decide +kernel
theorem dX7_against_38 : decode cX7_against 38 = .ok (.lload_n 3, 1) := by decide +kernel
theorem dX7_against_39 : decode cX7_against 39 = .ok (.ldc2_w 156, 3) := by decide +kernel
theorem dX7_against_42 : decode cX7_against 42 = .ok (.ldiv, 1) := by decide +kernel
theorem dX7_against_43 : decode cX7_against 43 = .ok (.iload 5, 2) := by decide +kernel
theorem dX7_against_45 : decode cX7_against 45 = .ok (.i2l, 1) := by decide +kernel
theorem dX7_against_46 : decode cX7_against 46 = .ok (.lmul, 1) := by decide +kernel
theorem dX7_against_47 : decode cX7_against 47 = .ok (.lload 10, 2) := by decide +kernel
theorem dX7_against_49 : decode cX7_against 49 = .ok (.ldc2_w 156, 3) := by decide +kernel
theorem dX7_against_52 : decode cX7_against 52 = .ok (.ldiv, 1) := by decide +kernel
theorem dX7_against_53 : decode cX7_against 53 = .ok (.ladd, 1) := by decide +kernel
theorem dX7_against_54 : decode cX7_against 54 = .ok (.lstore 12, 2) := by decide +kernel
theorem dX7_against_56 : decode cX7_against 56 = .ok (.lload 8, 2) := by decide +kernel
theorem dX7_against_58 : decode cX7_against 58 = .ok (.lload 12, 2) := by decide +kernel
theorem dX7_against_60 : decode cX7_against 60 = .ok (.lcmp, 1) := by decide +kernel
theorem dX7_against_61 : decode cX7_against 61 = .ok (.ifCond .eq 17, 3) := by decide +kernel
theorem dX7_against_64 : decode cX7_against 64 = .ok (.lload 8, 2) := by decide +kernel
theorem dX7_against_66 : decode cX7_against 66 = .ok (.lload 12, 2) := by decide +kernel
theorem dX7_against_68 : decode cX7_against 68 = .ok (.lcmp, 1) := by decide +kernel
theorem dX7_against_69 : decode cX7_against 69 = .ok (.ifCond .ge 7, 3) := by decide +kernel
theorem dX7_against_72 : decode cX7_against 72 = .ok (.iconst (-1), 1) := by decide +kernel
theorem dX7_against_73 : decode cX7_against 73 = .ok (.goto 4, 3) := by decide +kernel
theorem dX7_against_76 : decode cX7_against 76 = .ok (.iconst 1, 1) := by decide +kernel
theorem dX7_against_77 : decode cX7_against 77 = .ok (.ireturn, 1) := by decide +kernel
theorem dX7_against_78 : decode cX7_against 78 = .ok (.lload 6, 2) := by decide +kernel
theorem dX7_against_80 : decode cX7_against 80 = .ok (.ldc2_w 156, 3) := by decide +kernel
theorem dX7_against_83 : decode cX7_against 83 = .ok (.lrem, 1) := by decide +kernel
theorem dX7_against_84 : decode cX7_against 84 = .ok (.lstore 14, 2) := by decide +kernel
theorem dX7_against_86 : decode cX7_against 86 = .ok (.lload 10, 2) := by decide +kernel
theorem dX7_against_88 : decode cX7_against 88 = .ok (.ldc2_w 156, 3) := by decide +kernel
theorem dX7_against_91 : decode cX7_against 91 = .ok (.lrem, 1) := by decide +kernel
theorem dX7_against_92 : decode cX7_against 92 = .ok (.lstore 16, 2) := by decide +kernel
theorem dX7_against_94 : decode cX7_against 94 = .ok (.lload 14, 2) := by decide +kernel
theorem dX7_against_96 : decode cX7_against 96 = .ok (.lload 16, 2) := by decide +kernel
theorem dX7_against_98 : decode cX7_against 98 = .ok (.lcmp, 1) := by decide +kernel
theorem dX7_against_99 : decode cX7_against 99 = .ok (.ifCond .ge 7, 3) := by decide +kernel
theorem dX7_against_102 : decode cX7_against 102 = .ok (.iconst (-1), 1) := by decide +kernel
theorem dX7_against_103 : decode cX7_against 103 = .ok (.goto 16, 3) := by decide +kernel
theorem dX7_against_106 : decode cX7_against 106 = .ok (.lload 14, 2) := by decide +kernel
theorem dX7_against_108 : decode cX7_against 108 = .ok (.lload 16, 2) := by decide +kernel
theorem dX7_against_110 : decode cX7_against 110 = .ok (.lcmp, 1) := by decide +kernel
theorem dX7_against_111 : decode cX7_against 111 = .ok (.ifCond .le 7, 3) := by decide +kernel
theorem dX7_against_114 : decode cX7_against 114 = .ok (.iconst 1, 1) := by decide +kernel
theorem dX7_against_115 : decode cX7_against 115 = .ok (.goto 4, 3) := by decide +kernel
theorem dX7_against_118 : decode cX7_against 118 = .ok (.iconst 0, 1) := by decide +kernel
theorem dX7_against_119 : decode cX7_against 119 = .ok (.ireturn, 1) := by decide +kernel
theorem dX7_holds_0 : decode cX7_holds 0 = .ok (.iconst 1, 1) := by decide +kernel
theorem dX7_holds_1 : decode cX7_holds 1 = .ok (.istore 4, 2) := by decide +kernel
theorem dX7_holds_3 : decode cX7_holds 3 = .ok (.iconst 0, 1) := by decide +kernel
theorem dX7_holds_4 : decode cX7_holds 4 = .ok (.istore 5, 2) := by decide +kernel
theorem dX7_holds_6 : decode cX7_holds 6 = .ok (.iload 5, 2) := by decide +kernel
theorem dX7_holds_8 : decode cX7_holds 8 = .ok (.iconst 2, 1) := by decide +kernel
theorem dX7_holds_9 : decode cX7_holds 9 = .ok (.if_icmp .ge 132, 3) := by decide +kernel
theorem dX7_holds_12 : decode cX7_holds 12 = .ok (.aload_n 0, 1) := by decide +kernel
theorem dX7_holds_13 : decode cX7_holds 13 = .ok (.getfield 39, 3) := by decide +kernel
theorem dX7_holds_16 : decode cX7_holds 16 = .ok (.iload 5, 2) := by decide +kernel
theorem dX7_holds_18 : decode cX7_holds 18 = .ok (.baload, 1) := by decide +kernel
theorem dX7_holds_19 : decode cX7_holds 19 = .ok (.ifCond .ne 6, 3) := by decide +kernel
theorem dX7_holds_22 : decode cX7_holds 22 = .ok (.goto 113, 3) := by decide +kernel
theorem dX7_holds_25 : decode cX7_holds 25 = .ok (.aload_n 0, 1) := by decide +kernel
theorem dX7_holds_26 : decode cX7_holds 26 = .ok (.getfield 30, 3) := by decide +kernel
theorem dX7_holds_29 : decode cX7_holds 29 = .ok (.iload 5, 2) := by decide +kernel
theorem dX7_holds_31 : decode cX7_holds 31 = .ok (.iaload, 1) := by decide +kernel
theorem dX7_holds_32 : decode cX7_holds 32 = .ok (.istore 6, 2) := by decide +kernel
theorem dX7_holds_34 : decode cX7_holds 34 = .ok (.lconst 0, 1) := by decide +kernel
theorem dX7_holds_35 : decode cX7_holds 35 = .ok (.lstore 7, 2) := by decide +kernel
theorem dX7_holds_37 : decode cX7_holds 37 = .ok (.iconst 0, 1) := by decide +kernel
theorem dX7_holds_38 : decode cX7_holds 38 = .ok (.istore 9, 2) := by decide +kernel
theorem dX7_holds_40 : decode cX7_holds 40 = .ok (.iload 9, 2) := by decide +kernel
theorem dX7_holds_42 : decode cX7_holds 42 = .ok (.iload_n 2, 1) := by decide +kernel
theorem dX7_holds_43 : decode cX7_holds 43 = .ok (.if_icmp .gt 34, 3) := by decide +kernel
theorem dX7_holds_46 : decode cX7_holds 46 = .ok (.lload 7, 2) := by decide +kernel
theorem dX7_holds_48 : decode cX7_holds 48 = .ok (.aload_n 0, 1) := by decide +kernel
theorem dX7_holds_49 : decode cX7_holds 49 = .ok (.iload_n 1, 1) := by decide +kernel
theorem dX7_holds_50 : decode cX7_holds 50 = .ok (.iload 9, 2) := by decide +kernel
theorem dX7_holds_52 : decode cX7_holds 52 = .ok (.invokevirtual 123, 3) := by decide +kernel
theorem dX7_holds_55 : decode cX7_holds 55 = .ok (.aload_n 0, 1) := by decide +kernel
theorem dX7_holds_56 : decode cX7_holds 56 = .ok (.iload_n 3, 1) := by decide +kernel
theorem dX7_holds_57 : decode cX7_holds 57 = .ok (.iload_n 1, 1) := by decide +kernel
theorem dX7_holds_58 : decode cX7_holds 58 = .ok (.isub, 1) := by decide +kernel
theorem dX7_holds_59 : decode cX7_holds 59 = .ok (.iload 6, 2) := by decide +kernel
theorem dX7_holds_61 : decode cX7_holds 61 = .ok (.iload 9, 2) := by decide +kernel
theorem dX7_holds_63 : decode cX7_holds 63 = .ok (.isub, 1) := by decide +kernel
theorem dX7_holds_64 : decode cX7_holds 64 = .ok (.invokevirtual 123, 3) := by decide +kernel
theorem dX7_holds_67 : decode cX7_holds 67 = .ok (.lmul, 1) := by decide +kernel
theorem dX7_holds_68 : decode cX7_holds 68 = .ok (.ladd, 1) := by decide +kernel
theorem dX7_holds_69 : decode cX7_holds 69 = .ok (.lstore 7, 2) := by decide +kernel
theorem dX7_holds_71 : decode cX7_holds 71 = .ok (.iinc 9 1, 3) := by decide +kernel
theorem dX7_holds_74 : decode cX7_holds 74 = .ok (.goto (-34), 3) := by decide +kernel
theorem dX7_holds_77 : decode cX7_holds 77 = .ok (.lload 7, 2) := by decide +kernel
theorem dX7_holds_79 : decode cX7_holds 79 = .ok (.aload_n 0, 1) := by decide +kernel
theorem dX7_holds_80 : decode cX7_holds 80 = .ok (.getfield 36, 3) := by decide +kernel
theorem dX7_holds_83 : decode cX7_holds 83 = .ok (.iload 5, 2) := by decide +kernel
theorem dX7_holds_85 : decode cX7_holds 85 = .ok (.iaload, 1) := by decide +kernel
theorem dX7_holds_86 : decode cX7_holds 86 = .ok (.aload_n 0, 1) := by decide +kernel
theorem dX7_holds_87 : decode cX7_holds 87 = .ok (.iload_n 3, 1) := by decide +kernel
theorem dX7_holds_88 : decode cX7_holds 88 = .ok (.iload 6, 2) := by decide +kernel
theorem dX7_holds_90 : decode cX7_holds 90 = .ok (.invokevirtual 123, 3) := by decide +kernel
theorem dX7_holds_93 : decode cX7_holds 93 = .ok (.aload_n 0, 1) := by decide +kernel
theorem dX7_holds_94 : decode cX7_holds 94 = .ok (.getfield 33, 3) := by decide +kernel
theorem dX7_holds_97 : decode cX7_holds 97 = .ok (.iload 5, 2) := by decide +kernel
theorem dX7_holds_99 : decode cX7_holds 99 = .ok (.iaload, 1) := by decide +kernel
theorem dX7_holds_100 : decode cX7_holds 100 = .ok (.invokestatic 158, 3) := by decide +kernel
theorem dX7_holds_103 : decode cX7_holds 103 = .ok (.istore 9, 2) := by decide +kernel
theorem dX7_holds_105 : decode cX7_holds 105 = .ok (.iload 4, 2) := by decide +kernel
theorem dX7_holds_107 : decode cX7_holds 107 = .ok (.ifCond .eq 25, 3) := by decide +kernel
theorem dX7_holds_110 : decode cX7_holds 110 = .ok (.iload 5, 2) := by decide +kernel
theorem dX7_holds_112 : decode cX7_holds 112 = .ok (.ifCond .ne 11, 3) := by decide +kernel
theorem dX7_holds_115 : decode cX7_holds 115 = .ok (.iload 9, 2) := by decide +kernel
theorem dX7_holds_117 : decode cX7_holds 117 = .ok (.ifCond .lt 15, 3) := by decide +kernel
theorem dX7_holds_120 : decode cX7_holds 120 = .ok (.goto 8, 3) := by decide +kernel
theorem dX7_holds_123 : decode cX7_holds 123 = .ok (.iload 9, 2) := by decide +kernel
theorem dX7_holds_125 : decode cX7_holds 125 = .ok (.ifCond .gt 7, 3) := by decide +kernel
theorem dX7_holds_128 : decode cX7_holds 128 = .ok (.iconst 1, 1) := by decide +kernel
theorem dX7_holds_129 : decode cX7_holds 129 = .ok (.goto 4, 3) := by decide +kernel
theorem dX7_holds_132 : decode cX7_holds 132 = .ok (.iconst 0, 1) := by decide +kernel
theorem dX7_holds_133 : decode cX7_holds 133 = .ok (.istore 4, 2) := by decide +kernel
theorem dX7_holds_135 : decode cX7_holds 135 = .ok (.iinc 5 1, 3) := by decide +kernel
theorem dX7_holds_138 : decode cX7_holds 138 = .ok (.goto (-132), 3) := by decide +kernel
theorem dX7_holds_141 : decode cX7_holds 141 = .ok (.iload 4, 2) := by decide +kernel
theorem dX7_holds_143 : decode cX7_holds 143 = .ok (.ireturn, 1) := by decide +kernel
theorem dX7_maySearch_0 : decode cX7_maySearch 0 = .ok (.iload_n 1, 1) := by decide +kernel
theorem dX7_maySearch_1 : decode cX7_maySearch 1 = .ok (.iconst 1, 1) := by decide +kernel
theorem dX7_maySearch_2 : decode cX7_maySearch 2 = .ok (.bipush 60, 2) := by decide +kernel
theorem dX7_maySearch_4 : decode cX7_maySearch 4 = .ok (.invokestatic 95, 3) := by decide +kernel
theorem dX7_maySearch_7 : decode cX7_maySearch 7 = .ok (.ifCond .eq 45, 3) := by decide +kernel
theorem dX7_maySearch_10 : decode cX7_maySearch 10 = .ok (.aload_n 0, 1) := by decide +kernel
theorem dX7_maySearch_11 : decode cX7_maySearch 11 = .ok (.getfield 39, 3) := by decide +kernel
theorem dX7_maySearch_14 : decode cX7_maySearch 14 = .ok (.iconst 0, 1) := by decide +kernel
theorem dX7_maySearch_15 : decode cX7_maySearch 15 = .ok (.baload, 1) := by decide +kernel
theorem dX7_maySearch_16 : decode cX7_maySearch 16 = .ok (.ifCond .eq 13, 3) := by decide +kernel
theorem dX7_maySearch_19 : decode cX7_maySearch 19 = .ok (.aload_n 0, 1) := by decide +kernel
theorem dX7_maySearch_20 : decode cX7_maySearch 20 = .ok (.getfield 30, 3) := by decide +kernel
theorem dX7_maySearch_23 : decode cX7_maySearch 23 = .ok (.iconst 0, 1) := by decide +kernel
theorem dX7_maySearch_24 : decode cX7_maySearch 24 = .ok (.iaload, 1) := by decide +kernel
theorem dX7_maySearch_25 : decode cX7_maySearch 25 = .ok (.iload_n 1, 1) := by decide +kernel
theorem dX7_maySearch_26 : decode cX7_maySearch 26 = .ok (.if_icmp .gt 26, 3) := by decide +kernel
theorem dX7_maySearch_29 : decode cX7_maySearch 29 = .ok (.aload_n 0, 1) := by decide +kernel
theorem dX7_maySearch_30 : decode cX7_maySearch 30 = .ok (.getfield 39, 3) := by decide +kernel
theorem dX7_maySearch_33 : decode cX7_maySearch 33 = .ok (.iconst 1, 1) := by decide +kernel
theorem dX7_maySearch_34 : decode cX7_maySearch 34 = .ok (.baload, 1) := by decide +kernel
theorem dX7_maySearch_35 : decode cX7_maySearch 35 = .ok (.ifCond .eq 13, 3) := by decide +kernel
theorem dX7_maySearch_38 : decode cX7_maySearch 38 = .ok (.aload_n 0, 1) := by decide +kernel
theorem dX7_maySearch_39 : decode cX7_maySearch 39 = .ok (.getfield 30, 3) := by decide +kernel
theorem dX7_maySearch_42 : decode cX7_maySearch 42 = .ok (.iconst 1, 1) := by decide +kernel
theorem dX7_maySearch_43 : decode cX7_maySearch 43 = .ok (.iaload, 1) := by decide +kernel
theorem dX7_maySearch_44 : decode cX7_maySearch 44 = .ok (.iload_n 1, 1) := by decide +kernel
theorem dX7_maySearch_45 : decode cX7_maySearch 45 = .ok (.if_icmp .gt 7, 3) := by decide +kernel
theorem dX7_maySearch_48 : decode cX7_maySearch 48 = .ok (.iconst 1, 1) := by decide +kernel
theorem dX7_maySearch_49 : decode cX7_maySearch 49 = .ok (.goto 4, 3) := by decide +kernel
theorem dX7_maySearch_52 : decode cX7_maySearch 52 = .ok (.iconst 0, 1) := by decide +kernel
theorem dX7_maySearch_53 : decode cX7_maySearch 53 = .ok (.ireturn, 1) := by decide +kernel
theorem dX7_search_0 : decode cX7_search 0 = .ok (.aload_n 0, 1) := by decide +kernel
theorem dX7_search_1 : decode cX7_search 1 = .ok (.iload_n 1, 1) := by decide +kernel
theorem dX7_search_2 : decode cX7_search 2 = .ok (.invokevirtual 162, 3) := by decide +kernel
theorem dX7_search_5 : decode cX7_search 5 = .ok (.ifCond .ne 6, 3) := by decide +kernel
theorem dX7_search_8 : decode cX7_search 8 = .ok (.bipush (-2), 2) := by decide +kernel
theorem dX7_search_10 : decode cX7_search 10 = .ok (.ireturn, 1) := by decide +kernel
theorem dX7_search_11 : decode cX7_search 11 = .ok (.iconst 1, 1) := by decide +kernel
theorem dX7_search_12 : decode cX7_search 12 = .ok (.istore_n 2, 1) := by decide +kernel
theorem dX7_search_13 : decode cX7_search 13 = .ok (.iload_n 2, 1) := by decide +kernel
theorem dX7_search_14 : decode cX7_search 14 = .ok (.iload_n 1, 1) := by decide +kernel
theorem dX7_search_15 : decode cX7_search 15 = .ok (.if_icmp .gt 39, 3) := by decide +kernel
theorem dX7_search_18 : decode cX7_search 18 = .ok (.iconst 0, 1) := by decide +kernel
theorem dX7_search_19 : decode cX7_search 19 = .ok (.istore_n 3, 1) := by decide +kernel
theorem dX7_search_20 : decode cX7_search 20 = .ok (.iload_n 3, 1) := by decide +kernel
theorem dX7_search_21 : decode cX7_search 21 = .ok (.iload_n 2, 1) := by decide +kernel
theorem dX7_search_22 : decode cX7_search 22 = .ok (.if_icmp .gt 26, 3) := by decide +kernel
theorem dX7_search_25 : decode cX7_search 25 = .ok (.aload_n 0, 1) := by decide +kernel
theorem dX7_search_26 : decode cX7_search 26 = .ok (.iload_n 2, 1) := by decide +kernel
theorem dX7_search_27 : decode cX7_search 27 = .ok (.iload_n 3, 1) := by decide +kernel
theorem dX7_search_28 : decode cX7_search 28 = .ok (.iload_n 1, 1) := by decide +kernel
theorem dX7_search_29 : decode cX7_search 29 = .ok (.invokevirtual 165, 3) := by decide +kernel
theorem dX7_search_32 : decode cX7_search 32 = .ok (.ifCond .eq 10, 3) := by decide +kernel
theorem dX7_search_35 : decode cX7_search 35 = .ok (.bipush 100, 2) := by decide +kernel
theorem dX7_search_37 : decode cX7_search 37 = .ok (.iload_n 2, 1) := by decide +kernel
theorem dX7_search_38 : decode cX7_search 38 = .ok (.imul, 1) := by decide +kernel
theorem dX7_search_39 : decode cX7_search 39 = .ok (.iload_n 3, 1) := by decide +kernel
theorem dX7_search_40 : decode cX7_search 40 = .ok (.iadd, 1) := by decide +kernel
theorem dX7_search_41 : decode cX7_search 41 = .ok (.ireturn, 1) := by decide +kernel
theorem dX7_search_42 : decode cX7_search 42 = .ok (.iinc 3 1, 3) := by decide +kernel
theorem dX7_search_45 : decode cX7_search 45 = .ok (.goto (-25), 3) := by decide +kernel
theorem dX7_search_48 : decode cX7_search 48 = .ok (.iinc 2 1, 3) := by decide +kernel
theorem dX7_search_51 : decode cX7_search 51 = .ok (.goto (-38), 3) := by decide +kernel
theorem dX7_search_54 : decode cX7_search 54 = .ok (.iconst (-1), 1) := by decide +kernel
theorem dX7_search_55 : decode cX7_search 55 = .ok (.ireturn, 1) := by decide +kernel
theorem dX7_minimal_0 : decode cX7_minimal 0 = .ok (.aload_n 0, 1) := by decide +kernel
theorem dX7_minimal_1 : decode cX7_minimal 1 = .ok (.iload_n 1, 1) := by decide +kernel
theorem dX7_minimal_2 : decode cX7_minimal 2 = .ok (.invokevirtual 162, 3) := by decide +kernel
theorem dX7_minimal_5 : decode cX7_minimal 5 = .ok (.ifCond .eq 7, 3) := by decide +kernel
theorem dX7_minimal_8 : decode cX7_minimal 8 = .ok (.iload_n 2, 1) := by decide +kernel
theorem dX7_minimal_9 : decode cX7_minimal 9 = .ok (.ifCond .ge 6, 3) := by decide +kernel
theorem dX7_minimal_12 : decode cX7_minimal 12 = .ok (.bipush (-2), 2) := by decide +kernel
theorem dX7_minimal_14 : decode cX7_minimal 14 = .ok (.ireturn, 1) := by decide +kernel
theorem dX7_minimal_15 : decode cX7_minimal 15 = .ok (.iconst 0, 1) := by decide +kernel
theorem dX7_minimal_16 : decode cX7_minimal 16 = .ok (.istore_n 3, 1) := by decide +kernel
theorem dX7_minimal_17 : decode cX7_minimal 17 = .ok (.sipush 1000, 3) := by decide +kernel
theorem dX7_minimal_20 : decode cX7_minimal 20 = .ok (.istore 4, 2) := by decide +kernel
theorem dX7_minimal_22 : decode cX7_minimal 22 = .ok (.iconst 1, 1) := by decide +kernel
theorem dX7_minimal_23 : decode cX7_minimal 23 = .ok (.istore 5, 2) := by decide +kernel
theorem dX7_minimal_25 : decode cX7_minimal 25 = .ok (.iload 5, 2) := by decide +kernel
theorem dX7_minimal_27 : decode cX7_minimal 27 = .ok (.iload_n 1, 1) := by decide +kernel
theorem dX7_minimal_28 : decode cX7_minimal 28 = .ok (.if_icmp .gt 85, 3) := by decide +kernel
theorem dX7_minimal_31 : decode cX7_minimal 31 = .ok (.iconst (-1), 1) := by decide +kernel
theorem dX7_minimal_32 : decode cX7_minimal 32 = .ok (.istore 6, 2) := by decide +kernel
theorem dX7_minimal_34 : decode cX7_minimal 34 = .ok (.iconst 0, 1) := by decide +kernel
theorem dX7_minimal_35 : decode cX7_minimal 35 = .ok (.istore 7, 2) := by decide +kernel
theorem dX7_minimal_37 : decode cX7_minimal 37 = .ok (.iload 7, 2) := by decide +kernel
theorem dX7_minimal_39 : decode cX7_minimal 39 = .ok (.iload 5, 2) := by decide +kernel
theorem dX7_minimal_41 : decode cX7_minimal 41 = .ok (.if_icmp .gt 30, 3) := by decide +kernel
theorem dX7_minimal_44 : decode cX7_minimal 44 = .ok (.iload 6, 2) := by decide +kernel
theorem dX7_minimal_46 : decode cX7_minimal 46 = .ok (.ifCond .ge 25, 3) := by decide +kernel
theorem dX7_minimal_49 : decode cX7_minimal 49 = .ok (.aload_n 0, 1) := by decide +kernel
theorem dX7_minimal_50 : decode cX7_minimal 50 = .ok (.iload 5, 2) := by decide +kernel
theorem dX7_minimal_52 : decode cX7_minimal 52 = .ok (.iload 7, 2) := by decide +kernel
theorem dX7_minimal_54 : decode cX7_minimal 54 = .ok (.iload_n 1, 1) := by decide +kernel
theorem dX7_minimal_55 : decode cX7_minimal 55 = .ok (.invokevirtual 165, 3) := by decide +kernel
theorem dX7_minimal_58 : decode cX7_minimal 58 = .ok (.ifCond .eq 7, 3) := by decide +kernel
theorem dX7_minimal_61 : decode cX7_minimal 61 = .ok (.iload 7, 2) := by decide +kernel
theorem dX7_minimal_63 : decode cX7_minimal 63 = .ok (.istore 6, 2) := by decide +kernel
theorem dX7_minimal_65 : decode cX7_minimal 65 = .ok (.iinc 7 1, 3) := by decide +kernel
theorem dX7_minimal_68 : decode cX7_minimal 68 = .ok (.goto (-31), 3) := by decide +kernel
theorem dX7_minimal_71 : decode cX7_minimal 71 = .ok (.iload 6, 2) := by decide +kernel
theorem dX7_minimal_73 : decode cX7_minimal 73 = .ok (.ifCond .lt 34, 3) := by decide +kernel
theorem dX7_minimal_76 : decode cX7_minimal 76 = .ok (.iload 6, 2) := by decide +kernel
theorem dX7_minimal_78 : decode cX7_minimal 78 = .ok (.iload 4, 2) := by decide +kernel
theorem dX7_minimal_80 : decode cX7_minimal 80 = .ok (.if_icmp .lt 6, 3) := by decide +kernel
theorem dX7_minimal_83 : decode cX7_minimal 83 = .ok (.goto 24, 3) := by decide +kernel
theorem dX7_minimal_86 : decode cX7_minimal 86 = .ok (.iload 6, 2) := by decide +kernel
theorem dX7_minimal_88 : decode cX7_minimal 88 = .ok (.istore 4, 2) := by decide +kernel
theorem dX7_minimal_90 : decode cX7_minimal 90 = .ok (.iload_n 3, 1) := by decide +kernel
theorem dX7_minimal_91 : decode cX7_minimal 91 = .ok (.iload_n 2, 1) := by decide +kernel
theorem dX7_minimal_92 : decode cX7_minimal 92 = .ok (.if_icmp .ne 12, 3) := by decide +kernel
theorem dX7_minimal_95 : decode cX7_minimal 95 = .ok (.bipush 100, 2) := by decide +kernel
theorem dX7_minimal_97 : decode cX7_minimal 97 = .ok (.iload 5, 2) := by decide +kernel
theorem dX7_minimal_99 : decode cX7_minimal 99 = .ok (.imul, 1) := by decide +kernel
theorem dX7_minimal_100 : decode cX7_minimal 100 = .ok (.iload 6, 2) := by decide +kernel
theorem dX7_minimal_102 : decode cX7_minimal 102 = .ok (.iadd, 1) := by decide +kernel
theorem dX7_minimal_103 : decode cX7_minimal 103 = .ok (.ireturn, 1) := by decide +kernel
theorem dX7_minimal_104 : decode cX7_minimal 104 = .ok (.iinc 3 1, 3) := by decide +kernel
theorem dX7_minimal_107 : decode cX7_minimal 107 = .ok (.iinc 5 1, 3) := by decide +kernel
theorem dX7_minimal_110 : decode cX7_minimal 110 = .ok (.goto (-85), 3) := by decide +kernel
theorem dX7_minimal_113 : decode cX7_minimal 113 = .ok (.iconst (-1), 1) := by decide +kernel
theorem dX7_minimal_114 : decode cX7_minimal 114 = .ok (.ireturn, 1) := by decide +kernel
theorem dX7_isSupplier_0 : decode cX7_isSupplier 0 = .ok (.iload_n 1, 1) := by decide +kernel
theorem dX7_isSupplier_1 : decode cX7_isSupplier 1 = .ok (.iconst 0, 1) := by decide +kernel
theorem dX7_isSupplier_2 : decode cX7_isSupplier 2 = .ok (.aload_n 0, 1) := by decide +kernel
theorem dX7_isSupplier_3 : decode cX7_isSupplier 3 = .ok (.getfield 168, 3) := by decide +kernel
theorem dX7_isSupplier_6 : decode cX7_isSupplier 6 = .ok (.iconst 1, 1) := by decide +kernel
theorem dX7_isSupplier_7 : decode cX7_isSupplier 7 = .ok (.isub, 1) := by decide +kernel
theorem dX7_isSupplier_8 : decode cX7_isSupplier 8 = .ok (.invokestatic 95, 3) := by decide +kernel
theorem dX7_isSupplier_11 : decode cX7_isSupplier 11 = .ok (.ireturn, 1) := by decide +kernel
theorem dX7_isLot_0 : decode cX7_isLot 0 = .ok (.iload_n 1, 1) := by decide +kernel
theorem dX7_isLot_1 : decode cX7_isLot 1 = .ok (.iconst 0, 1) := by decide +kernel
theorem dX7_isLot_2 : decode cX7_isLot 2 = .ok (.aload_n 0, 1) := by decide +kernel
theorem dX7_isLot_3 : decode cX7_isLot 3 = .ok (.getfield 171, 3) := by decide +kernel
theorem dX7_isLot_6 : decode cX7_isLot 6 = .ok (.iconst 1, 1) := by decide +kernel
theorem dX7_isLot_7 : decode cX7_isLot 7 = .ok (.isub, 1) := by decide +kernel
theorem dX7_isLot_8 : decode cX7_isLot 8 = .ok (.invokestatic 95, 3) := by decide +kernel
theorem dX7_isLot_11 : decode cX7_isLot 11 = .ok (.ireturn, 1) := by decide +kernel
theorem dX7_supplier_0 : decode cX7_supplier 0 = .ok (.aload_n 0, 1) := by decide +kernel
theorem dX7_supplier_1 : decode cX7_supplier 1 = .ok (.iload_n 1, 1) := by decide +kernel
theorem dX7_supplier_2 : decode cX7_supplier 2 = .ok (.invokevirtual 107, 3) := by decide +kernel
theorem dX7_supplier_5 : decode cX7_supplier 5 = .ok (.ifCond .eq 28, 3) := by decide +kernel
theorem dX7_supplier_8 : decode cX7_supplier 8 = .ok (.aload_n 0, 1) := by decide +kernel
theorem dX7_supplier_9 : decode cX7_supplier 9 = .ok (.iload_n 2, 1) := by decide +kernel
theorem dX7_supplier_10 : decode cX7_supplier 10 = .ok (.invokevirtual 107, 3) := by decide +kernel
theorem dX7_supplier_13 : decode cX7_supplier 13 = .ok (.ifCond .eq 20, 3) := by decide +kernel
theorem dX7_supplier_16 : decode cX7_supplier 16 = .ok (.aload_n 0, 1) := by decide +kernel
theorem dX7_supplier_17 : decode cX7_supplier 17 = .ok (.iload_n 3, 1) := by decide +kernel
theorem dX7_supplier_18 : decode cX7_supplier 18 = .ok (.invokevirtual 107, 3) := by decide +kernel
theorem dX7_supplier_21 : decode cX7_supplier 21 = .ok (.ifCond .eq 12, 3) := by decide +kernel
theorem dX7_supplier_24 : decode cX7_supplier 24 = .ok (.aload_n 0, 1) := by decide +kernel
theorem dX7_supplier_25 : decode cX7_supplier 25 = .ok (.getfield 168, 3) := by decide +kernel
theorem dX7_supplier_28 : decode cX7_supplier 28 = .ok (.bipush 8, 2) := by decide +kernel
theorem dX7_supplier_30 : decode cX7_supplier 30 = .ok (.if_icmp .ne 6, 3) := by decide +kernel
theorem dX7_supplier_33 : decode cX7_supplier 33 = .ok (.bipush (-2), 2) := by decide +kernel
theorem dX7_supplier_35 : decode cX7_supplier 35 = .ok (.ireturn, 1) := by decide +kernel
theorem dX7_supplier_36 : decode cX7_supplier 36 = .ok (.aload_n 0, 1) := by decide +kernel
theorem dX7_supplier_37 : decode cX7_supplier 37 = .ok (.getfield 43, 3) := by decide +kernel
theorem dX7_supplier_40 : decode cX7_supplier 40 = .ok (.iconst 3, 1) := by decide +kernel
theorem dX7_supplier_41 : decode cX7_supplier 41 = .ok (.aload_n 0, 1) := by decide +kernel
theorem dX7_supplier_42 : decode cX7_supplier 42 = .ok (.getfield 168, 3) := by decide +kernel
theorem dX7_supplier_45 : decode cX7_supplier 45 = .ok (.imul, 1) := by decide +kernel
theorem dX7_supplier_46 : decode cX7_supplier 46 = .ok (.iload_n 1, 1) := by decide +kernel
theorem dX7_supplier_47 : decode cX7_supplier 47 = .ok (.iastore, 1) := by decide +kernel
theorem dX7_supplier_48 : decode cX7_supplier 48 = .ok (.aload_n 0, 1) := by decide +kernel
theorem dX7_supplier_49 : decode cX7_supplier 49 = .ok (.getfield 43, 3) := by decide +kernel
theorem dX7_supplier_52 : decode cX7_supplier 52 = .ok (.iconst 3, 1) := by decide +kernel
theorem dX7_supplier_53 : decode cX7_supplier 53 = .ok (.aload_n 0, 1) := by decide +kernel
theorem dX7_supplier_54 : decode cX7_supplier 54 = .ok (.getfield 168, 3) := by decide +kernel
theorem dX7_supplier_57 : decode cX7_supplier 57 = .ok (.imul, 1) := by decide +kernel
theorem dX7_supplier_58 : decode cX7_supplier 58 = .ok (.iconst 1, 1) := by decide +kernel
theorem dX7_supplier_59 : decode cX7_supplier 59 = .ok (.iadd, 1) := by decide +kernel
theorem dX7_supplier_60 : decode cX7_supplier 60 = .ok (.iload_n 2, 1) := by decide +kernel
theorem dX7_supplier_61 : decode cX7_supplier 61 = .ok (.iastore, 1) := by decide +kernel
theorem dX7_supplier_62 : decode cX7_supplier 62 = .ok (.aload_n 0, 1) := by decide +kernel
theorem dX7_supplier_63 : decode cX7_supplier 63 = .ok (.getfield 43, 3) := by decide +kernel
theorem dX7_supplier_66 : decode cX7_supplier 66 = .ok (.iconst 3, 1) := by decide +kernel
theorem dX7_supplier_67 : decode cX7_supplier 67 = .ok (.aload_n 0, 1) := by decide +kernel
theorem dX7_supplier_68 : decode cX7_supplier 68 = .ok (.getfield 168, 3) := by decide +kernel
theorem dX7_supplier_71 : decode cX7_supplier 71 = .ok (.imul, 1) := by decide +kernel
theorem dX7_supplier_72 : decode cX7_supplier 72 = .ok (.iconst 2, 1) := by decide +kernel
theorem dX7_supplier_73 : decode cX7_supplier 73 = .ok (.iadd, 1) := by decide +kernel
theorem dX7_supplier_74 : decode cX7_supplier 74 = .ok (.iload_n 3, 1) := by decide +kernel
theorem dX7_supplier_75 : decode cX7_supplier 75 = .ok (.iastore, 1) := by decide +kernel
theorem dX7_supplier_76 : decode cX7_supplier 76 = .ok (.aload_n 0, 1) := by decide +kernel
theorem dX7_supplier_77 : decode cX7_supplier 77 = .ok (.getfield 46, 3) := by decide +kernel
theorem dX7_supplier_80 : decode cX7_supplier 80 = .ok (.aload_n 0, 1) := by decide +kernel
theorem dX7_supplier_81 : decode cX7_supplier 81 = .ok (.getfield 168, 3) := by decide +kernel
theorem dX7_supplier_84 : decode cX7_supplier 84 = .ok (.iconst 0, 1) := by decide +kernel
theorem dX7_supplier_85 : decode cX7_supplier 85 = .ok (.iastore, 1) := by decide +kernel
theorem dX7_supplier_86 : decode cX7_supplier 86 = .ok (.aload_n 0, 1) := by decide +kernel
theorem dX7_supplier_87 : decode cX7_supplier 87 = .ok (.dup, 1) := by decide +kernel
theorem dX7_supplier_88 : decode cX7_supplier 88 = .ok (.getfield 168, 3) := by decide +kernel
theorem dX7_supplier_91 : decode cX7_supplier 91 = .ok (.iconst 1, 1) := by decide +kernel
theorem dX7_supplier_92 : decode cX7_supplier 92 = .ok (.iadd, 1) := by decide +kernel
theorem dX7_supplier_93 : decode cX7_supplier 93 = .ok (.putfield 168, 3) := by decide +kernel
theorem dX7_supplier_96 : decode cX7_supplier 96 = .ok (.aload_n 0, 1) := by decide +kernel
theorem dX7_supplier_97 : decode cX7_supplier 97 = .ok (.getfield 168, 3) := by decide +kernel
theorem dX7_supplier_100 : decode cX7_supplier 100 = .ok (.iconst 1, 1) := by decide +kernel
theorem dX7_supplier_101 : decode cX7_supplier 101 = .ok (.isub, 1) := by decide +kernel
theorem dX7_supplier_102 : decode cX7_supplier 102 = .ok (.ireturn, 1) := by decide +kernel
theorem dX7_lot_0 : decode cX7_lot 0 = .ok (.aload_n 0, 1) := by decide +kernel
theorem dX7_lot_1 : decode cX7_lot 1 = .ok (.iload_n 1, 1) := by decide +kernel
theorem dX7_lot_2 : decode cX7_lot 2 = .ok (.invokevirtual 174, 3) := by decide +kernel
theorem dX7_lot_5 : decode cX7_lot 5 = .ok (.ifCond .eq 45, 3) := by decide +kernel
theorem dX7_lot_8 : decode cX7_lot 8 = .ok (.iload_n 2, 1) := by decide +kernel
theorem dX7_lot_9 : decode cX7_lot 9 = .ok (.iconst 1, 1) := by decide +kernel
theorem dX7_lot_10 : decode cX7_lot 10 = .ok (.bipush 60, 2) := by decide +kernel
theorem dX7_lot_12 : decode cX7_lot 12 = .ok (.invokestatic 95, 3) := by decide +kernel
theorem dX7_lot_15 : decode cX7_lot 15 = .ok (.ifCond .eq 35, 3) := by decide +kernel
theorem dX7_lot_18 : decode cX7_lot 18 = .ok (.iload_n 2, 1) := by decide +kernel
theorem dX7_lot_19 : decode cX7_lot 19 = .ok (.aload_n 0, 1) := by decide +kernel
theorem dX7_lot_20 : decode cX7_lot 20 = .ok (.aload_n 0, 1) := by decide +kernel
theorem dX7_lot_21 : decode cX7_lot 21 = .ok (.getfield 43, 3) := by decide +kernel
theorem dX7_lot_24 : decode cX7_lot 24 = .ok (.iconst 3, 1) := by decide +kernel
theorem dX7_lot_25 : decode cX7_lot 25 = .ok (.iload_n 1, 1) := by decide +kernel
theorem dX7_lot_26 : decode cX7_lot 26 = .ok (.imul, 1) := by decide +kernel
theorem dX7_lot_27 : decode cX7_lot 27 = .ok (.aload_n 0, 1) := by decide +kernel
theorem dX7_lot_28 : decode cX7_lot 28 = .ok (.getfield 46, 3) := by decide +kernel
theorem dX7_lot_31 : decode cX7_lot 31 = .ok (.iload_n 1, 1) := by decide +kernel
theorem dX7_lot_32 : decode cX7_lot 32 = .ok (.iaload, 1) := by decide +kernel
theorem dX7_lot_33 : decode cX7_lot 33 = .ok (.iadd, 1) := by decide +kernel
theorem dX7_lot_34 : decode cX7_lot 34 = .ok (.iaload, 1) := by decide +kernel
theorem dX7_lot_35 : decode cX7_lot 35 = .ok (.invokevirtual 110, 3) := by decide +kernel
theorem dX7_lot_38 : decode cX7_lot 38 = .ok (.if_icmp .lt 12, 3) := by decide +kernel
theorem dX7_lot_41 : decode cX7_lot 41 = .ok (.aload_n 0, 1) := by decide +kernel
theorem dX7_lot_42 : decode cX7_lot 42 = .ok (.getfield 171, 3) := by decide +kernel
theorem dX7_lot_45 : decode cX7_lot 45 = .ok (.bipush 60, 2) := by decide +kernel
theorem dX7_lot_47 : decode cX7_lot 47 = .ok (.if_icmp .ne 6, 3) := by decide +kernel
theorem dX7_lot_50 : decode cX7_lot 50 = .ok (.bipush (-2), 2) := by decide +kernel
theorem dX7_lot_52 : decode cX7_lot 52 = .ok (.ireturn, 1) := by decide +kernel
theorem dX7_lot_53 : decode cX7_lot 53 = .ok (.aload_n 0, 1) := by decide +kernel
theorem dX7_lot_54 : decode cX7_lot 54 = .ok (.getfield 58, 3) := by decide +kernel
theorem dX7_lot_57 : decode cX7_lot 57 = .ok (.aload_n 0, 1) := by decide +kernel
theorem dX7_lot_58 : decode cX7_lot 58 = .ok (.getfield 171, 3) := by decide +kernel
theorem dX7_lot_61 : decode cX7_lot 61 = .ok (.iload_n 1, 1) := by decide +kernel
theorem dX7_lot_62 : decode cX7_lot 62 = .ok (.iastore, 1) := by decide +kernel
theorem dX7_lot_63 : decode cX7_lot 63 = .ok (.aload_n 0, 1) := by decide +kernel
theorem dX7_lot_64 : decode cX7_lot 64 = .ok (.getfield 61, 3) := by decide +kernel
theorem dX7_lot_67 : decode cX7_lot 67 = .ok (.aload_n 0, 1) := by decide +kernel
theorem dX7_lot_68 : decode cX7_lot 68 = .ok (.getfield 171, 3) := by decide +kernel
theorem dX7_lot_71 : decode cX7_lot 71 = .ok (.iload_n 2, 1) := by decide +kernel
theorem dX7_lot_72 : decode cX7_lot 72 = .ok (.iastore, 1) := by decide +kernel
theorem dX7_lot_73 : decode cX7_lot 73 = .ok (.aload_n 0, 1) := by decide +kernel
theorem dX7_lot_74 : decode cX7_lot 74 = .ok (.getfield 67, 3) := by decide +kernel
theorem dX7_lot_77 : decode cX7_lot 77 = .ok (.aload_n 0, 1) := by decide +kernel
theorem dX7_lot_78 : decode cX7_lot 78 = .ok (.getfield 171, 3) := by decide +kernel
theorem dX7_lot_81 : decode cX7_lot 81 = .ok (.aload_n 0, 1) := by decide +kernel
theorem dX7_lot_82 : decode cX7_lot 82 = .ok (.getfield 46, 3) := by decide +kernel
theorem dX7_lot_85 : decode cX7_lot 85 = .ok (.iload_n 1, 1) := by decide +kernel
theorem dX7_lot_86 : decode cX7_lot 86 = .ok (.iaload, 1) := by decide +kernel
theorem dX7_lot_87 : decode cX7_lot 87 = .ok (.iastore, 1) := by decide +kernel
theorem dX7_lot_88 : decode cX7_lot 88 = .ok (.aload_n 0, 1) := by decide +kernel
theorem dX7_lot_89 : decode cX7_lot 89 = .ok (.getfield 64, 3) := by decide +kernel
theorem dX7_lot_92 : decode cX7_lot 92 = .ok (.aload_n 0, 1) := by decide +kernel
theorem dX7_lot_93 : decode cX7_lot 93 = .ok (.getfield 171, 3) := by decide +kernel
theorem dX7_lot_96 : decode cX7_lot 96 = .ok (.aload_n 0, 1) := by decide +kernel
theorem dX7_lot_97 : decode cX7_lot 97 = .ok (.getfield 43, 3) := by decide +kernel
theorem dX7_lot_100 : decode cX7_lot 100 = .ok (.iconst 3, 1) := by decide +kernel
theorem dX7_lot_101 : decode cX7_lot 101 = .ok (.iload_n 1, 1) := by decide +kernel
theorem dX7_lot_102 : decode cX7_lot 102 = .ok (.imul, 1) := by decide +kernel
theorem dX7_lot_103 : decode cX7_lot 103 = .ok (.aload_n 0, 1) := by decide +kernel
theorem dX7_lot_104 : decode cX7_lot 104 = .ok (.getfield 46, 3) := by decide +kernel
theorem dX7_lot_107 : decode cX7_lot 107 = .ok (.iload_n 1, 1) := by decide +kernel
theorem dX7_lot_108 : decode cX7_lot 108 = .ok (.iaload, 1) := by decide +kernel
theorem dX7_lot_109 : decode cX7_lot 109 = .ok (.iadd, 1) := by decide +kernel
theorem dX7_lot_110 : decode cX7_lot 110 = .ok (.iaload, 1) := by decide +kernel
theorem dX7_lot_111 : decode cX7_lot 111 = .ok (.iastore, 1) := by decide +kernel
theorem dX7_lot_112 : decode cX7_lot 112 = .ok (.aload_n 0, 1) := by decide +kernel
theorem dX7_lot_113 : decode cX7_lot 113 = .ok (.getfield 70, 3) := by decide +kernel
theorem dX7_lot_116 : decode cX7_lot 116 = .ok (.aload_n 0, 1) := by decide +kernel
theorem dX7_lot_117 : decode cX7_lot 117 = .ok (.getfield 171, 3) := by decide +kernel
theorem dX7_lot_120 : decode cX7_lot 120 = .ok (.iconst 0, 1) := by decide +kernel
theorem dX7_lot_121 : decode cX7_lot 121 = .ok (.iastore, 1) := by decide +kernel
theorem dX7_lot_122 : decode cX7_lot 122 = .ok (.aload_n 0, 1) := by decide +kernel
theorem dX7_lot_123 : decode cX7_lot 123 = .ok (.dup, 1) := by decide +kernel
theorem dX7_lot_124 : decode cX7_lot 124 = .ok (.getfield 171, 3) := by decide +kernel
theorem dX7_lot_127 : decode cX7_lot 127 = .ok (.iconst 1, 1) := by decide +kernel
theorem dX7_lot_128 : decode cX7_lot 128 = .ok (.iadd, 1) := by decide +kernel
theorem dX7_lot_129 : decode cX7_lot 129 = .ok (.putfield 171, 3) := by decide +kernel
theorem dX7_lot_132 : decode cX7_lot 132 = .ok (.aload_n 0, 1) := by decide +kernel
theorem dX7_lot_133 : decode cX7_lot 133 = .ok (.getfield 171, 3) := by decide +kernel
theorem dX7_lot_136 : decode cX7_lot 136 = .ok (.iconst 1, 1) := by decide +kernel
theorem dX7_lot_137 : decode cX7_lot 137 = .ok (.isub, 1) := by decide +kernel
theorem dX7_lot_138 : decode cX7_lot 138 = .ok (.ireturn, 1) := by decide +kernel
theorem dX7_judge_0 : decode cX7_judge 0 = .ok (.aload_n 0, 1) := by decide +kernel
theorem dX7_judge_1 : decode cX7_judge 1 = .ok (.iconst 0, 1) := by decide +kernel
theorem dX7_judge_2 : decode cX7_judge 2 = .ok (.putfield 177, 3) := by decide +kernel
theorem dX7_judge_5 : decode cX7_judge 5 = .ok (.aload_n 0, 1) := by decide +kernel
theorem dX7_judge_6 : decode cX7_judge 6 = .ok (.iconst 0, 1) := by decide +kernel
theorem dX7_judge_7 : decode cX7_judge 7 = .ok (.putfield 180, 3) := by decide +kernel
theorem dX7_judge_10 : decode cX7_judge 10 = .ok (.aload_n 0, 1) := by decide +kernel
theorem dX7_judge_11 : decode cX7_judge 11 = .ok (.iconst 0, 1) := by decide +kernel
theorem dX7_judge_12 : decode cX7_judge 12 = .ok (.putfield 183, 3) := by decide +kernel
theorem dX7_judge_15 : decode cX7_judge 15 = .ok (.aload_n 0, 1) := by decide +kernel
theorem dX7_judge_16 : decode cX7_judge 16 = .ok (.iconst 0, 1) := by decide +kernel
theorem dX7_judge_17 : decode cX7_judge 17 = .ok (.putfield 186, 3) := by decide +kernel
theorem dX7_judge_20 : decode cX7_judge 20 = .ok (.aload_n 0, 1) := by decide +kernel
theorem dX7_judge_21 : decode cX7_judge 21 = .ok (.getfield 64, 3) := by decide +kernel
theorem dX7_judge_24 : decode cX7_judge 24 = .ok (.iload_n 1, 1) := by decide +kernel
theorem dX7_judge_25 : decode cX7_judge 25 = .ok (.iaload, 1) := by decide +kernel
theorem dX7_judge_26 : decode cX7_judge 26 = .ok (.istore_n 2, 1) := by decide +kernel
theorem dX7_judge_27 : decode cX7_judge 27 = .ok (.iconst 0, 1) := by decide +kernel
theorem dX7_judge_28 : decode cX7_judge 28 = .ok (.istore_n 3, 1) := by decide +kernel
theorem dX7_judge_29 : decode cX7_judge 29 = .ok (.iconst 0, 1) := by decide +kernel
theorem dX7_judge_30 : decode cX7_judge 30 = .ok (.istore 4, 2) := by decide +kernel
theorem dX7_judge_32 : decode cX7_judge 32 = .ok (.aload_n 0, 1) := by decide +kernel
theorem dX7_judge_33 : decode cX7_judge 33 = .ok (.getfield 177, 3) := by decide +kernel
theorem dX7_judge_36 : decode cX7_judge 36 = .ok (.ifCond .ne 173, 3) := by decide +kernel
theorem dX7_judge_39 : decode cX7_judge 39 = .ok (.aload_n 0, 1) := by decide +kernel
theorem dX7_judge_40 : decode cX7_judge 40 = .ok (.getfield 180, 3) := by decide +kernel
theorem dX7_judge_43 : decode cX7_judge 43 = .ok (.aload_n 0, 1) := by decide +kernel
theorem dX7_judge_44 : decode cX7_judge 44 = .ok (.getfield 70, 3) := by decide +kernel
theorem dX7_judge_47 : decode cX7_judge 47 = .ok (.iload_n 1, 1) := by decide +kernel
theorem dX7_judge_48 : decode cX7_judge 48 = .ok (.iaload, 1) := by decide +kernel
theorem dX7_judge_49 : decode cX7_judge 49 = .ok (.if_icmp .ge 160, 3) := by decide +kernel
theorem dX7_judge_52 : decode cX7_judge 52 = .ok (.aload_n 0, 1) := by decide +kernel
theorem dX7_judge_53 : decode cX7_judge 53 = .ok (.getfield 73, 3) := by decide +kernel
theorem dX7_judge_56 : decode cX7_judge 56 = .ok (.bipush 60, 2) := by decide +kernel
theorem dX7_judge_58 : decode cX7_judge 58 = .ok (.iload_n 1, 1) := by decide +kernel
theorem dX7_judge_59 : decode cX7_judge 59 = .ok (.imul, 1) := by decide +kernel
theorem dX7_judge_60 : decode cX7_judge 60 = .ok (.aload_n 0, 1) := by decide +kernel
theorem dX7_judge_61 : decode cX7_judge 61 = .ok (.getfield 180, 3) := by decide +kernel
theorem dX7_judge_64 : decode cX7_judge 64 = .ok (.iadd, 1) := by decide +kernel
theorem dX7_judge_65 : decode cX7_judge 65 = .ok (.iaload, 1) := by decide +kernel
theorem dX7_judge_66 : decode cX7_judge 66 = .ok (.istore 5, 2) := by decide +kernel
theorem dX7_judge_68 : decode cX7_judge 68 = .ok (.aload_n 0, 1) := by decide +kernel
theorem dX7_judge_69 : decode cX7_judge 69 = .ok (.dup, 1) := by decide +kernel
theorem dX7_judge_70 : decode cX7_judge 70 = .ok (.getfield 180, 3) := by decide +kernel
theorem dX7_judge_73 : decode cX7_judge 73 = .ok (.iconst 1, 1) := by decide +kernel
theorem dX7_judge_74 : decode cX7_judge 74 = .ok (.iadd, 1) := by decide +kernel
theorem dX7_judge_75 : decode cX7_judge 75 = .ok (.putfield 180, 3) := by decide +kernel
theorem dX7_judge_78 : decode cX7_judge 78 = .ok (.iload_n 3, 1) := by decide +kernel
theorem dX7_judge_79 : decode cX7_judge 79 = .ok (.iload 5, 2) := by decide +kernel
theorem dX7_judge_81 : decode cX7_judge 81 = .ok (.iconst 1, 1) := by decide +kernel
theorem dX7_judge_82 : decode cX7_judge 82 = .ok (.if_icmp .ne 7, 3) := by decide +kernel
theorem dX7_judge_85 : decode cX7_judge 85 = .ok (.iconst 1, 1) := by decide +kernel
theorem dX7_judge_86 : decode cX7_judge 86 = .ok (.goto 4, 3) := by decide +kernel
theorem dX7_judge_89 : decode cX7_judge 89 = .ok (.iconst 0, 1) := by decide +kernel
theorem dX7_judge_90 : decode cX7_judge 90 = .ok (.iadd, 1) := by decide +kernel
theorem dX7_judge_91 : decode cX7_judge 91 = .ok (.istore_n 3, 1) := by decide +kernel
theorem dX7_judge_92 : decode cX7_judge 92 = .ok (.iload 4, 2) := by decide +kernel
theorem dX7_judge_94 : decode cX7_judge 94 = .ok (.iload 5, 2) := by decide +kernel
theorem dX7_judge_96 : decode cX7_judge 96 = .ok (.iconst 1, 1) := by decide +kernel
theorem dX7_judge_97 : decode cX7_judge 97 = .ok (.if_icmp .le 7, 3) := by decide +kernel
theorem dX7_judge_100 : decode cX7_judge 100 = .ok (.iconst 1, 1) := by decide +kernel
theorem dX7_judge_101 : decode cX7_judge 101 = .ok (.goto 4, 3) := by decide +kernel
theorem dX7_judge_104 : decode cX7_judge 104 = .ok (.iconst 0, 1) := by decide +kernel
theorem dX7_judge_105 : decode cX7_judge 105 = .ok (.iadd, 1) := by decide +kernel
theorem dX7_judge_106 : decode cX7_judge 106 = .ok (.istore 4, 2) := by decide +kernel
theorem dX7_judge_108 : decode cX7_judge 108 = .ok (.aload_n 0, 1) := by decide +kernel
theorem dX7_judge_109 : decode cX7_judge 109 = .ok (.iload 4, 2) := by decide +kernel
theorem dX7_judge_111 : decode cX7_judge 111 = .ok (.iload_n 3, 1) := by decide +kernel
theorem dX7_judge_112 : decode cX7_judge 112 = .ok (.iconst 3, 1) := by decide +kernel
theorem dX7_judge_113 : decode cX7_judge 113 = .ok (.idiv, 1) := by decide +kernel
theorem dX7_judge_114 : decode cX7_judge 114 = .ok (.iadd, 1) := by decide +kernel
theorem dX7_judge_115 : decode cX7_judge 115 = .ok (.putfield 183, 3) := by decide +kernel
theorem dX7_judge_118 : decode cX7_judge 118 = .ok (.iload 5, 2) := by decide +kernel
theorem dX7_judge_120 : decode cX7_judge 120 = .ok (.iconst 3, 1) := by decide +kernel
theorem dX7_judge_121 : decode cX7_judge 121 = .ok (.if_icmp .eq 23, 3) := by decide +kernel
theorem dX7_judge_124 : decode cX7_judge 124 = .ok (.aload_n 0, 1) := by decide +kernel
theorem dX7_judge_125 : decode cX7_judge 125 = .ok (.getfield 183, 3) := by decide +kernel
theorem dX7_judge_128 : decode cX7_judge 128 = .ok (.aload_n 0, 1) := by decide +kernel
theorem dX7_judge_129 : decode cX7_judge 129 = .ok (.getfield 19, 3) := by decide +kernel
theorem dX7_judge_132 : decode cX7_judge 132 = .ok (.iconst 4, 1) := by decide +kernel
theorem dX7_judge_133 : decode cX7_judge 133 = .ok (.iload_n 2, 1) := by decide +kernel
theorem dX7_judge_134 : decode cX7_judge 134 = .ok (.imul, 1) := by decide +kernel
theorem dX7_judge_135 : decode cX7_judge 135 = .ok (.aload_n 0, 1) := by decide +kernel
theorem dX7_judge_136 : decode cX7_judge 136 = .ok (.getfield 186, 3) := by decide +kernel
theorem dX7_judge_139 : decode cX7_judge 139 = .ok (.iadd, 1) := by decide +kernel
theorem dX7_judge_140 : decode cX7_judge 140 = .ok (.iaload, 1) := by decide +kernel
theorem dX7_judge_141 : decode cX7_judge 141 = .ok (.if_icmp .lt 11, 3) := by decide +kernel
theorem dX7_judge_144 : decode cX7_judge 144 = .ok (.aload_n 0, 1) := by decide +kernel
theorem dX7_judge_145 : decode cX7_judge 145 = .ok (.iconst 2, 1) := by decide +kernel
theorem dX7_judge_146 : decode cX7_judge 146 = .ok (.putfield 177, 3) := by decide +kernel
theorem dX7_judge_149 : decode cX7_judge 149 = .ok (.goto 57, 3) := by decide +kernel
theorem dX7_judge_152 : decode cX7_judge 152 = .ok (.aload_n 0, 1) := by decide +kernel
theorem dX7_judge_153 : decode cX7_judge 153 = .ok (.getfield 180, 3) := by decide +kernel
theorem dX7_judge_156 : decode cX7_judge 156 = .ok (.aload_n 0, 1) := by decide +kernel
theorem dX7_judge_157 : decode cX7_judge 157 = .ok (.iload_n 2, 1) := by decide +kernel
theorem dX7_judge_158 : decode cX7_judge 158 = .ok (.aload_n 0, 1) := by decide +kernel
theorem dX7_judge_159 : decode cX7_judge 159 = .ok (.getfield 186, 3) := by decide +kernel
theorem dX7_judge_162 : decode cX7_judge 162 = .ok (.invokevirtual 103, 3) := by decide +kernel
theorem dX7_judge_165 : decode cX7_judge 165 = .ok (.if_icmp .ne 41, 3) := by decide +kernel
theorem dX7_judge_168 : decode cX7_judge 168 = .ok (.aload_n 0, 1) := by decide +kernel
theorem dX7_judge_169 : decode cX7_judge 169 = .ok (.getfield 183, 3) := by decide +kernel
theorem dX7_judge_172 : decode cX7_judge 172 = .ok (.aload_n 0, 1) := by decide +kernel
theorem dX7_judge_173 : decode cX7_judge 173 = .ok (.getfield 16, 3) := by decide +kernel
theorem dX7_judge_176 : decode cX7_judge 176 = .ok (.iconst 4, 1) := by decide +kernel
theorem dX7_judge_177 : decode cX7_judge 177 = .ok (.iload_n 2, 1) := by decide +kernel
theorem dX7_judge_178 : decode cX7_judge 178 = .ok (.imul, 1) := by decide +kernel
theorem dX7_judge_179 : decode cX7_judge 179 = .ok (.aload_n 0, 1) := by decide +kernel
theorem dX7_judge_180 : decode cX7_judge 180 = .ok (.getfield 186, 3) := by decide +kernel
theorem dX7_judge_183 : decode cX7_judge 183 = .ok (.iadd, 1) := by decide +kernel
theorem dX7_judge_184 : decode cX7_judge 184 = .ok (.iaload, 1) := by decide +kernel
theorem dX7_judge_185 : decode cX7_judge 185 = .ok (.if_icmp .gt 11, 3) := by decide +kernel
theorem dX7_judge_188 : decode cX7_judge 188 = .ok (.aload_n 0, 1) := by decide +kernel
theorem dX7_judge_189 : decode cX7_judge 189 = .ok (.iconst 1, 1) := by decide +kernel
theorem dX7_judge_190 : decode cX7_judge 190 = .ok (.putfield 177, 3) := by decide +kernel
theorem dX7_judge_193 : decode cX7_judge 193 = .ok (.goto 13, 3) := by decide +kernel
theorem dX7_judge_196 : decode cX7_judge 196 = .ok (.aload_n 0, 1) := by decide +kernel
theorem dX7_judge_197 : decode cX7_judge 197 = .ok (.dup, 1) := by decide +kernel
theorem dX7_judge_198 : decode cX7_judge 198 = .ok (.getfield 186, 3) := by decide +kernel
theorem dX7_judge_201 : decode cX7_judge 201 = .ok (.iconst 1, 1) := by decide +kernel
theorem dX7_judge_202 : decode cX7_judge 202 = .ok (.iadd, 1) := by decide +kernel
theorem dX7_judge_203 : decode cX7_judge 203 = .ok (.putfield 186, 3) := by decide +kernel
theorem dX7_judge_206 : decode cX7_judge 206 = .ok (.goto (-174), 3) := by decide +kernel
theorem dX7_judge_209 : decode cX7_judge 209 = .ok (.return_, 1) := by decide +kernel
theorem dX7_isOpen_0 : decode cX7_isOpen 0 = .ok (.aload_n 0, 1) := by decide +kernel
theorem dX7_isOpen_1 : decode cX7_isOpen 1 = .ok (.iload_n 1, 1) := by decide +kernel
theorem dX7_isOpen_2 : decode cX7_isOpen 2 = .ok (.invokevirtual 189, 3) := by decide +kernel
theorem dX7_isOpen_5 : decode cX7_isOpen 5 = .ok (.ifCond .ne 5, 3) := by decide +kernel
theorem dX7_isOpen_8 : decode cX7_isOpen 8 = .ok (.iconst 0, 1) := by decide +kernel
theorem dX7_isOpen_9 : decode cX7_isOpen 9 = .ok (.ireturn, 1) := by decide +kernel
theorem dX7_isOpen_10 : decode cX7_isOpen 10 = .ok (.aload_n 0, 1) := by decide +kernel
theorem dX7_isOpen_11 : decode cX7_isOpen 11 = .ok (.iload_n 1, 1) := by decide +kernel
theorem dX7_isOpen_12 : decode cX7_isOpen 12 = .ok (.invokevirtual 192, 3) := by decide +kernel
theorem dX7_isOpen_15 : decode cX7_isOpen 15 = .ok (.aload_n 0, 1) := by decide +kernel
theorem dX7_isOpen_16 : decode cX7_isOpen 16 = .ok (.getfield 177, 3) := by decide +kernel
theorem dX7_isOpen_19 : decode cX7_isOpen 19 = .ok (.ifCond .ne 7, 3) := by decide +kernel
theorem dX7_isOpen_22 : decode cX7_isOpen 22 = .ok (.iconst 1, 1) := by decide +kernel
theorem dX7_isOpen_23 : decode cX7_isOpen 23 = .ok (.goto 4, 3) := by decide +kernel
theorem dX7_isOpen_26 : decode cX7_isOpen 26 = .ok (.iconst 0, 1) := by decide +kernel
theorem dX7_isOpen_27 : decode cX7_isOpen 27 = .ok (.ireturn, 1) := by decide +kernel
theorem dX7_hears_0 : decode cX7_hears 0 = .ok (.aload_n 0, 1) := by decide +kernel
theorem dX7_hears_1 : decode cX7_hears 1 = .ok (.iload_n 1, 1) := by decide +kernel
theorem dX7_hears_2 : decode cX7_hears 2 = .ok (.invokevirtual 192, 3) := by decide +kernel
theorem dX7_hears_5 : decode cX7_hears 5 = .ok (.aload_n 0, 1) := by decide +kernel
theorem dX7_hears_6 : decode cX7_hears 6 = .ok (.getfield 70, 3) := by decide +kernel
theorem dX7_hears_9 : decode cX7_hears 9 = .ok (.iload_n 1, 1) := by decide +kernel
theorem dX7_hears_10 : decode cX7_hears 10 = .ok (.aload_n 0, 1) := by decide +kernel
theorem dX7_hears_11 : decode cX7_hears 11 = .ok (.getfield 180, 3) := by decide +kernel
theorem dX7_hears_14 : decode cX7_hears 14 = .ok (.iastore, 1) := by decide +kernel
theorem dX7_hears_15 : decode cX7_hears 15 = .ok (.aload_n 0, 1) := by decide +kernel
theorem dX7_hears_16 : decode cX7_hears 16 = .ok (.getfield 177, 3) := by decide +kernel
theorem dX7_hears_19 : decode cX7_hears 19 = .ok (.ifCond .ne 5, 3) := by decide +kernel
theorem dX7_hears_22 : decode cX7_hears 22 = .ok (.iconst 0, 1) := by decide +kernel
theorem dX7_hears_23 : decode cX7_hears 23 = .ok (.ireturn, 1) := by decide +kernel
theorem dX7_hears_24 : decode cX7_hears 24 = .ok (.aload_n 0, 1) := by decide +kernel
theorem dX7_hears_25 : decode cX7_hears 25 = .ok (.getfield 177, 3) := by decide +kernel
theorem dX7_hears_28 : decode cX7_hears 28 = .ok (.istore_n 2, 1) := by decide +kernel
theorem dX7_hears_29 : decode cX7_hears 29 = .ok (.aload_n 0, 1) := by decide +kernel
theorem dX7_hears_30 : decode cX7_hears 30 = .ok (.getfield 58, 3) := by decide +kernel
theorem dX7_hears_33 : decode cX7_hears 33 = .ok (.iload_n 1, 1) := by decide +kernel
theorem dX7_hears_34 : decode cX7_hears 34 = .ok (.iaload, 1) := by decide +kernel
theorem dX7_hears_35 : decode cX7_hears 35 = .ok (.istore_n 3, 1) := by decide +kernel
theorem dX7_hears_36 : decode cX7_hears 36 = .ok (.aload_n 0, 1) := by decide +kernel
theorem dX7_hears_37 : decode cX7_hears 37 = .ok (.getfield 55, 3) := by decide +kernel
theorem dX7_hears_40 : decode cX7_hears 40 = .ok (.bipush 60, 2) := by decide +kernel
theorem dX7_hears_42 : decode cX7_hears 42 = .ok (.iload_n 3, 1) := by decide +kernel
theorem dX7_hears_43 : decode cX7_hears 43 = .ok (.imul, 1) := by decide +kernel
theorem dX7_hears_44 : decode cX7_hears 44 = .ok (.aload_n 0, 1) := by decide +kernel
theorem dX7_hears_45 : decode cX7_hears 45 = .ok (.getfield 52, 3) := by decide +kernel
theorem dX7_hears_48 : decode cX7_hears 48 = .ok (.iload_n 3, 1) := by decide +kernel
theorem dX7_hears_49 : decode cX7_hears 49 = .ok (.iaload, 1) := by decide +kernel
theorem dX7_hears_50 : decode cX7_hears 50 = .ok (.iadd, 1) := by decide +kernel
theorem dX7_hears_51 : decode cX7_hears 51 = .ok (.iload_n 2, 1) := by decide +kernel
theorem dX7_hears_52 : decode cX7_hears 52 = .ok (.iastore, 1) := by decide +kernel
theorem dX7_hears_53 : decode cX7_hears 53 = .ok (.aload_n 0, 1) := by decide +kernel
theorem dX7_hears_54 : decode cX7_hears 54 = .ok (.getfield 52, 3) := by decide +kernel
theorem dX7_hears_57 : decode cX7_hears 57 = .ok (.iload_n 3, 1) := by decide +kernel
theorem dX7_hears_58 : decode cX7_hears 58 = .ok (.dup2, 1) := by decide +kernel
theorem dX7_hears_59 : decode cX7_hears 59 = .ok (.iaload, 1) := by decide +kernel
theorem dX7_hears_60 : decode cX7_hears 60 = .ok (.iconst 1, 1) := by decide +kernel
theorem dX7_hears_61 : decode cX7_hears 61 = .ok (.iadd, 1) := by decide +kernel
theorem dX7_hears_62 : decode cX7_hears 62 = .ok (.iastore, 1) := by decide +kernel
theorem dX7_hears_63 : decode cX7_hears 63 = .ok (.aload_n 0, 1) := by decide +kernel
theorem dX7_hears_64 : decode cX7_hears 64 = .ok (.getfield 46, 3) := by decide +kernel
theorem dX7_hears_67 : decode cX7_hears 67 = .ok (.iload_n 3, 1) := by decide +kernel
theorem dX7_hears_68 : decode cX7_hears 68 = .ok (.iaload, 1) := by decide +kernel
theorem dX7_hears_69 : decode cX7_hears 69 = .ok (.istore 4, 2) := by decide +kernel
theorem dX7_hears_71 : decode cX7_hears 71 = .ok (.iconst 0, 1) := by decide +kernel
theorem dX7_hears_72 : decode cX7_hears 72 = .ok (.istore 5, 2) := by decide +kernel
theorem dX7_hears_74 : decode cX7_hears 74 = .ok (.iconst 0, 1) := by decide +kernel
theorem dX7_hears_75 : decode cX7_hears 75 = .ok (.istore 6, 2) := by decide +kernel
theorem dX7_hears_77 : decode cX7_hears 77 = .ok (.iload 6, 2) := by decide +kernel
theorem dX7_hears_79 : decode cX7_hears 79 = .ok (.iconst 5, 1) := by decide +kernel
theorem dX7_hears_80 : decode cX7_hears 80 = .ok (.if_icmp .ge 30, 3) := by decide +kernel
theorem dX7_hears_83 : decode cX7_hears 83 = .ok (.iload 5, 2) := by decide +kernel
theorem dX7_hears_85 : decode cX7_hears 85 = .ok (.aload_n 0, 1) := by decide +kernel
theorem dX7_hears_86 : decode cX7_hears 86 = .ok (.iload_n 3, 1) := by decide +kernel
theorem dX7_hears_87 : decode cX7_hears 87 = .ok (.iload 6, 2) := by decide +kernel
theorem dX7_hears_89 : decode cX7_hears 89 = .ok (.invokevirtual 196, 3) := by decide +kernel
theorem dX7_hears_92 : decode cX7_hears 92 = .ok (.iconst 2, 1) := by decide +kernel
theorem dX7_hears_93 : decode cX7_hears 93 = .ok (.if_icmp .ne 7, 3) := by decide +kernel
theorem dX7_hears_96 : decode cX7_hears 96 = .ok (.iconst 1, 1) := by decide +kernel
theorem dX7_hears_97 : decode cX7_hears 97 = .ok (.goto 4, 3) := by decide +kernel
theorem dX7_hears_100 : decode cX7_hears 100 = .ok (.iconst 0, 1) := by decide +kernel
theorem dX7_hears_101 : decode cX7_hears 101 = .ok (.iadd, 1) := by decide +kernel
theorem dX7_hears_102 : decode cX7_hears 102 = .ok (.istore 5, 2) := by decide +kernel
theorem dX7_hears_104 : decode cX7_hears 104 = .ok (.iinc 6 1, 3) := by decide +kernel
theorem dX7_hears_107 : decode cX7_hears 107 = .ok (.goto (-30), 3) := by decide +kernel
theorem dX7_hears_110 : decode cX7_hears 110 = .ok (.iconst 0, 1) := by decide +kernel
theorem dX7_hears_111 : decode cX7_hears 111 = .ok (.istore 6, 2) := by decide +kernel
theorem dX7_hears_113 : decode cX7_hears 113 = .ok (.aload_n 0, 1) := by decide +kernel
theorem dX7_hears_114 : decode cX7_hears 114 = .ok (.iload_n 3, 1) := by decide +kernel
theorem dX7_hears_115 : decode cX7_hears 115 = .ok (.iload 6, 2) := by decide +kernel
theorem dX7_hears_117 : decode cX7_hears 117 = .ok (.invokevirtual 196, 3) := by decide +kernel
theorem dX7_hears_120 : decode cX7_hears 120 = .ok (.iconst 1, 1) := by decide +kernel
theorem dX7_hears_121 : decode cX7_hears 121 = .ok (.if_icmp .ne 9, 3) := by decide +kernel
theorem dX7_hears_124 : decode cX7_hears 124 = .ok (.iinc 6 1, 3) := by decide +kernel
theorem dX7_hears_127 : decode cX7_hears 127 = .ok (.goto (-14), 3) := by decide +kernel
theorem dX7_hears_130 : decode cX7_hears 130 = .ok (.iload 4, 2) := by decide +kernel
theorem dX7_hears_132 : decode cX7_hears 132 = .ok (.ifCond .ne 30, 3) := by decide +kernel
theorem dX7_hears_135 : decode cX7_hears 135 = .ok (.iload 5, 2) := by decide +kernel
theorem dX7_hears_137 : decode cX7_hears 137 = .ok (.iconst 2, 1) := by decide +kernel
theorem dX7_hears_138 : decode cX7_hears 138 = .ok (.if_icmp .lt 7, 3) := by decide +kernel
theorem dX7_hears_141 : decode cX7_hears 141 = .ok (.iconst 1, 1) := by decide +kernel
theorem dX7_hears_142 : decode cX7_hears 142 = .ok (.goto 15, 3) := by decide +kernel
theorem dX7_hears_145 : decode cX7_hears 145 = .ok (.iload 6, 2) := by decide +kernel
theorem dX7_hears_147 : decode cX7_hears 147 = .ok (.bipush 6, 2) := by decide +kernel
theorem dX7_hears_149 : decode cX7_hears 149 = .ok (.if_icmp .lt 7, 3) := by decide +kernel
theorem dX7_hears_152 : decode cX7_hears 152 = .ok (.iconst 2, 1) := by decide +kernel
theorem dX7_hears_153 : decode cX7_hears 153 = .ok (.goto 4, 3) := by decide +kernel
theorem dX7_hears_156 : decode cX7_hears 156 = .ok (.iconst 0, 1) := by decide +kernel
theorem dX7_hears_157 : decode cX7_hears 157 = .ok (.istore 4, 2) := by decide +kernel
theorem dX7_hears_159 : decode cX7_hears 159 = .ok (.goto 37, 3) := by decide +kernel
theorem dX7_hears_162 : decode cX7_hears 162 = .ok (.iload 4, 2) := by decide +kernel
theorem dX7_hears_164 : decode cX7_hears 164 = .ok (.iconst 1, 1) := by decide +kernel
theorem dX7_hears_165 : decode cX7_hears 165 = .ok (.if_icmp .ne 19, 3) := by decide +kernel
theorem dX7_hears_168 : decode cX7_hears 168 = .ok (.iload 6, 2) := by decide +kernel
theorem dX7_hears_170 : decode cX7_hears 170 = .ok (.iconst 5, 1) := by decide +kernel
theorem dX7_hears_171 : decode cX7_hears 171 = .ok (.if_icmp .lt 7, 3) := by decide +kernel
theorem dX7_hears_174 : decode cX7_hears 174 = .ok (.iconst 0, 1) := by decide +kernel
theorem dX7_hears_175 : decode cX7_hears 175 = .ok (.goto 4, 3) := by decide +kernel
theorem dX7_hears_178 : decode cX7_hears 178 = .ok (.iconst 1, 1) := by decide +kernel
theorem dX7_hears_179 : decode cX7_hears 179 = .ok (.istore 4, 2) := by decide +kernel
theorem dX7_hears_181 : decode cX7_hears 181 = .ok (.goto 15, 3) := by decide +kernel
theorem dX7_hears_184 : decode cX7_hears 184 = .ok (.iload_n 2, 1) := by decide +kernel
theorem dX7_hears_185 : decode cX7_hears 185 = .ok (.iconst 2, 1) := by decide +kernel
theorem dX7_hears_186 : decode cX7_hears 186 = .ok (.if_icmp .ne 7, 3) := by decide +kernel
theorem dX7_hears_189 : decode cX7_hears 189 = .ok (.iconst 0, 1) := by decide +kernel
theorem dX7_hears_190 : decode cX7_hears 190 = .ok (.goto 4, 3) := by decide +kernel
theorem dX7_hears_193 : decode cX7_hears 193 = .ok (.iconst 2, 1) := by decide +kernel
theorem dX7_hears_194 : decode cX7_hears 194 = .ok (.istore 4, 2) := by decide +kernel
theorem dX7_hears_196 : decode cX7_hears 196 = .ok (.iload 4, 2) := by decide +kernel
theorem dX7_hears_198 : decode cX7_hears 198 = .ok (.aload_n 0, 1) := by decide +kernel
theorem dX7_hears_199 : decode cX7_hears 199 = .ok (.getfield 46, 3) := by decide +kernel
theorem dX7_hears_202 : decode cX7_hears 202 = .ok (.iload_n 3, 1) := by decide +kernel
theorem dX7_hears_203 : decode cX7_hears 203 = .ok (.iaload, 1) := by decide +kernel
theorem dX7_hears_204 : decode cX7_hears 204 = .ok (.if_icmp .eq 28, 3) := by decide +kernel
theorem dX7_hears_207 : decode cX7_hears 207 = .ok (.aload_n 0, 1) := by decide +kernel
theorem dX7_hears_208 : decode cX7_hears 208 = .ok (.getfield 46, 3) := by decide +kernel
theorem dX7_hears_211 : decode cX7_hears 211 = .ok (.iload_n 3, 1) := by decide +kernel
theorem dX7_hears_212 : decode cX7_hears 212 = .ok (.iload 4, 2) := by decide +kernel
theorem dX7_hears_214 : decode cX7_hears 214 = .ok (.iastore, 1) := by decide +kernel
theorem dX7_hears_215 : decode cX7_hears 215 = .ok (.aload_n 0, 1) := by decide +kernel
theorem dX7_hears_216 : decode cX7_hears 216 = .ok (.getfield 49, 3) := by decide +kernel
theorem dX7_hears_219 : decode cX7_hears 219 = .ok (.iload_n 3, 1) := by decide +kernel
theorem dX7_hears_220 : decode cX7_hears 220 = .ok (.dup2, 1) := by decide +kernel
theorem dX7_hears_221 : decode cX7_hears 221 = .ok (.iaload, 1) := by decide +kernel
theorem dX7_hears_222 : decode cX7_hears 222 = .ok (.iconst 1, 1) := by decide +kernel
theorem dX7_hears_223 : decode cX7_hears 223 = .ok (.iadd, 1) := by decide +kernel
theorem dX7_hears_224 : decode cX7_hears 224 = .ok (.iastore, 1) := by decide +kernel
theorem dX7_hears_225 : decode cX7_hears 225 = .ok (.aload_n 0, 1) := by decide +kernel
theorem dX7_hears_226 : decode cX7_hears 226 = .ok (.getfield 52, 3) := by decide +kernel
theorem dX7_hears_229 : decode cX7_hears 229 = .ok (.iload_n 3, 1) := by decide +kernel
theorem dX7_hears_230 : decode cX7_hears 230 = .ok (.iconst 0, 1) := by decide +kernel
theorem dX7_hears_231 : decode cX7_hears 231 = .ok (.iastore, 1) := by decide +kernel
theorem dX7_hears_232 : decode cX7_hears 232 = .ok (.iload_n 2, 1) := by decide +kernel
theorem dX7_hears_233 : decode cX7_hears 233 = .ok (.ireturn, 1) := by decide +kernel
theorem dX7_item_0 : decode cX7_item 0 = .ok (.aload_n 0, 1) := by decide +kernel
theorem dX7_item_1 : decode cX7_item 1 = .ok (.iload_n 1, 1) := by decide +kernel
theorem dX7_item_2 : decode cX7_item 2 = .ok (.invokevirtual 198, 3) := by decide +kernel
theorem dX7_item_5 : decode cX7_item 5 = .ok (.ifCond .eq 12, 3) := by decide +kernel
theorem dX7_item_8 : decode cX7_item 8 = .ok (.iload_n 2, 1) := by decide +kernel
theorem dX7_item_9 : decode cX7_item 9 = .ok (.iconst 0, 1) := by decide +kernel
theorem dX7_item_10 : decode cX7_item 10 = .ok (.iconst 3, 1) := by decide +kernel
theorem dX7_item_11 : decode cX7_item 11 = .ok (.invokestatic 95, 3) := by decide +kernel
theorem dX7_item_14 : decode cX7_item 14 = .ok (.ifCond .ne 6, 3) := by decide +kernel
theorem dX7_item_17 : decode cX7_item 17 = .ok (.bipush (-2), 2) := by decide +kernel
theorem dX7_item_19 : decode cX7_item 19 = .ok (.ireturn, 1) := by decide +kernel
theorem dX7_item_20 : decode cX7_item 20 = .ok (.aload_n 0, 1) := by decide +kernel
theorem dX7_item_21 : decode cX7_item 21 = .ok (.getfield 73, 3) := by decide +kernel
theorem dX7_item_24 : decode cX7_item 24 = .ok (.bipush 60, 2) := by decide +kernel
theorem dX7_item_26 : decode cX7_item 26 = .ok (.iload_n 1, 1) := by decide +kernel
theorem dX7_item_27 : decode cX7_item 27 = .ok (.imul, 1) := by decide +kernel
theorem dX7_item_28 : decode cX7_item 28 = .ok (.aload_n 0, 1) := by decide +kernel
theorem dX7_item_29 : decode cX7_item 29 = .ok (.getfield 70, 3) := by decide +kernel
theorem dX7_item_32 : decode cX7_item 32 = .ok (.iload_n 1, 1) := by decide +kernel
theorem dX7_item_33 : decode cX7_item 33 = .ok (.iaload, 1) := by decide +kernel
theorem dX7_item_34 : decode cX7_item 34 = .ok (.iadd, 1) := by decide +kernel
theorem dX7_item_35 : decode cX7_item 35 = .ok (.iload_n 2, 1) := by decide +kernel
theorem dX7_item_36 : decode cX7_item 36 = .ok (.iastore, 1) := by decide +kernel
theorem dX7_item_37 : decode cX7_item 37 = .ok (.aload_n 0, 1) := by decide +kernel
theorem dX7_item_38 : decode cX7_item 38 = .ok (.getfield 70, 3) := by decide +kernel
theorem dX7_item_41 : decode cX7_item 41 = .ok (.iload_n 1, 1) := by decide +kernel
theorem dX7_item_42 : decode cX7_item 42 = .ok (.dup2, 1) := by decide +kernel
theorem dX7_item_43 : decode cX7_item 43 = .ok (.iaload, 1) := by decide +kernel
theorem dX7_item_44 : decode cX7_item 44 = .ok (.iconst 1, 1) := by decide +kernel
theorem dX7_item_45 : decode cX7_item 45 = .ok (.iadd, 1) := by decide +kernel
theorem dX7_item_46 : decode cX7_item 46 = .ok (.iastore, 1) := by decide +kernel
theorem dX7_item_47 : decode cX7_item 47 = .ok (.aload_n 0, 1) := by decide +kernel
theorem dX7_item_48 : decode cX7_item 48 = .ok (.iload_n 1, 1) := by decide +kernel
theorem dX7_item_49 : decode cX7_item 49 = .ok (.invokevirtual 201, 3) := by decide +kernel
theorem dX7_item_52 : decode cX7_item 52 = .ok (.ireturn, 1) := by decide +kernel
theorem dX7_undo_0 : decode cX7_undo 0 = .ok (.aload_n 0, 1) := by decide +kernel
theorem dX7_undo_1 : decode cX7_undo 1 = .ok (.iload_n 1, 1) := by decide +kernel
theorem dX7_undo_2 : decode cX7_undo 2 = .ok (.invokevirtual 198, 3) := by decide +kernel
theorem dX7_undo_5 : decode cX7_undo 5 = .ok (.ifCond .eq 12, 3) := by decide +kernel
theorem dX7_undo_8 : decode cX7_undo 8 = .ok (.aload_n 0, 1) := by decide +kernel
theorem dX7_undo_9 : decode cX7_undo 9 = .ok (.getfield 70, 3) := by decide +kernel
theorem dX7_undo_12 : decode cX7_undo 12 = .ok (.iload_n 1, 1) := by decide +kernel
theorem dX7_undo_13 : decode cX7_undo 13 = .ok (.iaload, 1) := by decide +kernel
theorem dX7_undo_14 : decode cX7_undo 14 = .ok (.ifCond .ne 6, 3) := by decide +kernel
theorem dX7_undo_17 : decode cX7_undo 17 = .ok (.bipush (-2), 2) := by decide +kernel
theorem dX7_undo_19 : decode cX7_undo 19 = .ok (.ireturn, 1) := by decide +kernel
theorem dX7_undo_20 : decode cX7_undo 20 = .ok (.aload_n 0, 1) := by decide +kernel
theorem dX7_undo_21 : decode cX7_undo 21 = .ok (.getfield 70, 3) := by decide +kernel
theorem dX7_undo_24 : decode cX7_undo 24 = .ok (.iload_n 1, 1) := by decide +kernel
theorem dX7_undo_25 : decode cX7_undo 25 = .ok (.dup2, 1) := by decide +kernel
theorem dX7_undo_26 : decode cX7_undo 26 = .ok (.iaload, 1) := by decide +kernel
theorem dX7_undo_27 : decode cX7_undo 27 = .ok (.iconst 1, 1) := by decide +kernel
theorem dX7_undo_28 : decode cX7_undo 28 = .ok (.isub, 1) := by decide +kernel
theorem dX7_undo_29 : decode cX7_undo 29 = .ok (.iastore, 1) := by decide +kernel
theorem dX7_undo_30 : decode cX7_undo 30 = .ok (.aload_n 0, 1) := by decide +kernel
theorem dX7_undo_31 : decode cX7_undo 31 = .ok (.getfield 70, 3) := by decide +kernel
theorem dX7_undo_34 : decode cX7_undo 34 = .ok (.iload_n 1, 1) := by decide +kernel
theorem dX7_undo_35 : decode cX7_undo 35 = .ok (.iaload, 1) := by decide +kernel
theorem dX7_undo_36 : decode cX7_undo 36 = .ok (.ireturn, 1) := by decide +kernel
theorem dX7_correct_0 : decode cX7_correct 0 = .ok (.aload_n 0, 1) := by decide +kernel
theorem dX7_correct_1 : decode cX7_correct 1 = .ok (.iload_n 1, 1) := by decide +kernel
theorem dX7_correct_2 : decode cX7_correct 2 = .ok (.invokevirtual 198, 3) := by decide +kernel
theorem dX7_correct_5 : decode cX7_correct 5 = .ok (.ifCond .eq 28, 3) := by decide +kernel
theorem dX7_correct_8 : decode cX7_correct 8 = .ok (.iload_n 2, 1) := by decide +kernel
theorem dX7_correct_9 : decode cX7_correct 9 = .ok (.iconst 0, 1) := by decide +kernel
theorem dX7_correct_10 : decode cX7_correct 10 = .ok (.aload_n 0, 1) := by decide +kernel
theorem dX7_correct_11 : decode cX7_correct 11 = .ok (.getfield 70, 3) := by decide +kernel
theorem dX7_correct_14 : decode cX7_correct 14 = .ok (.iload_n 1, 1) := by decide +kernel
theorem dX7_correct_15 : decode cX7_correct 15 = .ok (.iaload, 1) := by decide +kernel
theorem dX7_correct_16 : decode cX7_correct 16 = .ok (.iconst 1, 1) := by decide +kernel
theorem dX7_correct_17 : decode cX7_correct 17 = .ok (.isub, 1) := by decide +kernel
theorem dX7_correct_18 : decode cX7_correct 18 = .ok (.invokestatic 95, 3) := by decide +kernel
theorem dX7_correct_21 : decode cX7_correct 21 = .ok (.ifCond .eq 12, 3) := by decide +kernel
theorem dX7_correct_24 : decode cX7_correct 24 = .ok (.iload_n 3, 1) := by decide +kernel
theorem dX7_correct_25 : decode cX7_correct 25 = .ok (.iconst 0, 1) := by decide +kernel
theorem dX7_correct_26 : decode cX7_correct 26 = .ok (.iconst 3, 1) := by decide +kernel
theorem dX7_correct_27 : decode cX7_correct 27 = .ok (.invokestatic 95, 3) := by decide +kernel
theorem dX7_correct_30 : decode cX7_correct 30 = .ok (.ifCond .ne 6, 3) := by decide +kernel
theorem dX7_correct_33 : decode cX7_correct 33 = .ok (.bipush (-2), 2) := by decide +kernel
theorem dX7_correct_35 : decode cX7_correct 35 = .ok (.ireturn, 1) := by decide +kernel
theorem dX7_correct_36 : decode cX7_correct 36 = .ok (.aload_n 0, 1) := by decide +kernel
theorem dX7_correct_37 : decode cX7_correct 37 = .ok (.getfield 73, 3) := by decide +kernel
theorem dX7_correct_40 : decode cX7_correct 40 = .ok (.bipush 60, 2) := by decide +kernel
theorem dX7_correct_42 : decode cX7_correct 42 = .ok (.iload_n 1, 1) := by decide +kernel
theorem dX7_correct_43 : decode cX7_correct 43 = .ok (.imul, 1) := by decide +kernel
theorem dX7_correct_44 : decode cX7_correct 44 = .ok (.iload_n 2, 1) := by decide +kernel
theorem dX7_correct_45 : decode cX7_correct 45 = .ok (.iadd, 1) := by decide +kernel
theorem dX7_correct_46 : decode cX7_correct 46 = .ok (.iload_n 3, 1) := by decide +kernel
theorem dX7_correct_47 : decode cX7_correct 47 = .ok (.iastore, 1) := by decide +kernel
theorem dX7_correct_48 : decode cX7_correct 48 = .ok (.aload_n 0, 1) := by decide +kernel
theorem dX7_correct_49 : decode cX7_correct 49 = .ok (.iload_n 1, 1) := by decide +kernel
theorem dX7_correct_50 : decode cX7_correct 50 = .ok (.invokevirtual 201, 3) := by decide +kernel
theorem dX7_correct_53 : decode cX7_correct 53 = .ok (.ireturn, 1) := by decide +kernel
theorem dX7_about_0 : decode cX7_about 0 = .ok (.aload_n 0, 1) := by decide +kernel
theorem dX7_about_1 : decode cX7_about 1 = .ok (.iload_n 1, 1) := by decide +kernel
theorem dX7_about_2 : decode cX7_about 2 = .ok (.invokevirtual 189, 3) := by decide +kernel
theorem dX7_about_5 : decode cX7_about 5 = .ok (.ifCond .ne 6, 3) := by decide +kernel
theorem dX7_about_8 : decode cX7_about 8 = .ok (.bipush (-2), 2) := by decide +kernel
theorem dX7_about_10 : decode cX7_about 10 = .ok (.ireturn, 1) := by decide +kernel
theorem dX7_about_11 : decode cX7_about 11 = .ok (.aload_n 0, 1) := by decide +kernel
theorem dX7_about_12 : decode cX7_about 12 = .ok (.iload_n 1, 1) := by decide +kernel
theorem dX7_about_13 : decode cX7_about 13 = .ok (.invokevirtual 192, 3) := by decide +kernel
theorem dX7_about_16 : decode cX7_about 16 = .ok (.iload_n 2, 1) := by decide +kernel
theorem dX7_about_17 : decode cX7_about 17 = .ok (.tableswitch 86 0 6 #[43, 48, 55, 60, 65, 72, 79], 43) := by decide +kernel
theorem dX7_about_60 : decode cX7_about 60 = .ok (.aload_n 0, 1) := by decide +kernel
theorem dX7_about_61 : decode cX7_about 61 = .ok (.getfield 177, 3) := by decide +kernel
theorem dX7_about_64 : decode cX7_about 64 = .ok (.ireturn, 1) := by decide +kernel
theorem dX7_about_65 : decode cX7_about 65 = .ok (.aload_n 0, 1) := by decide +kernel
theorem dX7_about_66 : decode cX7_about 66 = .ok (.getfield 70, 3) := by decide +kernel
theorem dX7_about_69 : decode cX7_about 69 = .ok (.iload_n 1, 1) := by decide +kernel
theorem dX7_about_70 : decode cX7_about 70 = .ok (.iaload, 1) := by decide +kernel
theorem dX7_about_71 : decode cX7_about 71 = .ok (.ireturn, 1) := by decide +kernel
theorem dX7_about_72 : decode cX7_about 72 = .ok (.aload_n 0, 1) := by decide +kernel
theorem dX7_about_73 : decode cX7_about 73 = .ok (.getfield 183, 3) := by decide +kernel
theorem dX7_about_76 : decode cX7_about 76 = .ok (.ireturn, 1) := by decide +kernel
theorem dX7_about_77 : decode cX7_about 77 = .ok (.aload_n 0, 1) := by decide +kernel
theorem dX7_about_78 : decode cX7_about 78 = .ok (.getfield 186, 3) := by decide +kernel
theorem dX7_about_81 : decode cX7_about 81 = .ok (.ireturn, 1) := by decide +kernel
theorem dX7_about_82 : decode cX7_about 82 = .ok (.aload_n 0, 1) := by decide +kernel
theorem dX7_about_83 : decode cX7_about 83 = .ok (.getfield 64, 3) := by decide +kernel
theorem dX7_about_86 : decode cX7_about 86 = .ok (.iload_n 1, 1) := by decide +kernel
theorem dX7_about_87 : decode cX7_about 87 = .ok (.iaload, 1) := by decide +kernel
theorem dX7_about_88 : decode cX7_about 88 = .ok (.ireturn, 1) := by decide +kernel
theorem dX7_about_89 : decode cX7_about 89 = .ok (.aload_n 0, 1) := by decide +kernel
theorem dX7_about_90 : decode cX7_about 90 = .ok (.getfield 61, 3) := by decide +kernel
theorem dX7_about_93 : decode cX7_about 93 = .ok (.iload_n 1, 1) := by decide +kernel
theorem dX7_about_94 : decode cX7_about 94 = .ok (.iaload, 1) := by decide +kernel
theorem dX7_about_95 : decode cX7_about 95 = .ok (.ireturn, 1) := by decide +kernel
theorem dX7_about_96 : decode cX7_about 96 = .ok (.aload_n 0, 1) := by decide +kernel
theorem dX7_about_97 : decode cX7_about 97 = .ok (.getfield 67, 3) := by decide +kernel
theorem dX7_about_100 : decode cX7_about 100 = .ok (.iload_n 1, 1) := by decide +kernel
theorem dX7_about_101 : decode cX7_about 101 = .ok (.iaload, 1) := by decide +kernel
theorem dX7_about_102 : decode cX7_about 102 = .ok (.ireturn, 1) := by decide +kernel
theorem dX7_about_103 : decode cX7_about 103 = .ok (.bipush (-2), 2) := by decide +kernel
theorem dX7_about_105 : decode cX7_about 105 = .ok (.ireturn, 1) := by decide +kernel
theorem dX7_needed_0 : decode cX7_needed 0 = .ok (.aload_n 0, 1) := by decide +kernel
theorem dX7_needed_1 : decode cX7_needed 1 = .ok (.iload_n 1, 1) := by decide +kernel
theorem dX7_needed_2 : decode cX7_needed 2 = .ok (.invokevirtual 189, 3) := by decide +kernel
theorem dX7_needed_5 : decode cX7_needed 5 = .ok (.ifCond .ne 6, 3) := by decide +kernel
theorem dX7_needed_8 : decode cX7_needed 8 = .ok (.bipush (-2), 2) := by decide +kernel
theorem dX7_needed_10 : decode cX7_needed 10 = .ok (.ireturn, 1) := by decide +kernel
theorem dX7_needed_11 : decode cX7_needed 11 = .ok (.aload_n 0, 1) := by decide +kernel
theorem dX7_needed_12 : decode cX7_needed 12 = .ok (.iload_n 1, 1) := by decide +kernel
theorem dX7_needed_13 : decode cX7_needed 13 = .ok (.invokevirtual 192, 3) := by decide +kernel
theorem dX7_needed_16 : decode cX7_needed 16 = .ok (.aload_n 0, 1) := by decide +kernel
theorem dX7_needed_17 : decode cX7_needed 17 = .ok (.getfield 177, 3) := by decide +kernel
theorem dX7_needed_20 : decode cX7_needed 20 = .ok (.ifCond .eq 5, 3) := by decide +kernel
theorem dX7_needed_23 : decode cX7_needed 23 = .ok (.iconst 0, 1) := by decide +kernel
theorem dX7_needed_24 : decode cX7_needed 24 = .ok (.ireturn, 1) := by decide +kernel
theorem dX7_needed_25 : decode cX7_needed 25 = .ok (.aload_n 0, 1) := by decide +kernel
theorem dX7_needed_26 : decode cX7_needed 26 = .ok (.getfield 64, 3) := by decide +kernel
theorem dX7_needed_29 : decode cX7_needed 29 = .ok (.iload_n 1, 1) := by decide +kernel
theorem dX7_needed_30 : decode cX7_needed 30 = .ok (.iaload, 1) := by decide +kernel
theorem dX7_needed_31 : decode cX7_needed 31 = .ok (.istore_n 2, 1) := by decide +kernel
theorem dX7_needed_32 : decode cX7_needed 32 = .ok (.iconst 0, 1) := by decide +kernel
theorem dX7_needed_33 : decode cX7_needed 33 = .ok (.istore_n 3, 1) := by decide +kernel
theorem dX7_needed_34 : decode cX7_needed 34 = .ok (.iconst 0, 1) := by decide +kernel
theorem dX7_needed_35 : decode cX7_needed 35 = .ok (.istore 4, 2) := by decide +kernel
theorem dX7_needed_37 : decode cX7_needed 37 = .ok (.iload 4, 2) := by decide +kernel
theorem dX7_needed_39 : decode cX7_needed 39 = .ok (.aload_n 0, 1) := by decide +kernel
theorem dX7_needed_40 : decode cX7_needed 40 = .ok (.getfield 70, 3) := by decide +kernel
theorem dX7_needed_43 : decode cX7_needed 43 = .ok (.iload_n 1, 1) := by decide +kernel
theorem dX7_needed_44 : decode cX7_needed 44 = .ok (.iaload, 1) := by decide +kernel
theorem dX7_needed_45 : decode cX7_needed 45 = .ok (.if_icmp .ge 33, 3) := by decide +kernel
theorem dX7_needed_48 : decode cX7_needed 48 = .ok (.iload_n 3, 1) := by decide +kernel
theorem dX7_needed_49 : decode cX7_needed 49 = .ok (.aload_n 0, 1) := by decide +kernel
theorem dX7_needed_50 : decode cX7_needed 50 = .ok (.getfield 73, 3) := by decide +kernel
theorem dX7_needed_53 : decode cX7_needed 53 = .ok (.bipush 60, 2) := by decide +kernel
theorem dX7_needed_55 : decode cX7_needed 55 = .ok (.iload_n 1, 1) := by decide +kernel
theorem dX7_needed_56 : decode cX7_needed 56 = .ok (.imul, 1) := by decide +kernel
theorem dX7_needed_57 : decode cX7_needed 57 = .ok (.iload 4, 2) := by decide +kernel
theorem dX7_needed_59 : decode cX7_needed 59 = .ok (.iadd, 1) := by decide +kernel
theorem dX7_needed_60 : decode cX7_needed 60 = .ok (.iaload, 1) := by decide +kernel
theorem dX7_needed_61 : decode cX7_needed 61 = .ok (.iconst 1, 1) := by decide +kernel
theorem dX7_needed_62 : decode cX7_needed 62 = .ok (.if_icmp .ne 7, 3) := by decide +kernel
theorem dX7_needed_65 : decode cX7_needed 65 = .ok (.iconst 1, 1) := by decide +kernel
theorem dX7_needed_66 : decode cX7_needed 66 = .ok (.goto 4, 3) := by decide +kernel
theorem dX7_needed_69 : decode cX7_needed 69 = .ok (.iconst 0, 1) := by decide +kernel
theorem dX7_needed_70 : decode cX7_needed 70 = .ok (.iadd, 1) := by decide +kernel
theorem dX7_needed_71 : decode cX7_needed 71 = .ok (.istore_n 3, 1) := by decide +kernel
theorem dX7_needed_72 : decode cX7_needed 72 = .ok (.iinc 4 1, 3) := by decide +kernel
theorem dX7_needed_75 : decode cX7_needed 75 = .ok (.goto (-38), 3) := by decide +kernel
theorem dX7_needed_78 : decode cX7_needed 78 = .ok (.iconst 0, 1) := by decide +kernel
theorem dX7_needed_79 : decode cX7_needed 79 = .ok (.istore 4, 2) := by decide +kernel
theorem dX7_needed_81 : decode cX7_needed 81 = .ok (.iload 4, 2) := by decide +kernel
theorem dX7_needed_83 : decode cX7_needed 83 = .ok (.sipush 210, 3) := by decide +kernel
theorem dX7_needed_86 : decode cX7_needed 86 = .ok (.if_icmp .ge 17, 3) := by decide +kernel
theorem dX7_needed_89 : decode cX7_needed 89 = .ok (.aload_n 0, 1) := by decide +kernel
theorem dX7_needed_90 : decode cX7_needed 90 = .ok (.getfield 85, 3) := by decide +kernel
theorem dX7_needed_93 : decode cX7_needed 93 = .ok (.iload 4, 2) := by decide +kernel
theorem dX7_needed_95 : decode cX7_needed 95 = .ok (.iconst 0, 1) := by decide +kernel
theorem dX7_needed_96 : decode cX7_needed 96 = .ok (.bastore, 1) := by decide +kernel
theorem dX7_needed_97 : decode cX7_needed 97 = .ok (.iinc 4 1, 3) := by decide +kernel
theorem dX7_needed_100 : decode cX7_needed 100 = .ok (.goto (-19), 3) := by decide +kernel
theorem dX7_needed_103 : decode cX7_needed 103 = .ok (.aload_n 0, 1) := by decide +kernel
theorem dX7_needed_104 : decode cX7_needed 104 = .ok (.getfield 85, 3) := by decide +kernel
theorem dX7_needed_107 : decode cX7_needed 107 = .ok (.iconst 3, 1) := by decide +kernel
theorem dX7_needed_108 : decode cX7_needed 108 = .ok (.aload_n 0, 1) := by decide +kernel
theorem dX7_needed_109 : decode cX7_needed 109 = .ok (.getfield 183, 3) := by decide +kernel
theorem dX7_needed_112 : decode cX7_needed 112 = .ok (.imul, 1) := by decide +kernel
theorem dX7_needed_113 : decode cX7_needed 113 = .ok (.iload_n 3, 1) := by decide +kernel
theorem dX7_needed_114 : decode cX7_needed 114 = .ok (.iconst 3, 1) := by decide +kernel
theorem dX7_needed_115 : decode cX7_needed 115 = .ok (.irem, 1) := by decide +kernel
theorem dX7_needed_116 : decode cX7_needed 116 = .ok (.iadd, 1) := by decide +kernel
theorem dX7_needed_117 : decode cX7_needed 117 = .ok (.iconst 1, 1) := by decide +kernel
theorem dX7_needed_118 : decode cX7_needed 118 = .ok (.bastore, 1) := by decide +kernel
theorem dX7_needed_119 : decode cX7_needed 119 = .ok (.aload_n 0, 1) := by decide +kernel
theorem dX7_needed_120 : decode cX7_needed 120 = .ok (.getfield 186, 3) := by decide +kernel
theorem dX7_needed_123 : decode cX7_needed 123 = .ok (.istore 4, 2) := by decide +kernel
theorem dX7_needed_125 : decode cX7_needed 125 = .ok (.iconst 1, 1) := by decide +kernel
theorem dX7_needed_126 : decode cX7_needed 126 = .ok (.istore 5, 2) := by decide +kernel
theorem dX7_needed_128 : decode cX7_needed 128 = .ok (.iload 5, 2) := by decide +kernel
theorem dX7_needed_130 : decode cX7_needed 130 = .ok (.bipush 60, 2) := by decide +kernel
theorem dX7_needed_132 : decode cX7_needed 132 = .ok (.if_icmp .gt 228, 3) := by decide +kernel
theorem dX7_needed_135 : decode cX7_needed 135 = .ok (.iconst 0, 1) := by decide +kernel
theorem dX7_needed_136 : decode cX7_needed 136 = .ok (.istore 6, 2) := by decide +kernel
theorem dX7_needed_138 : decode cX7_needed 138 = .ok (.iload 6, 2) := by decide +kernel
theorem dX7_needed_140 : decode cX7_needed 140 = .ok (.sipush 210, 3) := by decide +kernel
theorem dX7_needed_143 : decode cX7_needed 143 = .ok (.if_icmp .ge 23, 3) := by decide +kernel
theorem dX7_needed_146 : decode cX7_needed 146 = .ok (.aload_n 0, 1) := by decide +kernel
theorem dX7_needed_147 : decode cX7_needed 147 = .ok (.getfield 88, 3) := by decide +kernel
theorem dX7_needed_150 : decode cX7_needed 150 = .ok (.iload 6, 2) := by decide +kernel
theorem dX7_needed_152 : decode cX7_needed 152 = .ok (.aload_n 0, 1) := by decide +kernel
theorem dX7_needed_153 : decode cX7_needed 153 = .ok (.getfield 85, 3) := by decide +kernel
theorem dX7_needed_156 : decode cX7_needed 156 = .ok (.iload 6, 2) := by decide +kernel
theorem dX7_needed_158 : decode cX7_needed 158 = .ok (.baload, 1) := by decide +kernel
theorem dX7_needed_159 : decode cX7_needed 159 = .ok (.bastore, 1) := by decide +kernel
theorem dX7_needed_160 : decode cX7_needed 160 = .ok (.iinc 6 1, 3) := by decide +kernel
theorem dX7_needed_163 : decode cX7_needed 163 = .ok (.goto (-25), 3) := by decide +kernel
theorem dX7_needed_166 : decode cX7_needed 166 = .ok (.iconst 0, 1) := by decide +kernel
theorem dX7_needed_167 : decode cX7_needed 167 = .ok (.istore 6, 2) := by decide +kernel
theorem dX7_needed_169 : decode cX7_needed 169 = .ok (.iload 6, 2) := by decide +kernel
theorem dX7_needed_171 : decode cX7_needed 171 = .ok (.sipush 210, 3) := by decide +kernel
theorem dX7_needed_174 : decode cX7_needed 174 = .ok (.if_icmp .ge 17, 3) := by decide +kernel
theorem dX7_needed_177 : decode cX7_needed 177 = .ok (.aload_n 0, 1) := by decide +kernel
theorem dX7_needed_178 : decode cX7_needed 178 = .ok (.getfield 85, 3) := by decide +kernel
theorem dX7_needed_181 : decode cX7_needed 181 = .ok (.iload 6, 2) := by decide +kernel
theorem dX7_needed_183 : decode cX7_needed 183 = .ok (.iconst 0, 1) := by decide +kernel
theorem dX7_needed_184 : decode cX7_needed 184 = .ok (.bastore, 1) := by decide +kernel
theorem dX7_needed_185 : decode cX7_needed 185 = .ok (.iinc 6 1, 3) := by decide +kernel
theorem dX7_needed_188 : decode cX7_needed 188 = .ok (.goto (-19), 3) := by decide +kernel
theorem dX7_needed_191 : decode cX7_needed 191 = .ok (.iconst 0, 1) := by decide +kernel
theorem dX7_needed_192 : decode cX7_needed 192 = .ok (.istore 6, 2) := by decide +kernel
theorem dX7_needed_194 : decode cX7_needed 194 = .ok (.iload 6, 2) := by decide +kernel
theorem dX7_needed_196 : decode cX7_needed 196 = .ok (.sipush 200, 3) := by decide +kernel
theorem dX7_needed_199 : decode cX7_needed 199 = .ok (.if_icmp .ge 50, 3) := by decide +kernel
theorem dX7_needed_202 : decode cX7_needed 202 = .ok (.aload_n 0, 1) := by decide +kernel
theorem dX7_needed_203 : decode cX7_needed 203 = .ok (.getfield 88, 3) := by decide +kernel
theorem dX7_needed_206 : decode cX7_needed 206 = .ok (.iload 6, 2) := by decide +kernel
theorem dX7_needed_208 : decode cX7_needed 208 = .ok (.baload, 1) := by decide +kernel
theorem dX7_needed_209 : decode cX7_needed 209 = .ok (.ifCond .ne 6, 3) := by decide +kernel
theorem dX7_needed_212 : decode cX7_needed 212 = .ok (.goto 31, 3) := by decide +kernel
theorem dX7_needed_215 : decode cX7_needed 215 = .ok (.aload_n 0, 1) := by decide +kernel
theorem dX7_needed_216 : decode cX7_needed 216 = .ok (.getfield 85, 3) := by decide +kernel
theorem dX7_needed_219 : decode cX7_needed 219 = .ok (.iload 6, 2) := by decide +kernel
theorem dX7_needed_221 : decode cX7_needed 221 = .ok (.iconst 1, 1) := by decide +kernel
theorem dX7_needed_222 : decode cX7_needed 222 = .ok (.bastore, 1) := by decide +kernel
theorem dX7_needed_223 : decode cX7_needed 223 = .ok (.aload_n 0, 1) := by decide +kernel
theorem dX7_needed_224 : decode cX7_needed 224 = .ok (.getfield 85, 3) := by decide +kernel
theorem dX7_needed_227 : decode cX7_needed 227 = .ok (.iload 6, 2) := by decide +kernel
theorem dX7_needed_229 : decode cX7_needed 229 = .ok (.iconst 1, 1) := by decide +kernel
theorem dX7_needed_230 : decode cX7_needed 230 = .ok (.iadd, 1) := by decide +kernel
theorem dX7_needed_231 : decode cX7_needed 231 = .ok (.iconst 1, 1) := by decide +kernel
theorem dX7_needed_232 : decode cX7_needed 232 = .ok (.bastore, 1) := by decide +kernel
theorem dX7_needed_233 : decode cX7_needed 233 = .ok (.aload_n 0, 1) := by decide +kernel
theorem dX7_needed_234 : decode cX7_needed 234 = .ok (.getfield 85, 3) := by decide +kernel
theorem dX7_needed_237 : decode cX7_needed 237 = .ok (.iload 6, 2) := by decide +kernel
theorem dX7_needed_239 : decode cX7_needed 239 = .ok (.iconst 3, 1) := by decide +kernel
theorem dX7_needed_240 : decode cX7_needed 240 = .ok (.iadd, 1) := by decide +kernel
theorem dX7_needed_241 : decode cX7_needed 241 = .ok (.iconst 1, 1) := by decide +kernel
theorem dX7_needed_242 : decode cX7_needed 242 = .ok (.bastore, 1) := by decide +kernel
theorem dX7_needed_243 : decode cX7_needed 243 = .ok (.iinc 6 1, 3) := by decide +kernel
theorem dX7_needed_246 : decode cX7_needed 246 = .ok (.goto (-52), 3) := by decide +kernel
theorem dX7_needed_249 : decode cX7_needed 249 = .ok (.aload_n 0, 1) := by decide +kernel
theorem dX7_needed_250 : decode cX7_needed 250 = .ok (.getfield 70, 3) := by decide +kernel
theorem dX7_needed_253 : decode cX7_needed 253 = .ok (.iload_n 1, 1) := by decide +kernel
theorem dX7_needed_254 : decode cX7_needed 254 = .ok (.iaload, 1) := by decide +kernel
theorem dX7_needed_255 : decode cX7_needed 255 = .ok (.iload 5, 2) := by decide +kernel
theorem dX7_needed_257 : decode cX7_needed 257 = .ok (.iadd, 1) := by decide +kernel
theorem dX7_needed_258 : decode cX7_needed 258 = .ok (.aload_n 0, 1) := by decide +kernel
theorem dX7_needed_259 : decode cX7_needed 259 = .ok (.iload_n 2, 1) := by decide +kernel
theorem dX7_needed_260 : decode cX7_needed 260 = .ok (.iload 4, 2) := by decide +kernel
theorem dX7_needed_262 : decode cX7_needed 262 = .ok (.invokevirtual 103, 3) := by decide +kernel
theorem dX7_needed_265 : decode cX7_needed 265 = .ok (.if_icmp .ne 7, 3) := by decide +kernel
theorem dX7_needed_268 : decode cX7_needed 268 = .ok (.iconst 1, 1) := by decide +kernel
theorem dX7_needed_269 : decode cX7_needed 269 = .ok (.goto 4, 3) := by decide +kernel
theorem dX7_needed_272 : decode cX7_needed 272 = .ok (.iconst 0, 1) := by decide +kernel
theorem dX7_needed_273 : decode cX7_needed 273 = .ok (.istore 6, 2) := by decide +kernel
theorem dX7_needed_275 : decode cX7_needed 275 = .ok (.iconst 0, 1) := by decide +kernel
theorem dX7_needed_276 : decode cX7_needed 276 = .ok (.istore 7, 2) := by decide +kernel
theorem dX7_needed_278 : decode cX7_needed 278 = .ok (.iload 7, 2) := by decide +kernel
theorem dX7_needed_280 : decode cX7_needed 280 = .ok (.sipush 210, 3) := by decide +kernel
theorem dX7_needed_283 : decode cX7_needed 283 = .ok (.if_icmp .ge 63, 3) := by decide +kernel
theorem dX7_needed_286 : decode cX7_needed 286 = .ok (.aload_n 0, 1) := by decide +kernel
theorem dX7_needed_287 : decode cX7_needed 287 = .ok (.getfield 85, 3) := by decide +kernel
theorem dX7_needed_290 : decode cX7_needed 290 = .ok (.iload 7, 2) := by decide +kernel
theorem dX7_needed_292 : decode cX7_needed 292 = .ok (.baload, 1) := by decide +kernel
theorem dX7_needed_293 : decode cX7_needed 293 = .ok (.ifCond .eq 47, 3) := by decide +kernel
theorem dX7_needed_296 : decode cX7_needed 296 = .ok (.iload 7, 2) := by decide +kernel
theorem dX7_needed_298 : decode cX7_needed 298 = .ok (.iconst 3, 1) := by decide +kernel
theorem dX7_needed_299 : decode cX7_needed 299 = .ok (.idiv, 1) := by decide +kernel
theorem dX7_needed_300 : decode cX7_needed 300 = .ok (.aload_n 0, 1) := by decide +kernel
theorem dX7_needed_301 : decode cX7_needed 301 = .ok (.getfield 19, 3) := by decide +kernel
theorem dX7_needed_304 : decode cX7_needed 304 = .ok (.iconst 4, 1) := by decide +kernel
theorem dX7_needed_305 : decode cX7_needed 305 = .ok (.iload_n 2, 1) := by decide +kernel
theorem dX7_needed_306 : decode cX7_needed 306 = .ok (.imul, 1) := by decide +kernel
theorem dX7_needed_307 : decode cX7_needed 307 = .ok (.iload 4, 2) := by decide +kernel
theorem dX7_needed_309 : decode cX7_needed 309 = .ok (.iadd, 1) := by decide +kernel
theorem dX7_needed_310 : decode cX7_needed 310 = .ok (.iaload, 1) := by decide +kernel
theorem dX7_needed_311 : decode cX7_needed 311 = .ok (.if_icmp .ge 26, 3) := by decide +kernel
theorem dX7_needed_314 : decode cX7_needed 314 = .ok (.iload 6, 2) := by decide +kernel
theorem dX7_needed_316 : decode cX7_needed 316 = .ok (.ifCond .eq 24, 3) := by decide +kernel
theorem dX7_needed_319 : decode cX7_needed 319 = .ok (.iload 7, 2) := by decide +kernel
theorem dX7_needed_321 : decode cX7_needed 321 = .ok (.iconst 3, 1) := by decide +kernel
theorem dX7_needed_322 : decode cX7_needed 322 = .ok (.idiv, 1) := by decide +kernel
theorem dX7_needed_323 : decode cX7_needed 323 = .ok (.aload_n 0, 1) := by decide +kernel
theorem dX7_needed_324 : decode cX7_needed 324 = .ok (.getfield 16, 3) := by decide +kernel
theorem dX7_needed_327 : decode cX7_needed 327 = .ok (.iconst 4, 1) := by decide +kernel
theorem dX7_needed_328 : decode cX7_needed 328 = .ok (.iload_n 2, 1) := by decide +kernel
theorem dX7_needed_329 : decode cX7_needed 329 = .ok (.imul, 1) := by decide +kernel
theorem dX7_needed_330 : decode cX7_needed 330 = .ok (.iload 4, 2) := by decide +kernel
theorem dX7_needed_332 : decode cX7_needed 332 = .ok (.iadd, 1) := by decide +kernel
theorem dX7_needed_333 : decode cX7_needed 333 = .ok (.iaload, 1) := by decide +kernel
theorem dX7_needed_334 : decode cX7_needed 334 = .ok (.if_icmp .gt 6, 3) := by decide +kernel
theorem dX7_needed_337 : decode cX7_needed 337 = .ok (.iload 5, 2) := by decide +kernel
theorem dX7_needed_339 : decode cX7_needed 339 = .ok (.ireturn, 1) := by decide +kernel
theorem dX7_needed_340 : decode cX7_needed 340 = .ok (.iinc 7 1, 3) := by decide +kernel
theorem dX7_needed_343 : decode cX7_needed 343 = .ok (.goto (-65), 3) := by decide +kernel
theorem dX7_needed_346 : decode cX7_needed 346 = .ok (.iload 6, 2) := by decide +kernel
theorem dX7_needed_348 : decode cX7_needed 348 = .ok (.ifCond .eq 6, 3) := by decide +kernel
theorem dX7_needed_351 : decode cX7_needed 351 = .ok (.iinc 4 1, 3) := by decide +kernel
theorem dX7_needed_354 : decode cX7_needed 354 = .ok (.iinc 5 1, 3) := by decide +kernel
theorem dX7_needed_357 : decode cX7_needed 357 = .ok (.goto (-229), 3) := by decide +kernel
theorem dX7_needed_360 : decode cX7_needed 360 = .ok (.iconst (-1), 1) := by decide +kernel
theorem dX7_needed_361 : decode cX7_needed 361 = .ok (.ireturn, 1) := by decide +kernel
theorem dX7_rule_0 : decode cX7_rule 0 = .ok (.aload_n 0, 1) := by decide +kernel
theorem dX7_rule_1 : decode cX7_rule 1 = .ok (.iload_n 1, 1) := by decide +kernel
theorem dX7_rule_2 : decode cX7_rule 2 = .ok (.invokevirtual 174, 3) := by decide +kernel
theorem dX7_rule_5 : decode cX7_rule 5 = .ok (.ifCond .eq 12, 3) := by decide +kernel
theorem dX7_rule_8 : decode cX7_rule 8 = .ok (.aload_n 0, 1) := by decide +kernel
theorem dX7_rule_9 : decode cX7_rule 9 = .ok (.getfield 46, 3) := by decide +kernel
theorem dX7_rule_12 : decode cX7_rule 12 = .ok (.iload_n 1, 1) := by decide +kernel
theorem dX7_rule_13 : decode cX7_rule 13 = .ok (.iaload, 1) := by decide +kernel
theorem dX7_rule_14 : decode cX7_rule 14 = .ok (.goto 5, 3) := by decide +kernel
theorem dX7_rule_17 : decode cX7_rule 17 = .ok (.bipush (-2), 2) := by decide +kernel
theorem dX7_rule_19 : decode cX7_rule 19 = .ok (.ireturn, 1) := by decide +kernel
theorem dX7_run_0 : decode cX7_run 0 = .ok (.aload_n 0, 1) := by decide +kernel
theorem dX7_run_1 : decode cX7_run 1 = .ok (.iload_n 1, 1) := by decide +kernel
theorem dX7_run_2 : decode cX7_run 2 = .ok (.invokevirtual 174, 3) := by decide +kernel
theorem dX7_run_5 : decode cX7_run 5 = .ok (.ifCond .eq 7, 3) := by decide +kernel
theorem dX7_run_8 : decode cX7_run 8 = .ok (.iload_n 2, 1) := by decide +kernel
theorem dX7_run_9 : decode cX7_run 9 = .ok (.ifCond .ge 6, 3) := by decide +kernel
theorem dX7_run_12 : decode cX7_run 12 = .ok (.bipush (-2), 2) := by decide +kernel
theorem dX7_run_14 : decode cX7_run 14 = .ok (.ireturn, 1) := by decide +kernel
theorem dX7_run_15 : decode cX7_run 15 = .ok (.iload_n 2, 1) := by decide +kernel
theorem dX7_run_16 : decode cX7_run 16 = .ok (.aload_n 0, 1) := by decide +kernel
theorem dX7_run_17 : decode cX7_run 17 = .ok (.getfield 52, 3) := by decide +kernel
theorem dX7_run_20 : decode cX7_run 20 = .ok (.iload_n 1, 1) := by decide +kernel
theorem dX7_run_21 : decode cX7_run 21 = .ok (.iaload, 1) := by decide +kernel
theorem dX7_run_22 : decode cX7_run 22 = .ok (.if_icmp .ge 26, 3) := by decide +kernel
theorem dX7_run_25 : decode cX7_run 25 = .ok (.aload_n 0, 1) := by decide +kernel
theorem dX7_run_26 : decode cX7_run 26 = .ok (.getfield 55, 3) := by decide +kernel
theorem dX7_run_29 : decode cX7_run 29 = .ok (.bipush 60, 2) := by decide +kernel
theorem dX7_run_31 : decode cX7_run 31 = .ok (.iload_n 1, 1) := by decide +kernel
theorem dX7_run_32 : decode cX7_run 32 = .ok (.imul, 1) := by decide +kernel
theorem dX7_run_33 : decode cX7_run 33 = .ok (.aload_n 0, 1) := by decide +kernel
theorem dX7_run_34 : decode cX7_run 34 = .ok (.getfield 52, 3) := by decide +kernel
theorem dX7_run_37 : decode cX7_run 37 = .ok (.iload_n 1, 1) := by decide +kernel
theorem dX7_run_38 : decode cX7_run 38 = .ok (.iaload, 1) := by decide +kernel
theorem dX7_run_39 : decode cX7_run 39 = .ok (.iadd, 1) := by decide +kernel
theorem dX7_run_40 : decode cX7_run 40 = .ok (.iconst 1, 1) := by decide +kernel
theorem dX7_run_41 : decode cX7_run 41 = .ok (.isub, 1) := by decide +kernel
theorem dX7_run_42 : decode cX7_run 42 = .ok (.iload_n 2, 1) := by decide +kernel
theorem dX7_run_43 : decode cX7_run 43 = .ok (.isub, 1) := by decide +kernel
theorem dX7_run_44 : decode cX7_run 44 = .ok (.iaload, 1) := by decide +kernel
theorem dX7_run_45 : decode cX7_run 45 = .ok (.goto 4, 3) := by decide +kernel
theorem dX7_run_48 : decode cX7_run 48 = .ok (.iconst 0, 1) := by decide +kernel
theorem dX7_run_49 : decode cX7_run 49 = .ok (.ireturn, 1) := by decide +kernel
theorem dX7_cost_0 : decode cX7_cost 0 = .ok (.iload_n 1, 1) := by decide +kernel
theorem dX7_cost_1 : decode cX7_cost 1 = .ok (.iconst 0, 1) := by decide +kernel
theorem dX7_cost_2 : decode cX7_cost 2 = .ok (.iconst 3, 1) := by decide +kernel
theorem dX7_cost_3 : decode cX7_cost 3 = .ok (.invokestatic 95, 3) := by decide +kernel
theorem dX7_cost_6 : decode cX7_cost 6 = .ok (.ifCond .eq 13, 3) := by decide +kernel
theorem dX7_cost_9 : decode cX7_cost 9 = .ok (.iload_n 2, 1) := by decide +kernel
theorem dX7_cost_10 : decode cX7_cost 10 = .ok (.iconst 0, 1) := by decide +kernel
theorem dX7_cost_11 : decode cX7_cost 11 = .ok (.ldc 204, 2) := by decide +kernel
theorem dX7_cost_13 : decode cX7_cost 13 = .ok (.invokestatic 95, 3) := by decide +kernel
theorem dX7_cost_16 : decode cX7_cost 16 = .ok (.ifCond .ne 6, 3) := by decide +kernel
theorem dX7_cost_19 : decode cX7_cost 19 = .ok (.bipush (-2), 2) := by decide +kernel
theorem dX7_cost_21 : decode cX7_cost 21 = .ok (.ireturn, 1) := by decide +kernel
theorem dX7_cost_22 : decode cX7_cost 22 = .ok (.aload_n 0, 1) := by decide +kernel
theorem dX7_cost_23 : decode cX7_cost 23 = .ok (.getfield 76, 3) := by decide +kernel
theorem dX7_cost_26 : decode cX7_cost 26 = .ok (.iload_n 1, 1) := by decide +kernel
theorem dX7_cost_27 : decode cX7_cost 27 = .ok (.iaload, 1) := by decide +kernel
theorem dX7_cost_28 : decode cX7_cost 28 = .ok (.istore_n 3, 1) := by decide +kernel
theorem dX7_cost_29 : decode cX7_cost 29 = .ok (.aload_n 0, 1) := by decide +kernel
theorem dX7_cost_30 : decode cX7_cost 30 = .ok (.getfield 76, 3) := by decide +kernel
theorem dX7_cost_33 : decode cX7_cost 33 = .ok (.iload_n 1, 1) := by decide +kernel
theorem dX7_cost_34 : decode cX7_cost 34 = .ok (.iload_n 2, 1) := by decide +kernel
theorem dX7_cost_35 : decode cX7_cost 35 = .ok (.iastore, 1) := by decide +kernel
theorem dX7_cost_36 : decode cX7_cost 36 = .ok (.iload_n 3, 1) := by decide +kernel
theorem dX7_cost_37 : decode cX7_cost 37 = .ok (.ireturn, 1) := by decide +kernel
theorem dX7_score_0 : decode cX7_score 0 = .ok (.aload_n 0, 1) := by decide +kernel
theorem dX7_score_1 : decode cX7_score 1 = .ok (.iload_n 1, 1) := by decide +kernel
theorem dX7_score_2 : decode cX7_score 2 = .ok (.invokevirtual 174, 3) := by decide +kernel
theorem dX7_score_5 : decode cX7_score 5 = .ok (.ifCond .eq 13, 3) := by decide +kernel
theorem dX7_score_8 : decode cX7_score 8 = .ok (.iload_n 2, 1) := by decide +kernel
theorem dX7_score_9 : decode cX7_score 9 = .ok (.iconst 0, 1) := by decide +kernel
theorem dX7_score_10 : decode cX7_score 10 = .ok (.bipush 6, 2) := by decide +kernel
theorem dX7_score_12 : decode cX7_score 12 = .ok (.invokestatic 95, 3) := by decide +kernel
theorem dX7_score_15 : decode cX7_score 15 = .ok (.ifCond .ne 7, 3) := by decide +kernel
theorem dX7_score_18 : decode cX7_score 18 = .ok (.ldc2_w 142, 3) := by decide +kernel
theorem dX7_score_21 : decode cX7_score 21 = .ok (.lreturn, 1) := by decide +kernel
theorem dX7_score_22 : decode cX7_score 22 = .ok (.iload_n 2, 1) := by decide +kernel
theorem dX7_score_23 : decode cX7_score 23 = .ok (.bipush 6, 2) := by decide +kernel
theorem dX7_score_25 : decode cX7_score 25 = .ok (.if_icmp .ne 11, 3) := by decide +kernel
theorem dX7_score_28 : decode cX7_score 28 = .ok (.aload_n 0, 1) := by decide +kernel
theorem dX7_score_29 : decode cX7_score 29 = .ok (.getfield 49, 3) := by decide +kernel
theorem dX7_score_32 : decode cX7_score 32 = .ok (.iload_n 1, 1) := by decide +kernel
theorem dX7_score_33 : decode cX7_score 33 = .ok (.iaload, 1) := by decide +kernel
theorem dX7_score_34 : decode cX7_score 34 = .ok (.i2l, 1) := by decide +kernel
theorem dX7_score_35 : decode cX7_score 35 = .ok (.lreturn, 1) := by decide +kernel
theorem dX7_score_36 : decode cX7_score 36 = .ok (.lconst 0, 1) := by decide +kernel
theorem dX7_score_37 : decode cX7_score 37 = .ok (.lstore_n 3, 1) := by decide +kernel
theorem dX7_score_38 : decode cX7_score 38 = .ok (.iconst 0, 1) := by decide +kernel
theorem dX7_score_39 : decode cX7_score 39 = .ok (.istore 5, 2) := by decide +kernel
theorem dX7_score_41 : decode cX7_score 41 = .ok (.iload 5, 2) := by decide +kernel
theorem dX7_score_43 : decode cX7_score 43 = .ok (.aload_n 0, 1) := by decide +kernel
theorem dX7_score_44 : decode cX7_score 44 = .ok (.getfield 171, 3) := by decide +kernel
theorem dX7_score_47 : decode cX7_score 47 = .ok (.if_icmp .ge 146, 3) := by decide +kernel
theorem dX7_score_50 : decode cX7_score 50 = .ok (.aload_n 0, 1) := by decide +kernel
theorem dX7_score_51 : decode cX7_score 51 = .ok (.getfield 58, 3) := by decide +kernel
theorem dX7_score_54 : decode cX7_score 54 = .ok (.iload 5, 2) := by decide +kernel
theorem dX7_score_56 : decode cX7_score 56 = .ok (.iaload, 1) := by decide +kernel
theorem dX7_score_57 : decode cX7_score 57 = .ok (.iload_n 1, 1) := by decide +kernel
theorem dX7_score_58 : decode cX7_score 58 = .ok (.if_icmp .eq 6, 3) := by decide +kernel
theorem dX7_score_61 : decode cX7_score 61 = .ok (.goto 126, 3) := by decide +kernel
theorem dX7_score_64 : decode cX7_score 64 = .ok (.aload_n 0, 1) := by decide +kernel
theorem dX7_score_65 : decode cX7_score 65 = .ok (.iload 5, 2) := by decide +kernel
theorem dX7_score_67 : decode cX7_score 67 = .ok (.invokevirtual 192, 3) := by decide +kernel
theorem dX7_score_70 : decode cX7_score 70 = .ok (.iload_n 2, 1) := by decide +kernel
theorem dX7_score_71 : decode cX7_score 71 = .ok (.iconst 3, 1) := by decide +kernel
theorem dX7_score_72 : decode cX7_score 72 = .ok (.if_icmp .ge 36, 3) := by decide +kernel
theorem dX7_score_75 : decode cX7_score 75 = .ok (.lload_n 3, 1) := by decide +kernel
theorem dX7_score_76 : decode cX7_score 76 = .ok (.aload_n 0, 1) := by decide +kernel
theorem dX7_score_77 : decode cX7_score 77 = .ok (.getfield 177, 3) := by decide +kernel
theorem dX7_score_80 : decode cX7_score 80 = .ok (.iload_n 2, 1) := by decide +kernel
theorem dX7_score_81 : decode cX7_score 81 = .ok (.ifCond .ne 7, 3) := by decide +kernel
theorem dX7_score_84 : decode cX7_score 84 = .ok (.iconst 1, 1) := by decide +kernel
theorem dX7_score_85 : decode cX7_score 85 = .ok (.goto 13, 3) := by decide +kernel
theorem dX7_score_88 : decode cX7_score 88 = .ok (.iload_n 2, 1) := by decide +kernel
theorem dX7_score_89 : decode cX7_score 89 = .ok (.iconst 1, 1) := by decide +kernel
theorem dX7_score_90 : decode cX7_score 90 = .ok (.if_icmp .ne 7, 3) := by decide +kernel
theorem dX7_score_93 : decode cX7_score 93 = .ok (.iconst 2, 1) := by decide +kernel
theorem dX7_score_94 : decode cX7_score 94 = .ok (.goto 4, 3) := by decide +kernel
theorem dX7_score_97 : decode cX7_score 97 = .ok (.iconst 0, 1) := by decide +kernel
theorem dX7_score_98 : decode cX7_score 98 = .ok (.if_icmp .ne 7, 3) := by decide +kernel
theorem dX7_score_101 : decode cX7_score 101 = .ok (.lconst 1, 1) := by decide +kernel
theorem dX7_score_102 : decode cX7_score 102 = .ok (.goto 4, 3) := by decide +kernel
theorem dX7_score_105 : decode cX7_score 105 = .ok (.lconst 0, 1) := by decide +kernel
theorem dX7_score_106 : decode cX7_score 106 = .ok (.ladd, 1) := by decide +kernel
theorem dX7_score_107 : decode cX7_score 107 = .ok (.lstore_n 3, 1) := by decide +kernel
theorem dX7_score_108 : decode cX7_score 108 = .ok (.iconst 0, 1) := by decide +kernel
theorem dX7_score_109 : decode cX7_score 109 = .ok (.istore 6, 2) := by decide +kernel
theorem dX7_score_111 : decode cX7_score 111 = .ok (.iload 6, 2) := by decide +kernel
theorem dX7_score_113 : decode cX7_score 113 = .ok (.aload_n 0, 1) := by decide +kernel
theorem dX7_score_114 : decode cX7_score 114 = .ok (.getfield 70, 3) := by decide +kernel
theorem dX7_score_117 : decode cX7_score 117 = .ok (.iload 5, 2) := by decide +kernel
theorem dX7_score_119 : decode cX7_score 119 = .ok (.iaload, 1) := by decide +kernel
theorem dX7_score_120 : decode cX7_score 120 = .ok (.if_icmp .ge 67, 3) := by decide +kernel
theorem dX7_score_123 : decode cX7_score 123 = .ok (.iload_n 2, 1) := by decide +kernel
theorem dX7_score_124 : decode cX7_score 124 = .ok (.iconst 2, 1) := by decide +kernel
theorem dX7_score_125 : decode cX7_score 125 = .ok (.if_icmp .le 62, 3) := by decide +kernel
theorem dX7_score_128 : decode cX7_score 128 = .ok (.aload_n 0, 1) := by decide +kernel
theorem dX7_score_129 : decode cX7_score 129 = .ok (.getfield 73, 3) := by decide +kernel
theorem dX7_score_132 : decode cX7_score 132 = .ok (.bipush 60, 2) := by decide +kernel
theorem dX7_score_134 : decode cX7_score 134 = .ok (.iload 5, 2) := by decide +kernel
theorem dX7_score_136 : decode cX7_score 136 = .ok (.imul, 1) := by decide +kernel
theorem dX7_score_137 : decode cX7_score 137 = .ok (.iload 6, 2) := by decide +kernel
theorem dX7_score_139 : decode cX7_score 139 = .ok (.iadd, 1) := by decide +kernel
theorem dX7_score_140 : decode cX7_score 140 = .ok (.iaload, 1) := by decide +kernel
theorem dX7_score_141 : decode cX7_score 141 = .ok (.istore 7, 2) := by decide +kernel
theorem dX7_score_143 : decode cX7_score 143 = .ok (.lload_n 3, 1) := by decide +kernel
theorem dX7_score_144 : decode cX7_score 144 = .ok (.iload_n 2, 1) := by decide +kernel
theorem dX7_score_145 : decode cX7_score 145 = .ok (.iconst 3, 1) := by decide +kernel
theorem dX7_score_146 : decode cX7_score 146 = .ok (.if_icmp .ne 7, 3) := by decide +kernel
theorem dX7_score_149 : decode cX7_score 149 = .ok (.lconst 1, 1) := by decide +kernel
theorem dX7_score_150 : decode cX7_score 150 = .ok (.goto 29, 3) := by decide +kernel
theorem dX7_score_153 : decode cX7_score 153 = .ok (.iload_n 2, 1) := by decide +kernel
theorem dX7_score_154 : decode cX7_score 154 = .ok (.iconst 4, 1) := by decide +kernel
theorem dX7_score_155 : decode cX7_score 155 = .ok (.if_icmp .ne 16, 3) := by decide +kernel
theorem dX7_score_158 : decode cX7_score 158 = .ok (.iload 7, 2) := by decide +kernel
theorem dX7_score_160 : decode cX7_score 160 = .ok (.ifCond .le 7, 3) := by decide +kernel
theorem dX7_score_163 : decode cX7_score 163 = .ok (.lconst 1, 1) := by decide +kernel
theorem dX7_score_164 : decode cX7_score 164 = .ok (.goto 15, 3) := by decide +kernel
theorem dX7_score_167 : decode cX7_score 167 = .ok (.lconst 0, 1) := by decide +kernel
theorem dX7_score_168 : decode cX7_score 168 = .ok (.goto 11, 3) := by decide +kernel
theorem dX7_score_171 : decode cX7_score 171 = .ok (.aload_n 0, 1) := by decide +kernel
theorem dX7_score_172 : decode cX7_score 172 = .ok (.getfield 76, 3) := by decide +kernel
theorem dX7_score_175 : decode cX7_score 175 = .ok (.iload 7, 2) := by decide +kernel
theorem dX7_score_177 : decode cX7_score 177 = .ok (.iaload, 1) := by decide +kernel
theorem dX7_score_178 : decode cX7_score 178 = .ok (.i2l, 1) := by decide +kernel
theorem dX7_score_179 : decode cX7_score 179 = .ok (.ladd, 1) := by decide +kernel
theorem dX7_score_180 : decode cX7_score 180 = .ok (.lstore_n 3, 1) := by decide +kernel
theorem dX7_score_181 : decode cX7_score 181 = .ok (.iinc 6 1, 3) := by decide +kernel
theorem dX7_score_184 : decode cX7_score 184 = .ok (.goto (-73), 3) := by decide +kernel
theorem dX7_score_187 : decode cX7_score 187 = .ok (.iinc 5 1, 3) := by decide +kernel
theorem dX7_score_190 : decode cX7_score 190 = .ok (.goto (-149), 3) := by decide +kernel
theorem dX7_score_193 : decode cX7_score 193 = .ok (.lload_n 3, 1) := by decide +kernel
theorem dX7_score_194 : decode cX7_score 194 = .ok (.lreturn, 1) := by decide +kernel
theorem dX7_count_0 : decode cX7_count 0 = .ok (.iconst 0, 1) := by decide +kernel
theorem dX7_count_1 : decode cX7_count 1 = .ok (.istore_n 2, 1) := by decide +kernel
theorem dX7_count_2 : decode cX7_count 2 = .ok (.iload_n 1, 1) := by decide +kernel
theorem dX7_count_3 : decode cX7_count 3 = .ok (.tableswitch 125 0 5 #[37, 42, 76, 81, 86, 120], 37) := by decide +kernel
theorem dX7_count_40 : decode cX7_count 40 = .ok (.aload_n 0, 1) := by decide +kernel
theorem dX7_count_41 : decode cX7_count 41 = .ok (.getfield 91, 3) := by decide +kernel
theorem dX7_count_44 : decode cX7_count 44 = .ok (.ireturn, 1) := by decide +kernel
theorem dX7_count_45 : decode cX7_count 45 = .ok (.iconst 0, 1) := by decide +kernel
theorem dX7_count_46 : decode cX7_count 46 = .ok (.istore_n 3, 1) := by decide +kernel
theorem dX7_count_47 : decode cX7_count 47 = .ok (.iload_n 3, 1) := by decide +kernel
theorem dX7_count_48 : decode cX7_count 48 = .ok (.aload_n 0, 1) := by decide +kernel
theorem dX7_count_49 : decode cX7_count 49 = .ok (.getfield 91, 3) := by decide +kernel
theorem dX7_count_52 : decode cX7_count 52 = .ok (.if_icmp .ge 25, 3) := by decide +kernel
theorem dX7_count_55 : decode cX7_count 55 = .ok (.iload_n 2, 1) := by decide +kernel
theorem dX7_count_56 : decode cX7_count 56 = .ok (.aload_n 0, 1) := by decide +kernel
theorem dX7_count_57 : decode cX7_count 57 = .ok (.iload_n 3, 1) := by decide +kernel
theorem dX7_count_58 : decode cX7_count 58 = .ok (.invokevirtual 107, 3) := by decide +kernel
theorem dX7_count_61 : decode cX7_count 61 = .ok (.ifCond .eq 7, 3) := by decide +kernel
theorem dX7_count_64 : decode cX7_count 64 = .ok (.iconst 1, 1) := by decide +kernel
theorem dX7_count_65 : decode cX7_count 65 = .ok (.goto 4, 3) := by decide +kernel
theorem dX7_count_68 : decode cX7_count 68 = .ok (.iconst 0, 1) := by decide +kernel
theorem dX7_count_69 : decode cX7_count 69 = .ok (.iadd, 1) := by decide +kernel
theorem dX7_count_70 : decode cX7_count 70 = .ok (.istore_n 2, 1) := by decide +kernel
theorem dX7_count_71 : decode cX7_count 71 = .ok (.iinc 3 1, 3) := by decide +kernel
theorem dX7_count_74 : decode cX7_count 74 = .ok (.goto (-27), 3) := by decide +kernel
theorem dX7_count_77 : decode cX7_count 77 = .ok (.iload_n 2, 1) := by decide +kernel
theorem dX7_count_78 : decode cX7_count 78 = .ok (.ireturn, 1) := by decide +kernel
theorem dX7_count_79 : decode cX7_count 79 = .ok (.aload_n 0, 1) := by decide +kernel
theorem dX7_count_80 : decode cX7_count 80 = .ok (.getfield 168, 3) := by decide +kernel
theorem dX7_count_83 : decode cX7_count 83 = .ok (.ireturn, 1) := by decide +kernel
theorem dX7_count_84 : decode cX7_count 84 = .ok (.aload_n 0, 1) := by decide +kernel
theorem dX7_count_85 : decode cX7_count 85 = .ok (.getfield 171, 3) := by decide +kernel
theorem dX7_count_88 : decode cX7_count 88 = .ok (.ireturn, 1) := by decide +kernel
theorem dX7_count_89 : decode cX7_count 89 = .ok (.iconst 0, 1) := by decide +kernel
theorem dX7_count_90 : decode cX7_count 90 = .ok (.istore_n 3, 1) := by decide +kernel
theorem dX7_count_91 : decode cX7_count 91 = .ok (.iload_n 3, 1) := by decide +kernel
theorem dX7_count_92 : decode cX7_count 92 = .ok (.aload_n 0, 1) := by decide +kernel
theorem dX7_count_93 : decode cX7_count 93 = .ok (.getfield 171, 3) := by decide +kernel
theorem dX7_count_96 : decode cX7_count 96 = .ok (.if_icmp .ge 25, 3) := by decide +kernel
theorem dX7_count_99 : decode cX7_count 99 = .ok (.iload_n 2, 1) := by decide +kernel
theorem dX7_count_100 : decode cX7_count 100 = .ok (.aload_n 0, 1) := by decide +kernel
theorem dX7_count_101 : decode cX7_count 101 = .ok (.iload_n 3, 1) := by decide +kernel
theorem dX7_count_102 : decode cX7_count 102 = .ok (.invokevirtual 198, 3) := by decide +kernel
theorem dX7_count_105 : decode cX7_count 105 = .ok (.ifCond .eq 7, 3) := by decide +kernel
theorem dX7_count_108 : decode cX7_count 108 = .ok (.iconst 0, 1) := by decide +kernel
theorem dX7_count_109 : decode cX7_count 109 = .ok (.goto 4, 3) := by decide +kernel
theorem dX7_count_112 : decode cX7_count 112 = .ok (.iconst 1, 1) := by decide +kernel
theorem dX7_count_113 : decode cX7_count 113 = .ok (.iadd, 1) := by decide +kernel
theorem dX7_count_114 : decode cX7_count 114 = .ok (.istore_n 2, 1) := by decide +kernel
theorem dX7_count_115 : decode cX7_count 115 = .ok (.iinc 3 1, 3) := by decide +kernel
theorem dX7_count_118 : decode cX7_count 118 = .ok (.goto (-27), 3) := by decide +kernel
theorem dX7_count_121 : decode cX7_count 121 = .ok (.iload_n 2, 1) := by decide +kernel
theorem dX7_count_122 : decode cX7_count 122 = .ok (.ireturn, 1) := by decide +kernel
theorem dX7_count_123 : decode cX7_count 123 = .ok (.aload_n 0, 1) := by decide +kernel
theorem dX7_count_124 : decode cX7_count 124 = .ok (.invokevirtual 152, 3) := by decide +kernel
theorem dX7_count_127 : decode cX7_count 127 = .ok (.ireturn, 1) := by decide +kernel
theorem dX7_count_128 : decode cX7_count 128 = .ok (.bipush (-2), 2) := by decide +kernel
theorem dX7_count_130 : decode cX7_count 130 = .ok (.ireturn, 1) := by decide +kernel
end
section
theorem dL_law_0 : decode cL_law 0 = .ok (.new 7, 3) := by decide +kernel
theorem dL_law_3 : decode cL_law 3 = .ok (.dup, 1) := by decide +kernel
theorem dL_law_4 : decode cL_law 4 = .ok (.invokespecial 9, 3) := by decide +kernel
theorem dL_law_7 : decode cL_law 7 = .ok (.astore_n 1, 1) := by decide +kernel
theorem dL_law_8 : decode cL_law 8 = .ok (.new 10, 3) := by decide +kernel
theorem dL_law_11 : decode cL_law 11 = .ok (.dup, 1) := by decide +kernel
theorem dL_law_12 : decode cL_law 12 = .ok (.invokespecial 12, 3) := by decide +kernel
theorem dL_law_15 : decode cL_law 15 = .ok (.astore_n 2, 1) := by decide +kernel
theorem dL_law_16 : decode cL_law 16 = .ok (.iconst 0, 1) := by decide +kernel
theorem dL_law_17 : decode cL_law 17 = .ok (.istore_n 3, 1) := by decide +kernel
theorem dL_law_18 : decode cL_law 18 = .ok (.iload_n 3, 1) := by decide +kernel
theorem dL_law_19 : decode cL_law 19 = .ok (.aload_n 0, 1) := by decide +kernel
theorem dL_law_20 : decode cL_law 20 = .ok (.arraylength, 1) := by decide +kernel
theorem dL_law_21 : decode cL_law 21 = .ok (.iconst 5, 1) := by decide +kernel
theorem dL_law_22 : decode cL_law 22 = .ok (.isub, 1) := by decide +kernel
theorem dL_law_23 : decode cL_law 23 = .ok (.if_icmp .gt 950, 3) := by decide +kernel
theorem dL_law_26 : decode cL_law 26 = .ok (.aload_n 0, 1) := by decide +kernel
theorem dL_law_27 : decode cL_law 27 = .ok (.iload_n 3, 1) := by decide +kernel
theorem dL_law_28 : decode cL_law 28 = .ok (.iaload, 1) := by decide +kernel
theorem dL_law_29 : decode cL_law 29 = .ok (.bipush 31, 2) := by decide +kernel
theorem dL_law_31 : decode cL_law 31 = .ok (.iand, 1) := by decide +kernel
theorem dL_law_32 : decode cL_law 32 = .ok (.tableswitch 935 0 24 #[116, 129, 182, 225, 278, 292, 306, 330, 383, 436, 489, 502, 525, 558, 601, 634, 667, 690, 733, 766, 789, 812, 845, 878, 912], 116) := by decide +kernel
theorem dL_law_148 : decode cL_law 148 = .ok (.aload_n 1, 1) := by decide +kernel
theorem dL_law_149 : decode cL_law 149 = .ok (.invokevirtual 13, 3) := by decide +kernel
theorem dL_law_152 : decode cL_law 152 = .ok (.aload_n 2, 1) := by decide +kernel
theorem dL_law_153 : decode cL_law 153 = .ok (.invokevirtual 17, 3) := by decide +kernel
theorem dL_law_156 : decode cL_law 156 = .ok (.if_icmp .eq 811, 3) := by decide +kernel
theorem dL_law_159 : decode cL_law 159 = .ok (.iconst 0, 1) := by decide +kernel
theorem dL_law_160 : decode cL_law 160 = .ok (.ireturn, 1) := by decide +kernel
theorem dL_law_161 : decode cL_law 161 = .ok (.aload_n 1, 1) := by decide +kernel
theorem dL_law_162 : decode cL_law 162 = .ok (.aload_n 0, 1) := by decide +kernel
theorem dL_law_163 : decode cL_law 163 = .ok (.iload_n 3, 1) := by decide +kernel
theorem dL_law_164 : decode cL_law 164 = .ok (.iconst 1, 1) := by decide +kernel
theorem dL_law_165 : decode cL_law 165 = .ok (.iadd, 1) := by decide +kernel
theorem dL_law_166 : decode cL_law 166 = .ok (.iaload, 1) := by decide +kernel
theorem dL_law_167 : decode cL_law 167 = .ok (.aload_n 0, 1) := by decide +kernel
theorem dL_law_168 : decode cL_law 168 = .ok (.iload_n 3, 1) := by decide +kernel
theorem dL_law_169 : decode cL_law 169 = .ok (.iconst 2, 1) := by decide +kernel
theorem dL_law_170 : decode cL_law 170 = .ok (.iadd, 1) := by decide +kernel
theorem dL_law_171 : decode cL_law 171 = .ok (.iaload, 1) := by decide +kernel
theorem dL_law_172 : decode cL_law 172 = .ok (.aload_n 0, 1) := by decide +kernel
theorem dL_law_173 : decode cL_law 173 = .ok (.iload_n 3, 1) := by decide +kernel
theorem dL_law_174 : decode cL_law 174 = .ok (.iconst 3, 1) := by decide +kernel
theorem dL_law_175 : decode cL_law 175 = .ok (.iadd, 1) := by decide +kernel
theorem dL_law_176 : decode cL_law 176 = .ok (.iaload, 1) := by decide +kernel
theorem dL_law_177 : decode cL_law 177 = .ok (.aload_n 0, 1) := by decide +kernel
theorem dL_law_178 : decode cL_law 178 = .ok (.iload_n 3, 1) := by decide +kernel
theorem dL_law_179 : decode cL_law 179 = .ok (.iconst 4, 1) := by decide +kernel
theorem dL_law_180 : decode cL_law 180 = .ok (.iadd, 1) := by decide +kernel
theorem dL_law_181 : decode cL_law 181 = .ok (.iaload, 1) := by decide +kernel
theorem dL_law_182 : decode cL_law 182 = .ok (.invokevirtual 18, 3) := by decide +kernel
theorem dL_law_185 : decode cL_law 185 = .ok (.aload_n 2, 1) := by decide +kernel
theorem dL_law_186 : decode cL_law 186 = .ok (.aload_n 0, 1) := by decide +kernel
theorem dL_law_187 : decode cL_law 187 = .ok (.iload_n 3, 1) := by decide +kernel
theorem dL_law_188 : decode cL_law 188 = .ok (.iconst 1, 1) := by decide +kernel
theorem dL_law_189 : decode cL_law 189 = .ok (.iadd, 1) := by decide +kernel
theorem dL_law_190 : decode cL_law 190 = .ok (.iaload, 1) := by decide +kernel
theorem dL_law_191 : decode cL_law 191 = .ok (.aload_n 0, 1) := by decide +kernel
theorem dL_law_192 : decode cL_law 192 = .ok (.iload_n 3, 1) := by decide +kernel
theorem dL_law_193 : decode cL_law 193 = .ok (.iconst 2, 1) := by decide +kernel
theorem dL_law_194 : decode cL_law 194 = .ok (.iadd, 1) := by decide +kernel
theorem dL_law_195 : decode cL_law 195 = .ok (.iaload, 1) := by decide +kernel
theorem dL_law_196 : decode cL_law 196 = .ok (.aload_n 0, 1) := by decide +kernel
theorem dL_law_197 : decode cL_law 197 = .ok (.iload_n 3, 1) := by decide +kernel
theorem dL_law_198 : decode cL_law 198 = .ok (.iconst 3, 1) := by decide +kernel
theorem dL_law_199 : decode cL_law 199 = .ok (.iadd, 1) := by decide +kernel
theorem dL_law_200 : decode cL_law 200 = .ok (.iaload, 1) := by decide +kernel
theorem dL_law_201 : decode cL_law 201 = .ok (.aload_n 0, 1) := by decide +kernel
theorem dL_law_202 : decode cL_law 202 = .ok (.iload_n 3, 1) := by decide +kernel
theorem dL_law_203 : decode cL_law 203 = .ok (.iconst 4, 1) := by decide +kernel
theorem dL_law_204 : decode cL_law 204 = .ok (.iadd, 1) := by decide +kernel
theorem dL_law_205 : decode cL_law 205 = .ok (.iaload, 1) := by decide +kernel
theorem dL_law_206 : decode cL_law 206 = .ok (.invokevirtual 22, 3) := by decide +kernel
theorem dL_law_209 : decode cL_law 209 = .ok (.if_icmp .eq 758, 3) := by decide +kernel
theorem dL_law_212 : decode cL_law 212 = .ok (.iconst 0, 1) := by decide +kernel
theorem dL_law_213 : decode cL_law 213 = .ok (.ireturn, 1) := by decide +kernel
theorem dL_law_214 : decode cL_law 214 = .ok (.aload_n 1, 1) := by decide +kernel
theorem dL_law_215 : decode cL_law 215 = .ok (.aload_n 0, 1) := by decide +kernel
theorem dL_law_216 : decode cL_law 216 = .ok (.iload_n 3, 1) := by decide +kernel
theorem dL_law_217 : decode cL_law 217 = .ok (.iconst 1, 1) := by decide +kernel
theorem dL_law_218 : decode cL_law 218 = .ok (.iadd, 1) := by decide +kernel
theorem dL_law_219 : decode cL_law 219 = .ok (.iaload, 1) := by decide +kernel
theorem dL_law_220 : decode cL_law 220 = .ok (.aload_n 0, 1) := by decide +kernel
theorem dL_law_221 : decode cL_law 221 = .ok (.iload_n 3, 1) := by decide +kernel
theorem dL_law_222 : decode cL_law 222 = .ok (.iconst 2, 1) := by decide +kernel
theorem dL_law_223 : decode cL_law 223 = .ok (.iadd, 1) := by decide +kernel
theorem dL_law_224 : decode cL_law 224 = .ok (.iaload, 1) := by decide +kernel
theorem dL_law_225 : decode cL_law 225 = .ok (.aload_n 0, 1) := by decide +kernel
theorem dL_law_226 : decode cL_law 226 = .ok (.iload_n 3, 1) := by decide +kernel
theorem dL_law_227 : decode cL_law 227 = .ok (.iconst 3, 1) := by decide +kernel
theorem dL_law_228 : decode cL_law 228 = .ok (.iadd, 1) := by decide +kernel
theorem dL_law_229 : decode cL_law 229 = .ok (.iaload, 1) := by decide +kernel
theorem dL_law_230 : decode cL_law 230 = .ok (.invokevirtual 23, 3) := by decide +kernel
theorem dL_law_233 : decode cL_law 233 = .ok (.aload_n 2, 1) := by decide +kernel
theorem dL_law_234 : decode cL_law 234 = .ok (.aload_n 0, 1) := by decide +kernel
theorem dL_law_235 : decode cL_law 235 = .ok (.iload_n 3, 1) := by decide +kernel
theorem dL_law_236 : decode cL_law 236 = .ok (.iconst 1, 1) := by decide +kernel
theorem dL_law_237 : decode cL_law 237 = .ok (.iadd, 1) := by decide +kernel
theorem dL_law_238 : decode cL_law 238 = .ok (.iaload, 1) := by decide +kernel
theorem dL_law_239 : decode cL_law 239 = .ok (.aload_n 0, 1) := by decide +kernel
theorem dL_law_240 : decode cL_law 240 = .ok (.iload_n 3, 1) := by decide +kernel
theorem dL_law_241 : decode cL_law 241 = .ok (.iconst 2, 1) := by decide +kernel
theorem dL_law_242 : decode cL_law 242 = .ok (.iadd, 1) := by decide +kernel
theorem dL_law_243 : decode cL_law 243 = .ok (.iaload, 1) := by decide +kernel
theorem dL_law_244 : decode cL_law 244 = .ok (.aload_n 0, 1) := by decide +kernel
theorem dL_law_245 : decode cL_law 245 = .ok (.iload_n 3, 1) := by decide +kernel
theorem dL_law_246 : decode cL_law 246 = .ok (.iconst 3, 1) := by decide +kernel
theorem dL_law_247 : decode cL_law 247 = .ok (.iadd, 1) := by decide +kernel
theorem dL_law_248 : decode cL_law 248 = .ok (.iaload, 1) := by decide +kernel
theorem dL_law_249 : decode cL_law 249 = .ok (.invokevirtual 27, 3) := by decide +kernel
theorem dL_law_252 : decode cL_law 252 = .ok (.if_icmp .eq 715, 3) := by decide +kernel
theorem dL_law_255 : decode cL_law 255 = .ok (.iconst 0, 1) := by decide +kernel
theorem dL_law_256 : decode cL_law 256 = .ok (.ireturn, 1) := by decide +kernel
theorem dL_law_257 : decode cL_law 257 = .ok (.aload_n 1, 1) := by decide +kernel
theorem dL_law_258 : decode cL_law 258 = .ok (.aload_n 0, 1) := by decide +kernel
theorem dL_law_259 : decode cL_law 259 = .ok (.iload_n 3, 1) := by decide +kernel
theorem dL_law_260 : decode cL_law 260 = .ok (.iconst 1, 1) := by decide +kernel
theorem dL_law_261 : decode cL_law 261 = .ok (.iadd, 1) := by decide +kernel
theorem dL_law_262 : decode cL_law 262 = .ok (.iaload, 1) := by decide +kernel
theorem dL_law_263 : decode cL_law 263 = .ok (.aload_n 0, 1) := by decide +kernel
theorem dL_law_264 : decode cL_law 264 = .ok (.iload_n 3, 1) := by decide +kernel
theorem dL_law_265 : decode cL_law 265 = .ok (.iconst 2, 1) := by decide +kernel
theorem dL_law_266 : decode cL_law 266 = .ok (.iadd, 1) := by decide +kernel
theorem dL_law_267 : decode cL_law 267 = .ok (.iaload, 1) := by decide +kernel
theorem dL_law_268 : decode cL_law 268 = .ok (.aload_n 0, 1) := by decide +kernel
theorem dL_law_269 : decode cL_law 269 = .ok (.iload_n 3, 1) := by decide +kernel
theorem dL_law_270 : decode cL_law 270 = .ok (.iconst 3, 1) := by decide +kernel
theorem dL_law_271 : decode cL_law 271 = .ok (.iadd, 1) := by decide +kernel
theorem dL_law_272 : decode cL_law 272 = .ok (.iaload, 1) := by decide +kernel
theorem dL_law_273 : decode cL_law 273 = .ok (.aload_n 0, 1) := by decide +kernel
theorem dL_law_274 : decode cL_law 274 = .ok (.iload_n 3, 1) := by decide +kernel
theorem dL_law_275 : decode cL_law 275 = .ok (.iconst 4, 1) := by decide +kernel
theorem dL_law_276 : decode cL_law 276 = .ok (.iadd, 1) := by decide +kernel
theorem dL_law_277 : decode cL_law 277 = .ok (.iaload, 1) := by decide +kernel
theorem dL_law_278 : decode cL_law 278 = .ok (.invokevirtual 28, 3) := by decide +kernel
theorem dL_law_281 : decode cL_law 281 = .ok (.aload_n 2, 1) := by decide +kernel
theorem dL_law_282 : decode cL_law 282 = .ok (.aload_n 0, 1) := by decide +kernel
theorem dL_law_283 : decode cL_law 283 = .ok (.iload_n 3, 1) := by decide +kernel
theorem dL_law_284 : decode cL_law 284 = .ok (.iconst 1, 1) := by decide +kernel
theorem dL_law_285 : decode cL_law 285 = .ok (.iadd, 1) := by decide +kernel
theorem dL_law_286 : decode cL_law 286 = .ok (.iaload, 1) := by decide +kernel
theorem dL_law_287 : decode cL_law 287 = .ok (.aload_n 0, 1) := by decide +kernel
theorem dL_law_288 : decode cL_law 288 = .ok (.iload_n 3, 1) := by decide +kernel
theorem dL_law_289 : decode cL_law 289 = .ok (.iconst 2, 1) := by decide +kernel
theorem dL_law_290 : decode cL_law 290 = .ok (.iadd, 1) := by decide +kernel
theorem dL_law_291 : decode cL_law 291 = .ok (.iaload, 1) := by decide +kernel
theorem dL_law_292 : decode cL_law 292 = .ok (.aload_n 0, 1) := by decide +kernel
theorem dL_law_293 : decode cL_law 293 = .ok (.iload_n 3, 1) := by decide +kernel
theorem dL_law_294 : decode cL_law 294 = .ok (.iconst 3, 1) := by decide +kernel
theorem dL_law_295 : decode cL_law 295 = .ok (.iadd, 1) := by decide +kernel
theorem dL_law_296 : decode cL_law 296 = .ok (.iaload, 1) := by decide +kernel
theorem dL_law_297 : decode cL_law 297 = .ok (.aload_n 0, 1) := by decide +kernel
theorem dL_law_298 : decode cL_law 298 = .ok (.iload_n 3, 1) := by decide +kernel
theorem dL_law_299 : decode cL_law 299 = .ok (.iconst 4, 1) := by decide +kernel
theorem dL_law_300 : decode cL_law 300 = .ok (.iadd, 1) := by decide +kernel
theorem dL_law_301 : decode cL_law 301 = .ok (.iaload, 1) := by decide +kernel
theorem dL_law_302 : decode cL_law 302 = .ok (.invokevirtual 31, 3) := by decide +kernel
theorem dL_law_305 : decode cL_law 305 = .ok (.if_icmp .eq 662, 3) := by decide +kernel
theorem dL_law_308 : decode cL_law 308 = .ok (.iconst 0, 1) := by decide +kernel
theorem dL_law_309 : decode cL_law 309 = .ok (.ireturn, 1) := by decide +kernel
theorem dL_law_310 : decode cL_law 310 = .ok (.aload_n 1, 1) := by decide +kernel
theorem dL_law_311 : decode cL_law 311 = .ok (.invokevirtual 32, 3) := by decide +kernel
theorem dL_law_314 : decode cL_law 314 = .ok (.aload_n 2, 1) := by decide +kernel
theorem dL_law_315 : decode cL_law 315 = .ok (.invokevirtual 36, 3) := by decide +kernel
theorem dL_law_318 : decode cL_law 318 = .ok (.lcmp, 1) := by decide +kernel
theorem dL_law_319 : decode cL_law 319 = .ok (.ifCond .eq 648, 3) := by decide +kernel
theorem dL_law_322 : decode cL_law 322 = .ok (.iconst 0, 1) := by decide +kernel
theorem dL_law_323 : decode cL_law 323 = .ok (.ireturn, 1) := by decide +kernel
theorem dL_law_324 : decode cL_law 324 = .ok (.aload_n 1, 1) := by decide +kernel
theorem dL_law_325 : decode cL_law 325 = .ok (.invokevirtual 37, 3) := by decide +kernel
theorem dL_law_328 : decode cL_law 328 = .ok (.aload_n 2, 1) := by decide +kernel
theorem dL_law_329 : decode cL_law 329 = .ok (.invokevirtual 40, 3) := by decide +kernel
theorem dL_law_332 : decode cL_law 332 = .ok (.lcmp, 1) := by decide +kernel
theorem dL_law_333 : decode cL_law 333 = .ok (.ifCond .eq 634, 3) := by decide +kernel
theorem dL_law_336 : decode cL_law 336 = .ok (.iconst 0, 1) := by decide +kernel
theorem dL_law_337 : decode cL_law 337 = .ok (.ireturn, 1) := by decide +kernel
theorem dL_law_338 : decode cL_law 338 = .ok (.aload_n 1, 1) := by decide +kernel
theorem dL_law_339 : decode cL_law 339 = .ok (.aload_n 0, 1) := by decide +kernel
theorem dL_law_340 : decode cL_law 340 = .ok (.iload_n 3, 1) := by decide +kernel
theorem dL_law_341 : decode cL_law 341 = .ok (.iconst 1, 1) := by decide +kernel
theorem dL_law_342 : decode cL_law 342 = .ok (.iadd, 1) := by decide +kernel
theorem dL_law_343 : decode cL_law 343 = .ok (.iaload, 1) := by decide +kernel
theorem dL_law_344 : decode cL_law 344 = .ok (.invokevirtual 41, 3) := by decide +kernel
theorem dL_law_347 : decode cL_law 347 = .ok (.aload_n 2, 1) := by decide +kernel
theorem dL_law_348 : decode cL_law 348 = .ok (.aload_n 0, 1) := by decide +kernel
theorem dL_law_349 : decode cL_law 349 = .ok (.iload_n 3, 1) := by decide +kernel
theorem dL_law_350 : decode cL_law 350 = .ok (.iconst 1, 1) := by decide +kernel
theorem dL_law_351 : decode cL_law 351 = .ok (.iadd, 1) := by decide +kernel
theorem dL_law_352 : decode cL_law 352 = .ok (.iaload, 1) := by decide +kernel
theorem dL_law_353 : decode cL_law 353 = .ok (.invokevirtual 45, 3) := by decide +kernel
theorem dL_law_356 : decode cL_law 356 = .ok (.lcmp, 1) := by decide +kernel
theorem dL_law_357 : decode cL_law 357 = .ok (.ifCond .eq 610, 3) := by decide +kernel
theorem dL_law_360 : decode cL_law 360 = .ok (.iconst 0, 1) := by decide +kernel
theorem dL_law_361 : decode cL_law 361 = .ok (.ireturn, 1) := by decide +kernel
theorem dL_law_362 : decode cL_law 362 = .ok (.aload_n 1, 1) := by decide +kernel
theorem dL_law_363 : decode cL_law 363 = .ok (.aload_n 0, 1) := by decide +kernel
theorem dL_law_364 : decode cL_law 364 = .ok (.iload_n 3, 1) := by decide +kernel
theorem dL_law_365 : decode cL_law 365 = .ok (.iconst 1, 1) := by decide +kernel
theorem dL_law_366 : decode cL_law 366 = .ok (.iadd, 1) := by decide +kernel
theorem dL_law_367 : decode cL_law 367 = .ok (.iaload, 1) := by decide +kernel
theorem dL_law_368 : decode cL_law 368 = .ok (.aload_n 0, 1) := by decide +kernel
theorem dL_law_369 : decode cL_law 369 = .ok (.iload_n 3, 1) := by decide +kernel
theorem dL_law_370 : decode cL_law 370 = .ok (.iconst 2, 1) := by decide +kernel
theorem dL_law_371 : decode cL_law 371 = .ok (.iadd, 1) := by decide +kernel
theorem dL_law_372 : decode cL_law 372 = .ok (.iaload, 1) := by decide +kernel
theorem dL_law_373 : decode cL_law 373 = .ok (.aload_n 0, 1) := by decide +kernel
theorem dL_law_374 : decode cL_law 374 = .ok (.iload_n 3, 1) := by decide +kernel
theorem dL_law_375 : decode cL_law 375 = .ok (.iconst 3, 1) := by decide +kernel
theorem dL_law_376 : decode cL_law 376 = .ok (.iadd, 1) := by decide +kernel
theorem dL_law_377 : decode cL_law 377 = .ok (.iaload, 1) := by decide +kernel
theorem dL_law_378 : decode cL_law 378 = .ok (.aload_n 0, 1) := by decide +kernel
theorem dL_law_379 : decode cL_law 379 = .ok (.iload_n 3, 1) := by decide +kernel
theorem dL_law_380 : decode cL_law 380 = .ok (.iconst 4, 1) := by decide +kernel
theorem dL_law_381 : decode cL_law 381 = .ok (.iadd, 1) := by decide +kernel
theorem dL_law_382 : decode cL_law 382 = .ok (.iaload, 1) := by decide +kernel
theorem dL_law_383 : decode cL_law 383 = .ok (.invokevirtual 46, 3) := by decide +kernel
theorem dL_law_386 : decode cL_law 386 = .ok (.aload_n 2, 1) := by decide +kernel
theorem dL_law_387 : decode cL_law 387 = .ok (.aload_n 0, 1) := by decide +kernel
theorem dL_law_388 : decode cL_law 388 = .ok (.iload_n 3, 1) := by decide +kernel
theorem dL_law_389 : decode cL_law 389 = .ok (.iconst 1, 1) := by decide +kernel
theorem dL_law_390 : decode cL_law 390 = .ok (.iadd, 1) := by decide +kernel
theorem dL_law_391 : decode cL_law 391 = .ok (.iaload, 1) := by decide +kernel
theorem dL_law_392 : decode cL_law 392 = .ok (.aload_n 0, 1) := by decide +kernel
theorem dL_law_393 : decode cL_law 393 = .ok (.iload_n 3, 1) := by decide +kernel
theorem dL_law_394 : decode cL_law 394 = .ok (.iconst 2, 1) := by decide +kernel
theorem dL_law_395 : decode cL_law 395 = .ok (.iadd, 1) := by decide +kernel
theorem dL_law_396 : decode cL_law 396 = .ok (.iaload, 1) := by decide +kernel
theorem dL_law_397 : decode cL_law 397 = .ok (.aload_n 0, 1) := by decide +kernel
theorem dL_law_398 : decode cL_law 398 = .ok (.iload_n 3, 1) := by decide +kernel
theorem dL_law_399 : decode cL_law 399 = .ok (.iconst 3, 1) := by decide +kernel
theorem dL_law_400 : decode cL_law 400 = .ok (.iadd, 1) := by decide +kernel
theorem dL_law_401 : decode cL_law 401 = .ok (.iaload, 1) := by decide +kernel
theorem dL_law_402 : decode cL_law 402 = .ok (.aload_n 0, 1) := by decide +kernel
theorem dL_law_403 : decode cL_law 403 = .ok (.iload_n 3, 1) := by decide +kernel
theorem dL_law_404 : decode cL_law 404 = .ok (.iconst 4, 1) := by decide +kernel
theorem dL_law_405 : decode cL_law 405 = .ok (.iadd, 1) := by decide +kernel
theorem dL_law_406 : decode cL_law 406 = .ok (.iaload, 1) := by decide +kernel
theorem dL_law_407 : decode cL_law 407 = .ok (.invokevirtual 49, 3) := by decide +kernel
theorem dL_law_410 : decode cL_law 410 = .ok (.if_icmp .eq 557, 3) := by decide +kernel
theorem dL_law_413 : decode cL_law 413 = .ok (.iconst 0, 1) := by decide +kernel
theorem dL_law_414 : decode cL_law 414 = .ok (.ireturn, 1) := by decide +kernel
theorem dL_law_415 : decode cL_law 415 = .ok (.aload_n 1, 1) := by decide +kernel
theorem dL_law_416 : decode cL_law 416 = .ok (.aload_n 0, 1) := by decide +kernel
theorem dL_law_417 : decode cL_law 417 = .ok (.iload_n 3, 1) := by decide +kernel
theorem dL_law_418 : decode cL_law 418 = .ok (.iconst 1, 1) := by decide +kernel
theorem dL_law_419 : decode cL_law 419 = .ok (.iadd, 1) := by decide +kernel
theorem dL_law_420 : decode cL_law 420 = .ok (.iaload, 1) := by decide +kernel
theorem dL_law_421 : decode cL_law 421 = .ok (.aload_n 0, 1) := by decide +kernel
theorem dL_law_422 : decode cL_law 422 = .ok (.iload_n 3, 1) := by decide +kernel
theorem dL_law_423 : decode cL_law 423 = .ok (.iconst 2, 1) := by decide +kernel
theorem dL_law_424 : decode cL_law 424 = .ok (.iadd, 1) := by decide +kernel
theorem dL_law_425 : decode cL_law 425 = .ok (.iaload, 1) := by decide +kernel
theorem dL_law_426 : decode cL_law 426 = .ok (.aload_n 0, 1) := by decide +kernel
theorem dL_law_427 : decode cL_law 427 = .ok (.iload_n 3, 1) := by decide +kernel
theorem dL_law_428 : decode cL_law 428 = .ok (.iconst 3, 1) := by decide +kernel
theorem dL_law_429 : decode cL_law 429 = .ok (.iadd, 1) := by decide +kernel
theorem dL_law_430 : decode cL_law 430 = .ok (.iaload, 1) := by decide +kernel
theorem dL_law_431 : decode cL_law 431 = .ok (.aload_n 0, 1) := by decide +kernel
theorem dL_law_432 : decode cL_law 432 = .ok (.iload_n 3, 1) := by decide +kernel
theorem dL_law_433 : decode cL_law 433 = .ok (.iconst 4, 1) := by decide +kernel
theorem dL_law_434 : decode cL_law 434 = .ok (.iadd, 1) := by decide +kernel
theorem dL_law_435 : decode cL_law 435 = .ok (.iaload, 1) := by decide +kernel
theorem dL_law_436 : decode cL_law 436 = .ok (.invokevirtual 50, 3) := by decide +kernel
theorem dL_law_439 : decode cL_law 439 = .ok (.aload_n 2, 1) := by decide +kernel
theorem dL_law_440 : decode cL_law 440 = .ok (.aload_n 0, 1) := by decide +kernel
theorem dL_law_441 : decode cL_law 441 = .ok (.iload_n 3, 1) := by decide +kernel
theorem dL_law_442 : decode cL_law 442 = .ok (.iconst 1, 1) := by decide +kernel
theorem dL_law_443 : decode cL_law 443 = .ok (.iadd, 1) := by decide +kernel
theorem dL_law_444 : decode cL_law 444 = .ok (.iaload, 1) := by decide +kernel
theorem dL_law_445 : decode cL_law 445 = .ok (.aload_n 0, 1) := by decide +kernel
theorem dL_law_446 : decode cL_law 446 = .ok (.iload_n 3, 1) := by decide +kernel
theorem dL_law_447 : decode cL_law 447 = .ok (.iconst 2, 1) := by decide +kernel
theorem dL_law_448 : decode cL_law 448 = .ok (.iadd, 1) := by decide +kernel
theorem dL_law_449 : decode cL_law 449 = .ok (.iaload, 1) := by decide +kernel
theorem dL_law_450 : decode cL_law 450 = .ok (.aload_n 0, 1) := by decide +kernel
theorem dL_law_451 : decode cL_law 451 = .ok (.iload_n 3, 1) := by decide +kernel
theorem dL_law_452 : decode cL_law 452 = .ok (.iconst 3, 1) := by decide +kernel
theorem dL_law_453 : decode cL_law 453 = .ok (.iadd, 1) := by decide +kernel
theorem dL_law_454 : decode cL_law 454 = .ok (.iaload, 1) := by decide +kernel
theorem dL_law_455 : decode cL_law 455 = .ok (.aload_n 0, 1) := by decide +kernel
theorem dL_law_456 : decode cL_law 456 = .ok (.iload_n 3, 1) := by decide +kernel
theorem dL_law_457 : decode cL_law 457 = .ok (.iconst 4, 1) := by decide +kernel
theorem dL_law_458 : decode cL_law 458 = .ok (.iadd, 1) := by decide +kernel
theorem dL_law_459 : decode cL_law 459 = .ok (.iaload, 1) := by decide +kernel
theorem dL_law_460 : decode cL_law 460 = .ok (.invokevirtual 53, 3) := by decide +kernel
theorem dL_law_463 : decode cL_law 463 = .ok (.if_icmp .eq 504, 3) := by decide +kernel
theorem dL_law_466 : decode cL_law 466 = .ok (.iconst 0, 1) := by decide +kernel
theorem dL_law_467 : decode cL_law 467 = .ok (.ireturn, 1) := by decide +kernel
theorem dL_law_468 : decode cL_law 468 = .ok (.aload_n 1, 1) := by decide +kernel
theorem dL_law_469 : decode cL_law 469 = .ok (.aload_n 0, 1) := by decide +kernel
theorem dL_law_470 : decode cL_law 470 = .ok (.iload_n 3, 1) := by decide +kernel
theorem dL_law_471 : decode cL_law 471 = .ok (.iconst 1, 1) := by decide +kernel
theorem dL_law_472 : decode cL_law 472 = .ok (.iadd, 1) := by decide +kernel
theorem dL_law_473 : decode cL_law 473 = .ok (.iaload, 1) := by decide +kernel
theorem dL_law_474 : decode cL_law 474 = .ok (.aload_n 0, 1) := by decide +kernel
theorem dL_law_475 : decode cL_law 475 = .ok (.iload_n 3, 1) := by decide +kernel
theorem dL_law_476 : decode cL_law 476 = .ok (.iconst 2, 1) := by decide +kernel
theorem dL_law_477 : decode cL_law 477 = .ok (.iadd, 1) := by decide +kernel
theorem dL_law_478 : decode cL_law 478 = .ok (.iaload, 1) := by decide +kernel
theorem dL_law_479 : decode cL_law 479 = .ok (.aload_n 0, 1) := by decide +kernel
theorem dL_law_480 : decode cL_law 480 = .ok (.iload_n 3, 1) := by decide +kernel
theorem dL_law_481 : decode cL_law 481 = .ok (.iconst 3, 1) := by decide +kernel
theorem dL_law_482 : decode cL_law 482 = .ok (.iadd, 1) := by decide +kernel
theorem dL_law_483 : decode cL_law 483 = .ok (.iaload, 1) := by decide +kernel
theorem dL_law_484 : decode cL_law 484 = .ok (.aload_n 0, 1) := by decide +kernel
theorem dL_law_485 : decode cL_law 485 = .ok (.iload_n 3, 1) := by decide +kernel
theorem dL_law_486 : decode cL_law 486 = .ok (.iconst 4, 1) := by decide +kernel
theorem dL_law_487 : decode cL_law 487 = .ok (.iadd, 1) := by decide +kernel
theorem dL_law_488 : decode cL_law 488 = .ok (.iaload, 1) := by decide +kernel
theorem dL_law_489 : decode cL_law 489 = .ok (.invokevirtual 54, 3) := by decide +kernel
theorem dL_law_492 : decode cL_law 492 = .ok (.aload_n 2, 1) := by decide +kernel
theorem dL_law_493 : decode cL_law 493 = .ok (.aload_n 0, 1) := by decide +kernel
theorem dL_law_494 : decode cL_law 494 = .ok (.iload_n 3, 1) := by decide +kernel
theorem dL_law_495 : decode cL_law 495 = .ok (.iconst 1, 1) := by decide +kernel
theorem dL_law_496 : decode cL_law 496 = .ok (.iadd, 1) := by decide +kernel
theorem dL_law_497 : decode cL_law 497 = .ok (.iaload, 1) := by decide +kernel
theorem dL_law_498 : decode cL_law 498 = .ok (.aload_n 0, 1) := by decide +kernel
theorem dL_law_499 : decode cL_law 499 = .ok (.iload_n 3, 1) := by decide +kernel
theorem dL_law_500 : decode cL_law 500 = .ok (.iconst 2, 1) := by decide +kernel
theorem dL_law_501 : decode cL_law 501 = .ok (.iadd, 1) := by decide +kernel
theorem dL_law_502 : decode cL_law 502 = .ok (.iaload, 1) := by decide +kernel
theorem dL_law_503 : decode cL_law 503 = .ok (.aload_n 0, 1) := by decide +kernel
theorem dL_law_504 : decode cL_law 504 = .ok (.iload_n 3, 1) := by decide +kernel
theorem dL_law_505 : decode cL_law 505 = .ok (.iconst 3, 1) := by decide +kernel
theorem dL_law_506 : decode cL_law 506 = .ok (.iadd, 1) := by decide +kernel
theorem dL_law_507 : decode cL_law 507 = .ok (.iaload, 1) := by decide +kernel
theorem dL_law_508 : decode cL_law 508 = .ok (.aload_n 0, 1) := by decide +kernel
theorem dL_law_509 : decode cL_law 509 = .ok (.iload_n 3, 1) := by decide +kernel
theorem dL_law_510 : decode cL_law 510 = .ok (.iconst 4, 1) := by decide +kernel
theorem dL_law_511 : decode cL_law 511 = .ok (.iadd, 1) := by decide +kernel
theorem dL_law_512 : decode cL_law 512 = .ok (.iaload, 1) := by decide +kernel
theorem dL_law_513 : decode cL_law 513 = .ok (.invokevirtual 57, 3) := by decide +kernel
theorem dL_law_516 : decode cL_law 516 = .ok (.if_icmp .eq 451, 3) := by decide +kernel
theorem dL_law_519 : decode cL_law 519 = .ok (.iconst 0, 1) := by decide +kernel
theorem dL_law_520 : decode cL_law 520 = .ok (.ireturn, 1) := by decide +kernel
theorem dL_law_521 : decode cL_law 521 = .ok (.aload_n 1, 1) := by decide +kernel
theorem dL_law_522 : decode cL_law 522 = .ok (.invokevirtual 58, 3) := by decide +kernel
theorem dL_law_525 : decode cL_law 525 = .ok (.aload_n 2, 1) := by decide +kernel
theorem dL_law_526 : decode cL_law 526 = .ok (.invokevirtual 61, 3) := by decide +kernel
theorem dL_law_529 : decode cL_law 529 = .ok (.if_icmp .eq 438, 3) := by decide +kernel
theorem dL_law_532 : decode cL_law 532 = .ok (.iconst 0, 1) := by decide +kernel
theorem dL_law_533 : decode cL_law 533 = .ok (.ireturn, 1) := by decide +kernel
theorem dL_law_534 : decode cL_law 534 = .ok (.aload_n 1, 1) := by decide +kernel
theorem dL_law_535 : decode cL_law 535 = .ok (.aload_n 0, 1) := by decide +kernel
theorem dL_law_536 : decode cL_law 536 = .ok (.iload_n 3, 1) := by decide +kernel
theorem dL_law_537 : decode cL_law 537 = .ok (.iconst 1, 1) := by decide +kernel
theorem dL_law_538 : decode cL_law 538 = .ok (.iadd, 1) := by decide +kernel
theorem dL_law_539 : decode cL_law 539 = .ok (.iaload, 1) := by decide +kernel
theorem dL_law_540 : decode cL_law 540 = .ok (.invokevirtual 62, 3) := by decide +kernel
theorem dL_law_543 : decode cL_law 543 = .ok (.aload_n 2, 1) := by decide +kernel
theorem dL_law_544 : decode cL_law 544 = .ok (.aload_n 0, 1) := by decide +kernel
theorem dL_law_545 : decode cL_law 545 = .ok (.iload_n 3, 1) := by decide +kernel
theorem dL_law_546 : decode cL_law 546 = .ok (.iconst 1, 1) := by decide +kernel
theorem dL_law_547 : decode cL_law 547 = .ok (.iadd, 1) := by decide +kernel
theorem dL_law_548 : decode cL_law 548 = .ok (.iaload, 1) := by decide +kernel
theorem dL_law_549 : decode cL_law 549 = .ok (.invokevirtual 66, 3) := by decide +kernel
theorem dL_law_552 : decode cL_law 552 = .ok (.if_icmp .eq 415, 3) := by decide +kernel
theorem dL_law_555 : decode cL_law 555 = .ok (.iconst 0, 1) := by decide +kernel
theorem dL_law_556 : decode cL_law 556 = .ok (.ireturn, 1) := by decide +kernel
theorem dL_law_557 : decode cL_law 557 = .ok (.aload_n 1, 1) := by decide +kernel
theorem dL_law_558 : decode cL_law 558 = .ok (.aload_n 0, 1) := by decide +kernel
theorem dL_law_559 : decode cL_law 559 = .ok (.iload_n 3, 1) := by decide +kernel
theorem dL_law_560 : decode cL_law 560 = .ok (.iconst 1, 1) := by decide +kernel
theorem dL_law_561 : decode cL_law 561 = .ok (.iadd, 1) := by decide +kernel
theorem dL_law_562 : decode cL_law 562 = .ok (.iaload, 1) := by decide +kernel
theorem dL_law_563 : decode cL_law 563 = .ok (.aload_n 0, 1) := by decide +kernel
theorem dL_law_564 : decode cL_law 564 = .ok (.iload_n 3, 1) := by decide +kernel
theorem dL_law_565 : decode cL_law 565 = .ok (.iconst 2, 1) := by decide +kernel
theorem dL_law_566 : decode cL_law 566 = .ok (.iadd, 1) := by decide +kernel
theorem dL_law_567 : decode cL_law 567 = .ok (.iaload, 1) := by decide +kernel
theorem dL_law_568 : decode cL_law 568 = .ok (.invokevirtual 67, 3) := by decide +kernel
theorem dL_law_571 : decode cL_law 571 = .ok (.aload_n 2, 1) := by decide +kernel
theorem dL_law_572 : decode cL_law 572 = .ok (.aload_n 0, 1) := by decide +kernel
theorem dL_law_573 : decode cL_law 573 = .ok (.iload_n 3, 1) := by decide +kernel
theorem dL_law_574 : decode cL_law 574 = .ok (.iconst 1, 1) := by decide +kernel
theorem dL_law_575 : decode cL_law 575 = .ok (.iadd, 1) := by decide +kernel
theorem dL_law_576 : decode cL_law 576 = .ok (.iaload, 1) := by decide +kernel
theorem dL_law_577 : decode cL_law 577 = .ok (.aload_n 0, 1) := by decide +kernel
theorem dL_law_578 : decode cL_law 578 = .ok (.iload_n 3, 1) := by decide +kernel
theorem dL_law_579 : decode cL_law 579 = .ok (.iconst 2, 1) := by decide +kernel
theorem dL_law_580 : decode cL_law 580 = .ok (.iadd, 1) := by decide +kernel
theorem dL_law_581 : decode cL_law 581 = .ok (.iaload, 1) := by decide +kernel
theorem dL_law_582 : decode cL_law 582 = .ok (.invokevirtual 71, 3) := by decide +kernel
theorem dL_law_585 : decode cL_law 585 = .ok (.if_icmp .eq 382, 3) := by decide +kernel
theorem dL_law_588 : decode cL_law 588 = .ok (.iconst 0, 1) := by decide +kernel
theorem dL_law_589 : decode cL_law 589 = .ok (.ireturn, 1) := by decide +kernel
theorem dL_law_590 : decode cL_law 590 = .ok (.aload_n 1, 1) := by decide +kernel
theorem dL_law_591 : decode cL_law 591 = .ok (.aload_n 0, 1) := by decide +kernel
theorem dL_law_592 : decode cL_law 592 = .ok (.iload_n 3, 1) := by decide +kernel
theorem dL_law_593 : decode cL_law 593 = .ok (.iconst 1, 1) := by decide +kernel
theorem dL_law_594 : decode cL_law 594 = .ok (.iadd, 1) := by decide +kernel
theorem dL_law_595 : decode cL_law 595 = .ok (.iaload, 1) := by decide +kernel
theorem dL_law_596 : decode cL_law 596 = .ok (.aload_n 0, 1) := by decide +kernel
theorem dL_law_597 : decode cL_law 597 = .ok (.iload_n 3, 1) := by decide +kernel
theorem dL_law_598 : decode cL_law 598 = .ok (.iconst 2, 1) := by decide +kernel
theorem dL_law_599 : decode cL_law 599 = .ok (.iadd, 1) := by decide +kernel
theorem dL_law_600 : decode cL_law 600 = .ok (.iaload, 1) := by decide +kernel
theorem dL_law_601 : decode cL_law 601 = .ok (.aload_n 0, 1) := by decide +kernel
theorem dL_law_602 : decode cL_law 602 = .ok (.iload_n 3, 1) := by decide +kernel
theorem dL_law_603 : decode cL_law 603 = .ok (.iconst 3, 1) := by decide +kernel
theorem dL_law_604 : decode cL_law 604 = .ok (.iadd, 1) := by decide +kernel
theorem dL_law_605 : decode cL_law 605 = .ok (.iaload, 1) := by decide +kernel
theorem dL_law_606 : decode cL_law 606 = .ok (.invokevirtual 72, 3) := by decide +kernel
theorem dL_law_609 : decode cL_law 609 = .ok (.aload_n 2, 1) := by decide +kernel
theorem dL_law_610 : decode cL_law 610 = .ok (.aload_n 0, 1) := by decide +kernel
theorem dL_law_611 : decode cL_law 611 = .ok (.iload_n 3, 1) := by decide +kernel
theorem dL_law_612 : decode cL_law 612 = .ok (.iconst 1, 1) := by decide +kernel
theorem dL_law_613 : decode cL_law 613 = .ok (.iadd, 1) := by decide +kernel
theorem dL_law_614 : decode cL_law 614 = .ok (.iaload, 1) := by decide +kernel
theorem dL_law_615 : decode cL_law 615 = .ok (.aload_n 0, 1) := by decide +kernel
theorem dL_law_616 : decode cL_law 616 = .ok (.iload_n 3, 1) := by decide +kernel
theorem dL_law_617 : decode cL_law 617 = .ok (.iconst 2, 1) := by decide +kernel
theorem dL_law_618 : decode cL_law 618 = .ok (.iadd, 1) := by decide +kernel
theorem dL_law_619 : decode cL_law 619 = .ok (.iaload, 1) := by decide +kernel
theorem dL_law_620 : decode cL_law 620 = .ok (.aload_n 0, 1) := by decide +kernel
theorem dL_law_621 : decode cL_law 621 = .ok (.iload_n 3, 1) := by decide +kernel
theorem dL_law_622 : decode cL_law 622 = .ok (.iconst 3, 1) := by decide +kernel
theorem dL_law_623 : decode cL_law 623 = .ok (.iadd, 1) := by decide +kernel
theorem dL_law_624 : decode cL_law 624 = .ok (.iaload, 1) := by decide +kernel
theorem dL_law_625 : decode cL_law 625 = .ok (.invokevirtual 75, 3) := by decide +kernel
theorem dL_law_628 : decode cL_law 628 = .ok (.if_icmp .eq 339, 3) := by decide +kernel
theorem dL_law_631 : decode cL_law 631 = .ok (.iconst 0, 1) := by decide +kernel
theorem dL_law_632 : decode cL_law 632 = .ok (.ireturn, 1) := by decide +kernel
theorem dL_law_633 : decode cL_law 633 = .ok (.aload_n 1, 1) := by decide +kernel
theorem dL_law_634 : decode cL_law 634 = .ok (.aload_n 0, 1) := by decide +kernel
theorem dL_law_635 : decode cL_law 635 = .ok (.iload_n 3, 1) := by decide +kernel
theorem dL_law_636 : decode cL_law 636 = .ok (.iconst 1, 1) := by decide +kernel
theorem dL_law_637 : decode cL_law 637 = .ok (.iadd, 1) := by decide +kernel
theorem dL_law_638 : decode cL_law 638 = .ok (.iaload, 1) := by decide +kernel
theorem dL_law_639 : decode cL_law 639 = .ok (.aload_n 0, 1) := by decide +kernel
theorem dL_law_640 : decode cL_law 640 = .ok (.iload_n 3, 1) := by decide +kernel
theorem dL_law_641 : decode cL_law 641 = .ok (.iconst 2, 1) := by decide +kernel
theorem dL_law_642 : decode cL_law 642 = .ok (.iadd, 1) := by decide +kernel
theorem dL_law_643 : decode cL_law 643 = .ok (.iaload, 1) := by decide +kernel
theorem dL_law_644 : decode cL_law 644 = .ok (.invokevirtual 76, 3) := by decide +kernel
theorem dL_law_647 : decode cL_law 647 = .ok (.aload_n 2, 1) := by decide +kernel
theorem dL_law_648 : decode cL_law 648 = .ok (.aload_n 0, 1) := by decide +kernel
theorem dL_law_649 : decode cL_law 649 = .ok (.iload_n 3, 1) := by decide +kernel
theorem dL_law_650 : decode cL_law 650 = .ok (.iconst 1, 1) := by decide +kernel
theorem dL_law_651 : decode cL_law 651 = .ok (.iadd, 1) := by decide +kernel
theorem dL_law_652 : decode cL_law 652 = .ok (.iaload, 1) := by decide +kernel
theorem dL_law_653 : decode cL_law 653 = .ok (.aload_n 0, 1) := by decide +kernel
theorem dL_law_654 : decode cL_law 654 = .ok (.iload_n 3, 1) := by decide +kernel
theorem dL_law_655 : decode cL_law 655 = .ok (.iconst 2, 1) := by decide +kernel
theorem dL_law_656 : decode cL_law 656 = .ok (.iadd, 1) := by decide +kernel
theorem dL_law_657 : decode cL_law 657 = .ok (.iaload, 1) := by decide +kernel
theorem dL_law_658 : decode cL_law 658 = .ok (.invokevirtual 79, 3) := by decide +kernel
theorem dL_law_661 : decode cL_law 661 = .ok (.if_icmp .eq 306, 3) := by decide +kernel
theorem dL_law_664 : decode cL_law 664 = .ok (.iconst 0, 1) := by decide +kernel
theorem dL_law_665 : decode cL_law 665 = .ok (.ireturn, 1) := by decide +kernel
theorem dL_law_666 : decode cL_law 666 = .ok (.aload_n 1, 1) := by decide +kernel
theorem dL_law_667 : decode cL_law 667 = .ok (.aload_n 0, 1) := by decide +kernel
theorem dL_law_668 : decode cL_law 668 = .ok (.iload_n 3, 1) := by decide +kernel
theorem dL_law_669 : decode cL_law 669 = .ok (.iconst 1, 1) := by decide +kernel
theorem dL_law_670 : decode cL_law 670 = .ok (.iadd, 1) := by decide +kernel
theorem dL_law_671 : decode cL_law 671 = .ok (.iaload, 1) := by decide +kernel
theorem dL_law_672 : decode cL_law 672 = .ok (.aload_n 0, 1) := by decide +kernel
theorem dL_law_673 : decode cL_law 673 = .ok (.iload_n 3, 1) := by decide +kernel
theorem dL_law_674 : decode cL_law 674 = .ok (.iconst 2, 1) := by decide +kernel
theorem dL_law_675 : decode cL_law 675 = .ok (.iadd, 1) := by decide +kernel
theorem dL_law_676 : decode cL_law 676 = .ok (.iaload, 1) := by decide +kernel
theorem dL_law_677 : decode cL_law 677 = .ok (.invokevirtual 80, 3) := by decide +kernel
theorem dL_law_680 : decode cL_law 680 = .ok (.aload_n 2, 1) := by decide +kernel
theorem dL_law_681 : decode cL_law 681 = .ok (.aload_n 0, 1) := by decide +kernel
theorem dL_law_682 : decode cL_law 682 = .ok (.iload_n 3, 1) := by decide +kernel
theorem dL_law_683 : decode cL_law 683 = .ok (.iconst 1, 1) := by decide +kernel
theorem dL_law_684 : decode cL_law 684 = .ok (.iadd, 1) := by decide +kernel
theorem dL_law_685 : decode cL_law 685 = .ok (.iaload, 1) := by decide +kernel
theorem dL_law_686 : decode cL_law 686 = .ok (.aload_n 0, 1) := by decide +kernel
theorem dL_law_687 : decode cL_law 687 = .ok (.iload_n 3, 1) := by decide +kernel
theorem dL_law_688 : decode cL_law 688 = .ok (.iconst 2, 1) := by decide +kernel
theorem dL_law_689 : decode cL_law 689 = .ok (.iadd, 1) := by decide +kernel
theorem dL_law_690 : decode cL_law 690 = .ok (.iaload, 1) := by decide +kernel
theorem dL_law_691 : decode cL_law 691 = .ok (.invokevirtual 83, 3) := by decide +kernel
theorem dL_law_694 : decode cL_law 694 = .ok (.if_icmp .eq 273, 3) := by decide +kernel
theorem dL_law_697 : decode cL_law 697 = .ok (.iconst 0, 1) := by decide +kernel
theorem dL_law_698 : decode cL_law 698 = .ok (.ireturn, 1) := by decide +kernel
theorem dL_law_699 : decode cL_law 699 = .ok (.aload_n 1, 1) := by decide +kernel
theorem dL_law_700 : decode cL_law 700 = .ok (.aload_n 0, 1) := by decide +kernel
theorem dL_law_701 : decode cL_law 701 = .ok (.iload_n 3, 1) := by decide +kernel
theorem dL_law_702 : decode cL_law 702 = .ok (.iconst 1, 1) := by decide +kernel
theorem dL_law_703 : decode cL_law 703 = .ok (.iadd, 1) := by decide +kernel
theorem dL_law_704 : decode cL_law 704 = .ok (.iaload, 1) := by decide +kernel
theorem dL_law_705 : decode cL_law 705 = .ok (.invokevirtual 84, 3) := by decide +kernel
theorem dL_law_708 : decode cL_law 708 = .ok (.aload_n 2, 1) := by decide +kernel
theorem dL_law_709 : decode cL_law 709 = .ok (.aload_n 0, 1) := by decide +kernel
theorem dL_law_710 : decode cL_law 710 = .ok (.iload_n 3, 1) := by decide +kernel
theorem dL_law_711 : decode cL_law 711 = .ok (.iconst 1, 1) := by decide +kernel
theorem dL_law_712 : decode cL_law 712 = .ok (.iadd, 1) := by decide +kernel
theorem dL_law_713 : decode cL_law 713 = .ok (.iaload, 1) := by decide +kernel
theorem dL_law_714 : decode cL_law 714 = .ok (.invokevirtual 87, 3) := by decide +kernel
theorem dL_law_717 : decode cL_law 717 = .ok (.if_icmp .eq 250, 3) := by decide +kernel
theorem dL_law_720 : decode cL_law 720 = .ok (.iconst 0, 1) := by decide +kernel
theorem dL_law_721 : decode cL_law 721 = .ok (.ireturn, 1) := by decide +kernel
theorem dL_law_722 : decode cL_law 722 = .ok (.aload_n 1, 1) := by decide +kernel
theorem dL_law_723 : decode cL_law 723 = .ok (.aload_n 0, 1) := by decide +kernel
theorem dL_law_724 : decode cL_law 724 = .ok (.iload_n 3, 1) := by decide +kernel
theorem dL_law_725 : decode cL_law 725 = .ok (.iconst 1, 1) := by decide +kernel
theorem dL_law_726 : decode cL_law 726 = .ok (.iadd, 1) := by decide +kernel
theorem dL_law_727 : decode cL_law 727 = .ok (.iaload, 1) := by decide +kernel
theorem dL_law_728 : decode cL_law 728 = .ok (.aload_n 0, 1) := by decide +kernel
theorem dL_law_729 : decode cL_law 729 = .ok (.iload_n 3, 1) := by decide +kernel
theorem dL_law_730 : decode cL_law 730 = .ok (.iconst 2, 1) := by decide +kernel
theorem dL_law_731 : decode cL_law 731 = .ok (.iadd, 1) := by decide +kernel
theorem dL_law_732 : decode cL_law 732 = .ok (.iaload, 1) := by decide +kernel
theorem dL_law_733 : decode cL_law 733 = .ok (.aload_n 0, 1) := by decide +kernel
theorem dL_law_734 : decode cL_law 734 = .ok (.iload_n 3, 1) := by decide +kernel
theorem dL_law_735 : decode cL_law 735 = .ok (.iconst 3, 1) := by decide +kernel
theorem dL_law_736 : decode cL_law 736 = .ok (.iadd, 1) := by decide +kernel
theorem dL_law_737 : decode cL_law 737 = .ok (.iaload, 1) := by decide +kernel
theorem dL_law_738 : decode cL_law 738 = .ok (.invokevirtual 88, 3) := by decide +kernel
theorem dL_law_741 : decode cL_law 741 = .ok (.aload_n 2, 1) := by decide +kernel
theorem dL_law_742 : decode cL_law 742 = .ok (.aload_n 0, 1) := by decide +kernel
theorem dL_law_743 : decode cL_law 743 = .ok (.iload_n 3, 1) := by decide +kernel
theorem dL_law_744 : decode cL_law 744 = .ok (.iconst 1, 1) := by decide +kernel
theorem dL_law_745 : decode cL_law 745 = .ok (.iadd, 1) := by decide +kernel
theorem dL_law_746 : decode cL_law 746 = .ok (.iaload, 1) := by decide +kernel
theorem dL_law_747 : decode cL_law 747 = .ok (.aload_n 0, 1) := by decide +kernel
theorem dL_law_748 : decode cL_law 748 = .ok (.iload_n 3, 1) := by decide +kernel
theorem dL_law_749 : decode cL_law 749 = .ok (.iconst 2, 1) := by decide +kernel
theorem dL_law_750 : decode cL_law 750 = .ok (.iadd, 1) := by decide +kernel
theorem dL_law_751 : decode cL_law 751 = .ok (.iaload, 1) := by decide +kernel
theorem dL_law_752 : decode cL_law 752 = .ok (.aload_n 0, 1) := by decide +kernel
theorem dL_law_753 : decode cL_law 753 = .ok (.iload_n 3, 1) := by decide +kernel
theorem dL_law_754 : decode cL_law 754 = .ok (.iconst 3, 1) := by decide +kernel
theorem dL_law_755 : decode cL_law 755 = .ok (.iadd, 1) := by decide +kernel
theorem dL_law_756 : decode cL_law 756 = .ok (.iaload, 1) := by decide +kernel
theorem dL_law_757 : decode cL_law 757 = .ok (.invokevirtual 91, 3) := by decide +kernel
theorem dL_law_760 : decode cL_law 760 = .ok (.if_icmp .eq 207, 3) := by decide +kernel
theorem dL_law_763 : decode cL_law 763 = .ok (.iconst 0, 1) := by decide +kernel
theorem dL_law_764 : decode cL_law 764 = .ok (.ireturn, 1) := by decide +kernel
theorem dL_law_765 : decode cL_law 765 = .ok (.aload_n 1, 1) := by decide +kernel
theorem dL_law_766 : decode cL_law 766 = .ok (.aload_n 0, 1) := by decide +kernel
theorem dL_law_767 : decode cL_law 767 = .ok (.iload_n 3, 1) := by decide +kernel
theorem dL_law_768 : decode cL_law 768 = .ok (.iconst 1, 1) := by decide +kernel
theorem dL_law_769 : decode cL_law 769 = .ok (.iadd, 1) := by decide +kernel
theorem dL_law_770 : decode cL_law 770 = .ok (.iaload, 1) := by decide +kernel
theorem dL_law_771 : decode cL_law 771 = .ok (.aload_n 0, 1) := by decide +kernel
theorem dL_law_772 : decode cL_law 772 = .ok (.iload_n 3, 1) := by decide +kernel
theorem dL_law_773 : decode cL_law 773 = .ok (.iconst 2, 1) := by decide +kernel
theorem dL_law_774 : decode cL_law 774 = .ok (.iadd, 1) := by decide +kernel
theorem dL_law_775 : decode cL_law 775 = .ok (.iaload, 1) := by decide +kernel
theorem dL_law_776 : decode cL_law 776 = .ok (.invokevirtual 92, 3) := by decide +kernel
theorem dL_law_779 : decode cL_law 779 = .ok (.aload_n 2, 1) := by decide +kernel
theorem dL_law_780 : decode cL_law 780 = .ok (.aload_n 0, 1) := by decide +kernel
theorem dL_law_781 : decode cL_law 781 = .ok (.iload_n 3, 1) := by decide +kernel
theorem dL_law_782 : decode cL_law 782 = .ok (.iconst 1, 1) := by decide +kernel
theorem dL_law_783 : decode cL_law 783 = .ok (.iadd, 1) := by decide +kernel
theorem dL_law_784 : decode cL_law 784 = .ok (.iaload, 1) := by decide +kernel
theorem dL_law_785 : decode cL_law 785 = .ok (.aload_n 0, 1) := by decide +kernel
theorem dL_law_786 : decode cL_law 786 = .ok (.iload_n 3, 1) := by decide +kernel
theorem dL_law_787 : decode cL_law 787 = .ok (.iconst 2, 1) := by decide +kernel
theorem dL_law_788 : decode cL_law 788 = .ok (.iadd, 1) := by decide +kernel
theorem dL_law_789 : decode cL_law 789 = .ok (.iaload, 1) := by decide +kernel
theorem dL_law_790 : decode cL_law 790 = .ok (.invokevirtual 95, 3) := by decide +kernel
theorem dL_law_793 : decode cL_law 793 = .ok (.if_icmp .eq 174, 3) := by decide +kernel
theorem dL_law_796 : decode cL_law 796 = .ok (.iconst 0, 1) := by decide +kernel
theorem dL_law_797 : decode cL_law 797 = .ok (.ireturn, 1) := by decide +kernel
theorem dL_law_798 : decode cL_law 798 = .ok (.aload_n 1, 1) := by decide +kernel
theorem dL_law_799 : decode cL_law 799 = .ok (.aload_n 0, 1) := by decide +kernel
theorem dL_law_800 : decode cL_law 800 = .ok (.iload_n 3, 1) := by decide +kernel
theorem dL_law_801 : decode cL_law 801 = .ok (.iconst 1, 1) := by decide +kernel
theorem dL_law_802 : decode cL_law 802 = .ok (.iadd, 1) := by decide +kernel
theorem dL_law_803 : decode cL_law 803 = .ok (.iaload, 1) := by decide +kernel
theorem dL_law_804 : decode cL_law 804 = .ok (.invokevirtual 96, 3) := by decide +kernel
theorem dL_law_807 : decode cL_law 807 = .ok (.aload_n 2, 1) := by decide +kernel
theorem dL_law_808 : decode cL_law 808 = .ok (.aload_n 0, 1) := by decide +kernel
theorem dL_law_809 : decode cL_law 809 = .ok (.iload_n 3, 1) := by decide +kernel
theorem dL_law_810 : decode cL_law 810 = .ok (.iconst 1, 1) := by decide +kernel
theorem dL_law_811 : decode cL_law 811 = .ok (.iadd, 1) := by decide +kernel
theorem dL_law_812 : decode cL_law 812 = .ok (.iaload, 1) := by decide +kernel
theorem dL_law_813 : decode cL_law 813 = .ok (.invokevirtual 99, 3) := by decide +kernel
theorem dL_law_816 : decode cL_law 816 = .ok (.if_icmp .eq 151, 3) := by decide +kernel
theorem dL_law_819 : decode cL_law 819 = .ok (.iconst 0, 1) := by decide +kernel
theorem dL_law_820 : decode cL_law 820 = .ok (.ireturn, 1) := by decide +kernel
theorem dL_law_821 : decode cL_law 821 = .ok (.aload_n 1, 1) := by decide +kernel
theorem dL_law_822 : decode cL_law 822 = .ok (.aload_n 0, 1) := by decide +kernel
theorem dL_law_823 : decode cL_law 823 = .ok (.iload_n 3, 1) := by decide +kernel
theorem dL_law_824 : decode cL_law 824 = .ok (.iconst 1, 1) := by decide +kernel
theorem dL_law_825 : decode cL_law 825 = .ok (.iadd, 1) := by decide +kernel
theorem dL_law_826 : decode cL_law 826 = .ok (.iaload, 1) := by decide +kernel
theorem dL_law_827 : decode cL_law 827 = .ok (.invokevirtual 100, 3) := by decide +kernel
theorem dL_law_830 : decode cL_law 830 = .ok (.aload_n 2, 1) := by decide +kernel
theorem dL_law_831 : decode cL_law 831 = .ok (.aload_n 0, 1) := by decide +kernel
theorem dL_law_832 : decode cL_law 832 = .ok (.iload_n 3, 1) := by decide +kernel
theorem dL_law_833 : decode cL_law 833 = .ok (.iconst 1, 1) := by decide +kernel
theorem dL_law_834 : decode cL_law 834 = .ok (.iadd, 1) := by decide +kernel
theorem dL_law_835 : decode cL_law 835 = .ok (.iaload, 1) := by decide +kernel
theorem dL_law_836 : decode cL_law 836 = .ok (.invokevirtual 103, 3) := by decide +kernel
theorem dL_law_839 : decode cL_law 839 = .ok (.if_icmp .eq 128, 3) := by decide +kernel
theorem dL_law_842 : decode cL_law 842 = .ok (.iconst 0, 1) := by decide +kernel
theorem dL_law_843 : decode cL_law 843 = .ok (.ireturn, 1) := by decide +kernel
theorem dL_law_844 : decode cL_law 844 = .ok (.aload_n 1, 1) := by decide +kernel
theorem dL_law_845 : decode cL_law 845 = .ok (.aload_n 0, 1) := by decide +kernel
theorem dL_law_846 : decode cL_law 846 = .ok (.iload_n 3, 1) := by decide +kernel
theorem dL_law_847 : decode cL_law 847 = .ok (.iconst 1, 1) := by decide +kernel
theorem dL_law_848 : decode cL_law 848 = .ok (.iadd, 1) := by decide +kernel
theorem dL_law_849 : decode cL_law 849 = .ok (.iaload, 1) := by decide +kernel
theorem dL_law_850 : decode cL_law 850 = .ok (.aload_n 0, 1) := by decide +kernel
theorem dL_law_851 : decode cL_law 851 = .ok (.iload_n 3, 1) := by decide +kernel
theorem dL_law_852 : decode cL_law 852 = .ok (.iconst 2, 1) := by decide +kernel
theorem dL_law_853 : decode cL_law 853 = .ok (.iadd, 1) := by decide +kernel
theorem dL_law_854 : decode cL_law 854 = .ok (.iaload, 1) := by decide +kernel
theorem dL_law_855 : decode cL_law 855 = .ok (.invokevirtual 104, 3) := by decide +kernel
theorem dL_law_858 : decode cL_law 858 = .ok (.aload_n 2, 1) := by decide +kernel
theorem dL_law_859 : decode cL_law 859 = .ok (.aload_n 0, 1) := by decide +kernel
theorem dL_law_860 : decode cL_law 860 = .ok (.iload_n 3, 1) := by decide +kernel
theorem dL_law_861 : decode cL_law 861 = .ok (.iconst 1, 1) := by decide +kernel
theorem dL_law_862 : decode cL_law 862 = .ok (.iadd, 1) := by decide +kernel
theorem dL_law_863 : decode cL_law 863 = .ok (.iaload, 1) := by decide +kernel
theorem dL_law_864 : decode cL_law 864 = .ok (.aload_n 0, 1) := by decide +kernel
theorem dL_law_865 : decode cL_law 865 = .ok (.iload_n 3, 1) := by decide +kernel
theorem dL_law_866 : decode cL_law 866 = .ok (.iconst 2, 1) := by decide +kernel
theorem dL_law_867 : decode cL_law 867 = .ok (.iadd, 1) := by decide +kernel
theorem dL_law_868 : decode cL_law 868 = .ok (.iaload, 1) := by decide +kernel
theorem dL_law_869 : decode cL_law 869 = .ok (.invokevirtual 107, 3) := by decide +kernel
theorem dL_law_872 : decode cL_law 872 = .ok (.if_icmp .eq 95, 3) := by decide +kernel
theorem dL_law_875 : decode cL_law 875 = .ok (.iconst 0, 1) := by decide +kernel
theorem dL_law_876 : decode cL_law 876 = .ok (.ireturn, 1) := by decide +kernel
theorem dL_law_877 : decode cL_law 877 = .ok (.aload_n 1, 1) := by decide +kernel
theorem dL_law_878 : decode cL_law 878 = .ok (.aload_n 0, 1) := by decide +kernel
theorem dL_law_879 : decode cL_law 879 = .ok (.iload_n 3, 1) := by decide +kernel
theorem dL_law_880 : decode cL_law 880 = .ok (.iconst 1, 1) := by decide +kernel
theorem dL_law_881 : decode cL_law 881 = .ok (.iadd, 1) := by decide +kernel
theorem dL_law_882 : decode cL_law 882 = .ok (.iaload, 1) := by decide +kernel
theorem dL_law_883 : decode cL_law 883 = .ok (.aload_n 0, 1) := by decide +kernel
theorem dL_law_884 : decode cL_law 884 = .ok (.iload_n 3, 1) := by decide +kernel
theorem dL_law_885 : decode cL_law 885 = .ok (.iconst 2, 1) := by decide +kernel
theorem dL_law_886 : decode cL_law 886 = .ok (.iadd, 1) := by decide +kernel
theorem dL_law_887 : decode cL_law 887 = .ok (.iaload, 1) := by decide +kernel
theorem dL_law_888 : decode cL_law 888 = .ok (.invokevirtual 108, 3) := by decide +kernel
theorem dL_law_891 : decode cL_law 891 = .ok (.aload_n 2, 1) := by decide +kernel
theorem dL_law_892 : decode cL_law 892 = .ok (.aload_n 0, 1) := by decide +kernel
theorem dL_law_893 : decode cL_law 893 = .ok (.iload_n 3, 1) := by decide +kernel
theorem dL_law_894 : decode cL_law 894 = .ok (.iconst 1, 1) := by decide +kernel
theorem dL_law_895 : decode cL_law 895 = .ok (.iadd, 1) := by decide +kernel
theorem dL_law_896 : decode cL_law 896 = .ok (.iaload, 1) := by decide +kernel
theorem dL_law_897 : decode cL_law 897 = .ok (.aload_n 0, 1) := by decide +kernel
theorem dL_law_898 : decode cL_law 898 = .ok (.iload_n 3, 1) := by decide +kernel
theorem dL_law_899 : decode cL_law 899 = .ok (.iconst 2, 1) := by decide +kernel
theorem dL_law_900 : decode cL_law 900 = .ok (.iadd, 1) := by decide +kernel
theorem dL_law_901 : decode cL_law 901 = .ok (.iaload, 1) := by decide +kernel
theorem dL_law_902 : decode cL_law 902 = .ok (.invokevirtual 111, 3) := by decide +kernel
theorem dL_law_905 : decode cL_law 905 = .ok (.if_icmp .eq 62, 3) := by decide +kernel
theorem dL_law_908 : decode cL_law 908 = .ok (.iconst 0, 1) := by decide +kernel
theorem dL_law_909 : decode cL_law 909 = .ok (.ireturn, 1) := by decide +kernel
theorem dL_law_910 : decode cL_law 910 = .ok (.aload_n 1, 1) := by decide +kernel
theorem dL_law_911 : decode cL_law 911 = .ok (.aload_n 0, 1) := by decide +kernel
theorem dL_law_912 : decode cL_law 912 = .ok (.iload_n 3, 1) := by decide +kernel
theorem dL_law_913 : decode cL_law 913 = .ok (.iconst 1, 1) := by decide +kernel
theorem dL_law_914 : decode cL_law 914 = .ok (.iadd, 1) := by decide +kernel
theorem dL_law_915 : decode cL_law 915 = .ok (.iaload, 1) := by decide +kernel
theorem dL_law_916 : decode cL_law 916 = .ok (.aload_n 0, 1) := by decide +kernel
theorem dL_law_917 : decode cL_law 917 = .ok (.iload_n 3, 1) := by decide +kernel
theorem dL_law_918 : decode cL_law 918 = .ok (.iconst 2, 1) := by decide +kernel
theorem dL_law_919 : decode cL_law 919 = .ok (.iadd, 1) := by decide +kernel
theorem dL_law_920 : decode cL_law 920 = .ok (.iaload, 1) := by decide +kernel
theorem dL_law_921 : decode cL_law 921 = .ok (.invokevirtual 112, 3) := by decide +kernel
theorem dL_law_924 : decode cL_law 924 = .ok (.aload_n 2, 1) := by decide +kernel
theorem dL_law_925 : decode cL_law 925 = .ok (.aload_n 0, 1) := by decide +kernel
theorem dL_law_926 : decode cL_law 926 = .ok (.iload_n 3, 1) := by decide +kernel
theorem dL_law_927 : decode cL_law 927 = .ok (.iconst 1, 1) := by decide +kernel
theorem dL_law_928 : decode cL_law 928 = .ok (.iadd, 1) := by decide +kernel
theorem dL_law_929 : decode cL_law 929 = .ok (.iaload, 1) := by decide +kernel
theorem dL_law_930 : decode cL_law 930 = .ok (.aload_n 0, 1) := by decide +kernel
theorem dL_law_931 : decode cL_law 931 = .ok (.iload_n 3, 1) := by decide +kernel
theorem dL_law_932 : decode cL_law 932 = .ok (.iconst 2, 1) := by decide +kernel
theorem dL_law_933 : decode cL_law 933 = .ok (.iadd, 1) := by decide +kernel
theorem dL_law_934 : decode cL_law 934 = .ok (.iaload, 1) := by decide +kernel
theorem dL_law_935 : decode cL_law 935 = .ok (.invokevirtual 116, 3) := by decide +kernel
theorem dL_law_938 : decode cL_law 938 = .ok (.lcmp, 1) := by decide +kernel
theorem dL_law_939 : decode cL_law 939 = .ok (.ifCond .eq 28, 3) := by decide +kernel
theorem dL_law_942 : decode cL_law 942 = .ok (.iconst 0, 1) := by decide +kernel
theorem dL_law_943 : decode cL_law 943 = .ok (.ireturn, 1) := by decide +kernel
theorem dL_law_944 : decode cL_law 944 = .ok (.aload_n 1, 1) := by decide +kernel
theorem dL_law_945 : decode cL_law 945 = .ok (.aload_n 0, 1) := by decide +kernel
theorem dL_law_946 : decode cL_law 946 = .ok (.iload_n 3, 1) := by decide +kernel
theorem dL_law_947 : decode cL_law 947 = .ok (.iconst 1, 1) := by decide +kernel
theorem dL_law_948 : decode cL_law 948 = .ok (.iadd, 1) := by decide +kernel
theorem dL_law_949 : decode cL_law 949 = .ok (.iaload, 1) := by decide +kernel
theorem dL_law_950 : decode cL_law 950 = .ok (.invokevirtual 117, 3) := by decide +kernel
theorem dL_law_953 : decode cL_law 953 = .ok (.aload_n 2, 1) := by decide +kernel
theorem dL_law_954 : decode cL_law 954 = .ok (.aload_n 0, 1) := by decide +kernel
theorem dL_law_955 : decode cL_law 955 = .ok (.iload_n 3, 1) := by decide +kernel
theorem dL_law_956 : decode cL_law 956 = .ok (.iconst 1, 1) := by decide +kernel
theorem dL_law_957 : decode cL_law 957 = .ok (.iadd, 1) := by decide +kernel
theorem dL_law_958 : decode cL_law 958 = .ok (.iaload, 1) := by decide +kernel
theorem dL_law_959 : decode cL_law 959 = .ok (.invokevirtual 120, 3) := by decide +kernel
theorem dL_law_962 : decode cL_law 962 = .ok (.if_icmp .eq 5, 3) := by decide +kernel
theorem dL_law_965 : decode cL_law 965 = .ok (.iconst 0, 1) := by decide +kernel
theorem dL_law_966 : decode cL_law 966 = .ok (.ireturn, 1) := by decide +kernel
theorem dL_law_967 : decode cL_law 967 = .ok (.iinc 3 5, 3) := by decide +kernel
theorem dL_law_970 : decode cL_law 970 = .ok (.goto (-952), 3) := by decide +kernel
theorem dL_law_973 : decode cL_law 973 = .ok (.iconst 1, 1) := by decide +kernel
theorem dL_law_974 : decode cL_law 974 = .ok (.ireturn, 1) := by decide +kernel
end
section
/-- rows of the library's later part are used below (the row of a grid that is made) -/
theorem zz_wide : True := by
  have _h := @Jvm.Stand.multianewarray2F
  trivial
end
section
/-! the abstract heap: a cell has a label (kind k, number i); a book B gives its address and how many cells a kind has; sigma gives what the cells hold -/
abbrev clsz : List vw_C := [(RX0, TX0, 10), (RX1, TX1, 2), (RX2, TX2, 7), (RX3, TX3, 4), (RX4, TX4, 5), (RX5, TX5, 1), (RX6, TX6, 11), (RX7, TX7, 37)]
/-- class ids and slots; array classes (0 int, 1 long, 2 boolean, 3 Plan, 4 Supplier, 5 Lot, 6 long[]); the first address that the law may write -/
abbrev gG : Type := va_G × (Nat → ClassId) × Nat
abbrev gB : Type := (Nat → Nat → Nat) × (Nat → Nat)
abbrev gS : Type := (Nat → Nat → Nat → Int32) × (Nat → Nat → Nat → Int64)
abbrev aI (G : gG) (n : Nat) (f : Nat → Int32) : va_E := .inl (G.2.1 0, n, .inl f)
abbrev aJ (G : gG) (n : Nat) (g : Nat → Int64) : va_E := .inl (G.2.1 1, n, .inr (.inl g))
abbrev aZ (G : gG) (n : Nat) (f : Nat → Int32) : va_E := .inl (G.2.1 2, n, .inl f)
abbrev aR (G : gG) (c n : Nat) (r : Nat → Option Nat) : va_E := .inl (G.2.1 c, n, .inr (.inr (.inr (.inr r))))
/-- which plans, suppliers, lots there are, as an array of references holds them -/
def rfs (B : gB) (k : Nat) : Nat → Option Nat := fun j => if j < B.2 k then some (B.1 k j) else none
def lay (G : gG) (B : gB) (k i : Nat) (f : Nat → Int32) (g : Nat → Int64) : va_E := match k with
  | 0 => .inr (7, [.int (f 0), .int (f 1), .int (f 2), .ref (B.1 3 0), .ref (B.1 4 0), .ref (B.1 5 0), .ref (B.1 6 0), .long (g 7), .long (g 8), .ref (B.1 9 0), .ref (B.1 10 0), .ref (B.1 11 0), .ref (B.1 12 0), .ref (B.1 13 0), .ref (B.1 14 0), .ref (B.1 15 0), .ref (B.1 16 0), .ref (B.1 17 0), .ref (B.1 18 0), .ref (B.1 19 0), .ref (B.1 20 0), .ref (B.1 21 0), .ref (B.1 22 0), .ref (B.1 23 0), .ref (B.1 24 0), .ref (B.1 25 0), .ref (B.1 26 0), .ref (B.1 27 0), .long (g 28), .long (g 29), .long (g 30), .int (f 31), .int (f 32), .int (f 33), .int (f 34), .ref (B.1 35 0), .ref (B.1 36 0)])
  | 3 => aI G 24 f
  | 4 => aI G 96 f
  | 5 => aI G 96 f
  | 6 => aI G 96 f
  | 9 => aJ G 3721 g
  | 10 => aI G 2 f
  | 11 => aI G 2 f
  | 12 => aI G 2 f
  | 13 => aZ G 2 f
  | 14 => aI G 24 f
  | 15 => aI G 8 f
  | 16 => aI G 8 f
  | 17 => aI G 8 f
  | 18 => aI G 480 f
  | 19 => aI G 60 f
  | 20 => aI G 60 f
  | 21 => aI G 60 f
  | 22 => aI G 60 f
  | 23 => aI G 60 f
  | 24 => aI G 3600 f
  | 25 => aI G 4 f
  | 26 => aJ G 62 g
  | 27 => aJ G 62 g
  | 35 => aZ G 210 f
  | 36 => aZ G 210 f
  | 40 => .inr (6, [.ref (B.1 41 0), .ref (B.1 44 0), .ref (B.1 45 0), .int (f 3), .ref (B.1 49 0), .ref (B.1 49 1), .ref (B.1 46 0), .int (f 7), .ref (B.1 47 0), .int (f 9), .ref (B.1 48 0)])
  | 41 => .inr (5, [.ref (B.1 42 0)])
  | 42 => aR G 6 61 (fun j => some (B.1 43 j))
  | 43 => aJ G 61 g
  | 44 => .inr (1, [.long (g 0), .long (g 1)])
  | 45 => aR G 3 24 (rfs B 50)
  | 46 => aR G 4 8 (rfs B 57)
  | 47 => aR G 5 60 (rfs B 60)
  | 48 => aI G 4 f
  | 49 => .inr (3, [.int (f 0), .int (f 1), .int (f 2), .int (f 3)])
  | 50 => .inr (2, [.ref (B.1 51 i), .ref (B.1 52 i), .ref (B.1 53 i), .ref (B.1 54 i), .ref (B.1 55 i), .int (f 5), .int (f 6)])
  | 51 => aI G 4 f
  | 52 => aI G 4 f
  | 53 => aI G 4 f
  | 54 => aI G 4 f
  | 55 => aR G 6 4 (fun j => some (B.1 56 (4 * i + j)))
  | 56 => aJ G 61 g
  | 57 => .inr (4, [.ref (B.1 58 i), .ref (B.1 59 i), .int (f 2), .int (f 3), .int (f 4)])
  | 58 => aI G 3 f
  | 59 => aI G 60 f
  | 60 => .inr (0, [.int (f 0), .int (f 1), .ref (B.1 50 (f 3).toNatClampNeg), .int (f 3), .int (f 4), .ref (B.1 61 i), .ref (B.1 62 i), .int (f 7), .int (f 8), .int (f 9)])
  | 61 => aI G 60 f
  | _ => aI G 4 f
def Hp (G : gG) (B : gB) (σ : gS) (H : Heap) : Prop := (∀ k i, i < B.2 k → G.2.2 ≤ B.1 k i ∧ va_at G.1 clsz (B.1 k i, lay G B k i (σ.1 k i) (σ.2 k i)) H) ∧ ∀ k i k' i', i < B.2 k → i' < B.2 k' → B.1 k i = B.1 k' i' → k = k' ∧ i = i'
/-- one int, one long changed -/
def sI (σ : gS) (k i j : Nat) (v : Int32) : gS := (fun a b => if a = k ∧ b = i then upd (σ.1 k i) j v else σ.1 a b, σ.2)
def sJ (σ : gS) (k i j : Nat) (v : Int64) : gS := (σ.1, fun a b => if a = k ∧ b = i then vp_updL (σ.2 k i) j v else σ.2 a b)
theorem sI_J (σ : gS) (k i j : Nat) (v : Int32) : (sI σ k i j v).2 = σ.2 := rfl
theorem sJ_I (σ : gS) (k i j : Nat) (v : Int64) : (sJ σ k i j v).1 = σ.1 := rfl
theorem sI_at (σ : gS) (k i j : Nat) (v : Int32) (a b c : Nat) : (sI σ k i j v).1 a b c = if a = k ∧ b = i ∧ c = j then v else σ.1 a b c := by
  show (if a = k ∧ b = i then upd (σ.1 k i) j v else σ.1 a b) c = _
  by_cases h : a = k ∧ b = i
  · obtain ⟨rfl, rfl⟩ := h
    by_cases h2 : c = j
    · subst h2; simp [upd]
    · simp [upd, h2]
  · rw [if_neg h, if_neg (fun q => h ⟨q.1, q.2.1⟩)]
theorem sJ_at (σ : gS) (k i j : Nat) (v : Int64) (a b c : Nat) : (sJ σ k i j v).2 a b c = if a = k ∧ b = i ∧ c = j then v else σ.2 a b c := by
  show (if a = k ∧ b = i then vp_updL (σ.2 k i) j v else σ.2 a b) c = _
  by_cases h : a = k ∧ b = i
  · obtain ⟨rfl, rfl⟩ := h
    by_cases h2 : c = j
    · subst h2; simp [vp_updL]
    · simp [vp_updL, h2]
  · rw [if_neg h, if_neg (fun q => h ⟨q.1, q.2.1⟩)]
/-- the words that stay as the machine goes on -/
def okw (w : Cond) : Bool := goodWord w || (w.onTables && w.keepsH)
def tyz (G : gG) : List (ClassId × FieldType) := [(G.2.1 0, .int), (G.2.1 1, .long), (G.2.1 2, .boolean), (G.2.1 3, .object RX2), (G.2.1 4, .object RX4), (G.2.1 5, .object RX0), (G.2.1 6, .array .long)]
def KI (G : gG) (U : State) : Prop := va_K G.1 clsz (tyz G) U ∧ ∀ w ∈ lw_tbl, okw w = true → ∀ a, w.before a U = true
theorem KI.warm {G : gG} {s U : State} (h : KI G s) (hW : s.WarmedH U.vm) : KI G U := by
  refine ⟨va_K.moved hW.alike h.1, fun w hw ho a => ?_⟩
  have hb := h.2 w hw ho a
  unfold okw at ho
  rcases Bool.or_eq_true_iff.mp ho with q | q
  · exact word_at hW (good_of_word q) hb
  · have q2 := Bool.and_eq_true_iff.mp q
    have h3 := Cond.onTables_warmH (args' := a) (T := U) hW q2.1 q2.2 hb
    rwa [State.setVm_self] at h3
theorem KI.call {G : gG} {U : State} (h : KI G U) (g : JFrame) (mk : MethodId) (a : Array Value) : KI G (U.calling g mk a) := h.warm (U := U.calling g mk a) (State.WarmedH.refl U)
abbrev mA (G : gG) : Nat → Prop := fun q => G.2.2 ≤ q
def mPc (G : gG) (B : gB) (σ : gS) (av : List Value) : Array Value → State → Prop := va_Pc av (fun U => KI G U ∧ G.2.2 ≤ U.heap.size ∧ Hp G B σ U.heap)
abbrev mB (G : gG) (B : gB) : gS → State → Prop := fun σ t => Hp G B σ t.heap
def mQi (G : gG) (B : gB) (post : Int32 → gS → Prop) : Array Value → State → Outcome → State → Prop := va_Qi post (mB G B) (mA G)
def mQl (G : gG) (B : gB) (post : Int64 → gS → Prop) : Array Value → State → Outcome → State → Prop := va_Ql post (mB G B) (mA G)
def mQv (G : gG) (B : gB) (post : gS → Prop) : Array Value → State → Outcome → State → Prop := va_Qv post (mB G B) (mA G)
def mQq (G : gG) (B : gB) (post : Option Nat → gS → Prop) : Array Value → State → Outcome → State → Prop := va_Qq post (mB G B) (mA G)
theorem mPc.blind {G : gG} {B : gB} {σ : gS} {av : List Value} : FrameBlind (mPc G B σ av) := fun a U g mk h => ⟨h.1, h.2.1.call g mk a, h.2.2⟩
/-- what a method's body stands on -/
abbrev mX (p : Program) (s : State) (m : MethodId) (meth : Method) (c : Code) (cc : ByteArray) (nL : Nat) (own : String) (ret : Option FieldType) (G : gG) : Prop :=
  p.tables.exec = Jvm.exec ∧ c.code = cc ∧ meth.sig.returnType = ret ∧ c.maxLocals = nL ∧ s.vm.findClass own = some m.cls ∧ KI G s ∧ meth.locks = false ∧ G.2.2 ≤ s.heap.size
theorem m_start {l : Launch} {y : MethodName} {cc : ByteArray} {nL : Nat} {ret : Option FieldType} {rm : Room} {G : gG} {B : gB} {σ : gS} {av : List Value} {Qc : Array Value → State → Outcome → State → Prop} {mc ms : Nat} (hy : plainName y.cls = true) (hn : (lg_sl av).length ≤ nL)
    (body : ∀ p e s m below meth c, mX p s m meth c cc nL y.cls ret G → Hp G B σ s.heap → va_S (mA G) s.heap s.heap [] → ∀ ls, lv_has ls nL (lv_args 0 av) → W p l e rm s m av.toArray below meth c s.heap [] 0 0 (MQ below Qc av.toArray s mc ms (mA G)) (F0 m 0 ls [])) :
    Met l y [.code y cc nL ret] rm (mPc G B σ av) Qc mc ms (mA G) := by
  refine Met.ofW (cc := cc) (maxL := nL) (ret := ret) hy rfl ?_
  intro p e s m args below meth c s₁ Bd hml hv
  obtain ⟨rfl, hK, hz, hH⟩ := hv
  have hl := lv_entry av (n := nL) hn
  rw [lg_entry_eq]
  exact body p e s m below meth c ⟨Bd.exec, Bd.bytes, Bd.returns, hml, findClass_of_methodNamed Bd.named, hK, Bd.notSynchronized, hz⟩ hH va_S.rf _ hl
theorem m_uws : ∀ (ci : Nat) (C : String) (T : u_T) (N : Nat), clsz[ci]? = some (C, T, N) → ∀ w ∈ u_ws C T N, w ∈ lw_tbl ∧ okw w = true := by
  have h0 : ∀ w ∈ u_ws RX0 TX0 10, w ∈ lw_tbl ∧ okw w = true := by decide +kernel
  have h1 : ∀ w ∈ u_ws RX1 TX1 2, w ∈ lw_tbl ∧ okw w = true := by decide +kernel
  have h2 : ∀ w ∈ u_ws RX2 TX2 7, w ∈ lw_tbl ∧ okw w = true := by decide +kernel
  have h3 : ∀ w ∈ u_ws RX3 TX3 4, w ∈ lw_tbl ∧ okw w = true := by decide +kernel
  have h4 : ∀ w ∈ u_ws RX4 TX4 5, w ∈ lw_tbl ∧ okw w = true := by decide +kernel
  have h5 : ∀ w ∈ u_ws RX5 TX5 1, w ∈ lw_tbl ∧ okw w = true := by decide +kernel
  have h6 : ∀ w ∈ u_ws RX6 TX6 11, w ∈ lw_tbl ∧ okw w = true := by decide +kernel
  have h7 : ∀ w ∈ u_ws RX7 TX7 37, w ∈ lw_tbl ∧ okw w = true := by decide +kernel
  intro ci C T N h
  match ci, h with
  | 0, h => cases h; exact h0
  | 1, h => cases h; exact h1
  | 2, h => cases h; exact h2
  | 3, h => cases h; exact h3
  | 4, h => cases h; exact h4
  | 5, h => cases h; exact h5
  | 6, h => cases h; exact h6
  | 7, h => cases h; exact h7
  | n + 8, h => simp [clsz] at h
theorem m_nm : ∀ (ci : Nat) (C : String) (T : u_T) (N : Nat), clsz[ci]? = some (C, T, N) → (∃ ty : Nat → FieldType, ∀ k, k < N → parseFieldDescriptor (T k).2.2.1 = some (ty k)) ∧ ∀ a, a < N → ∀ b, b < N → a ≠ b → (T a).2.1 ≠ (T b).2.1 := by
  intro ci C T N h
  match ci, h with
  | 0, h => cases h; exact ⟨⟨_, tyX0_ok⟩, nmX0⟩
  | 1, h => cases h; exact ⟨⟨_, tyX1_ok⟩, nmX1⟩
  | 2, h => cases h; exact ⟨⟨_, tyX2_ok⟩, nmX2⟩
  | 3, h => cases h; exact ⟨⟨_, tyX3_ok⟩, nmX3⟩
  | 4, h => cases h; exact ⟨⟨_, tyX4_ok⟩, nmX4⟩
  | 5, h => cases h; exact ⟨⟨_, tyX5_ok⟩, nmX5⟩
  | 6, h => cases h; exact ⟨⟨_, tyX6_ok⟩, nmX6⟩
  | 7, h => cases h; exact ⟨⟨_, tyX7_ok⟩, nmX7⟩
  | n + 8, h => simp [clsz] at h
theorem KI.u {G : gG} {s : State} (h : KI G s) {ci : Nat} {C : String} {T : u_T} {N : Nat} (hc : clsz[ci]? = some (C, T, N)) (args : Array Value) : ∀ w ∈ u_ws C T N, w.before args s = true := fun w hw => h.2 w (m_uws ci C T N hc w hw).1 (m_uws ci C T N hc w hw).2 args
/-- a cell changed: the others stand -/
theorem Hp.put {G : gG} {B : gB} {σ σ' : gS} {H H1 : Heap} {k i : Nat} (h : Hp G B σ H) (hi : i < B.2 k) (he : va_at G.1 clsz (B.1 k i, lay G B k i (σ'.1 k i) (σ'.2 k i)) H1) (oq : ∀ q : Nat, q ≠ B.1 k i → H1[q]? = H[q]?) (hs : ∀ a b, ¬ (a = k ∧ b = i) → σ'.1 a b = σ.1 a b ∧ σ'.2 a b = σ.2 a b) : Hp G B σ' H1 := by
  refine ⟨fun a b hb => ?_, h.2⟩
  by_cases hab : a = k ∧ b = i
  · obtain ⟨rfl, rfl⟩ := hab
    exact ⟨(h.1 a b hb).1, he⟩
  · obtain ⟨h1, h2⟩ := hs a b hab
    rw [h1, h2]
    exact ⟨(h.1 a b hb).1, (h.1 a b hb).2.kept (oq _ (fun z => hab (h.2 a b k i hb hi z)))⟩
theorem Hp.at1 {G : gG} {B : gB} {σ : gS} {H : Heap} (h : Hp G B σ H) {k i : Nat} (hi : i < B.2 k) {e : va_E} (he : lay G B k i (σ.1 k i) (σ.2 k i) = e) : va_P G.1 clsz [(B.1 k i, e)] H := by
  intro q x hx
  have hz : q < 1 := (List.getElem?_eq_some_iff.mp hx).1
  rw [show q = 0 by omega] at hx
  cases hx
  rw [← he]
  exact (h.1 k i hi).2
end
section
/-! one-instruction rows over the abstract heap -/
theorem c_in {n q : Nat} (hq : q < n) (hn : n < 2147483648) : vp_in (nI q) n := vp_in_nI hq hn
theorem c_cl {n q : Nat} (hq : q < n) (hn : n < 2147483648) : (nI q).toNatClampNeg = q := nI_clamp (Nat.lt_trans hq hn)
section MR
variable {p : Program} {l : Launch} {e : Env} {R : Room} {s : State} {m : MethodId} {args : Array Value} {below : List Frame} {meth : Method} {c : Code} {H : Heap} {locs : List Loc} {cells slots : Nat} {Q : State → Prop}
variable {cc : ByteArray} {pc : Nat} {ls : Array Slot} {rest : List Value} {G : gG} {B : gB} {σ : gS}
theorem m_get (hx : p.tables.exec = Jvm.exec) (hb : c.code = cc) {own : String} (hown : s.vm.findClass own = some m.cls) (hK : KI G s) (hH : Hp G B σ H) {k i ci index : Nat} {C : String} {T : u_T} {N : Nat} {fs : List Value} {v : Value} (hi : i < B.2 k) (hlay : lay G B k i (σ.1 k i) (σ.2 k i) = .inr (ci, fs)) (hc : clsz[ci]? = some (C, T, N)) (j : Nat) (hj : j < N) (hw : Cond.fieldLink own index (T j).1 (T j).2.1 (T j).2.2.1 ∈ lw_tbl) (hv : fs[j]? = some v) (hdg : decode cc pc = .ok (.getfield index, 3))
    (kk : W p l e R s m args below meth c H locs cells slots Q (F0 m (pc + 3) ls (v :: rest))) : W p l e R s m args below meth c H locs cells slots Q (F0 m pc ls (.ref (B.1 k i) :: rest)) :=
  va_get hx hb (hK.u hc args) (fun _ h => h) hown hK.1 (hH.at1 hi hlay) 0 rfl hc j hj (hK.2 _ hw rfl args) (fun _ h => h) hv hdg kk
theorem m_getN (hx : p.tables.exec = Jvm.exec) (hb : c.code = cc) {own host : String} (hown : s.vm.findClass own = some m.cls) (hK : KI G s) (hH : Hp G B σ H) {k i ci index : Nat} {C : String} {T : u_T} {N : Nat} {fs : List Value} {v : Value} (hi : i < B.2 k) (hlay : lay G B k i (σ.1 k i) (σ.2 k i) = .inr (ci, fs)) (hc : clsz[ci]? = some (C, T, N)) (j : Nat) (hj : j < N) (hw : Cond.fieldLinkNest own index (T j).1 (T j).2.1 (T j).2.2.1 host ∈ lw_tbl) (hv : fs[j]? = some v) (hdg : decode cc pc = .ok (.getfield index, 3))
    (kk : W p l e R s m args below meth c H locs cells slots Q (F0 m (pc + 3) ls (v :: rest))) : W p l e R s m args below meth c H locs cells slots Q (F0 m pc ls (.ref (B.1 k i) :: rest)) :=
  va_getN hx hb (hK.u hc args) (fun _ h => h) hown hK.1 (hH.at1 hi hlay) 0 rfl hc j hj (hK.2 _ hw rfl args) (fun _ h => h) hv hdg kk
theorem m_put (hx : p.tables.exec = Jvm.exec) (hb : c.code = cc) {own : String} (hown : s.vm.findClass own = some m.cls) (hK : KI G s) (hH : Hp G B σ H) (hS0 : va_S (mA G) s.heap H locs) {k i ci index : Nat} {C : String} {T : u_T} {N : Nat} {fs : List Value} {v : Value} {ty : FieldType} {σ' : gS} (hi : i < B.2 k) (hlay : lay G B k i (σ.1 k i) (σ.2 k i) = .inr (ci, fs)) (hc : clsz[ci]? = some (C, T, N)) (j : Nat) (hj : j < N) (hw : Cond.fieldLink own index (T j).1 (T j).2.1 (T j).2.2.1 ∈ lw_tbl) (hfin : (T j).2.2.2 = false) (hd : parseFieldDescriptor (T j).2.2.1 = some ty) (hn : narrow ty v = v) (hfit : fits ty v = true) (hl : j < fs.length)
    (hlay' : lay G B k i (σ'.1 k i) (σ'.2 k i) = .inr (ci, fs.set j v)) (hs : ∀ a b, ¬ (a = k ∧ b = i) → σ'.1 a b = σ.1 a b ∧ σ'.2 a b = σ.2 a b) (hdg : decode cc pc = .ok (.putfield index, 3))
    (kk : ∀ (H1 : Heap) (locs1 : List Loc), Hp G B σ' H1 → va_S (mA G) s.heap H1 locs1 → W p l e R s m args below meth c H1 locs1 cells slots Q (F0 m (pc + 3) ls rest)) : W p l e R s m args below meth c H locs cells slots Q (F0 m pc ls (v :: .ref (B.1 k i) :: rest)) := by
  obtain ⟨⟨ty0, hty⟩, hnm⟩ := m_nm ci C T N hc
  have hts := hK.u hc args
  have hap := va_apart (own := own) hts (fun _ h => h) ty0 hty hnm hK.1 hc
  obtain ⟨r, h1, cell, q1, q2, q3, q4⟩ := (hH.at1 hi hlay) 0 _ rfl
  have hr : r = (C, T, N) := Option.some.inj (h1.symm.trans hc)
  subst hr
  obtain ⟨hS, hfc, kC, hkC, hkind⟩ := hK.1.1 ci _ hc
  obtain ⟨cf, kf, fi, f, hif, hsl⟩ := hS j hj
  have hlw := hts _ (u_in_lay hj)
  unfold u_lay at hlw
  rw [if_neg (by rw [hfin]; decide)] at hlw
  have hst := (u_facts hfc hkC (u_lays hts (fun _ h => h) hj) hif).1
  have h6 := u_store hfc hkC hkind hlw hif hd hn hfit
  refine W.putK hx hb (f := f) ⟨hown, hK.2 _ hw rfl args, ⟨_, _, _, hif⟩, hst⟩ (by rw [q2]; exact h6) q1 q3 (by rw [hsl]; exact k2_hasslot (q4 j hj)) rfl rfl hdg fun H' e1 e2 e3 => ?_
  rw [hsl] at e1 ⊢
  refine kk H' _ (hH.put hi ?_ e3 hs) (hS0.put e2 e3 (hH.1 k i hi).1)
  rw [hlay']
  exact ⟨_, hc, t_OB.to (V := updV (vp_V fs) j v) ⟨_, e1, q2, q3, t_set q4 hap hj v⟩ (fun j' _ => vp_updV_set hl v j')⟩
theorem m_putN (hx : p.tables.exec = Jvm.exec) (hb : c.code = cc) {own host : String} (hown : s.vm.findClass own = some m.cls) (hK : KI G s) (hH : Hp G B σ H) (hS0 : va_S (mA G) s.heap H locs) {k i ci index : Nat} {C : String} {T : u_T} {N : Nat} {fs : List Value} {v : Value} {ty : FieldType} {σ' : gS} (hi : i < B.2 k) (hlay : lay G B k i (σ.1 k i) (σ.2 k i) = .inr (ci, fs)) (hc : clsz[ci]? = some (C, T, N)) (j : Nat) (hj : j < N) (hw : Cond.fieldLinkNest own index (T j).1 (T j).2.1 (T j).2.2.1 host ∈ lw_tbl) (hfin : (T j).2.2.2 = false) (hd : parseFieldDescriptor (T j).2.2.1 = some ty) (hn : narrow ty v = v) (hfit : fits ty v = true) (hl : j < fs.length)
    (hlay' : lay G B k i (σ'.1 k i) (σ'.2 k i) = .inr (ci, fs.set j v)) (hs : ∀ a b, ¬ (a = k ∧ b = i) → σ'.1 a b = σ.1 a b ∧ σ'.2 a b = σ.2 a b) (hdg : decode cc pc = .ok (.putfield index, 3))
    (kk : ∀ (H1 : Heap) (locs1 : List Loc), Hp G B σ' H1 → va_S (mA G) s.heap H1 locs1 → W p l e R s m args below meth c H1 locs1 cells slots Q (F0 m (pc + 3) ls rest)) : W p l e R s m args below meth c H locs cells slots Q (F0 m pc ls (v :: .ref (B.1 k i) :: rest)) := by
  obtain ⟨⟨ty0, hty⟩, hnm⟩ := m_nm ci C T N hc
  have hts := hK.u hc args
  have hap := va_apart (own := own) hts (fun _ h => h) ty0 hty hnm hK.1 hc
  obtain ⟨r, h1, cell, q1, q2, q3, q4⟩ := (hH.at1 hi hlay) 0 _ rfl
  have hr : r = (C, T, N) := Option.some.inj (h1.symm.trans hc)
  subst hr
  obtain ⟨hS, hfc, kC, hkC, hkind⟩ := hK.1.1 ci _ hc
  obtain ⟨cf, kf, fi, f, hif, hsl⟩ := hS j hj
  have hlw := hts _ (u_in_lay hj)
  unfold u_lay at hlw
  rw [if_neg (by rw [hfin]; decide)] at hlw
  have hst := (u_facts hfc hkC (u_lays hts (fun _ h => h) hj) hif).1
  have h6 := u_store hfc hkC hkind hlw hif hd hn hfit
  refine va_WputK hx hb (f := f) hown (hK.2 _ hw rfl args) hif hst (by rw [q2]; exact h6) q1 q3 (by rw [hsl]; exact k2_hasslot (q4 j hj)) rfl rfl hdg fun H' e1 e2 e3 => ?_
  rw [hsl] at e1 ⊢
  refine kk H' _ (hH.put hi ?_ e3 hs) (hS0.put e2 e3 (hH.1 k i hi).1)
  rw [hlay']
  exact ⟨_, hc, t_OB.to (V := updV (vp_V fs) j v) ⟨_, e1, q2, q3, t_set q4 hap hj v⟩ (fun j' _ => vp_updV_set hl v j')⟩
theorem sI_off (σ : gS) (k i j : Nat) (v : Int32) : ∀ a b, ¬ (a = k ∧ b = i) → (sI σ k i j v).1 a b = σ.1 a b ∧ (sI σ k i j v).2 a b = σ.2 a b := fun _ _ h => ⟨if_neg h, rfl⟩
theorem sJ_off (σ : gS) (k i j : Nat) (v : Int64) : ∀ a b, ¬ (a = k ∧ b = i) → (sJ σ k i j v).1 a b = σ.1 a b ∧ (sJ σ k i j v).2 a b = σ.2 a b := fun _ _ h => ⟨rfl, if_neg h⟩
theorem sI_on (σ : gS) (k i j : Nat) (v : Int32) : (sI σ k i j v).1 k i = upd (σ.1 k i) j v := if_pos ⟨rfl, rfl⟩
theorem sJ_on (σ : gS) (k i j : Nat) (v : Int64) : (sJ σ k i j v).2 k i = vp_updL (σ.2 k i) j v := if_pos ⟨rfl, rfl⟩
-- arrays
theorem m_iald (hx : p.tables.exec = Jvm.exec) (hb : c.code = cc) (hK : KI G s) (hH : Hp G B σ H) {k i n : Nat} (hi : i < B.2 k) (hlay : ∀ f g, lay G B k i f g = aI G n f) {z : Int32} (q : Nat) (hz : z = nI q) (hq : q < n) (hn : n < 2147483648) (hdg : decode cc pc = .ok (.iaload, 1))
    (kk : W p l e R s m args below meth c H locs cells slots Q (F0 m (pc + 1) ls (.int (σ.1 k i q) :: rest))) : W p l e R s m args below meth c H locs cells slots Q (F0 m pc ls (.int z :: .ref (B.1 k i) :: rest)) := by
  subst hz
  refine va_iald hx hb hK.1 (hH.at1 hi (hlay _ _)) 0 0 rfl rfl (c_in hq hn) hdg ?_
  rw [c_cl hq hn]
  exact kk
theorem m_zald (hx : p.tables.exec = Jvm.exec) (hb : c.code = cc) (hK : KI G s) (hH : Hp G B σ H) {k i n : Nat} (hi : i < B.2 k) (hlay : ∀ f g, lay G B k i f g = aZ G n f) {z : Int32} (q : Nat) (hz : z = nI q) (hq : q < n) (hn : n < 2147483648) (hdg : decode cc pc = .ok (.baload, 1))
    (kk : W p l e R s m args below meth c H locs cells slots Q (F0 m (pc + 1) ls (.int (σ.1 k i q) :: rest))) : W p l e R s m args below meth c H locs cells slots Q (F0 m pc ls (.int z :: .ref (B.1 k i) :: rest)) := by
  subst hz
  refine va_zald hx hb hK.1 (hH.at1 hi (hlay _ _)) 0 2 rfl rfl (c_in hq hn) hdg ?_
  rw [c_cl hq hn]
  exact kk
theorem m_lald (hx : p.tables.exec = Jvm.exec) (hb : c.code = cc) (hK : KI G s) (hH : Hp G B σ H) {k i n : Nat} (hi : i < B.2 k) (hlay : ∀ f g, lay G B k i f g = aJ G n g) {z : Int32} (q : Nat) (hz : z = nI q) (hq : q < n) (hn : n < 2147483648) (hdg : decode cc pc = .ok (.laload, 1))
    (kk : W p l e R s m args below meth c H locs cells slots Q (F0 m (pc + 1) ls (.long (σ.2 k i q) :: rest))) : W p l e R s m args below meth c H locs cells slots Q (F0 m pc ls (.int z :: .ref (B.1 k i) :: rest)) := by
  subst hz
  refine va_lald hx hb hK.1 (hH.at1 hi (hlay _ _)) 0 1 rfl rfl (c_in hq hn) hdg ?_
  rw [c_cl hq hn]
  exact kk
/-- a row of a grid, an object of an array: t0 the place of the array's class among tyz -/
theorem m_aald (hx : p.tables.exec = Jvm.exec) (hb : c.code = cc) (hK : KI G s) (hH : Hp G B σ H) {k i n : Nat} {r : Nat → Option Nat} (t0 : Nat) {ty : FieldType} (hi : i < B.2 k) (hlay : ∀ f g, lay G B k i f g = aR G t0 n r) (ht : (tyz G)[t0]? = some (G.2.1 t0, ty)) (hty : ty.isReference = true) {z : Int32} (q : Nat) (hz : z = nI q) (hq : q < n) (hn : n < 2147483648) {v : Value} (hv : va_rf (r q) = v) (hdg : decode cc pc = .ok (.aaload, 1))
    (kk : W p l e R s m args below meth c H locs cells slots Q (F0 m (pc + 1) ls (v :: rest))) : W p l e R s m args below meth c H locs cells slots Q (F0 m pc ls (.int z :: .ref (B.1 k i) :: rest)) := by
  subst hz
  subst hv
  have hP := (hH.at1 hi (hlay _ _)) 0 _ rfl
  exact W.aald (v := va_rf (r q)) (ty := ty) hx hb hP ((hK.1.2 t0 _ ht).1 n (fun j => va_rf (r j))) hty (fun q => by cases q) (by show ¬ (nI q < 0 ∨ (arrV _ _ _).slots.size ≤ _); rw [arrV_size]; exact c_in hq hn) (by show (arrV _ _ _).slots[_]? = _; rw [c_cl hq hn, arrV_read _ _ hq]) rfl rfl hdg kk
theorem m_iast (hx : p.tables.exec = Jvm.exec) (hb : c.code = cc) (hK : KI G s) (hH : Hp G B σ H) (hS : va_S (mA G) s.heap H locs) {k i n : Nat} (hi : i < B.2 k) (hlay : ∀ f g, lay G B k i f g = aI G n f) {z x : Int32} (q : Nat) (hz : z = nI q) (hq : q < n) (hn : n < 2147483648) (hdg : decode cc pc = .ok (.iastore, 1))
    (kk : ∀ (H1 : Heap) (locs1 : List Loc), Hp G B (sI σ k i q x) H1 → va_S (mA G) s.heap H1 locs1 → W p l e R s m args below meth c H1 locs1 cells slots Q (F0 m (pc + 1) ls rest)) : W p l e R s m args below meth c H locs cells slots Q (F0 m pc ls (.int x :: .int z :: .ref (B.1 k i) :: rest)) := by
  subst hz
  have hP := (hH.at1 hi (hlay _ _)) 0 _ rfl
  refine W.iast hx hb hP ((hK.1.2 0 _ rfl).1 n (fun j => .int (σ.1 k i j))) (fun q => by cases q) (by show ¬ (nI q < 0 ∨ (arrV _ _ _).slots.size ≤ _); rw [arrV_size]; exact c_in hq hn) rfl rfl hdg fun H1 e z oq => ?_
  refine kk H1 _ (hH.put hi ?_ oq (sI_off σ k i q x)) (hS.put z oq (hH.1 k i hi).1)
  rw [sI_on, sI_J, hlay]
  show H1[B.1 k i]? = some (vp_cell _ _)
  rw [e, c_cl hq hn, vp_cell_i, vp_cell_i, arrV_store]
  congr 2
  funext j
  by_cases hj : j = q
  · subst hj
    simp [updV, upd]
  · simp [updV, upd, hj]
theorem m_zast (hx : p.tables.exec = Jvm.exec) (hb : c.code = cc) (hK : KI G s) (hH : Hp G B σ H) (hS : va_S (mA G) s.heap H locs) {k i n : Nat} (hi : i < B.2 k) (hlay : ∀ f g, lay G B k i f g = aZ G n f) {z x : Int32} (q : Nat) (hz : z = nI q) (hq : q < n) (hn : n < 2147483648) (hx1 : narrow .boolean (.int x) = .int x) (hdg : decode cc pc = .ok (.bastore, 1))
    (kk : ∀ (H1 : Heap) (locs1 : List Loc), Hp G B (sI σ k i q x) H1 → va_S (mA G) s.heap H1 locs1 → W p l e R s m args below meth c H1 locs1 cells slots Q (F0 m (pc + 1) ls rest)) : W p l e R s m args below meth c H locs cells slots Q (F0 m pc ls (.int x :: .int z :: .ref (B.1 k i) :: rest)) := by
  subst hz
  have hP := (hH.at1 hi (hlay _ _)) 0 _ rfl
  refine W.zast hx hb hP ((hK.1.2 2 _ rfl).1 n (fun j => .int (σ.1 k i j))) (fun q => by cases q) (by show ¬ (nI q < 0 ∨ (arrV _ _ _).slots.size ≤ _); rw [arrV_size]; exact c_in hq hn) rfl rfl hdg fun H1 e z oq => ?_
  refine kk H1 _ (hH.put hi ?_ oq (sI_off σ k i q x)) (hS.put z oq (hH.1 k i hi).1)
  rw [sI_on, sI_J, hlay]
  show H1[B.1 k i]? = some (vp_cell _ _)
  rw [e, c_cl hq hn, hx1, vp_cell_i, vp_cell_i, arrV_store]
  congr 2
  funext j
  by_cases hj : j = q
  · subst hj
    simp [updV, upd]
  · simp [updV, upd, hj]
theorem m_last (hx : p.tables.exec = Jvm.exec) (hb : c.code = cc) (hK : KI G s) (hH : Hp G B σ H) (hS : va_S (mA G) s.heap H locs) {k i n : Nat} (hi : i < B.2 k) (hlay : ∀ f g, lay G B k i f g = aJ G n g) {z : Int32} {x : Int64} (q : Nat) (hz : z = nI q) (hq : q < n) (hn : n < 2147483648) (hdg : decode cc pc = .ok (.lastore, 1))
    (kk : ∀ (H1 : Heap) (locs1 : List Loc), Hp G B (sJ σ k i q x) H1 → va_S (mA G) s.heap H1 locs1 → W p l e R s m args below meth c H1 locs1 cells slots Q (F0 m (pc + 1) ls rest)) : W p l e R s m args below meth c H locs cells slots Q (F0 m pc ls (.long x :: .int z :: .ref (B.1 k i) :: rest)) := by
  subst hz
  have hP := (hH.at1 hi (hlay _ _)) 0 _ rfl
  refine W.last hx hb hP ((hK.1.2 1 _ rfl).1 n (fun j => .long (σ.2 k i j))) (fun q => by cases q) (by show ¬ (nI q < 0 ∨ (arrV _ _ _).slots.size ≤ _); rw [arrV_size]; exact c_in hq hn) rfl rfl hdg fun H1 e z oq => ?_
  refine kk H1 _ (hH.put hi ?_ oq (sJ_off σ k i q x)) (hS.put z oq (hH.1 k i hi).1)
  rw [sJ_on, sJ_I, hlay]
  show H1[B.1 k i]? = some (vp_cell _ _)
  rw [e, c_cl hq hn, vp_cell_l, vp_cell_l, arrV_store]
  congr 2
  funext j
  by_cases hj : j = q
  · subst hj
    simp [updV, vp_updL]
  · simp [updV, vp_updL, hj]
-- ends
theorem m_iret {post : Int32 → gS → Prop} {v : Int32} (hx : p.tables.exec = Jvm.exec) (hb : c.code = cc) (hr : meth.sig.returnType = some .int) (hlk : meth.locks = false) (hH : Hp G B σ H) (hS : va_S (mA G) s.heap H locs) (hdg : decode cc pc = .ok (.ireturn, 1)) (hp : post v σ) : W p l e R s m args below meth c H locs 0 0 (MQ below (mQi G B post) args s 0 0 (mA G)) (F0 m pc ls [.int v]) :=
  W.iret hx hb hr (fun t ht _ => ⟨⟨v, σ, rfl, hp, by show Hp G B σ t.heap; rw [ht]; exact hH⟩, hS.F ht⟩) hS.2.2 hdg hlk
theorem m_zret {post : Int32 → gS → Prop} {v : Int32} (hx : p.tables.exec = Jvm.exec) (hb : c.code = cc) (hr : meth.sig.returnType = some .boolean) (hlk : meth.locks = false) (hH : Hp G B σ H) (hS : va_S (mA G) s.heap H locs) (hdg : decode cc pc = .ok (.ireturn, 1)) (hv : v = 0 ∨ v = 1) (hp : post v σ) : W p l e R s m args below meth c H locs 0 0 (MQ below (mQi G B post) args s 0 0 (mA G)) (F0 m pc ls [.int v]) :=
  W.zret hx hb hr (by rcases hv with rfl | rfl <;> rfl) (fun t ht _ => ⟨⟨v, σ, rfl, hp, by show Hp G B σ t.heap; rw [ht]; exact hH⟩, hS.F ht⟩) hS.2.2 hdg hlk
theorem m_lret {post : Int64 → gS → Prop} {v : Int64} (hx : p.tables.exec = Jvm.exec) (hb : c.code = cc) (hr : meth.sig.returnType = some .long) (hlk : meth.locks = false) (hH : Hp G B σ H) (hS : va_S (mA G) s.heap H locs) (hdg : decode cc pc = .ok (.lreturn, 1)) (hp : post v σ) : W p l e R s m args below meth c H locs 0 0 (MQ below (mQl G B post) args s 0 0 (mA G)) (F0 m pc ls [.long v]) :=
  W.lret hx hb hr (fun t ht _ => ⟨⟨v, σ, rfl, hp, by show Hp G B σ t.heap; rw [ht]; exact hH⟩, hS.F ht⟩) hS.2.2 hdg hlk
theorem m_vret {post : gS → Prop} (hx : p.tables.exec = Jvm.exec) (hb : c.code = cc) (hr : meth.sig.returnType = none) (hlk : meth.locks = false) (hH : Hp G B σ H) (hS : va_S (mA G) s.heap H locs) (hdg : decode cc pc = .ok (.return_, 1)) (hp : post σ) : W p l e R s m args below meth c H locs 0 0 (MQ below (mQv G B post) args s 0 0 (mA G)) (F0 m pc ls []) :=
  W.vret hx hb hr (fun t ht _ => ⟨⟨σ, rfl, hp, by show Hp G B σ t.heap; rw [ht]; exact hH⟩, hS.F ht⟩) hS.2.2 hdg hlk
theorem m_aret {post : Option Nat → gS → Prop} {C : String} {r : Option Nat} (hx : p.tables.exec = Jvm.exec) (hb : c.code = cc) (hr : meth.sig.returnType = some (.object C)) (hlk : meth.locks = false) (hH : Hp G B σ H) (hS : va_S (mA G) s.heap H locs) (hdg : decode cc pc = .ok (.areturn, 1)) (hp : post r σ) : W p l e R s m args below meth c H locs 0 0 (MQ below (mQq G B post) args s 0 0 (mA G)) (F0 m pc ls [va_rf r]) :=
  W.aret hx hb hr (Or.inl ⟨_, rfl⟩) (va_rf_or r) (fun t ht _ => ⟨⟨r, σ, rfl, hp, by show Hp G B σ t.heap; rw [ht]; exact hH⟩, hS.F ht⟩) hS.2.2 hdg hlk
-- calls
/-- the tables' words of a method that is called -/
abbrev mWd (y : MethodName) (cc : ByteArray) (nL : Nat) (ret : Option FieldType) (n : Nat) : Prop := Cond.code y cc nL ret ∈ lw_tbl ∧ Cond.initialized y.cls ∈ lw_tbl ∧ (y.cls ≠ "java/lang/invoke/MethodHandle" ∧ y.cls ≠ "java/lang/invoke/VarHandle" ∧ (parseMethodDescriptor y.desc).map (fun d => d.parameters.length) = some n)
abbrev mWv (y : MethodName) (cc : ByteArray) (nL : Nat) (ret : Option FieldType) (n : Nat) : Prop := mWd y cc nL ret n ∧ Cond.instanceMethod y ∈ lw_tbl ∧ Cond.selects y.cls y y ∈ lw_tbl
abbrev mWs (y : MethodName) (cc : ByteArray) (nL : Nat) (ret : Option FieldType) (n : Nat) : Prop := mWd y cc nL ret n ∧ Cond.static y ∈ lw_tbl
variable {y : MethodName} {bytes : ByteArray} {maxL nL n index mc ms : Nat} {ret : Option FieldType} {rm : Room} {own : String} {As : List Value} {st0 : List Value} {Qc : Array Value → State → Outcome → State → Prop}
theorem m_code (hK : KI G s) (h : Cond.code y bytes maxL ret ∈ lw_tbl) : ∀ w ∈ [Cond.code y bytes maxL ret], w.before args s = true := fun w hw => by
  rw [List.mem_singleton.mp hw]
  exact hK.2 _ h rfl args
theorem m_good : GoodIn [Cond.code y bytes maxL ret] [Cond.code y bytes maxL ret] := fun w hw => ⟨hw, by rw [List.mem_singleton.mp hw]; exact Or.inl rfl⟩
theorem m_cb (hK : KI G s) (hw : mWd y bytes maxL ret n) (hl : Cond.methodLink own index y ∈ lw_tbl) (hR : rm.frames + 1 ≤ R.frames ∧ 8 + (maxL + 11) + rm.locals ≤ R.locals) : CallB R s args own index y bytes maxL ret [.code y bytes maxL ret] rm rm.cells rm.slots n :=
  callB_of n (m_code hK hw.1) m_good rfl rfl rfl (hK.2 _ hw.2.1 rfl args) (hK.2 _ hl rfl args) hw.2.2 hR
theorem m_pre (hK : KI G s) (hz : G.2.2 ≤ s.heap.size) (hH : Hp G B σ H) (hS : va_S (mA G) s.heap H locs) {av : List Value} : ∀ U : State, U.heap = H → s.WarmedH U.vm → mPc G B σ av av.toArray U := fun U hU hW => ⟨rfl, hK.warm hW, by rw [hU]; exact Nat.le_trans hz hS.1, by rw [hU]; exact hH⟩
theorem m_recv (hK : KI G s) (hH : Hp G B σ H) {k i ci : Nat} {C : String} {T : u_T} {N : Nat} {fs : List Value} (hi : i < B.2 k) (hlay : lay G B k i (σ.1 k i) (σ.2 k i) = .inr (ci, fs)) (hc : clsz[ci]? = some (C, T, N)) : ∃ cell : Cell, H[B.1 k i]? = some cell ∧ cell.vm.isStatics = false ∧ s.vm.findClass C = some cell.cls :=
  va_recv hK.1 (hH.at1 hi hlay) hc (q0 := 0) rfl
/-- a call that makes no cells -/
theorem m_runV {own : String} (C0 : p.tables.exec = Jvm.exec ∧ c.code = cc ∧ c.maxLocals = nL ∧ s.vm.findClass own = some m.cls ∧ G.2.2 ≤ s.heap.size) (hK : KI G s) (hH : Hp G B σ H) (hS : va_S (mA G) s.heap H locs) {k i ci : Nat} {T : u_T} {N : Nat} {fs : List Value} (hi : i < B.2 k) (hlay : lay G B k i (σ.1 k i) (σ.2 k i) = .inr (ci, fs)) (hc : clsz[ci]? = some (y.cls, T, N))
    (hM : Met l y [.code y bytes maxL ret] rm (mPc G B σ (.ref (B.1 k i) :: As)) Qc 0 0 (mA G)) (hw : mWv y bytes maxL ret n) (hl : Cond.methodLink own index y ∈ lw_tbl) (hrc : rm.cells = 0 ∧ rm.slots = 0) (hR : rm.frames + 1 ≤ R.frames ∧ 8 + (maxL + 11) + rm.locals ≤ R.locals) (hn : As.length = n) (hsize : ls.size = nL) (hst : st0 = As.reverse ++ .ref (B.1 k i) :: rest) (hrest : (rest.map fun v => v.category).sum ≤ 8) (hdg : decode cc pc = .ok (.invokevirtual index, 3)) (hf : cells ≤ R.cells ∧ slots ≤ R.slots) :
    va_Run p l e R s m args below meth c H locs cells slots 0 0 (F0 m pc ls st0) rest (Qc (Value.ref (B.1 k i) :: As).toArray) (mA G) := by
  obtain ⟨hx, hb, hml, hown, hz⟩ := C0
  have cb := m_cb (args := args) (index := index) (own := own) (rm := rm) (R := R) hK hw.1 hl hR
  rw [hrc.1, hrc.2] at cb
  exact va_runV (Ts := []) (C := y.cls) ⟨hx, hb, hml, hown, fun w h => by cases h⟩ hM ⟨cb, hK.2 _ hw.2.1 rfl args, hK.2 _ hw.2.2 rfl args⟩ ⟨mPc.blind, m_recv hK hH hi hlay hc, m_pre hK hz hH hS⟩ rfl hn hsize hst (lv_room hrest) hdg hf
theorem m_runS {own : String} (C0 : p.tables.exec = Jvm.exec ∧ c.code = cc ∧ c.maxLocals = nL ∧ s.vm.findClass own = some m.cls ∧ G.2.2 ≤ s.heap.size) (hK : KI G s) (hH : Hp G B σ H) (hS : va_S (mA G) s.heap H locs)
    (hM : Met l y [.code y bytes maxL ret] rm (mPc G B σ As) Qc 0 0 (mA G)) (hw : mWs y bytes maxL ret n) (hl : Cond.methodLink own index y ∈ lw_tbl) (hrc : rm.cells = 0 ∧ rm.slots = 0) (hR : rm.frames + 1 ≤ R.frames ∧ 8 + (maxL + 11) + rm.locals ≤ R.locals) (hn : As.length = n) (hsize : ls.size = nL) (hst : st0 = As.reverse ++ rest) (hrest : (rest.map fun v => v.category).sum ≤ 8) (hdg : decode cc pc = .ok (.invokestatic index, 3)) (hf : cells ≤ R.cells ∧ slots ≤ R.slots) :
    va_Run p l e R s m args below meth c H locs cells slots 0 0 (F0 m pc ls st0) rest (Qc As.toArray) (mA G) := by
  obtain ⟨hx, hb, hml, hown, hz⟩ := C0
  have cb := m_cb (args := args) (index := index) (own := own) (rm := rm) (R := R) hK hw.1 hl hR
  rw [hrc.1, hrc.2] at cb
  exact va_runS (Ts := []) ⟨hx, hb, hml, hown, fun w h => by cases h⟩ hM ⟨cb, hK.2 _ hw.2 rfl args⟩ ⟨mPc.blind, m_pre hK hz hH hS⟩ rfl hn hsize hst (lv_room hrest) hdg hf
theorem m_ki {post : Int32 → gS → Prop} {a : Array Value} (hr : va_Run p l e R s m args below meth c H locs cells slots 0 0 (F0 m pc ls st0) rest (mQi G B post a) (mA G)) (hS : va_S (mA G) s.heap H locs)
    (kk : ∀ (r : Int32) (σ' : gS) (H1 : Heap) (locs1 : List Loc), post r σ' → Hp G B σ' H1 → va_S (mA G) s.heap H1 locs1 → W p l e R s m args below meth c H1 locs1 cells slots Q (F0 m (pc + 3) ls (.int r :: rest))) : W p l e R s m args below meth c H locs cells slots Q (F0 m pc ls st0) :=
  va_calli hr hS (fun _ _ h => h) (fun _ h => h) (fun r u t H1 locs1 ht _ hp hB _ _ hS1 => kk r u H1 locs1 hp (ht ▸ hB) hS1)
theorem m_kl {post : Int64 → gS → Prop} {a : Array Value} (hr : va_Run p l e R s m args below meth c H locs cells slots 0 0 (F0 m pc ls st0) rest (mQl G B post a) (mA G)) (hS : va_S (mA G) s.heap H locs)
    (kk : ∀ (r : Int64) (σ' : gS) (H1 : Heap) (locs1 : List Loc), post r σ' → Hp G B σ' H1 → va_S (mA G) s.heap H1 locs1 → W p l e R s m args below meth c H1 locs1 cells slots Q (F0 m (pc + 3) ls (.long r :: rest))) : W p l e R s m args below meth c H locs cells slots Q (F0 m pc ls st0) :=
  va_calll hr hS (fun _ _ h => h) (fun _ h => h) (fun r u t H1 locs1 ht _ hp hB _ _ hS1 => kk r u H1 locs1 hp (ht ▸ hB) hS1)
theorem m_kv {post : gS → Prop} {a : Array Value} (hr : va_Run p l e R s m args below meth c H locs cells slots 0 0 (F0 m pc ls st0) rest (mQv G B post a) (mA G)) (hS : va_S (mA G) s.heap H locs)
    (kk : ∀ (σ' : gS) (H1 : Heap) (locs1 : List Loc), post σ' → Hp G B σ' H1 → va_S (mA G) s.heap H1 locs1 → W p l e R s m args below meth c H1 locs1 cells slots Q (F0 m (pc + 3) ls rest)) : W p l e R s m args below meth c H locs cells slots Q (F0 m pc ls st0) :=
  va_callv hr hS (fun _ _ h => h) (fun _ h => h) (fun u t H1 locs1 ht _ hp hB _ _ hS1 => kk u H1 locs1 hp (ht ▸ hB) hS1)
theorem m_kq {post : Option Nat → gS → Prop} {a : Array Value} (hr : va_Run p l e R s m args below meth c H locs cells slots 0 0 (F0 m pc ls st0) rest (mQq G B post a) (mA G)) (hS : va_S (mA G) s.heap H locs)
    (kk : ∀ (r : Option Nat) (σ' : gS) (H1 : Heap) (locs1 : List Loc), post r σ' → Hp G B σ' H1 → va_S (mA G) s.heap H1 locs1 → W p l e R s m args below meth c H1 locs1 cells slots Q (F0 m (pc + 3) ls (va_rf r :: rest))) : W p l e R s m args below meth c H locs cells slots Q (F0 m pc ls st0) :=
  va_callq hr hS (fun _ _ h => h) (fun _ h => h) (fun r u t H1 locs1 ht _ hp hB _ _ hS1 => kk r u H1 locs1 hp (ht ▸ hB) hS1)
end MR
end
section
/-! words of the tables by their places -/
theorem tin1 {w : Cond} (i : Nat) (h : tables_1_1[i]? = some w) : w ∈ lw_tbl := List.mem_append_right _ (List.mem_append_left _ (List.mem_of_getElem? h))
theorem tin2 {w : Cond} (i : Nat) (h : tables_1_2[i]? = some w) : w ∈ lw_tbl := List.mem_append_right _ (List.mem_append_right _ (List.mem_append_left _ (List.mem_of_getElem? h)))
theorem tin3 {w : Cond} (i : Nat) (h : tables_1_3[i]? = some w) : w ∈ lw_tbl := List.mem_append_right _ (List.mem_append_right _ (List.mem_append_right _ (List.mem_append_left _ (List.mem_of_getElem? h))))
theorem tin4 {w : Cond} (i : Nat) (h : tables_1_4[i]? = some w) : w ∈ lw_tbl := List.mem_append_right _ (List.mem_append_right _ (List.mem_append_right _ (List.mem_append_right _ (List.mem_of_getElem? h))))
theorem wf_X0_9 : Cond.fieldLink RX0 9 (TX0 5).1 (TX0 5).2.1 (TX0 5).2.2.1 ∈ lw_tbl := tin2 125 rfl
theorem wf_X0_15 : Cond.fieldLink RX0 15 (TX0 6).1 (TX0 6).2.1 (TX0 6).2.2.1 ∈ lw_tbl := tin2 127 rfl
theorem wf_X0_18 : Cond.fieldLink RX0 18 (TX0 9).1 (TX0 9).2.1 (TX0 9).2.2.1 ∈ lw_tbl := tin2 133 rfl
theorem wf_X0_22 : Cond.fieldLink RX0 22 (TX0 0).1 (TX0 0).2.1 (TX0 0).2.2.1 ∈ lw_tbl := tin2 116 rfl
theorem wf_X0_25 : Cond.fieldLink RX0 25 (TX0 1).1 (TX0 1).2.1 (TX0 1).2.2.1 ∈ lw_tbl := tin2 118 rfl
theorem wf_X0_28 : Cond.fieldLink RX0 28 (TX0 2).1 (TX0 2).2.1 (TX0 2).2.2.1 ∈ lw_tbl := tin2 120 rfl
theorem wf_X0_32 : Cond.fieldLink RX0 32 (TX0 3).1 (TX0 3).2.1 (TX0 3).2.2.1 ∈ lw_tbl := tin2 121 rfl
theorem wf_X0_35 : Cond.fieldLink RX0 35 (TX0 4).1 (TX0 4).2.1 (TX0 4).2.2.1 ∈ lw_tbl := tin2 123 rfl
theorem wf_X0_38 : Cond.fieldLink RX0 38 (TX0 7).1 (TX0 7).2.1 (TX0 7).2.2.1 ∈ lw_tbl := tin2 129 rfl
theorem wf_X0_49 : Cond.fieldLink RX0 49 (TX0 8).1 (TX0 8).2.1 (TX0 8).2.2.1 ∈ lw_tbl := tin2 131 rfl
theorem wf_X1_9 : Cond.fieldLink RX1 9 (TX1 0).1 (TX1 0).2.1 (TX1 0).2.2.1 ∈ lw_tbl := tin1 36 rfl
theorem wf_X1_15 : Cond.fieldLink RX1 15 (TX1 1).1 (TX1 1).2.1 (TX1 1).2.2.1 ∈ lw_tbl := tin1 38 rfl
theorem wf_X2_9 : Cond.fieldLink RX2 9 (TX2 0).1 (TX2 0).2.1 (TX2 0).2.2.1 ∈ lw_tbl := tin1 117 rfl
theorem wf_X2_15 : Cond.fieldLink RX2 15 (TX2 1).1 (TX2 1).2.1 (TX2 1).2.2.1 ∈ lw_tbl := tin1 119 rfl
theorem wf_X2_18 : Cond.fieldLink RX2 18 (TX2 2).1 (TX2 2).2.1 (TX2 2).2.2.1 ∈ lw_tbl := tin1 121 rfl
theorem wf_X2_21 : Cond.fieldLink RX2 21 (TX2 3).1 (TX2 3).2.1 (TX2 3).2.2.1 ∈ lw_tbl := tin1 123 rfl
theorem wf_X2_26 : Cond.fieldLink RX2 26 (TX2 4).1 (TX2 4).2.1 (TX2 4).2.2.1 ∈ lw_tbl := tin1 124 rfl
theorem wf_X2_29 : Cond.fieldLink RX2 29 (TX2 5).1 (TX2 5).2.1 (TX2 5).2.2.1 ∈ lw_tbl := tin1 125 rfl
theorem wf_X2_37 : Cond.fieldLink RX2 37 (TX2 6).1 (TX2 6).2.1 (TX2 6).2.2.1 ∈ lw_tbl := tin1 127 rfl
theorem wf_X3_7 : Cond.fieldLink RX3 7 (TX3 3).1 (TX3 3).2.1 (TX3 3).2.2.1 ∈ lw_tbl := tin1 58 rfl
theorem wf_X3_13 : Cond.fieldLink RX3 13 (TX3 0).1 (TX3 0).2.1 (TX3 0).2.2.1 ∈ lw_tbl := tin1 53 rfl
theorem wf_X3_17 : Cond.fieldLink RX3 17 (TX3 1).1 (TX3 1).2.1 (TX3 1).2.2.1 ∈ lw_tbl := tin1 55 rfl
theorem wf_X3_20 : Cond.fieldLink RX3 20 (TX3 2).1 (TX3 2).2.1 (TX3 2).2.2.1 ∈ lw_tbl := tin1 57 rfl
theorem wf_X4_9 : Cond.fieldLink RX4 9 (TX4 0).1 (TX4 0).2.1 (TX4 0).2.2.1 ∈ lw_tbl := tin2 81 rfl
theorem wf_X4_15 : Cond.fieldLink RX4 15 (TX4 1).1 (TX4 1).2.1 (TX4 1).2.2.1 ∈ lw_tbl := tin2 82 rfl
theorem wf_X4_18 : Cond.fieldLink RX4 18 (TX4 3).1 (TX4 3).2.1 (TX4 3).2.2.1 ∈ lw_tbl := tin2 84 rfl
theorem wf_X4_22 : Cond.fieldLink RX4 22 (TX4 2).1 (TX4 2).2.1 (TX4 2).2.2.1 ∈ lw_tbl := tin2 83 rfl
theorem wf_X4_29 : Cond.fieldLink RX4 29 (TX4 4).1 (TX4 4).2.1 (TX4 4).2.2.1 ∈ lw_tbl := tin2 86 rfl
theorem wf_X5_11 : Cond.fieldLink RX5 11 (TX5 0).1 (TX5 0).2.1 (TX5 0).2.2.1 ∈ lw_tbl := tin1 25 rfl
theorem wf_X6_10 : Cond.fieldLink RX6 10 (TX6 0).1 (TX6 0).2.1 (TX6 0).2.2.1 ∈ lw_tbl := tin1 72 rfl
theorem wf_X6_19 : Cond.fieldLink RX6 19 (TX6 1).1 (TX6 1).2.1 (TX6 1).2.2.1 ∈ lw_tbl := tin1 73 rfl
theorem wf_X6_25 : Cond.fieldLink RX6 25 (TX6 2).1 (TX6 2).2.1 (TX6 2).2.2.1 ∈ lw_tbl := tin1 74 rfl
theorem wf_X6_32 : Cond.fieldLink RX6 32 (TX6 4).1 (TX6 4).2.1 (TX6 4).2.2.1 ∈ lw_tbl := tin1 76 rfl
theorem wf_X6_36 : Cond.fieldLink RX6 36 (TX6 5).1 (TX6 5).2.1 (TX6 5).2.2.1 ∈ lw_tbl := tin1 77 rfl
theorem wf_X6_41 : Cond.fieldLink RX6 41 (TX6 6).1 (TX6 6).2.1 (TX6 6).2.2.1 ∈ lw_tbl := tin1 78 rfl
theorem wf_X6_47 : Cond.fieldLink RX6 47 (TX6 8).1 (TX6 8).2.1 (TX6 8).2.2.1 ∈ lw_tbl := tin1 80 rfl
theorem wf_X6_51 : Cond.fieldLink RX6 51 (TX6 10).1 (TX6 10).2.1 (TX6 10).2.2.1 ∈ lw_tbl := tin1 82 rfl
theorem wf_X6_55 : Cond.fieldLink RX6 55 (TX6 3).1 (TX6 3).2.1 (TX6 3).2.2.1 ∈ lw_tbl := tin1 75 rfl
theorem wf_X6_68 : Cond.fieldLinkNest RX6 68 (TX2 5).1 (TX2 5).2.1 (TX2 5).2.2.1 "SamplingDesk" ∈ lw_tbl := tin1 126 rfl
theorem wf_X6_75 : Cond.fieldLinkNest RX6 75 (TX2 0).1 (TX2 0).2.1 (TX2 0).2.2.1 "SamplingDesk" ∈ lw_tbl := tin1 118 rfl
theorem wf_X6_78 : Cond.fieldLinkNest RX6 78 (TX2 1).1 (TX2 1).2.1 (TX2 1).2.2.1 "SamplingDesk" ∈ lw_tbl := tin1 120 rfl
theorem wf_X6_81 : Cond.fieldLinkNest RX6 81 (TX2 2).1 (TX2 2).2.1 (TX2 2).2.2.1 "SamplingDesk" ∈ lw_tbl := tin1 122 rfl
theorem wf_X6_100 : Cond.fieldLinkNest RX6 100 (TX1 0).1 (TX1 0).2.1 (TX1 0).2.2.1 "SamplingDesk" ∈ lw_tbl := tin1 37 rfl
theorem wf_X6_104 : Cond.fieldLinkNest RX6 104 (TX1 1).1 (TX1 1).2.1 (TX1 1).2.2.1 "SamplingDesk" ∈ lw_tbl := tin1 39 rfl
theorem wf_X6_117 : Cond.fieldLinkNest RX6 117 (TX2 6).1 (TX2 6).2.1 (TX2 6).2.2.1 "SamplingDesk" ∈ lw_tbl := tin1 128 rfl
theorem wf_X6_138 : Cond.fieldLinkNest RX6 138 (TX3 0).1 (TX3 0).2.1 (TX3 0).2.2.1 "SamplingDesk" ∈ lw_tbl := tin1 54 rfl
theorem wf_X6_154 : Cond.fieldLinkNest RX6 154 (TX3 1).1 (TX3 1).2.1 (TX3 1).2.2.1 "SamplingDesk" ∈ lw_tbl := tin1 56 rfl
theorem wf_X6_168 : Cond.fieldLink RX6 168 (TX6 7).1 (TX6 7).2.1 (TX6 7).2.2.1 ∈ lw_tbl := tin1 79 rfl
theorem wf_X6_177 : Cond.fieldLink RX6 177 (TX6 9).1 (TX6 9).2.1 (TX6 9).2.2.1 ∈ lw_tbl := tin1 81 rfl
theorem wf_X6_183 : Cond.fieldLinkNest RX6 183 (TX4 3).1 (TX4 3).2.1 (TX4 3).2.2.1 "SamplingDesk" ∈ lw_tbl := tin2 85 rfl
theorem wf_X6_204 : Cond.fieldLinkNest RX6 204 (TX0 7).1 (TX0 7).2.1 (TX0 7).2.2.1 "SamplingDesk" ∈ lw_tbl := tin2 130 rfl
theorem wf_X6_213 : Cond.fieldLinkNest RX6 213 (TX0 5).1 (TX0 5).2.1 (TX0 5).2.2.1 "SamplingDesk" ∈ lw_tbl := tin2 126 rfl
theorem wf_X6_219 : Cond.fieldLinkNest RX6 219 (TX0 9).1 (TX0 9).2.1 (TX0 9).2.2.1 "SamplingDesk" ∈ lw_tbl := tin2 134 rfl
theorem wf_X6_225 : Cond.fieldLinkNest RX6 225 (TX0 8).1 (TX0 8).2.1 (TX0 8).2.2.1 "SamplingDesk" ∈ lw_tbl := tin2 132 rfl
theorem wf_X6_228 : Cond.fieldLinkNest RX6 228 (TX0 3).1 (TX0 3).2.1 (TX0 3).2.2.1 "SamplingDesk" ∈ lw_tbl := tin2 122 rfl
theorem wf_X6_231 : Cond.fieldLinkNest RX6 231 (TX0 1).1 (TX0 1).2.1 (TX0 1).2.2.1 "SamplingDesk" ∈ lw_tbl := tin2 119 rfl
theorem wf_X6_234 : Cond.fieldLinkNest RX6 234 (TX0 4).1 (TX0 4).2.1 (TX0 4).2.2.1 "SamplingDesk" ∈ lw_tbl := tin2 124 rfl
theorem wf_X6_244 : Cond.fieldLinkNest RX6 244 (TX0 0).1 (TX0 0).2.1 (TX0 0).2.2.1 "SamplingDesk" ∈ lw_tbl := tin2 117 rfl
theorem wf_X6_251 : Cond.fieldLinkNest RX6 251 (TX4 4).1 (TX4 4).2.1 (TX4 4).2.2.1 "SamplingDesk" ∈ lw_tbl := tin2 87 rfl
theorem wf_X6_264 : Cond.fieldLinkNest RX6 264 (TX0 6).1 (TX0 6).2.1 (TX0 6).2.2.1 "SamplingDesk" ∈ lw_tbl := tin2 128 rfl
theorem wf_X7_7 : Cond.fieldLink RX7 7 (TX7 3).1 (TX7 3).2.1 (TX7 3).2.2.1 ∈ lw_tbl := tin3 44 rfl
theorem wf_X7_13 : Cond.fieldLink RX7 13 (TX7 4).1 (TX7 4).2.1 (TX7 4).2.2.1 ∈ lw_tbl := tin3 45 rfl
theorem wf_X7_16 : Cond.fieldLink RX7 16 (TX7 5).1 (TX7 5).2.1 (TX7 5).2.2.1 ∈ lw_tbl := tin3 46 rfl
theorem wf_X7_19 : Cond.fieldLink RX7 19 (TX7 6).1 (TX7 6).2.1 (TX7 6).2.2.1 ∈ lw_tbl := tin3 47 rfl
theorem wf_X7_22 : Cond.fieldLink RX7 22 (TX7 8).1 (TX7 8).2.1 (TX7 8).2.2.1 ∈ lw_tbl := tin3 49 rfl
theorem wf_X7_26 : Cond.fieldLink RX7 26 (TX7 9).1 (TX7 9).2.1 (TX7 9).2.2.1 ∈ lw_tbl := tin3 50 rfl
theorem wf_X7_30 : Cond.fieldLink RX7 30 (TX7 10).1 (TX7 10).2.1 (TX7 10).2.2.1 ∈ lw_tbl := tin3 51 rfl
theorem wf_X7_33 : Cond.fieldLink RX7 33 (TX7 11).1 (TX7 11).2.1 (TX7 11).2.2.1 ∈ lw_tbl := tin3 52 rfl
theorem wf_X7_36 : Cond.fieldLink RX7 36 (TX7 12).1 (TX7 12).2.1 (TX7 12).2.2.1 ∈ lw_tbl := tin3 53 rfl
theorem wf_X7_39 : Cond.fieldLink RX7 39 (TX7 13).1 (TX7 13).2.1 (TX7 13).2.2.1 ∈ lw_tbl := tin3 54 rfl
theorem wf_X7_43 : Cond.fieldLink RX7 43 (TX7 14).1 (TX7 14).2.1 (TX7 14).2.2.1 ∈ lw_tbl := tin3 55 rfl
theorem wf_X7_46 : Cond.fieldLink RX7 46 (TX7 15).1 (TX7 15).2.1 (TX7 15).2.2.1 ∈ lw_tbl := tin3 56 rfl
theorem wf_X7_49 : Cond.fieldLink RX7 49 (TX7 16).1 (TX7 16).2.1 (TX7 16).2.2.1 ∈ lw_tbl := tin3 57 rfl
theorem wf_X7_52 : Cond.fieldLink RX7 52 (TX7 17).1 (TX7 17).2.1 (TX7 17).2.2.1 ∈ lw_tbl := tin3 58 rfl
theorem wf_X7_55 : Cond.fieldLink RX7 55 (TX7 18).1 (TX7 18).2.1 (TX7 18).2.2.1 ∈ lw_tbl := tin3 59 rfl
theorem wf_X7_58 : Cond.fieldLink RX7 58 (TX7 19).1 (TX7 19).2.1 (TX7 19).2.2.1 ∈ lw_tbl := tin3 60 rfl
theorem wf_X7_61 : Cond.fieldLink RX7 61 (TX7 20).1 (TX7 20).2.1 (TX7 20).2.2.1 ∈ lw_tbl := tin3 61 rfl
theorem wf_X7_64 : Cond.fieldLink RX7 64 (TX7 21).1 (TX7 21).2.1 (TX7 21).2.2.1 ∈ lw_tbl := tin3 62 rfl
theorem wf_X7_67 : Cond.fieldLink RX7 67 (TX7 22).1 (TX7 22).2.1 (TX7 22).2.2.1 ∈ lw_tbl := tin3 63 rfl
theorem wf_X7_70 : Cond.fieldLink RX7 70 (TX7 23).1 (TX7 23).2.1 (TX7 23).2.2.1 ∈ lw_tbl := tin3 64 rfl
theorem wf_X7_73 : Cond.fieldLink RX7 73 (TX7 24).1 (TX7 24).2.1 (TX7 24).2.2.1 ∈ lw_tbl := tin3 65 rfl
theorem wf_X7_76 : Cond.fieldLink RX7 76 (TX7 25).1 (TX7 25).2.1 (TX7 25).2.2.1 ∈ lw_tbl := tin3 66 rfl
theorem wf_X7_79 : Cond.fieldLink RX7 79 (TX7 26).1 (TX7 26).2.1 (TX7 26).2.2.1 ∈ lw_tbl := tin3 67 rfl
theorem wf_X7_82 : Cond.fieldLink RX7 82 (TX7 27).1 (TX7 27).2.1 (TX7 27).2.2.1 ∈ lw_tbl := tin3 68 rfl
theorem wf_X7_85 : Cond.fieldLink RX7 85 (TX7 35).1 (TX7 35).2.1 (TX7 35).2.2.1 ∈ lw_tbl := tin3 76 rfl
theorem wf_X7_88 : Cond.fieldLink RX7 88 (TX7 36).1 (TX7 36).2.1 (TX7 36).2.2.1 ∈ lw_tbl := tin3 77 rfl
theorem wf_X7_91 : Cond.fieldLink RX7 91 (TX7 0).1 (TX7 0).2.1 (TX7 0).2.2.1 ∈ lw_tbl := tin3 41 rfl
theorem wf_X7_114 : Cond.fieldLink RX7 114 (TX7 28).1 (TX7 28).2.1 (TX7 28).2.2.1 ∈ lw_tbl := tin3 69 rfl
theorem wf_X7_117 : Cond.fieldLink RX7 117 (TX7 29).1 (TX7 29).2.1 (TX7 29).2.2.1 ∈ lw_tbl := tin3 70 rfl
theorem wf_X7_120 : Cond.fieldLink RX7 120 (TX7 30).1 (TX7 30).2.1 (TX7 30).2.2.1 ∈ lw_tbl := tin3 71 rfl
theorem wf_X7_139 : Cond.fieldLink RX7 139 (TX7 7).1 (TX7 7).2.1 (TX7 7).2.2.1 ∈ lw_tbl := tin3 48 rfl
theorem wf_X7_168 : Cond.fieldLink RX7 168 (TX7 1).1 (TX7 1).2.1 (TX7 1).2.2.1 ∈ lw_tbl := tin3 42 rfl
theorem wf_X7_171 : Cond.fieldLink RX7 171 (TX7 2).1 (TX7 2).2.1 (TX7 2).2.2.1 ∈ lw_tbl := tin3 43 rfl
theorem wf_X7_177 : Cond.fieldLink RX7 177 (TX7 31).1 (TX7 31).2.1 (TX7 31).2.2.1 ∈ lw_tbl := tin3 72 rfl
theorem wf_X7_180 : Cond.fieldLink RX7 180 (TX7 32).1 (TX7 32).2.1 (TX7 32).2.2.1 ∈ lw_tbl := tin3 73 rfl
theorem wf_X7_183 : Cond.fieldLink RX7 183 (TX7 33).1 (TX7 33).2.1 (TX7 33).2.2.1 ∈ lw_tbl := tin3 74 rfl
theorem wf_X7_186 : Cond.fieldLink RX7 186 (TX7 34).1 (TX7 34).2.1 (TX7 34).2.2.1 ∈ lw_tbl := tin3 75 rfl
theorem mw_X0_cents : mWv yX0_cents cX0_cents 5 (some .long) 1 := ⟨⟨tin3 22 rfl, tin1 8 rfl, by decide +kernel⟩, tin3 20 rfl, tin3 21 rfl⟩
theorem mw_X0_defects : mWv yX0_defects cX0_defects 1 (some .int) 0 := ⟨⟨tin2 179 rfl, tin1 8 rfl, by decide +kernel⟩, tin2 177 rfl, tin2 178 rfl⟩
theorem mw_X0_hasItem : mWv yX0_hasItem cX0_hasItem 2 (some .boolean) 1 := ⟨⟨tin2 222 rfl, tin1 8 rfl, by decide +kernel⟩, tin2 220 rfl, tin2 221 rfl⟩
theorem mw_X0_init : mWd yX0_init cX0_init 6 none 5 ∧ Cond.instanceMethod yX0_init ∈ lw_tbl := ⟨⟨tin2 114 rfl, tin1 8 rfl, by decide +kernel⟩, tin2 113 rfl⟩
theorem mw_X0_leastFurther : mWv yX0_leastFurther cX0_leastFurther 5 (some .int) 0 := ⟨⟨tin2 235 rfl, tin1 8 rfl, by decide +kernel⟩, tin2 233 rfl, tin2 234 rfl⟩
theorem mw_X0_see : mWv yX0_see cX0_see 3 none 1 := ⟨⟨tin2 174 rfl, tin1 8 rfl, by decide +kernel⟩, tin2 172 rfl, tin2 173 rfl⟩
theorem mw_X0_seeAgain : mWv yX0_seeAgain cX0_seeAgain 3 none 1 := ⟨⟨tin2 213 rfl, tin1 8 rfl, by decide +kernel⟩, tin2 211 rfl, tin2 212 rfl⟩
theorem mw_X1_become : mWv yX1_become cX1_become 7 none 2 := ⟨⟨tin1 221 rfl, tin1 3 rfl, by decide +kernel⟩, tin1 219 rfl, tin1 220 rfl⟩
theorem mw_X1_commonDivisor : mWs yX1_commonDivisor cX1_commonDivisor 11 (some .long) 2 := ⟨⟨tin1 224 rfl, tin1 3 rfl, by decide +kernel⟩, tin1 223 rfl⟩
theorem mw_X1_init : mWd yX1_init cX1_init 1 none 0 ∧ Cond.instanceMethod yX1_init ∈ lw_tbl := ⟨⟨tin1 34 rfl, tin1 3 rfl, by decide +kernel⟩, tin1 33 rfl⟩
theorem mw_X1_scaled : mWv yX1_scaled cX1_scaled 10 (some .long) 1 := ⟨⟨tin2 1 rfl, tin1 3 rfl, by decide +kernel⟩, tin1 239 rfl, tin2 0 rfl⟩
theorem mw_X2_admits : mWv yX2_admits cX2_admits 4 (some .boolean) 3 := ⟨⟨tin1 159 rfl, tin1 6 rfl, by decide +kernel⟩, tin1 158 rfl, List.mem_append_left _ (by decide +kernel)⟩
theorem mw_X2_append : mWv yX2_append cX2_append 11 (some .boolean) 4 := ⟨⟨tin1 155 rfl, tin1 6 rfl, by decide +kernel⟩, tin1 153 rfl, tin1 154 rfl⟩
theorem mw_X2_hasStage : mWv yX2_hasStage cX2_hasStage 2 (some .boolean) 1 := ⟨⟨tin1 167 rfl, tin1 6 rfl, by decide +kernel⟩, tin1 165 rfl, tin1 166 rfl⟩
theorem mw_X2_init : mWd yX2_init cX2_init 1 none 0 ∧ Cond.instanceMethod yX2_init ∈ lw_tbl := ⟨⟨tin1 114 rfl, tin1 6 rfl, by decide +kernel⟩, tin1 113 rfl⟩
theorem mw_X2_isDecidedAt : mWv yX2_isDecidedAt cX2_isDecidedAt 3 (some .boolean) 2 := ⟨⟨tin1 175 rfl, tin1 6 rfl, by decide +kernel⟩, tin1 174 rfl, List.mem_append_left _ (by decide +kernel)⟩
theorem mw_X2_isEndOf : mWv yX2_isEndOf cX2_isEndOf 3 (some .boolean) 2 := ⟨⟨tin2 184 rfl, tin1 6 rfl, by decide +kernel⟩, tin2 182 rfl, tin2 183 rfl⟩
theorem mw_X2_isRefusedAt : mWv yX2_isRefusedAt cX2_isRefusedAt 3 (some .boolean) 2 := ⟨⟨tin1 183 rfl, tin1 6 rfl, by decide +kernel⟩, tin1 181 rfl, tin1 182 rfl⟩
theorem mw_X2_isTakenAt : mWv yX2_isTakenAt cX2_isTakenAt 3 (some .boolean) 2 := ⟨⟨tin1 179 rfl, tin1 6 rfl, by decide +kernel⟩, tin1 177 rfl, tin1 178 rfl⟩
theorem mw_X2_openWays : mWv yX2_openWays cX2_openWays 3 (some .long) 2 := ⟨⟨tin1 171 rfl, tin1 6 rfl, by decide +kernel⟩, tin1 170 rfl, List.mem_append_left _ (by decide +kernel)⟩
theorem mw_X2_sumOverOrders : mWv yX2_sumOverOrders cX2_sumOverOrders 9 (some .long) 4 := ⟨⟨tin1 213 rfl, tin1 6 rfl, by decide +kernel⟩, tin1 211 rfl, tin1 212 rfl⟩
theorem mw_X2_total : mWv yX2_total cX2_total 1 (some .int) 0 := ⟨⟨tin1 163 rfl, tin1 6 rfl, by decide +kernel⟩, tin1 161 rfl, tin1 162 rfl⟩
theorem mw_X2_weight : mWv yX2_weight cX2_weight 5 (some .long) 4 := ⟨⟨tin1 217 rfl, tin1 6 rfl, by decide +kernel⟩, tin1 216 rfl, List.mem_append_left _ (by decide +kernel)⟩
theorem mw_X3_against : mWv yX3_against cX3_against 9 (some .int) 2 := ⟨⟨tin2 63 rfl, tin1 4 rfl, by decide +kernel⟩, tin2 62 rfl, List.mem_append_left _ (by decide +kernel)⟩
theorem mw_X3_fits : mWv yX3_fits cX3_fits 2 (some .boolean) 1 := ⟨⟨tin2 43 rfl, tin1 4 rfl, by decide +kernel⟩, tin2 41 rfl, tin2 42 rfl⟩
theorem mw_X3_init : mWd yX3_init cX3_init 1 none 0 ∧ Cond.instanceMethod yX3_init ∈ lw_tbl := ⟨⟨tin1 51 rfl, tin1 4 rfl, by decide +kernel⟩, tin1 50 rfl⟩
theorem mw_X3_isKept : mWv yX3_isKept cX3_isKept 5 (some .boolean) 2 := ⟨⟨tin2 67 rfl, tin1 4 rfl, by decide +kernel⟩, tin2 65 rfl, tin2 66 rfl⟩
theorem mw_X3_isReached : mWv yX3_isReached cX3_isReached 5 (some .boolean) 2 := ⟨⟨tin2 59 rfl, tin1 4 rfl, by decide +kernel⟩, tin2 57 rfl, tin2 58 rfl⟩
theorem mw_X3_tell : mWv yX3_tell cX3_tell 4 none 3 := ⟨⟨tin2 23 rfl, tin1 4 rfl, by decide +kernel⟩, tin2 21 rfl, tin2 22 rfl⟩
theorem mw_X4_amongLatest : mWv yX4_amongLatest cX4_amongLatest 5 (some .int) 2 := ⟨⟨tin2 201 rfl, tin1 7 rfl, by decide +kernel⟩, tin2 200 rfl, List.mem_append_left _ (by decide +kernel)⟩
theorem mw_X4_init : mWd yX4_init cX4_init 4 none 3 ∧ Cond.instanceMethod yX4_init ∈ lw_tbl := ⟨⟨tin2 79 rfl, tin1 7 rfl, by decide +kernel⟩, tin2 78 rfl⟩
theorem mw_X4_latest : mWv yX4_latest cX4_latest 2 (some .int) 1 := ⟨⟨tin2 205 rfl, tin1 7 rfl, by decide +kernel⟩, tin2 203 rfl, tin2 204 rfl⟩
theorem mw_X4_nextRule : mWv yX4_nextRule cX4_nextRule 1 (some .int) 0 := ⟨⟨tin2 197 rfl, tin1 7 rfl, by decide +kernel⟩, tin2 196 rfl, List.mem_append_left _ (by decide +kernel)⟩
theorem mw_X4_planNow : mWv yX4_planNow cX4_planNow 1 (some .int) 0 := ⟨⟨tin2 110 rfl, tin1 7 rfl, by decide +kernel⟩, tin2 108 rfl, tin2 109 rfl⟩
theorem mw_X4_receive : mWv yX4_receive cX4_receive 3 none 1 := ⟨⟨tin2 193 rfl, tin1 7 rfl, by decide +kernel⟩, tin2 191 rfl, tin2 192 rfl⟩
theorem mw_X5_choose : mWv yX5_choose cX5_choose 3 (some .long) 2 := ⟨⟨tin1 187 rfl, tin1 2 rfl, by decide +kernel⟩, tin1 185 rfl, tin1 186 rfl⟩
theorem mw_X5_init : mWd yX5_init cX5_init 3 none 0 ∧ Cond.instanceMethod yX5_init ∈ lw_tbl := ⟨⟨tin1 21 rfl, tin1 2 rfl, by decide +kernel⟩, tin1 20 rfl⟩
theorem mw_X6_about : mWv yX6_about cX6_about 4 (some .int) 2 := ⟨⟨tin2 226 rfl, tin1 1 rfl, by decide +kernel⟩, tin2 224 rfl, tin2 225 rfl⟩
theorem mw_X6_canSearch : mWv yX6_canSearch cX6_canSearch 2 (some .boolean) 1 := ⟨⟨tin2 39 rfl, tin1 1 rfl, by decide +kernel⟩, tin2 38 rfl, List.mem_append_left _ (by decide +kernel)⟩
theorem mw_X6_closedPlanAt : mWv yX6_closedPlanAt cX6_closedPlanAt 3 (some (.object "SamplingDesk$Plan")) 1 := ⟨⟨tin1 204 rfl, tin1 1 rfl, by decide +kernel⟩, tin1 203 rfl, List.mem_append_left _ (by decide +kernel)⟩
theorem mw_X6_closedPlans : mWv yX6_closedPlans cX6_closedPlans 3 (some .int) 0 := ⟨⟨tin3 30 rfl, tin1 1 rfl, by decide +kernel⟩, tin3 29 rfl, List.mem_append_left _ (by decide +kernel)⟩
theorem mw_X6_compare : mWv yX6_compare cX6_compare 7 (some .int) 4 := ⟨⟨tin2 7 rfl, tin1 1 rfl, by decide +kernel⟩, tin2 5 rfl, tin2 6 rfl⟩
theorem mw_X6_correct : mWv yX6_correct cX6_correct 5 (some .int) 3 := ⟨⟨tin2 218 rfl, tin1 1 rfl, by decide +kernel⟩, tin2 216 rfl, tin2 217 rfl⟩
theorem mw_X6_cost : mWv yX6_cost cX6_cost 4 (some .int) 2 := ⟨⟨tin3 9 rfl, tin1 1 rfl, by decide +kernel⟩, tin3 7 rfl, tin3 8 rfl⟩
theorem mw_X6_count : mWv yX6_count cX6_count 2 (some .int) 1 := ⟨⟨tin3 26 rfl, tin1 1 rfl, by decide +kernel⟩, tin3 24 rfl, tin3 25 rfl⟩
theorem mw_X6_crossing : mWv yX6_crossing cX6_crossing 11 (some .int) 4 := ⟨⟨tin2 15 rfl, tin1 1 rfl, by decide +kernel⟩, tin2 13 rfl, tin2 14 rfl⟩
theorem mw_X6_decidedLots : mWv yX6_decidedLots cX6_decidedLots 3 (some .int) 0 := ⟨⟨tin3 34 rfl, tin1 1 rfl, by decide +kernel⟩, tin3 33 rfl, List.mem_append_left _ (by decide +kernel)⟩
theorem mw_X6_down : mWv yX6_down cX6_down 1 (some .long) 0 := ⟨⟨tin1 232 rfl, tin1 1 rfl, by decide +kernel⟩, tin1 230 rfl, tin1 231 rfl⟩
theorem mw_X6_forget : mWv yX6_forget cX6_forget 2 (some .int) 0 := ⟨⟨tin2 27 rfl, tin1 1 rfl, by decide +kernel⟩, tin2 25 rfl, tin2 26 rfl⟩
theorem mw_X6_init : mWd yX6_init cX6_init 1 none 0 ∧ Cond.instanceMethod yX6_init ∈ lw_tbl := ⟨⟨tin1 13 rfl, tin1 1 rfl, by decide +kernel⟩, tin1 12 rfl⟩
theorem mw_X6_isClass : mWs yX6_isClass cX6_isClass 1 (some .boolean) 1 := ⟨⟨tin2 170 rfl, tin1 1 rfl, by decide +kernel⟩, tin2 169 rfl⟩
theorem mw_X6_isLotSize : mWs yX6_isLotSize cX6_isLotSize 1 (some .boolean) 1 := ⟨⟨tin1 207 rfl, tin1 1 rfl, by decide +kernel⟩, tin1 206 rfl⟩
theorem mw_X6_item : mWv yX6_item cX6_item 4 (some .int) 2 := ⟨⟨tin2 159 rfl, tin1 1 rfl, by decide +kernel⟩, tin2 157 rfl, tin2 158 rfl⟩
theorem mw_X6_leastAccept : mWv yX6_leastAccept cX6_leastAccept 12 (some .int) 2 := ⟨⟨tin2 51 rfl, tin1 1 rfl, by decide +kernel⟩, tin2 50 rfl, List.mem_append_left _ (by decide +kernel)⟩
theorem mw_X6_lot : mWv yX6_lot cX6_lot 5 (some .int) 2 := ⟨⟨tin2 102 rfl, tin1 1 rfl, by decide +kernel⟩, tin2 100 rfl, tin2 101 rfl⟩
theorem mw_X6_lotAt : mWv yX6_lotAt cX6_lotAt 2 (some (.object "SamplingDesk$Lot")) 1 := ⟨⟨tin2 167 rfl, tin1 1 rfl, by decide +kernel⟩, tin2 166 rfl, List.mem_append_left _ (by decide +kernel)⟩
theorem mw_X6_minimal : mWv yX6_minimal cX6_minimal 3 (some .int) 2 := ⟨⟨tin2 71 rfl, tin1 1 rfl, by decide +kernel⟩, tin2 69 rfl, tin2 70 rfl⟩
theorem mw_X6_minimalPlan : mWv yX6_minimalPlan cX6_minimalPlan 7 (some .int) 2 := ⟨⟨tin2 47 rfl, tin1 1 rfl, by decide +kernel⟩, tin2 46 rfl, List.mem_append_left _ (by decide +kernel)⟩
theorem mw_X6_needed : mWv yX6_needed cX6_needed 3 (some .int) 1 := ⟨⟨tin2 231 rfl, tin1 1 rfl, by decide +kernel⟩, tin2 229 rfl, tin2 230 rfl⟩
theorem mw_X6_of : mWv yX6_of cX6_of 5 (some .int) 3 := ⟨⟨tin1 191 rfl, tin1 1 rfl, by decide +kernel⟩, tin1 189 rfl, tin1 190 rfl⟩
theorem mw_X6_openLotAt : mWv yX6_openLotAt cX6_openLotAt 3 (some (.object "SamplingDesk$Lot")) 1 := ⟨⟨tin2 163 rfl, tin1 1 rfl, by decide +kernel⟩, tin2 162 rfl, List.mem_append_left _ (by decide +kernel)⟩
theorem mw_X6_ordersWith : mWv yX6_ordersWith cX6_ordersWith 5 (some .long) 4 := ⟨⟨tin2 55 rfl, tin1 1 rfl, by decide +kernel⟩, tin2 54 rfl, List.mem_append_left _ (by decide +kernel)⟩
theorem mw_X6_part : mWv yX6_part cX6_part 10 (some .int) 4 := ⟨⟨tin1 196 rfl, tin1 1 rfl, by decide +kernel⟩, tin1 194 rfl, tin1 195 rfl⟩
theorem mw_X6_plan : mWv yX6_plan cX6_plan 1 (some .int) 0 := ⟨⟨tin1 110 rfl, tin1 1 rfl, by decide +kernel⟩, tin1 108 rfl, tin1 109 rfl⟩
theorem mw_X6_planAt : mWv yX6_planAt cX6_planAt 2 (some (.object "SamplingDesk$Plan")) 1 := ⟨⟨tin1 151 rfl, tin1 1 rfl, by decide +kernel⟩, tin1 150 rfl, List.mem_append_left _ (by decide +kernel)⟩
theorem mw_X6_planForLot : mWv yX6_planForLot cX6_planForLot 4 (some (.object "SamplingDesk$Plan")) 2 := ⟨⟨tin1 200 rfl, tin1 1 rfl, by decide +kernel⟩, tin1 199 rfl, List.mem_append_left _ (by decide +kernel)⟩
theorem mw_X6_risk : mWv yX6_risk cX6_risk 6 (some .int) 4 := ⟨⟨tin2 19 rfl, tin1 1 rfl, by decide +kernel⟩, tin2 17 rfl, tin2 18 rfl⟩
theorem mw_X6_risksTold : mWv yX6_risksTold cX6_risksTold 1 (some .int) 0 := ⟨⟨tin2 31 rfl, tin1 1 rfl, by decide +kernel⟩, tin2 30 rfl, List.mem_append_left _ (by decide +kernel)⟩
theorem mw_X6_rounded : mWv yX6_rounded cX6_rounded 2 (some .long) 1 := ⟨⟨tin1 236 rfl, tin1 1 rfl, by decide +kernel⟩, tin1 234 rfl, tin1 235 rfl⟩
theorem mw_X6_rule : mWv yX6_rule cX6_rule 3 (some .int) 1 := ⟨⟨tin3 0 rfl, tin1 1 rfl, by decide +kernel⟩, tin2 238 rfl, tin2 239 rfl⟩
theorem mw_X6_run : mWv yX6_run cX6_run 4 (some .int) 2 := ⟨⟨tin3 4 rfl, tin1 1 rfl, by decide +kernel⟩, tin3 2 rfl, tin3 3 rfl⟩
theorem mw_X6_score : mWv yX6_score cX6_score 8 (some .long) 2 := ⟨⟨tin3 14 rfl, tin1 1 rfl, by decide +kernel⟩, tin3 12 rfl, tin3 13 rfl⟩
theorem mw_X6_scoreOfLot : mWv yX6_scoreOfLot cX6_scoreOfLot 3 (some .long) 2 := ⟨⟨tin3 18 rfl, tin1 1 rfl, by decide +kernel⟩, tin3 17 rfl, List.mem_append_left _ (by decide +kernel)⟩
theorem mw_X6_search : mWv yX6_search cX6_search 2 (some .int) 1 := ⟨⟨tin2 35 rfl, tin1 1 rfl, by decide +kernel⟩, tin2 33 rfl, tin2 34 rfl⟩
theorem mw_X6_settle : mWv yX6_settle cX6_settle 3 (some .int) 1 := ⟨⟨tin2 189 rfl, tin1 1 rfl, by decide +kernel⟩, tin2 188 rfl, List.mem_append_left _ (by decide +kernel)⟩
theorem mw_X6_signOfTaken : mWv yX6_signOfTaken cX6_signOfTaken 9 (some .int) 4 := ⟨⟨tin2 11 rfl, tin1 1 rfl, by decide +kernel⟩, tin2 10 rfl, List.mem_append_left _ (by decide +kernel)⟩
theorem mw_X6_stage : mWv yX6_stage cX6_stage 6 (some .int) 4 := ⟨⟨tin1 147 rfl, tin1 1 rfl, by decide +kernel⟩, tin1 145 rfl, tin1 146 rfl⟩
theorem mw_X6_supplier : mWv yX6_supplier cX6_supplier 4 (some .int) 3 := ⟨⟨tin2 75 rfl, tin1 1 rfl, by decide +kernel⟩, tin2 73 rfl, tin2 74 rfl⟩
theorem mw_X6_supplierAt : mWv yX6_supplierAt cX6_supplierAt 2 (some (.object "SamplingDesk$Supplier")) 1 := ⟨⟨tin2 106 rfl, tin1 1 rfl, by decide +kernel⟩, tin2 105 rfl, List.mem_append_left _ (by decide +kernel)⟩
theorem mw_X6_undo : mWv yX6_undo cX6_undo 3 (some .int) 1 := ⟨⟨tin2 209 rfl, tin1 1 rfl, by decide +kernel⟩, tin2 207 rfl, tin2 208 rfl⟩
theorem mw_X6_up : mWv yX6_up cX6_up 1 (some .long) 0 := ⟨⟨tin1 228 rfl, tin1 1 rfl, by decide +kernel⟩, tin1 226 rfl, tin1 227 rfl⟩
theorem mw_X7_about : mWv yX7_about cX7_about 3 (some .int) 2 := ⟨⟨tin4 70 rfl, tin1 5 rfl, by decide +kernel⟩, tin4 68 rfl, tin4 69 rfl⟩
theorem mw_X7_against : mWs yX7_against cX7_against 18 (some .int) 4 := ⟨⟨tin4 17 rfl, tin1 5 rfl, by decide +kernel⟩, tin4 16 rfl⟩
theorem mw_X7_all : mWv yX7_all cX7_all 2 (some .int) 1 := ⟨⟨tin3 176 rfl, tin1 5 rfl, by decide +kernel⟩, tin3 175 rfl, List.mem_append_left _ (by decide +kernel)⟩
theorem mw_X7_common : mWs yX7_common cX7_common 10 (some .long) 2 := ⟨⟨tin3 203 rfl, tin1 5 rfl, by decide +kernel⟩, tin3 202 rfl⟩
theorem mw_X7_compare : mWv yX7_compare cX7_compare 5 (some .int) 4 := ⟨⟨tin3 222 rfl, tin1 5 rfl, by decide +kernel⟩, tin3 220 rfl, tin3 221 rfl⟩
theorem mw_X7_compared : mWv yX7_compared cX7_compared 7 (some .int) 4 := ⟨⟨tin3 226 rfl, tin1 5 rfl, by decide +kernel⟩, tin3 225 rfl, List.mem_append_left _ (by decide +kernel)⟩
theorem mw_X7_correct : mWv yX7_correct cX7_correct 4 (some .int) 3 := ⟨⟨tin4 66 rfl, tin1 5 rfl, by decide +kernel⟩, tin4 64 rfl, tin4 65 rfl⟩
theorem mw_X7_cost : mWv yX7_cost cX7_cost 4 (some .int) 2 := ⟨⟨tin4 83 rfl, tin1 5 rfl, by decide +kernel⟩, tin4 81 rfl, tin4 82 rfl⟩
theorem mw_X7_count : mWv yX7_count cX7_count 4 (some .int) 1 := ⟨⟨tin4 92 rfl, tin1 5 rfl, by decide +kernel⟩, tin4 90 rfl, tin4 91 rfl⟩
theorem mw_X7_crossing : mWv yX7_crossing cX7_crossing 7 (some .int) 4 := ⟨⟨tin3 230 rfl, tin1 5 rfl, by decide +kernel⟩, tin3 228 rfl, tin3 229 rfl⟩
theorem mw_X7_down : mWv yX7_down cX7_down 1 (some .long) 0 := ⟨⟨tin3 211 rfl, tin1 5 rfl, by decide +kernel⟩, tin3 209 rfl, tin3 210 rfl⟩
theorem mw_X7_fits : mWv yX7_fits cX7_fits 3 (some .boolean) 2 := ⟨⟨tin3 192 rfl, tin1 5 rfl, by decide +kernel⟩, tin3 191 rfl, List.mem_append_left _ (by decide +kernel)⟩
theorem mw_X7_forget : mWv yX7_forget cX7_forget 2 (some .int) 0 := ⟨⟨tin3 238 rfl, tin1 5 rfl, by decide +kernel⟩, tin3 236 rfl, tin3 237 rfl⟩
theorem mw_X7_go : mWv yX7_go cX7_go 13 none 3 := ⟨⟨tin3 196 rfl, tin1 5 rfl, by decide +kernel⟩, tin3 195 rfl, List.mem_append_left _ (by decide +kernel)⟩
theorem mw_X7_hears : mWv yX7_hears cX7_hears 7 (some .int) 1 := ⟨⟨tin4 54 rfl, tin1 5 rfl, by decide +kernel⟩, tin4 53 rfl, List.mem_append_left _ (by decide +kernel)⟩
theorem mw_X7_holds : mWv yX7_holds cX7_holds 10 (some .boolean) 3 := ⟨⟨tin4 14 rfl, tin1 5 rfl, by decide +kernel⟩, tin4 13 rfl, List.mem_append_left _ (by decide +kernel)⟩
theorem mw_X7_in : mWs yX7_in cX7_in 3 (some .boolean) 3 := ⟨⟨tin3 168 rfl, tin1 5 rfl, by decide +kernel⟩, tin3 167 rfl⟩
theorem mw_X7_init : mWd yX7_init cX7_init 3 none 0 ∧ Cond.instanceMethod yX7_init ∈ lw_tbl := ⟨⟨tin3 39 rfl, tin1 5 rfl, by decide +kernel⟩, tin3 38 rfl⟩
theorem mw_X7_isClosed : mWv yX7_isClosed cX7_isClosed 2 (some .boolean) 1 := ⟨⟨tin3 172 rfl, tin1 5 rfl, by decide +kernel⟩, tin3 171 rfl, List.mem_append_left _ (by decide +kernel)⟩
theorem mw_X7_isLot : mWv yX7_isLot cX7_isLot 2 (some .boolean) 1 := ⟨⟨tin4 46 rfl, tin1 5 rfl, by decide +kernel⟩, tin4 45 rfl, List.mem_append_left _ (by decide +kernel)⟩
theorem mw_X7_isOpen : mWv yX7_isOpen cX7_isOpen 2 (some .boolean) 1 := ⟨⟨tin4 42 rfl, tin1 5 rfl, by decide +kernel⟩, tin4 41 rfl, List.mem_append_left _ (by decide +kernel)⟩
theorem mw_X7_isPlan : mWv yX7_isPlan cX7_isPlan 2 (some .boolean) 1 := ⟨⟨tin3 165 rfl, tin1 5 rfl, by decide +kernel⟩, tin3 164 rfl, List.mem_append_left _ (by decide +kernel)⟩
theorem mw_X7_isSupplier : mWv yX7_isSupplier cX7_isSupplier 2 (some .boolean) 1 := ⟨⟨tin4 34 rfl, tin1 5 rfl, by decide +kernel⟩, tin4 33 rfl, List.mem_append_left _ (by decide +kernel)⟩
theorem mw_X7_item : mWv yX7_item cX7_item 3 (some .int) 2 := ⟨⟨tin4 38 rfl, tin1 5 rfl, by decide +kernel⟩, tin4 36 rfl, tin4 37 rfl⟩
theorem mw_X7_judge : mWv yX7_judge cX7_judge 6 none 1 := ⟨⟨tin4 50 rfl, tin1 5 rfl, by decide +kernel⟩, tin4 49 rfl, List.mem_append_left _ (by decide +kernel)⟩
theorem mw_X7_lot : mWv yX7_lot cX7_lot 3 (some .int) 2 := ⟨⟨tin4 30 rfl, tin1 5 rfl, by decide +kernel⟩, tin4 28 rfl, tin4 29 rfl⟩
theorem mw_X7_maySearch : mWv yX7_maySearch cX7_maySearch 2 (some .boolean) 1 := ⟨⟨tin4 10 rfl, tin1 5 rfl, by decide +kernel⟩, tin4 9 rfl, List.mem_append_left _ (by decide +kernel)⟩
theorem mw_X7_minimal : mWv yX7_minimal cX7_minimal 8 (some .int) 2 := ⟨⟨tin4 22 rfl, tin1 5 rfl, by decide +kernel⟩, tin4 20 rfl, tin4 21 rfl⟩
theorem mw_X7_needed : mWv yX7_needed cX7_needed 8 (some .int) 1 := ⟨⟨tin4 74 rfl, tin1 5 rfl, by decide +kernel⟩, tin4 72 rfl, tin4 73 rfl⟩
theorem mw_X7_of : mWv yX7_of cX7_of 4 (some .int) 3 := ⟨⟨tin3 184 rfl, tin1 5 rfl, by decide +kernel⟩, tin3 182 rfl, tin3 183 rfl⟩
theorem mw_X7_part : mWv yX7_part cX7_part 11 (some .int) 4 := ⟨⟨tin3 188 rfl, tin1 5 rfl, by decide +kernel⟩, tin3 186 rfl, tin3 187 rfl⟩
theorem mw_X7_plan : mWv yX7_plan cX7_plan 1 (some .int) 0 := ⟨⟨tin3 157 rfl, tin1 5 rfl, by decide +kernel⟩, tin3 155 rfl, tin3 156 rfl⟩
theorem mw_X7_risk : mWv yX7_risk cX7_risk 5 (some .int) 4 := ⟨⟨tin3 234 rfl, tin1 5 rfl, by decide +kernel⟩, tin3 232 rfl, tin3 233 rfl⟩
theorem mw_X7_risks : mWv yX7_risks cX7_risks 1 (some .int) 0 := ⟨⟨tin4 2 rfl, tin1 5 rfl, by decide +kernel⟩, tin4 1 rfl, List.mem_append_left _ (by decide +kernel)⟩
theorem mw_X7_rounded : mWv yX7_rounded cX7_rounded 11 (some .long) 1 := ⟨⟨tin3 215 rfl, tin1 5 rfl, by decide +kernel⟩, tin3 213 rfl, tin3 214 rfl⟩
theorem mw_X7_rule : mWv yX7_rule cX7_rule 2 (some .int) 1 := ⟨⟨tin4 78 rfl, tin1 5 rfl, by decide +kernel⟩, tin4 76 rfl, tin4 77 rfl⟩
theorem mw_X7_run : mWv yX7_run cX7_run 3 (some .int) 2 := ⟨⟨tin4 58 rfl, tin1 5 rfl, by decide +kernel⟩, tin4 56 rfl, tin4 57 rfl⟩
theorem mw_X7_score : mWv yX7_score cX7_score 8 (some .long) 2 := ⟨⟨tin4 88 rfl, tin1 5 rfl, by decide +kernel⟩, tin4 86 rfl, tin4 87 rfl⟩
theorem mw_X7_search : mWv yX7_search cX7_search 4 (some .int) 1 := ⟨⟨tin4 6 rfl, tin1 5 rfl, by decide +kernel⟩, tin4 4 rfl, tin4 5 rfl⟩
theorem mw_X7_stage : mWv yX7_stage cX7_stage 6 (some .int) 4 := ⟨⟨tin3 161 rfl, tin1 5 rfl, by decide +kernel⟩, tin3 159 rfl, tin3 160 rfl⟩
theorem mw_X7_supplier : mWv yX7_supplier cX7_supplier 4 (some .int) 3 := ⟨⟨tin4 26 rfl, tin1 5 rfl, by decide +kernel⟩, tin4 24 rfl, tin4 25 rfl⟩
theorem mw_X7_undo : mWv yX7_undo cX7_undo 2 (some .int) 1 := ⟨⟨tin4 62 rfl, tin1 5 rfl, by decide +kernel⟩, tin4 60 rfl, tin4 61 rfl⟩
theorem mw_X7_up : mWv yX7_up cX7_up 1 (some .long) 0 := ⟨⟨tin3 207 rfl, tin1 5 rfl, by decide +kernel⟩, tin3 205 rfl, tin3 206 rfl⟩
theorem mw_X7_upTo : mWv yX7_upTo cX7_upTo 5 (some .int) 2 := ⟨⟨tin3 180 rfl, tin1 5 rfl, by decide +kernel⟩, tin3 179 rfl, List.mem_append_left _ (by decide +kernel)⟩
theorem mw_X7_ways : mWv yX7_ways cX7_ways 3 (some .long) 2 := ⟨⟨tin3 200 rfl, tin1 5 rfl, by decide +kernel⟩, tin3 199 rfl, List.mem_append_left _ (by decide +kernel)⟩
theorem wl_L_9 : Cond.methodLink RL 9 yX6_init ∈ lw_tbl := tin1 11 rfl
theorem wl_L_12 : Cond.methodLink RL 12 yX7_init ∈ lw_tbl := tin3 37 rfl
theorem wl_L_13 : Cond.methodLink RL 13 yX6_plan ∈ lw_tbl := tin1 107 rfl
theorem wl_L_17 : Cond.methodLink RL 17 yX7_plan ∈ lw_tbl := tin3 154 rfl
theorem wl_L_18 : Cond.methodLink RL 18 yX6_stage ∈ lw_tbl := tin1 144 rfl
theorem wl_L_22 : Cond.methodLink RL 22 yX7_stage ∈ lw_tbl := tin3 158 rfl
theorem wl_L_23 : Cond.methodLink RL 23 yX6_of ∈ lw_tbl := tin1 188 rfl
theorem wl_L_27 : Cond.methodLink RL 27 yX7_of ∈ lw_tbl := tin3 181 rfl
theorem wl_L_28 : Cond.methodLink RL 28 yX6_part ∈ lw_tbl := tin1 193 rfl
theorem wl_L_31 : Cond.methodLink RL 31 yX7_part ∈ lw_tbl := tin3 185 rfl
theorem wl_L_32 : Cond.methodLink RL 32 yX6_up ∈ lw_tbl := tin1 225 rfl
theorem wl_L_36 : Cond.methodLink RL 36 yX7_up ∈ lw_tbl := tin3 204 rfl
theorem wl_L_37 : Cond.methodLink RL 37 yX6_down ∈ lw_tbl := tin1 229 rfl
theorem wl_L_40 : Cond.methodLink RL 40 yX7_down ∈ lw_tbl := tin3 208 rfl
theorem wl_L_41 : Cond.methodLink RL 41 yX6_rounded ∈ lw_tbl := tin1 233 rfl
theorem wl_L_45 : Cond.methodLink RL 45 yX7_rounded ∈ lw_tbl := tin3 212 rfl
theorem wl_L_46 : Cond.methodLink RL 46 yX6_compare ∈ lw_tbl := tin2 4 rfl
theorem wl_L_49 : Cond.methodLink RL 49 yX7_compare ∈ lw_tbl := tin3 219 rfl
theorem wl_L_50 : Cond.methodLink RL 50 yX6_crossing ∈ lw_tbl := tin2 12 rfl
theorem wl_L_53 : Cond.methodLink RL 53 yX7_crossing ∈ lw_tbl := tin3 227 rfl
theorem wl_L_54 : Cond.methodLink RL 54 yX6_risk ∈ lw_tbl := tin2 16 rfl
theorem wl_L_57 : Cond.methodLink RL 57 yX7_risk ∈ lw_tbl := tin3 231 rfl
theorem wl_L_58 : Cond.methodLink RL 58 yX6_forget ∈ lw_tbl := tin2 24 rfl
theorem wl_L_61 : Cond.methodLink RL 61 yX7_forget ∈ lw_tbl := tin3 235 rfl
theorem wl_L_62 : Cond.methodLink RL 62 yX6_search ∈ lw_tbl := tin2 32 rfl
theorem wl_L_66 : Cond.methodLink RL 66 yX7_search ∈ lw_tbl := tin4 3 rfl
theorem wl_L_67 : Cond.methodLink RL 67 yX6_minimal ∈ lw_tbl := tin2 68 rfl
theorem wl_L_71 : Cond.methodLink RL 71 yX7_minimal ∈ lw_tbl := tin4 19 rfl
theorem wl_L_72 : Cond.methodLink RL 72 yX6_supplier ∈ lw_tbl := tin2 72 rfl
theorem wl_L_75 : Cond.methodLink RL 75 yX7_supplier ∈ lw_tbl := tin4 23 rfl
theorem wl_L_76 : Cond.methodLink RL 76 yX6_lot ∈ lw_tbl := tin2 99 rfl
theorem wl_L_79 : Cond.methodLink RL 79 yX7_lot ∈ lw_tbl := tin4 27 rfl
theorem wl_L_80 : Cond.methodLink RL 80 yX6_item ∈ lw_tbl := tin2 156 rfl
theorem wl_L_83 : Cond.methodLink RL 83 yX7_item ∈ lw_tbl := tin4 35 rfl
theorem wl_L_84 : Cond.methodLink RL 84 yX6_undo ∈ lw_tbl := tin2 206 rfl
theorem wl_L_87 : Cond.methodLink RL 87 yX7_undo ∈ lw_tbl := tin4 59 rfl
theorem wl_L_88 : Cond.methodLink RL 88 yX6_correct ∈ lw_tbl := tin2 215 rfl
theorem wl_L_91 : Cond.methodLink RL 91 yX7_correct ∈ lw_tbl := tin4 63 rfl
theorem wl_L_92 : Cond.methodLink RL 92 yX6_about ∈ lw_tbl := tin2 223 rfl
theorem wl_L_95 : Cond.methodLink RL 95 yX7_about ∈ lw_tbl := tin4 67 rfl
theorem wl_L_96 : Cond.methodLink RL 96 yX6_needed ∈ lw_tbl := tin2 228 rfl
theorem wl_L_99 : Cond.methodLink RL 99 yX7_needed ∈ lw_tbl := tin4 71 rfl
theorem wl_L_100 : Cond.methodLink RL 100 yX6_rule ∈ lw_tbl := tin2 237 rfl
theorem wl_L_103 : Cond.methodLink RL 103 yX7_rule ∈ lw_tbl := tin4 75 rfl
theorem wl_L_104 : Cond.methodLink RL 104 yX6_run ∈ lw_tbl := tin3 1 rfl
theorem wl_L_107 : Cond.methodLink RL 107 yX7_run ∈ lw_tbl := tin4 79 rfl
theorem wl_L_108 : Cond.methodLink RL 108 yX6_cost ∈ lw_tbl := tin3 6 rfl
theorem wl_L_111 : Cond.methodLink RL 111 yX7_cost ∈ lw_tbl := tin4 80 rfl
theorem wl_L_112 : Cond.methodLink RL 112 yX6_score ∈ lw_tbl := tin3 11 rfl
theorem wl_L_116 : Cond.methodLink RL 116 yX7_score ∈ lw_tbl := tin4 85 rfl
theorem wl_L_117 : Cond.methodLink RL 117 yX6_count ∈ lw_tbl := tin3 23 rfl
theorem wl_L_120 : Cond.methodLink RL 120 yX7_count ∈ lw_tbl := tin4 89 rfl
theorem wl_X0_3 : Cond.methodLink RX0 3 objectInit ∈ lw_tbl := tin2 115 rfl
theorem wl_X0_41 : Cond.methodLinkNest RX0 41 yX6_isClass "SamplingDesk" ∈ lw_tbl := tin2 175 rfl
theorem wl_X0_45 : Cond.methodLink RX0 45 yX0_defects ∈ lw_tbl := tin2 176 rfl
theorem wl_X0_52 : Cond.methodLink RX0 52 yX2_isRefusedAt ∈ lw_tbl := tin2 180 rfl
theorem wl_X0_58 : Cond.methodLink RX0 58 yX2_isEndOf ∈ lw_tbl := tin2 181 rfl
theorem wl_X0_61 : Cond.methodLink RX0 61 yX2_isTakenAt ∈ lw_tbl := tin2 185 rfl
theorem wl_X0_64 : Cond.methodLink RX0 64 yX0_see ∈ lw_tbl := tin2 214 rfl
theorem wl_X0_68 : Cond.methodLink RX0 68 yX2_total ∈ lw_tbl := tin2 236 rfl
theorem wl_X1_3 : Cond.methodLink RX1 3 objectInit ∈ lw_tbl := tin1 35 rfl
theorem wl_X1_18 : Cond.methodLink RX1 18 yX1_commonDivisor ∈ lw_tbl := tin1 222 rfl
theorem wl_X2_3 : Cond.methodLink RX2 3 objectInit ∈ lw_tbl := tin1 115 rfl
theorem wl_X2_33 : Cond.methodLink RX2 33 yX2_hasStage ∈ lw_tbl := tin1 164 rfl
theorem wl_X2_41 : Cond.methodLink RX2 41 yX2_total ∈ lw_tbl := tin1 160 rfl
theorem wl_X2_45 : Cond.methodLink RX2 45 yX2_admits ∈ lw_tbl := tin1 156 rfl
theorem wl_X2_49 : Cond.methodLink RX2 49 yX2_openWays ∈ lw_tbl := tin1 168 rfl
theorem wl_X2_53 : Cond.methodLink RX2 53 yX5_choose ∈ lw_tbl := tin1 184 rfl
theorem wl_X2_58 : Cond.methodLink RX2 58 yX2_isDecidedAt ∈ lw_tbl := tin1 172 rfl
theorem wl_X2_62 : Cond.methodLink RX2 62 yX2_isTakenAt ∈ lw_tbl := tin1 176 rfl
theorem wl_X2_65 : Cond.methodLink RX2 65 yX2_isRefusedAt ∈ lw_tbl := tin1 180 rfl
theorem wl_X2_68 : Cond.methodLink RX2 68 yX2_weight ∈ lw_tbl := tin1 214 rfl
theorem wl_X3_1 : Cond.methodLink RX3 1 objectInit ∈ lw_tbl := tin1 52 rfl
theorem wl_X3_23 : Cond.methodLink RX3 23 yX3_against ∈ lw_tbl := tin2 60 rfl
theorem wl_X4_3 : Cond.methodLink RX4 3 objectInit ∈ lw_tbl := tin2 80 rfl
theorem wl_X4_25 : Cond.methodLink RX4 25 yX4_nextRule ∈ lw_tbl := tin2 194 rfl
theorem wl_X4_32 : Cond.methodLink RX4 32 yX4_amongLatest ∈ lw_tbl := tin2 198 rfl
theorem wl_X4_36 : Cond.methodLink RX4 36 yX4_latest ∈ lw_tbl := tin2 202 rfl
theorem wl_X5_3 : Cond.methodLink RX5 3 objectInit ∈ lw_tbl := tin1 22 rfl
theorem wl_X6_1 : Cond.methodLink RX6 1 objectInit ∈ lw_tbl := tin1 14 rfl
theorem wl_X6_9 : Cond.methodLink RX6 9 yX5_init ∈ lw_tbl := tin1 19 rfl
theorem wl_X6_18 : Cond.methodLinkNest RX6 18 yX1_init "SamplingDesk" ∈ lw_tbl := tin1 32 rfl
theorem wl_X6_31 : Cond.methodLinkNest RX6 31 yX3_init "SamplingDesk" ∈ lw_tbl := tin1 49 rfl
theorem wl_X6_59 : Cond.methodLinkNest RX6 59 yX2_init "SamplingDesk" ∈ lw_tbl := tin1 112 rfl
theorem wl_X6_60 : Cond.methodLink RX6 60 yX6_planAt ∈ lw_tbl := tin1 148 rfl
theorem wl_X6_64 : Cond.methodLink RX6 64 yX2_append ∈ lw_tbl := tin1 152 rfl
theorem wl_X6_71 : Cond.methodLink RX6 71 yX2_hasStage ∈ lw_tbl := tin1 192 rfl
theorem wl_X6_84 : Cond.methodLink RX6 84 yX6_planForLot ∈ lw_tbl := tin1 197 rfl
theorem wl_X6_88 : Cond.methodLink RX6 88 yX5_choose ∈ lw_tbl := tin1 209 rfl
theorem wl_X6_92 : Cond.methodLink RX6 92 yX2_sumOverOrders ∈ lw_tbl := tin1 210 rfl
theorem wl_X6_96 : Cond.methodLink RX6 96 yX1_become ∈ lw_tbl := tin1 218 rfl
theorem wl_X6_109 : Cond.methodLink RX6 109 yX1_scaled ∈ lw_tbl := tin1 238 rfl
theorem wl_X6_113 : Cond.methodLink RX6 113 yX6_signOfTaken ∈ lw_tbl := tin2 8 rfl
theorem wl_X6_121 : Cond.methodLink RX6 121 yX6_closedPlanAt ∈ lw_tbl := tin1 201 rfl
theorem wl_X6_124 : Cond.methodLink RX6 124 yX6_isLotSize ∈ lw_tbl := tin1 205 rfl
theorem wl_X6_127 : Cond.methodLink RX6 127 yX2_total ∈ lw_tbl := tin1 208 rfl
theorem wl_X6_131 : Cond.methodLink RX6 131 yX3_tell ∈ lw_tbl := tin2 20 rfl
theorem wl_X6_135 : Cond.methodLink RX6 135 yX6_risksTold ∈ lw_tbl := tin2 28 rfl
theorem wl_X6_141 : Cond.methodLink RX6 141 yX6_canSearch ∈ lw_tbl := tin2 36 rfl
theorem wl_X6_144 : Cond.methodLink RX6 144 yX6_minimalPlan ∈ lw_tbl := tin2 44 rfl
theorem wl_X6_148 : Cond.methodLink RX6 148 yX3_fits ∈ lw_tbl := tin2 40 rfl
theorem wl_X6_151 : Cond.methodLink RX6 151 yX6_leastAccept ∈ lw_tbl := tin2 48 rfl
theorem wl_X6_157 : Cond.methodLink RX6 157 yX6_ordersWith ∈ lw_tbl := tin2 52 rfl
theorem wl_X6_161 : Cond.methodLink RX6 161 yX3_isReached ∈ lw_tbl := tin2 56 rfl
theorem wl_X6_165 : Cond.methodLink RX6 165 yX3_isKept ∈ lw_tbl := tin2 64 rfl
theorem wl_X6_171 : Cond.methodLink RX6 171 yX4_init ∈ lw_tbl := tin2 77 rfl
theorem wl_X6_173 : Cond.methodLink RX6 173 yX6_supplierAt ∈ lw_tbl := tin2 103 rfl
theorem wl_X6_180 : Cond.methodLink RX6 180 yX4_planNow ∈ lw_tbl := tin2 107 rfl
theorem wl_X6_186 : Cond.methodLink RX6 186 yX0_init ∈ lw_tbl := tin2 112 rfl
theorem wl_X6_189 : Cond.methodLink RX6 189 yX6_openLotAt ∈ lw_tbl := tin2 160 rfl
theorem wl_X6_193 : Cond.methodLink RX6 193 yX6_isClass ∈ lw_tbl := tin2 168 rfl
theorem wl_X6_196 : Cond.methodLink RX6 196 yX0_see ∈ lw_tbl := tin2 171 rfl
theorem wl_X6_200 : Cond.methodLink RX6 200 yX6_settle ∈ lw_tbl := tin2 186 rfl
theorem wl_X6_207 : Cond.methodLink RX6 207 yX0_seeAgain ∈ lw_tbl := tin2 210 rfl
theorem wl_X6_210 : Cond.methodLink RX6 210 yX0_hasItem ∈ lw_tbl := tin2 219 rfl
theorem wl_X6_216 : Cond.methodLink RX6 216 yX6_lotAt ∈ lw_tbl := tin2 164 rfl
theorem wl_X6_222 : Cond.methodLink RX6 222 yX0_defects ∈ lw_tbl := tin2 227 rfl
theorem wl_X6_237 : Cond.methodLink RX6 237 yX0_leastFurther ∈ lw_tbl := tin2 232 rfl
theorem wl_X6_240 : Cond.methodLink RX6 240 yX4_latest ∈ lw_tbl := tin3 5 rfl
theorem wl_X6_247 : Cond.methodLink RX6 247 yX4_receive ∈ lw_tbl := tin2 190 rfl
theorem wl_X6_254 : Cond.methodLink RX6 254 yX6_scoreOfLot ∈ lw_tbl := tin3 15 rfl
theorem wl_X6_258 : Cond.methodLink RX6 258 yX6_closedPlans ∈ lw_tbl := tin3 27 rfl
theorem wl_X6_261 : Cond.methodLink RX6 261 yX6_decidedLots ∈ lw_tbl := tin3 31 rfl
theorem wl_X6_267 : Cond.methodLink RX6 267 yX0_cents ∈ lw_tbl := tin3 19 rfl
theorem wl_X7_1 : Cond.methodLink RX7 1 objectInit ∈ lw_tbl := tin3 40 rfl
theorem wl_X7_95 : Cond.methodLink RX7 95 yX7_in ∈ lw_tbl := tin3 166 rfl
theorem wl_X7_99 : Cond.methodLink RX7 99 yX7_isPlan ∈ lw_tbl := tin3 162 rfl
theorem wl_X7_103 : Cond.methodLink RX7 103 yX7_upTo ∈ lw_tbl := tin3 177 rfl
theorem wl_X7_107 : Cond.methodLink RX7 107 yX7_isClosed ∈ lw_tbl := tin3 169 rfl
theorem wl_X7_110 : Cond.methodLink RX7 110 yX7_all ∈ lw_tbl := tin3 173 rfl
theorem wl_X7_123 : Cond.methodLink RX7 123 yX7_ways ∈ lw_tbl := tin3 197 rfl
theorem wl_X7_127 : Cond.methodLink RX7 127 yX7_fits ∈ lw_tbl := tin3 189 rfl
theorem wl_X7_131 : Cond.methodLink RX7 131 yX7_go ∈ lw_tbl := tin3 193 rfl
theorem wl_X7_135 : Cond.methodLink RX7 135 yX7_common ∈ lw_tbl := tin3 201 rfl
theorem wl_X7_148 : Cond.methodLink RX7 148 yX7_compared ∈ lw_tbl := tin3 223 rfl
theorem wl_X7_152 : Cond.methodLink RX7 152 yX7_risks ∈ lw_tbl := tin3 239 rfl
theorem wl_X7_158 : Cond.methodLink RX7 158 yX7_against ∈ lw_tbl := tin4 15 rfl
theorem wl_X7_162 : Cond.methodLink RX7 162 yX7_maySearch ∈ lw_tbl := tin4 7 rfl
theorem wl_X7_165 : Cond.methodLink RX7 165 yX7_holds ∈ lw_tbl := tin4 11 rfl
theorem wl_X7_174 : Cond.methodLink RX7 174 yX7_isSupplier ∈ lw_tbl := tin4 31 rfl
theorem wl_X7_189 : Cond.methodLink RX7 189 yX7_isLot ∈ lw_tbl := tin4 43 rfl
theorem wl_X7_192 : Cond.methodLink RX7 192 yX7_judge ∈ lw_tbl := tin4 47 rfl
theorem wl_X7_196 : Cond.methodLink RX7 196 yX7_run ∈ lw_tbl := tin4 55 rfl
theorem wl_X7_198 : Cond.methodLink RX7 198 yX7_isOpen ∈ lw_tbl := tin4 39 rfl
theorem wl_X7_201 : Cond.methodLink RX7 201 yX7_hears ∈ lw_tbl := tin4 51 rfl
theorem wc_X6_107 : Cond.constantLong RX6 107 (-2) ∈ lw_tbl := tin1 237 rfl
theorem wc_X1_22 : Cond.constantLong RX1 22 (10) ∈ lw_tbl := tin2 2 rfl
theorem wc_X1_24 : Cond.constantLong RX1 24 (2) ∈ lw_tbl := tin2 3 rfl
theorem wc_X6_250 : Cond.constant RX6 250 (100000) ∈ lw_tbl := tin3 10 rfl
theorem wc_X7_142 : Cond.constantLong RX7 142 (-2) ∈ lw_tbl := tin3 216 rfl
theorem wc_X7_144 : Cond.constantLong RX7 144 (10) ∈ lw_tbl := tin3 217 rfl
theorem wc_X7_146 : Cond.constantLong RX7 146 (2) ∈ lw_tbl := tin3 218 rfl
theorem wc_X7_156 : Cond.constantLong RX7 156 (1000000000) ∈ lw_tbl := tin4 18 rfl
theorem wc_X7_204 : Cond.constant RX7 204 (100000) ∈ lw_tbl := tin4 84 rfl
section GF
variable {p : Program} {l : Launch} {e : Env} {R : Room} {s : State} {m : MethodId} {args : Array Value} {below : List Frame} {meth : Method} {c : Code} {H : Heap} {locs : List Loc} {cells slots : Nat} {Q : State → Prop}
variable {cc : ByteArray} {pc : Nat} {ls : Array Slot} {rest : List Value} {G : gG} {B : gB} {σ : gS}
theorem gf_X0_9 (hx : p.tables.exec = Jvm.exec) (hb : c.code = cc) (hown : s.vm.findClass RX0 = some m.cls) (hK : KI G s) (hH : Hp G B σ H) {i : Nat} (hi : i < B.2 60) (hdg : decode cc pc = .ok (.getfield 9, 3)) (kk : W p l e R s m args below meth c H locs cells slots Q (F0 m (pc + 3) ls (.ref (B.1 61 i) :: rest))) : W p l e R s m args below meth c H locs cells slots Q (F0 m pc ls (.ref (B.1 60 i) :: rest)) := m_get (ci := 0) hx hb hown hK hH hi rfl rfl 5 (by decide) wf_X0_9 rfl hdg kk
theorem gf_X0_15 (hx : p.tables.exec = Jvm.exec) (hb : c.code = cc) (hown : s.vm.findClass RX0 = some m.cls) (hK : KI G s) (hH : Hp G B σ H) {i : Nat} (hi : i < B.2 60) (hdg : decode cc pc = .ok (.getfield 15, 3)) (kk : W p l e R s m args below meth c H locs cells slots Q (F0 m (pc + 3) ls (.ref (B.1 62 i) :: rest))) : W p l e R s m args below meth c H locs cells slots Q (F0 m pc ls (.ref (B.1 60 i) :: rest)) := m_get (ci := 0) hx hb hown hK hH hi rfl rfl 6 (by decide) wf_X0_15 rfl hdg kk
theorem gf_X0_18 (hx : p.tables.exec = Jvm.exec) (hb : c.code = cc) (hown : s.vm.findClass RX0 = some m.cls) (hK : KI G s) (hH : Hp G B σ H) {i : Nat} (hi : i < B.2 60) (hdg : decode cc pc = .ok (.getfield 18, 3)) (kk : W p l e R s m args below meth c H locs cells slots Q (F0 m (pc + 3) ls (.int (σ.1 60 i 9) :: rest))) : W p l e R s m args below meth c H locs cells slots Q (F0 m pc ls (.ref (B.1 60 i) :: rest)) := m_get (ci := 0) hx hb hown hK hH hi rfl rfl 9 (by decide) wf_X0_18 rfl hdg kk
theorem pf_X0_18 (hx : p.tables.exec = Jvm.exec) (hb : c.code = cc) (hown : s.vm.findClass RX0 = some m.cls) (hK : KI G s) (hH : Hp G B σ H) (hS : va_S (mA G) s.heap H locs) {i : Nat} (hi : i < B.2 60) {v : Int32} (hdg : decode cc pc = .ok (.putfield 18, 3)) (kk : ∀ (H1 : Heap) (locs1 : List Loc), Hp G B (sI σ 60 i 9 v) H1 → va_S (mA G) s.heap H1 locs1 → W p l e R s m args below meth c H1 locs1 cells slots Q (F0 m (pc + 3) ls rest)) : W p l e R s m args below meth c H locs cells slots Q (F0 m pc ls (.int v :: .ref (B.1 60 i) :: rest)) := m_put (ty := .int) (ci := 0) hx hb hown hK hH hS hi rfl rfl 9 (by decide) wf_X0_18 rfl (by decide +kernel) rfl rfl (Nat.le_of_ble_eq_true rfl) (by rw [sI_on, sI_J]; rfl) (sI_off σ 60 i 9 v) hdg kk
theorem gf_X0_22 (hx : p.tables.exec = Jvm.exec) (hb : c.code = cc) (hown : s.vm.findClass RX0 = some m.cls) (hK : KI G s) (hH : Hp G B σ H) {i : Nat} (hi : i < B.2 60) (hdg : decode cc pc = .ok (.getfield 22, 3)) (kk : W p l e R s m args below meth c H locs cells slots Q (F0 m (pc + 3) ls (.int (σ.1 60 i 0) :: rest))) : W p l e R s m args below meth c H locs cells slots Q (F0 m pc ls (.ref (B.1 60 i) :: rest)) := m_get (ci := 0) hx hb hown hK hH hi rfl rfl 0 (by decide) wf_X0_22 rfl hdg kk
theorem gf_X0_25 (hx : p.tables.exec = Jvm.exec) (hb : c.code = cc) (hown : s.vm.findClass RX0 = some m.cls) (hK : KI G s) (hH : Hp G B σ H) {i : Nat} (hi : i < B.2 60) (hdg : decode cc pc = .ok (.getfield 25, 3)) (kk : W p l e R s m args below meth c H locs cells slots Q (F0 m (pc + 3) ls (.int (σ.1 60 i 1) :: rest))) : W p l e R s m args below meth c H locs cells slots Q (F0 m pc ls (.ref (B.1 60 i) :: rest)) := m_get (ci := 0) hx hb hown hK hH hi rfl rfl 1 (by decide) wf_X0_25 rfl hdg kk
theorem gf_X0_28 (hx : p.tables.exec = Jvm.exec) (hb : c.code = cc) (hown : s.vm.findClass RX0 = some m.cls) (hK : KI G s) (hH : Hp G B σ H) {i : Nat} (hi : i < B.2 60) (hdg : decode cc pc = .ok (.getfield 28, 3)) (kk : W p l e R s m args below meth c H locs cells slots Q (F0 m (pc + 3) ls (.ref (B.1 50 (σ.1 60 i 3).toNatClampNeg) :: rest))) : W p l e R s m args below meth c H locs cells slots Q (F0 m pc ls (.ref (B.1 60 i) :: rest)) := m_get (ci := 0) hx hb hown hK hH hi rfl rfl 2 (by decide) wf_X0_28 rfl hdg kk
theorem gf_X0_32 (hx : p.tables.exec = Jvm.exec) (hb : c.code = cc) (hown : s.vm.findClass RX0 = some m.cls) (hK : KI G s) (hH : Hp G B σ H) {i : Nat} (hi : i < B.2 60) (hdg : decode cc pc = .ok (.getfield 32, 3)) (kk : W p l e R s m args below meth c H locs cells slots Q (F0 m (pc + 3) ls (.int (σ.1 60 i 3) :: rest))) : W p l e R s m args below meth c H locs cells slots Q (F0 m pc ls (.ref (B.1 60 i) :: rest)) := m_get (ci := 0) hx hb hown hK hH hi rfl rfl 3 (by decide) wf_X0_32 rfl hdg kk
theorem gf_X0_35 (hx : p.tables.exec = Jvm.exec) (hb : c.code = cc) (hown : s.vm.findClass RX0 = some m.cls) (hK : KI G s) (hH : Hp G B σ H) {i : Nat} (hi : i < B.2 60) (hdg : decode cc pc = .ok (.getfield 35, 3)) (kk : W p l e R s m args below meth c H locs cells slots Q (F0 m (pc + 3) ls (.int (σ.1 60 i 4) :: rest))) : W p l e R s m args below meth c H locs cells slots Q (F0 m pc ls (.ref (B.1 60 i) :: rest)) := m_get (ci := 0) hx hb hown hK hH hi rfl rfl 4 (by decide) wf_X0_35 rfl hdg kk
theorem gf_X0_38 (hx : p.tables.exec = Jvm.exec) (hb : c.code = cc) (hown : s.vm.findClass RX0 = some m.cls) (hK : KI G s) (hH : Hp G B σ H) {i : Nat} (hi : i < B.2 60) (hdg : decode cc pc = .ok (.getfield 38, 3)) (kk : W p l e R s m args below meth c H locs cells slots Q (F0 m (pc + 3) ls (.int (σ.1 60 i 7) :: rest))) : W p l e R s m args below meth c H locs cells slots Q (F0 m pc ls (.ref (B.1 60 i) :: rest)) := m_get (ci := 0) hx hb hown hK hH hi rfl rfl 7 (by decide) wf_X0_38 rfl hdg kk
theorem pf_X0_38 (hx : p.tables.exec = Jvm.exec) (hb : c.code = cc) (hown : s.vm.findClass RX0 = some m.cls) (hK : KI G s) (hH : Hp G B σ H) (hS : va_S (mA G) s.heap H locs) {i : Nat} (hi : i < B.2 60) {v : Int32} (hdg : decode cc pc = .ok (.putfield 38, 3)) (kk : ∀ (H1 : Heap) (locs1 : List Loc), Hp G B (sI σ 60 i 7 v) H1 → va_S (mA G) s.heap H1 locs1 → W p l e R s m args below meth c H1 locs1 cells slots Q (F0 m (pc + 3) ls rest)) : W p l e R s m args below meth c H locs cells slots Q (F0 m pc ls (.int v :: .ref (B.1 60 i) :: rest)) := m_put (ty := .int) (ci := 0) hx hb hown hK hH hS hi rfl rfl 7 (by decide) wf_X0_38 rfl (by decide +kernel) rfl rfl (Nat.le_of_ble_eq_true rfl) (by rw [sI_on, sI_J]; rfl) (sI_off σ 60 i 7 v) hdg kk
theorem gf_X0_49 (hx : p.tables.exec = Jvm.exec) (hb : c.code = cc) (hown : s.vm.findClass RX0 = some m.cls) (hK : KI G s) (hH : Hp G B σ H) {i : Nat} (hi : i < B.2 60) (hdg : decode cc pc = .ok (.getfield 49, 3)) (kk : W p l e R s m args below meth c H locs cells slots Q (F0 m (pc + 3) ls (.int (σ.1 60 i 8) :: rest))) : W p l e R s m args below meth c H locs cells slots Q (F0 m pc ls (.ref (B.1 60 i) :: rest)) := m_get (ci := 0) hx hb hown hK hH hi rfl rfl 8 (by decide) wf_X0_49 rfl hdg kk
theorem pf_X0_49 (hx : p.tables.exec = Jvm.exec) (hb : c.code = cc) (hown : s.vm.findClass RX0 = some m.cls) (hK : KI G s) (hH : Hp G B σ H) (hS : va_S (mA G) s.heap H locs) {i : Nat} (hi : i < B.2 60) {v : Int32} (hdg : decode cc pc = .ok (.putfield 49, 3)) (kk : ∀ (H1 : Heap) (locs1 : List Loc), Hp G B (sI σ 60 i 8 v) H1 → va_S (mA G) s.heap H1 locs1 → W p l e R s m args below meth c H1 locs1 cells slots Q (F0 m (pc + 3) ls rest)) : W p l e R s m args below meth c H locs cells slots Q (F0 m pc ls (.int v :: .ref (B.1 60 i) :: rest)) := m_put (ty := .int) (ci := 0) hx hb hown hK hH hS hi rfl rfl 8 (by decide) wf_X0_49 rfl (by decide +kernel) rfl rfl (Nat.le_of_ble_eq_true rfl) (by rw [sI_on, sI_J]; rfl) (sI_off σ 60 i 8 v) hdg kk
theorem gf_X1_9 (hx : p.tables.exec = Jvm.exec) (hb : c.code = cc) (hown : s.vm.findClass RX1 = some m.cls) (hK : KI G s) (hH : Hp G B σ H) {i : Nat} (hi : i < B.2 44) (hdg : decode cc pc = .ok (.getfield 9, 3)) (kk : W p l e R s m args below meth c H locs cells slots Q (F0 m (pc + 3) ls (.long (σ.2 44 i 0) :: rest))) : W p l e R s m args below meth c H locs cells slots Q (F0 m pc ls (.ref (B.1 44 i) :: rest)) := m_get (ci := 1) hx hb hown hK hH hi rfl rfl 0 (by decide) wf_X1_9 rfl hdg kk
theorem pf_X1_9 (hx : p.tables.exec = Jvm.exec) (hb : c.code = cc) (hown : s.vm.findClass RX1 = some m.cls) (hK : KI G s) (hH : Hp G B σ H) (hS : va_S (mA G) s.heap H locs) {i : Nat} (hi : i < B.2 44) {v : Int64} (hdg : decode cc pc = .ok (.putfield 9, 3)) (kk : ∀ (H1 : Heap) (locs1 : List Loc), Hp G B (sJ σ 44 i 0 v) H1 → va_S (mA G) s.heap H1 locs1 → W p l e R s m args below meth c H1 locs1 cells slots Q (F0 m (pc + 3) ls rest)) : W p l e R s m args below meth c H locs cells slots Q (F0 m pc ls (.long v :: .ref (B.1 44 i) :: rest)) := m_put (ty := .long) (ci := 1) hx hb hown hK hH hS hi rfl rfl 0 (by decide) wf_X1_9 rfl (by decide +kernel) rfl rfl (Nat.le_of_ble_eq_true rfl) (by rw [sJ_on, sJ_I]; rfl) (sJ_off σ 44 i 0 v) hdg kk
theorem gf_X1_15 (hx : p.tables.exec = Jvm.exec) (hb : c.code = cc) (hown : s.vm.findClass RX1 = some m.cls) (hK : KI G s) (hH : Hp G B σ H) {i : Nat} (hi : i < B.2 44) (hdg : decode cc pc = .ok (.getfield 15, 3)) (kk : W p l e R s m args below meth c H locs cells slots Q (F0 m (pc + 3) ls (.long (σ.2 44 i 1) :: rest))) : W p l e R s m args below meth c H locs cells slots Q (F0 m pc ls (.ref (B.1 44 i) :: rest)) := m_get (ci := 1) hx hb hown hK hH hi rfl rfl 1 (by decide) wf_X1_15 rfl hdg kk
theorem pf_X1_15 (hx : p.tables.exec = Jvm.exec) (hb : c.code = cc) (hown : s.vm.findClass RX1 = some m.cls) (hK : KI G s) (hH : Hp G B σ H) (hS : va_S (mA G) s.heap H locs) {i : Nat} (hi : i < B.2 44) {v : Int64} (hdg : decode cc pc = .ok (.putfield 15, 3)) (kk : ∀ (H1 : Heap) (locs1 : List Loc), Hp G B (sJ σ 44 i 1 v) H1 → va_S (mA G) s.heap H1 locs1 → W p l e R s m args below meth c H1 locs1 cells slots Q (F0 m (pc + 3) ls rest)) : W p l e R s m args below meth c H locs cells slots Q (F0 m pc ls (.long v :: .ref (B.1 44 i) :: rest)) := m_put (ty := .long) (ci := 1) hx hb hown hK hH hS hi rfl rfl 1 (by decide) wf_X1_15 rfl (by decide +kernel) rfl rfl (Nat.le_of_ble_eq_true rfl) (by rw [sJ_on, sJ_I]; rfl) (sJ_off σ 44 i 1 v) hdg kk
theorem gf_X2_9 (hx : p.tables.exec = Jvm.exec) (hb : c.code = cc) (hown : s.vm.findClass RX2 = some m.cls) (hK : KI G s) (hH : Hp G B σ H) {i : Nat} (hi : i < B.2 50) (hdg : decode cc pc = .ok (.getfield 9, 3)) (kk : W p l e R s m args below meth c H locs cells slots Q (F0 m (pc + 3) ls (.ref (B.1 51 i) :: rest))) : W p l e R s m args below meth c H locs cells slots Q (F0 m pc ls (.ref (B.1 50 i) :: rest)) := m_get (ci := 2) hx hb hown hK hH hi rfl rfl 0 (by decide) wf_X2_9 rfl hdg kk
theorem gf_X2_15 (hx : p.tables.exec = Jvm.exec) (hb : c.code = cc) (hown : s.vm.findClass RX2 = some m.cls) (hK : KI G s) (hH : Hp G B σ H) {i : Nat} (hi : i < B.2 50) (hdg : decode cc pc = .ok (.getfield 15, 3)) (kk : W p l e R s m args below meth c H locs cells slots Q (F0 m (pc + 3) ls (.ref (B.1 52 i) :: rest))) : W p l e R s m args below meth c H locs cells slots Q (F0 m pc ls (.ref (B.1 50 i) :: rest)) := m_get (ci := 2) hx hb hown hK hH hi rfl rfl 1 (by decide) wf_X2_15 rfl hdg kk
theorem gf_X2_18 (hx : p.tables.exec = Jvm.exec) (hb : c.code = cc) (hown : s.vm.findClass RX2 = some m.cls) (hK : KI G s) (hH : Hp G B σ H) {i : Nat} (hi : i < B.2 50) (hdg : decode cc pc = .ok (.getfield 18, 3)) (kk : W p l e R s m args below meth c H locs cells slots Q (F0 m (pc + 3) ls (.ref (B.1 53 i) :: rest))) : W p l e R s m args below meth c H locs cells slots Q (F0 m pc ls (.ref (B.1 50 i) :: rest)) := m_get (ci := 2) hx hb hown hK hH hi rfl rfl 2 (by decide) wf_X2_18 rfl hdg kk
theorem gf_X2_21 (hx : p.tables.exec = Jvm.exec) (hb : c.code = cc) (hown : s.vm.findClass RX2 = some m.cls) (hK : KI G s) (hH : Hp G B σ H) {i : Nat} (hi : i < B.2 50) (hdg : decode cc pc = .ok (.getfield 21, 3)) (kk : W p l e R s m args below meth c H locs cells slots Q (F0 m (pc + 3) ls (.ref (B.1 54 i) :: rest))) : W p l e R s m args below meth c H locs cells slots Q (F0 m pc ls (.ref (B.1 50 i) :: rest)) := m_get (ci := 2) hx hb hown hK hH hi rfl rfl 3 (by decide) wf_X2_21 rfl hdg kk
theorem gf_X2_26 (hx : p.tables.exec = Jvm.exec) (hb : c.code = cc) (hown : s.vm.findClass RX2 = some m.cls) (hK : KI G s) (hH : Hp G B σ H) {i : Nat} (hi : i < B.2 50) (hdg : decode cc pc = .ok (.getfield 26, 3)) (kk : W p l e R s m args below meth c H locs cells slots Q (F0 m (pc + 3) ls (.ref (B.1 55 i) :: rest))) : W p l e R s m args below meth c H locs cells slots Q (F0 m pc ls (.ref (B.1 50 i) :: rest)) := m_get (ci := 2) hx hb hown hK hH hi rfl rfl 4 (by decide) wf_X2_26 rfl hdg kk
theorem gf_X2_29 (hx : p.tables.exec = Jvm.exec) (hb : c.code = cc) (hown : s.vm.findClass RX2 = some m.cls) (hK : KI G s) (hH : Hp G B σ H) {i : Nat} (hi : i < B.2 50) (hdg : decode cc pc = .ok (.getfield 29, 3)) (kk : W p l e R s m args below meth c H locs cells slots Q (F0 m (pc + 3) ls (.int (σ.1 50 i 5) :: rest))) : W p l e R s m args below meth c H locs cells slots Q (F0 m pc ls (.ref (B.1 50 i) :: rest)) := m_get (ci := 2) hx hb hown hK hH hi rfl rfl 5 (by decide) wf_X2_29 rfl hdg kk
theorem pf_X2_29 (hx : p.tables.exec = Jvm.exec) (hb : c.code = cc) (hown : s.vm.findClass RX2 = some m.cls) (hK : KI G s) (hH : Hp G B σ H) (hS : va_S (mA G) s.heap H locs) {i : Nat} (hi : i < B.2 50) {v : Int32} (hdg : decode cc pc = .ok (.putfield 29, 3)) (kk : ∀ (H1 : Heap) (locs1 : List Loc), Hp G B (sI σ 50 i 5 v) H1 → va_S (mA G) s.heap H1 locs1 → W p l e R s m args below meth c H1 locs1 cells slots Q (F0 m (pc + 3) ls rest)) : W p l e R s m args below meth c H locs cells slots Q (F0 m pc ls (.int v :: .ref (B.1 50 i) :: rest)) := m_put (ty := .int) (ci := 2) hx hb hown hK hH hS hi rfl rfl 5 (by decide) wf_X2_29 rfl (by decide +kernel) rfl rfl (Nat.le_of_ble_eq_true rfl) (by rw [sI_on, sI_J]; rfl) (sI_off σ 50 i 5 v) hdg kk
theorem gf_X2_37 (hx : p.tables.exec = Jvm.exec) (hb : c.code = cc) (hown : s.vm.findClass RX2 = some m.cls) (hK : KI G s) (hH : Hp G B σ H) {i : Nat} (hi : i < B.2 50) (hdg : decode cc pc = .ok (.getfield 37, 3)) (kk : W p l e R s m args below meth c H locs cells slots Q (F0 m (pc + 3) ls (.int (σ.1 50 i 6) :: rest))) : W p l e R s m args below meth c H locs cells slots Q (F0 m pc ls (.ref (B.1 50 i) :: rest)) := m_get (ci := 2) hx hb hown hK hH hi rfl rfl 6 (by decide) wf_X2_37 rfl hdg kk
theorem pf_X2_37 (hx : p.tables.exec = Jvm.exec) (hb : c.code = cc) (hown : s.vm.findClass RX2 = some m.cls) (hK : KI G s) (hH : Hp G B σ H) (hS : va_S (mA G) s.heap H locs) {i : Nat} (hi : i < B.2 50) {v : Int32} (hv : v = 0 ∨ v = 1) (hdg : decode cc pc = .ok (.putfield 37, 3)) (kk : ∀ (H1 : Heap) (locs1 : List Loc), Hp G B (sI σ 50 i 6 v) H1 → va_S (mA G) s.heap H1 locs1 → W p l e R s m args below meth c H1 locs1 cells slots Q (F0 m (pc + 3) ls rest)) : W p l e R s m args below meth c H locs cells slots Q (F0 m pc ls (.int v :: .ref (B.1 50 i) :: rest)) := m_put (ty := .boolean) (ci := 2) hx hb hown hK hH hS hi rfl rfl 6 (by decide) wf_X2_37 rfl (by decide +kernel) (by rcases hv with rfl | rfl <;> rfl) (by rcases hv with rfl | rfl <;> rfl) (Nat.le_of_ble_eq_true rfl) (by rw [sI_on, sI_J]; rfl) (sI_off σ 50 i 6 v) hdg kk
theorem gf_X3_7 (hx : p.tables.exec = Jvm.exec) (hb : c.code = cc) (hown : s.vm.findClass RX3 = some m.cls) (hK : KI G s) (hH : Hp G B σ H) {i : Nat} (hi : i < B.2 49) (hdg : decode cc pc = .ok (.getfield 7, 3)) (kk : W p l e R s m args below meth c H locs cells slots Q (F0 m (pc + 3) ls (.int (σ.1 49 i 3) :: rest))) : W p l e R s m args below meth c H locs cells slots Q (F0 m pc ls (.ref (B.1 49 i) :: rest)) := m_get (ci := 3) hx hb hown hK hH hi rfl rfl 3 (by decide) wf_X3_7 rfl hdg kk
theorem pf_X3_7 (hx : p.tables.exec = Jvm.exec) (hb : c.code = cc) (hown : s.vm.findClass RX3 = some m.cls) (hK : KI G s) (hH : Hp G B σ H) (hS : va_S (mA G) s.heap H locs) {i : Nat} (hi : i < B.2 49) {v : Int32} (hdg : decode cc pc = .ok (.putfield 7, 3)) (kk : ∀ (H1 : Heap) (locs1 : List Loc), Hp G B (sI σ 49 i 3 v) H1 → va_S (mA G) s.heap H1 locs1 → W p l e R s m args below meth c H1 locs1 cells slots Q (F0 m (pc + 3) ls rest)) : W p l e R s m args below meth c H locs cells slots Q (F0 m pc ls (.int v :: .ref (B.1 49 i) :: rest)) := m_put (ty := .int) (ci := 3) hx hb hown hK hH hS hi rfl rfl 3 (by decide) wf_X3_7 rfl (by decide +kernel) rfl rfl (Nat.le_of_ble_eq_true rfl) (by rw [sI_on, sI_J]; rfl) (sI_off σ 49 i 3 v) hdg kk
theorem gf_X3_13 (hx : p.tables.exec = Jvm.exec) (hb : c.code = cc) (hown : s.vm.findClass RX3 = some m.cls) (hK : KI G s) (hH : Hp G B σ H) {i : Nat} (hi : i < B.2 49) (hdg : decode cc pc = .ok (.getfield 13, 3)) (kk : W p l e R s m args below meth c H locs cells slots Q (F0 m (pc + 3) ls (.int (σ.1 49 i 0) :: rest))) : W p l e R s m args below meth c H locs cells slots Q (F0 m pc ls (.ref (B.1 49 i) :: rest)) := m_get (ci := 3) hx hb hown hK hH hi rfl rfl 0 (by decide) wf_X3_13 rfl hdg kk
theorem pf_X3_13 (hx : p.tables.exec = Jvm.exec) (hb : c.code = cc) (hown : s.vm.findClass RX3 = some m.cls) (hK : KI G s) (hH : Hp G B σ H) (hS : va_S (mA G) s.heap H locs) {i : Nat} (hi : i < B.2 49) {v : Int32} (hv : v = 0 ∨ v = 1) (hdg : decode cc pc = .ok (.putfield 13, 3)) (kk : ∀ (H1 : Heap) (locs1 : List Loc), Hp G B (sI σ 49 i 0 v) H1 → va_S (mA G) s.heap H1 locs1 → W p l e R s m args below meth c H1 locs1 cells slots Q (F0 m (pc + 3) ls rest)) : W p l e R s m args below meth c H locs cells slots Q (F0 m pc ls (.int v :: .ref (B.1 49 i) :: rest)) := m_put (ty := .boolean) (ci := 3) hx hb hown hK hH hS hi rfl rfl 0 (by decide) wf_X3_13 rfl (by decide +kernel) (by rcases hv with rfl | rfl <;> rfl) (by rcases hv with rfl | rfl <;> rfl) (Nat.le_of_ble_eq_true rfl) (by rw [sI_on, sI_J]; rfl) (sI_off σ 49 i 0 v) hdg kk
theorem gf_X3_17 (hx : p.tables.exec = Jvm.exec) (hb : c.code = cc) (hown : s.vm.findClass RX3 = some m.cls) (hK : KI G s) (hH : Hp G B σ H) {i : Nat} (hi : i < B.2 49) (hdg : decode cc pc = .ok (.getfield 17, 3)) (kk : W p l e R s m args below meth c H locs cells slots Q (F0 m (pc + 3) ls (.int (σ.1 49 i 1) :: rest))) : W p l e R s m args below meth c H locs cells slots Q (F0 m pc ls (.ref (B.1 49 i) :: rest)) := m_get (ci := 3) hx hb hown hK hH hi rfl rfl 1 (by decide) wf_X3_17 rfl hdg kk
theorem pf_X3_17 (hx : p.tables.exec = Jvm.exec) (hb : c.code = cc) (hown : s.vm.findClass RX3 = some m.cls) (hK : KI G s) (hH : Hp G B σ H) (hS : va_S (mA G) s.heap H locs) {i : Nat} (hi : i < B.2 49) {v : Int32} (hdg : decode cc pc = .ok (.putfield 17, 3)) (kk : ∀ (H1 : Heap) (locs1 : List Loc), Hp G B (sI σ 49 i 1 v) H1 → va_S (mA G) s.heap H1 locs1 → W p l e R s m args below meth c H1 locs1 cells slots Q (F0 m (pc + 3) ls rest)) : W p l e R s m args below meth c H locs cells slots Q (F0 m pc ls (.int v :: .ref (B.1 49 i) :: rest)) := m_put (ty := .int) (ci := 3) hx hb hown hK hH hS hi rfl rfl 1 (by decide) wf_X3_17 rfl (by decide +kernel) rfl rfl (Nat.le_of_ble_eq_true rfl) (by rw [sI_on, sI_J]; rfl) (sI_off σ 49 i 1 v) hdg kk
theorem gf_X3_20 (hx : p.tables.exec = Jvm.exec) (hb : c.code = cc) (hown : s.vm.findClass RX3 = some m.cls) (hK : KI G s) (hH : Hp G B σ H) {i : Nat} (hi : i < B.2 49) (hdg : decode cc pc = .ok (.getfield 20, 3)) (kk : W p l e R s m args below meth c H locs cells slots Q (F0 m (pc + 3) ls (.int (σ.1 49 i 2) :: rest))) : W p l e R s m args below meth c H locs cells slots Q (F0 m pc ls (.ref (B.1 49 i) :: rest)) := m_get (ci := 3) hx hb hown hK hH hi rfl rfl 2 (by decide) wf_X3_20 rfl hdg kk
theorem pf_X3_20 (hx : p.tables.exec = Jvm.exec) (hb : c.code = cc) (hown : s.vm.findClass RX3 = some m.cls) (hK : KI G s) (hH : Hp G B σ H) (hS : va_S (mA G) s.heap H locs) {i : Nat} (hi : i < B.2 49) {v : Int32} (hdg : decode cc pc = .ok (.putfield 20, 3)) (kk : ∀ (H1 : Heap) (locs1 : List Loc), Hp G B (sI σ 49 i 2 v) H1 → va_S (mA G) s.heap H1 locs1 → W p l e R s m args below meth c H1 locs1 cells slots Q (F0 m (pc + 3) ls rest)) : W p l e R s m args below meth c H locs cells slots Q (F0 m pc ls (.int v :: .ref (B.1 49 i) :: rest)) := m_put (ty := .int) (ci := 3) hx hb hown hK hH hS hi rfl rfl 2 (by decide) wf_X3_20 rfl (by decide +kernel) rfl rfl (Nat.le_of_ble_eq_true rfl) (by rw [sI_on, sI_J]; rfl) (sI_off σ 49 i 2 v) hdg kk
theorem gf_X4_9 (hx : p.tables.exec = Jvm.exec) (hb : c.code = cc) (hown : s.vm.findClass RX4 = some m.cls) (hK : KI G s) (hH : Hp G B σ H) {i : Nat} (hi : i < B.2 57) (hdg : decode cc pc = .ok (.getfield 9, 3)) (kk : W p l e R s m args below meth c H locs cells slots Q (F0 m (pc + 3) ls (.ref (B.1 58 i) :: rest))) : W p l e R s m args below meth c H locs cells slots Q (F0 m pc ls (.ref (B.1 57 i) :: rest)) := m_get (ci := 4) hx hb hown hK hH hi rfl rfl 0 (by decide) wf_X4_9 rfl hdg kk
theorem gf_X4_15 (hx : p.tables.exec = Jvm.exec) (hb : c.code = cc) (hown : s.vm.findClass RX4 = some m.cls) (hK : KI G s) (hH : Hp G B σ H) {i : Nat} (hi : i < B.2 57) (hdg : decode cc pc = .ok (.getfield 15, 3)) (kk : W p l e R s m args below meth c H locs cells slots Q (F0 m (pc + 3) ls (.ref (B.1 59 i) :: rest))) : W p l e R s m args below meth c H locs cells slots Q (F0 m pc ls (.ref (B.1 57 i) :: rest)) := m_get (ci := 4) hx hb hown hK hH hi rfl rfl 1 (by decide) wf_X4_15 rfl hdg kk
theorem gf_X4_18 (hx : p.tables.exec = Jvm.exec) (hb : c.code = cc) (hown : s.vm.findClass RX4 = some m.cls) (hK : KI G s) (hH : Hp G B σ H) {i : Nat} (hi : i < B.2 57) (hdg : decode cc pc = .ok (.getfield 18, 3)) (kk : W p l e R s m args below meth c H locs cells slots Q (F0 m (pc + 3) ls (.int (σ.1 57 i 3) :: rest))) : W p l e R s m args below meth c H locs cells slots Q (F0 m pc ls (.ref (B.1 57 i) :: rest)) := m_get (ci := 4) hx hb hown hK hH hi rfl rfl 3 (by decide) wf_X4_18 rfl hdg kk
theorem pf_X4_18 (hx : p.tables.exec = Jvm.exec) (hb : c.code = cc) (hown : s.vm.findClass RX4 = some m.cls) (hK : KI G s) (hH : Hp G B σ H) (hS : va_S (mA G) s.heap H locs) {i : Nat} (hi : i < B.2 57) {v : Int32} (hdg : decode cc pc = .ok (.putfield 18, 3)) (kk : ∀ (H1 : Heap) (locs1 : List Loc), Hp G B (sI σ 57 i 3 v) H1 → va_S (mA G) s.heap H1 locs1 → W p l e R s m args below meth c H1 locs1 cells slots Q (F0 m (pc + 3) ls rest)) : W p l e R s m args below meth c H locs cells slots Q (F0 m pc ls (.int v :: .ref (B.1 57 i) :: rest)) := m_put (ty := .int) (ci := 4) hx hb hown hK hH hS hi rfl rfl 3 (by decide) wf_X4_18 rfl (by decide +kernel) rfl rfl (Nat.le_of_ble_eq_true rfl) (by rw [sI_on, sI_J]; rfl) (sI_off σ 57 i 3 v) hdg kk
theorem gf_X4_22 (hx : p.tables.exec = Jvm.exec) (hb : c.code = cc) (hown : s.vm.findClass RX4 = some m.cls) (hK : KI G s) (hH : Hp G B σ H) {i : Nat} (hi : i < B.2 57) (hdg : decode cc pc = .ok (.getfield 22, 3)) (kk : W p l e R s m args below meth c H locs cells slots Q (F0 m (pc + 3) ls (.int (σ.1 57 i 2) :: rest))) : W p l e R s m args below meth c H locs cells slots Q (F0 m pc ls (.ref (B.1 57 i) :: rest)) := m_get (ci := 4) hx hb hown hK hH hi rfl rfl 2 (by decide) wf_X4_22 rfl hdg kk
theorem pf_X4_22 (hx : p.tables.exec = Jvm.exec) (hb : c.code = cc) (hown : s.vm.findClass RX4 = some m.cls) (hK : KI G s) (hH : Hp G B σ H) (hS : va_S (mA G) s.heap H locs) {i : Nat} (hi : i < B.2 57) {v : Int32} (hdg : decode cc pc = .ok (.putfield 22, 3)) (kk : ∀ (H1 : Heap) (locs1 : List Loc), Hp G B (sI σ 57 i 2 v) H1 → va_S (mA G) s.heap H1 locs1 → W p l e R s m args below meth c H1 locs1 cells slots Q (F0 m (pc + 3) ls rest)) : W p l e R s m args below meth c H locs cells slots Q (F0 m pc ls (.int v :: .ref (B.1 57 i) :: rest)) := m_put (ty := .int) (ci := 4) hx hb hown hK hH hS hi rfl rfl 2 (by decide) wf_X4_22 rfl (by decide +kernel) rfl rfl (Nat.le_of_ble_eq_true rfl) (by rw [sI_on, sI_J]; rfl) (sI_off σ 57 i 2 v) hdg kk
theorem gf_X4_29 (hx : p.tables.exec = Jvm.exec) (hb : c.code = cc) (hown : s.vm.findClass RX4 = some m.cls) (hK : KI G s) (hH : Hp G B σ H) {i : Nat} (hi : i < B.2 57) (hdg : decode cc pc = .ok (.getfield 29, 3)) (kk : W p l e R s m args below meth c H locs cells slots Q (F0 m (pc + 3) ls (.int (σ.1 57 i 4) :: rest))) : W p l e R s m args below meth c H locs cells slots Q (F0 m pc ls (.ref (B.1 57 i) :: rest)) := m_get (ci := 4) hx hb hown hK hH hi rfl rfl 4 (by decide) wf_X4_29 rfl hdg kk
theorem pf_X4_29 (hx : p.tables.exec = Jvm.exec) (hb : c.code = cc) (hown : s.vm.findClass RX4 = some m.cls) (hK : KI G s) (hH : Hp G B σ H) (hS : va_S (mA G) s.heap H locs) {i : Nat} (hi : i < B.2 57) {v : Int32} (hdg : decode cc pc = .ok (.putfield 29, 3)) (kk : ∀ (H1 : Heap) (locs1 : List Loc), Hp G B (sI σ 57 i 4 v) H1 → va_S (mA G) s.heap H1 locs1 → W p l e R s m args below meth c H1 locs1 cells slots Q (F0 m (pc + 3) ls rest)) : W p l e R s m args below meth c H locs cells slots Q (F0 m pc ls (.int v :: .ref (B.1 57 i) :: rest)) := m_put (ty := .int) (ci := 4) hx hb hown hK hH hS hi rfl rfl 4 (by decide) wf_X4_29 rfl (by decide +kernel) rfl rfl (Nat.le_of_ble_eq_true rfl) (by rw [sI_on, sI_J]; rfl) (sI_off σ 57 i 4 v) hdg kk
theorem gf_X5_11 (hx : p.tables.exec = Jvm.exec) (hb : c.code = cc) (hown : s.vm.findClass RX5 = some m.cls) (hK : KI G s) (hH : Hp G B σ H) {i : Nat} (hi : i < B.2 41) (hdg : decode cc pc = .ok (.getfield 11, 3)) (kk : W p l e R s m args below meth c H locs cells slots Q (F0 m (pc + 3) ls (.ref (B.1 42 0) :: rest))) : W p l e R s m args below meth c H locs cells slots Q (F0 m pc ls (.ref (B.1 41 i) :: rest)) := m_get (ci := 5) hx hb hown hK hH hi rfl rfl 0 (by decide) wf_X5_11 rfl hdg kk
theorem gf_X6_10 (hx : p.tables.exec = Jvm.exec) (hb : c.code = cc) (hown : s.vm.findClass RX6 = some m.cls) (hK : KI G s) (hH : Hp G B σ H) {i : Nat} (hi : i < B.2 40) (hdg : decode cc pc = .ok (.getfield 10, 3)) (kk : W p l e R s m args below meth c H locs cells slots Q (F0 m (pc + 3) ls (.ref (B.1 41 0) :: rest))) : W p l e R s m args below meth c H locs cells slots Q (F0 m pc ls (.ref (B.1 40 i) :: rest)) := m_get (ci := 6) hx hb hown hK hH hi rfl rfl 0 (by decide) wf_X6_10 rfl hdg kk
theorem gf_X6_19 (hx : p.tables.exec = Jvm.exec) (hb : c.code = cc) (hown : s.vm.findClass RX6 = some m.cls) (hK : KI G s) (hH : Hp G B σ H) {i : Nat} (hi : i < B.2 40) (hdg : decode cc pc = .ok (.getfield 19, 3)) (kk : W p l e R s m args below meth c H locs cells slots Q (F0 m (pc + 3) ls (.ref (B.1 44 0) :: rest))) : W p l e R s m args below meth c H locs cells slots Q (F0 m pc ls (.ref (B.1 40 i) :: rest)) := m_get (ci := 6) hx hb hown hK hH hi rfl rfl 1 (by decide) wf_X6_19 rfl hdg kk
theorem gf_X6_25 (hx : p.tables.exec = Jvm.exec) (hb : c.code = cc) (hown : s.vm.findClass RX6 = some m.cls) (hK : KI G s) (hH : Hp G B σ H) {i : Nat} (hi : i < B.2 40) (hdg : decode cc pc = .ok (.getfield 25, 3)) (kk : W p l e R s m args below meth c H locs cells slots Q (F0 m (pc + 3) ls (.ref (B.1 45 0) :: rest))) : W p l e R s m args below meth c H locs cells slots Q (F0 m pc ls (.ref (B.1 40 i) :: rest)) := m_get (ci := 6) hx hb hown hK hH hi rfl rfl 2 (by decide) wf_X6_25 rfl hdg kk
theorem gf_X6_32 (hx : p.tables.exec = Jvm.exec) (hb : c.code = cc) (hown : s.vm.findClass RX6 = some m.cls) (hK : KI G s) (hH : Hp G B σ H) {i : Nat} (hi : i < B.2 40) (hdg : decode cc pc = .ok (.getfield 32, 3)) (kk : W p l e R s m args below meth c H locs cells slots Q (F0 m (pc + 3) ls (.ref (B.1 49 0) :: rest))) : W p l e R s m args below meth c H locs cells slots Q (F0 m pc ls (.ref (B.1 40 i) :: rest)) := m_get (ci := 6) hx hb hown hK hH hi rfl rfl 4 (by decide) wf_X6_32 rfl hdg kk
theorem gf_X6_36 (hx : p.tables.exec = Jvm.exec) (hb : c.code = cc) (hown : s.vm.findClass RX6 = some m.cls) (hK : KI G s) (hH : Hp G B σ H) {i : Nat} (hi : i < B.2 40) (hdg : decode cc pc = .ok (.getfield 36, 3)) (kk : W p l e R s m args below meth c H locs cells slots Q (F0 m (pc + 3) ls (.ref (B.1 49 1) :: rest))) : W p l e R s m args below meth c H locs cells slots Q (F0 m pc ls (.ref (B.1 40 i) :: rest)) := m_get (ci := 6) hx hb hown hK hH hi rfl rfl 5 (by decide) wf_X6_36 rfl hdg kk
theorem gf_X6_41 (hx : p.tables.exec = Jvm.exec) (hb : c.code = cc) (hown : s.vm.findClass RX6 = some m.cls) (hK : KI G s) (hH : Hp G B σ H) {i : Nat} (hi : i < B.2 40) (hdg : decode cc pc = .ok (.getfield 41, 3)) (kk : W p l e R s m args below meth c H locs cells slots Q (F0 m (pc + 3) ls (.ref (B.1 46 0) :: rest))) : W p l e R s m args below meth c H locs cells slots Q (F0 m pc ls (.ref (B.1 40 i) :: rest)) := m_get (ci := 6) hx hb hown hK hH hi rfl rfl 6 (by decide) wf_X6_41 rfl hdg kk
theorem gf_X6_47 (hx : p.tables.exec = Jvm.exec) (hb : c.code = cc) (hown : s.vm.findClass RX6 = some m.cls) (hK : KI G s) (hH : Hp G B σ H) {i : Nat} (hi : i < B.2 40) (hdg : decode cc pc = .ok (.getfield 47, 3)) (kk : W p l e R s m args below meth c H locs cells slots Q (F0 m (pc + 3) ls (.ref (B.1 47 0) :: rest))) : W p l e R s m args below meth c H locs cells slots Q (F0 m pc ls (.ref (B.1 40 i) :: rest)) := m_get (ci := 6) hx hb hown hK hH hi rfl rfl 8 (by decide) wf_X6_47 rfl hdg kk
theorem gf_X6_51 (hx : p.tables.exec = Jvm.exec) (hb : c.code = cc) (hown : s.vm.findClass RX6 = some m.cls) (hK : KI G s) (hH : Hp G B σ H) {i : Nat} (hi : i < B.2 40) (hdg : decode cc pc = .ok (.getfield 51, 3)) (kk : W p l e R s m args below meth c H locs cells slots Q (F0 m (pc + 3) ls (.ref (B.1 48 0) :: rest))) : W p l e R s m args below meth c H locs cells slots Q (F0 m pc ls (.ref (B.1 40 i) :: rest)) := m_get (ci := 6) hx hb hown hK hH hi rfl rfl 10 (by decide) wf_X6_51 rfl hdg kk
theorem gf_X6_55 (hx : p.tables.exec = Jvm.exec) (hb : c.code = cc) (hown : s.vm.findClass RX6 = some m.cls) (hK : KI G s) (hH : Hp G B σ H) {i : Nat} (hi : i < B.2 40) (hdg : decode cc pc = .ok (.getfield 55, 3)) (kk : W p l e R s m args below meth c H locs cells slots Q (F0 m (pc + 3) ls (.int (σ.1 40 i 3) :: rest))) : W p l e R s m args below meth c H locs cells slots Q (F0 m pc ls (.ref (B.1 40 i) :: rest)) := m_get (ci := 6) hx hb hown hK hH hi rfl rfl 3 (by decide) wf_X6_55 rfl hdg kk
theorem pf_X6_55 (hx : p.tables.exec = Jvm.exec) (hb : c.code = cc) (hown : s.vm.findClass RX6 = some m.cls) (hK : KI G s) (hH : Hp G B σ H) (hS : va_S (mA G) s.heap H locs) {i : Nat} (hi : i < B.2 40) {v : Int32} (hdg : decode cc pc = .ok (.putfield 55, 3)) (kk : ∀ (H1 : Heap) (locs1 : List Loc), Hp G B (sI σ 40 i 3 v) H1 → va_S (mA G) s.heap H1 locs1 → W p l e R s m args below meth c H1 locs1 cells slots Q (F0 m (pc + 3) ls rest)) : W p l e R s m args below meth c H locs cells slots Q (F0 m pc ls (.int v :: .ref (B.1 40 i) :: rest)) := m_put (ty := .int) (ci := 6) hx hb hown hK hH hS hi rfl rfl 3 (by decide) wf_X6_55 rfl (by decide +kernel) rfl rfl (Nat.le_of_ble_eq_true rfl) (by rw [sI_on, sI_J]; rfl) (sI_off σ 40 i 3 v) hdg kk
theorem gf_X6_68 (hx : p.tables.exec = Jvm.exec) (hb : c.code = cc) (hown : s.vm.findClass RX6 = some m.cls) (hK : KI G s) (hH : Hp G B σ H) {i : Nat} (hi : i < B.2 50) (hdg : decode cc pc = .ok (.getfield 68, 3)) (kk : W p l e R s m args below meth c H locs cells slots Q (F0 m (pc + 3) ls (.int (σ.1 50 i 5) :: rest))) : W p l e R s m args below meth c H locs cells slots Q (F0 m pc ls (.ref (B.1 50 i) :: rest)) := m_getN (ci := 2) hx hb hown hK hH hi rfl rfl 5 (by decide) wf_X6_68 rfl hdg kk
theorem pf_X6_68 (hx : p.tables.exec = Jvm.exec) (hb : c.code = cc) (hown : s.vm.findClass RX6 = some m.cls) (hK : KI G s) (hH : Hp G B σ H) (hS : va_S (mA G) s.heap H locs) {i : Nat} (hi : i < B.2 50) {v : Int32} (hdg : decode cc pc = .ok (.putfield 68, 3)) (kk : ∀ (H1 : Heap) (locs1 : List Loc), Hp G B (sI σ 50 i 5 v) H1 → va_S (mA G) s.heap H1 locs1 → W p l e R s m args below meth c H1 locs1 cells slots Q (F0 m (pc + 3) ls rest)) : W p l e R s m args below meth c H locs cells slots Q (F0 m pc ls (.int v :: .ref (B.1 50 i) :: rest)) := m_putN (ty := .int) (ci := 2) hx hb hown hK hH hS hi rfl rfl 5 (by decide) wf_X6_68 rfl (by decide +kernel) rfl rfl (Nat.le_of_ble_eq_true rfl) (by rw [sI_on, sI_J]; rfl) (sI_off σ 50 i 5 v) hdg kk
theorem gf_X6_75 (hx : p.tables.exec = Jvm.exec) (hb : c.code = cc) (hown : s.vm.findClass RX6 = some m.cls) (hK : KI G s) (hH : Hp G B σ H) {i : Nat} (hi : i < B.2 50) (hdg : decode cc pc = .ok (.getfield 75, 3)) (kk : W p l e R s m args below meth c H locs cells slots Q (F0 m (pc + 3) ls (.ref (B.1 51 i) :: rest))) : W p l e R s m args below meth c H locs cells slots Q (F0 m pc ls (.ref (B.1 50 i) :: rest)) := m_getN (ci := 2) hx hb hown hK hH hi rfl rfl 0 (by decide) wf_X6_75 rfl hdg kk
theorem gf_X6_78 (hx : p.tables.exec = Jvm.exec) (hb : c.code = cc) (hown : s.vm.findClass RX6 = some m.cls) (hK : KI G s) (hH : Hp G B σ H) {i : Nat} (hi : i < B.2 50) (hdg : decode cc pc = .ok (.getfield 78, 3)) (kk : W p l e R s m args below meth c H locs cells slots Q (F0 m (pc + 3) ls (.ref (B.1 52 i) :: rest))) : W p l e R s m args below meth c H locs cells slots Q (F0 m pc ls (.ref (B.1 50 i) :: rest)) := m_getN (ci := 2) hx hb hown hK hH hi rfl rfl 1 (by decide) wf_X6_78 rfl hdg kk
theorem gf_X6_81 (hx : p.tables.exec = Jvm.exec) (hb : c.code = cc) (hown : s.vm.findClass RX6 = some m.cls) (hK : KI G s) (hH : Hp G B σ H) {i : Nat} (hi : i < B.2 50) (hdg : decode cc pc = .ok (.getfield 81, 3)) (kk : W p l e R s m args below meth c H locs cells slots Q (F0 m (pc + 3) ls (.ref (B.1 53 i) :: rest))) : W p l e R s m args below meth c H locs cells slots Q (F0 m pc ls (.ref (B.1 50 i) :: rest)) := m_getN (ci := 2) hx hb hown hK hH hi rfl rfl 2 (by decide) wf_X6_81 rfl hdg kk
theorem gf_X6_100 (hx : p.tables.exec = Jvm.exec) (hb : c.code = cc) (hown : s.vm.findClass RX6 = some m.cls) (hK : KI G s) (hH : Hp G B σ H) {i : Nat} (hi : i < B.2 44) (hdg : decode cc pc = .ok (.getfield 100, 3)) (kk : W p l e R s m args below meth c H locs cells slots Q (F0 m (pc + 3) ls (.long (σ.2 44 i 0) :: rest))) : W p l e R s m args below meth c H locs cells slots Q (F0 m pc ls (.ref (B.1 44 i) :: rest)) := m_getN (ci := 1) hx hb hown hK hH hi rfl rfl 0 (by decide) wf_X6_100 rfl hdg kk
theorem pf_X6_100 (hx : p.tables.exec = Jvm.exec) (hb : c.code = cc) (hown : s.vm.findClass RX6 = some m.cls) (hK : KI G s) (hH : Hp G B σ H) (hS : va_S (mA G) s.heap H locs) {i : Nat} (hi : i < B.2 44) {v : Int64} (hdg : decode cc pc = .ok (.putfield 100, 3)) (kk : ∀ (H1 : Heap) (locs1 : List Loc), Hp G B (sJ σ 44 i 0 v) H1 → va_S (mA G) s.heap H1 locs1 → W p l e R s m args below meth c H1 locs1 cells slots Q (F0 m (pc + 3) ls rest)) : W p l e R s m args below meth c H locs cells slots Q (F0 m pc ls (.long v :: .ref (B.1 44 i) :: rest)) := m_putN (ty := .long) (ci := 1) hx hb hown hK hH hS hi rfl rfl 0 (by decide) wf_X6_100 rfl (by decide +kernel) rfl rfl (Nat.le_of_ble_eq_true rfl) (by rw [sJ_on, sJ_I]; rfl) (sJ_off σ 44 i 0 v) hdg kk
theorem gf_X6_104 (hx : p.tables.exec = Jvm.exec) (hb : c.code = cc) (hown : s.vm.findClass RX6 = some m.cls) (hK : KI G s) (hH : Hp G B σ H) {i : Nat} (hi : i < B.2 44) (hdg : decode cc pc = .ok (.getfield 104, 3)) (kk : W p l e R s m args below meth c H locs cells slots Q (F0 m (pc + 3) ls (.long (σ.2 44 i 1) :: rest))) : W p l e R s m args below meth c H locs cells slots Q (F0 m pc ls (.ref (B.1 44 i) :: rest)) := m_getN (ci := 1) hx hb hown hK hH hi rfl rfl 1 (by decide) wf_X6_104 rfl hdg kk
theorem pf_X6_104 (hx : p.tables.exec = Jvm.exec) (hb : c.code = cc) (hown : s.vm.findClass RX6 = some m.cls) (hK : KI G s) (hH : Hp G B σ H) (hS : va_S (mA G) s.heap H locs) {i : Nat} (hi : i < B.2 44) {v : Int64} (hdg : decode cc pc = .ok (.putfield 104, 3)) (kk : ∀ (H1 : Heap) (locs1 : List Loc), Hp G B (sJ σ 44 i 1 v) H1 → va_S (mA G) s.heap H1 locs1 → W p l e R s m args below meth c H1 locs1 cells slots Q (F0 m (pc + 3) ls rest)) : W p l e R s m args below meth c H locs cells slots Q (F0 m pc ls (.long v :: .ref (B.1 44 i) :: rest)) := m_putN (ty := .long) (ci := 1) hx hb hown hK hH hS hi rfl rfl 1 (by decide) wf_X6_104 rfl (by decide +kernel) rfl rfl (Nat.le_of_ble_eq_true rfl) (by rw [sJ_on, sJ_I]; rfl) (sJ_off σ 44 i 1 v) hdg kk
theorem gf_X6_117 (hx : p.tables.exec = Jvm.exec) (hb : c.code = cc) (hown : s.vm.findClass RX6 = some m.cls) (hK : KI G s) (hH : Hp G B σ H) {i : Nat} (hi : i < B.2 50) (hdg : decode cc pc = .ok (.getfield 117, 3)) (kk : W p l e R s m args below meth c H locs cells slots Q (F0 m (pc + 3) ls (.int (σ.1 50 i 6) :: rest))) : W p l e R s m args below meth c H locs cells slots Q (F0 m pc ls (.ref (B.1 50 i) :: rest)) := m_getN (ci := 2) hx hb hown hK hH hi rfl rfl 6 (by decide) wf_X6_117 rfl hdg kk
theorem pf_X6_117 (hx : p.tables.exec = Jvm.exec) (hb : c.code = cc) (hown : s.vm.findClass RX6 = some m.cls) (hK : KI G s) (hH : Hp G B σ H) (hS : va_S (mA G) s.heap H locs) {i : Nat} (hi : i < B.2 50) {v : Int32} (hv : v = 0 ∨ v = 1) (hdg : decode cc pc = .ok (.putfield 117, 3)) (kk : ∀ (H1 : Heap) (locs1 : List Loc), Hp G B (sI σ 50 i 6 v) H1 → va_S (mA G) s.heap H1 locs1 → W p l e R s m args below meth c H1 locs1 cells slots Q (F0 m (pc + 3) ls rest)) : W p l e R s m args below meth c H locs cells slots Q (F0 m pc ls (.int v :: .ref (B.1 50 i) :: rest)) := m_putN (ty := .boolean) (ci := 2) hx hb hown hK hH hS hi rfl rfl 6 (by decide) wf_X6_117 rfl (by decide +kernel) (by rcases hv with rfl | rfl <;> rfl) (by rcases hv with rfl | rfl <;> rfl) (Nat.le_of_ble_eq_true rfl) (by rw [sI_on, sI_J]; rfl) (sI_off σ 50 i 6 v) hdg kk
theorem gf_X6_138 (hx : p.tables.exec = Jvm.exec) (hb : c.code = cc) (hown : s.vm.findClass RX6 = some m.cls) (hK : KI G s) (hH : Hp G B σ H) {i : Nat} (hi : i < B.2 49) (hdg : decode cc pc = .ok (.getfield 138, 3)) (kk : W p l e R s m args below meth c H locs cells slots Q (F0 m (pc + 3) ls (.int (σ.1 49 i 0) :: rest))) : W p l e R s m args below meth c H locs cells slots Q (F0 m pc ls (.ref (B.1 49 i) :: rest)) := m_getN (ci := 3) hx hb hown hK hH hi rfl rfl 0 (by decide) wf_X6_138 rfl hdg kk
theorem pf_X6_138 (hx : p.tables.exec = Jvm.exec) (hb : c.code = cc) (hown : s.vm.findClass RX6 = some m.cls) (hK : KI G s) (hH : Hp G B σ H) (hS : va_S (mA G) s.heap H locs) {i : Nat} (hi : i < B.2 49) {v : Int32} (hv : v = 0 ∨ v = 1) (hdg : decode cc pc = .ok (.putfield 138, 3)) (kk : ∀ (H1 : Heap) (locs1 : List Loc), Hp G B (sI σ 49 i 0 v) H1 → va_S (mA G) s.heap H1 locs1 → W p l e R s m args below meth c H1 locs1 cells slots Q (F0 m (pc + 3) ls rest)) : W p l e R s m args below meth c H locs cells slots Q (F0 m pc ls (.int v :: .ref (B.1 49 i) :: rest)) := m_putN (ty := .boolean) (ci := 3) hx hb hown hK hH hS hi rfl rfl 0 (by decide) wf_X6_138 rfl (by decide +kernel) (by rcases hv with rfl | rfl <;> rfl) (by rcases hv with rfl | rfl <;> rfl) (Nat.le_of_ble_eq_true rfl) (by rw [sI_on, sI_J]; rfl) (sI_off σ 49 i 0 v) hdg kk
theorem gf_X6_154 (hx : p.tables.exec = Jvm.exec) (hb : c.code = cc) (hown : s.vm.findClass RX6 = some m.cls) (hK : KI G s) (hH : Hp G B σ H) {i : Nat} (hi : i < B.2 49) (hdg : decode cc pc = .ok (.getfield 154, 3)) (kk : W p l e R s m args below meth c H locs cells slots Q (F0 m (pc + 3) ls (.int (σ.1 49 i 1) :: rest))) : W p l e R s m args below meth c H locs cells slots Q (F0 m pc ls (.ref (B.1 49 i) :: rest)) := m_getN (ci := 3) hx hb hown hK hH hi rfl rfl 1 (by decide) wf_X6_154 rfl hdg kk
theorem pf_X6_154 (hx : p.tables.exec = Jvm.exec) (hb : c.code = cc) (hown : s.vm.findClass RX6 = some m.cls) (hK : KI G s) (hH : Hp G B σ H) (hS : va_S (mA G) s.heap H locs) {i : Nat} (hi : i < B.2 49) {v : Int32} (hdg : decode cc pc = .ok (.putfield 154, 3)) (kk : ∀ (H1 : Heap) (locs1 : List Loc), Hp G B (sI σ 49 i 1 v) H1 → va_S (mA G) s.heap H1 locs1 → W p l e R s m args below meth c H1 locs1 cells slots Q (F0 m (pc + 3) ls rest)) : W p l e R s m args below meth c H locs cells slots Q (F0 m pc ls (.int v :: .ref (B.1 49 i) :: rest)) := m_putN (ty := .int) (ci := 3) hx hb hown hK hH hS hi rfl rfl 1 (by decide) wf_X6_154 rfl (by decide +kernel) rfl rfl (Nat.le_of_ble_eq_true rfl) (by rw [sI_on, sI_J]; rfl) (sI_off σ 49 i 1 v) hdg kk
theorem gf_X6_168 (hx : p.tables.exec = Jvm.exec) (hb : c.code = cc) (hown : s.vm.findClass RX6 = some m.cls) (hK : KI G s) (hH : Hp G B σ H) {i : Nat} (hi : i < B.2 40) (hdg : decode cc pc = .ok (.getfield 168, 3)) (kk : W p l e R s m args below meth c H locs cells slots Q (F0 m (pc + 3) ls (.int (σ.1 40 i 7) :: rest))) : W p l e R s m args below meth c H locs cells slots Q (F0 m pc ls (.ref (B.1 40 i) :: rest)) := m_get (ci := 6) hx hb hown hK hH hi rfl rfl 7 (by decide) wf_X6_168 rfl hdg kk
theorem pf_X6_168 (hx : p.tables.exec = Jvm.exec) (hb : c.code = cc) (hown : s.vm.findClass RX6 = some m.cls) (hK : KI G s) (hH : Hp G B σ H) (hS : va_S (mA G) s.heap H locs) {i : Nat} (hi : i < B.2 40) {v : Int32} (hdg : decode cc pc = .ok (.putfield 168, 3)) (kk : ∀ (H1 : Heap) (locs1 : List Loc), Hp G B (sI σ 40 i 7 v) H1 → va_S (mA G) s.heap H1 locs1 → W p l e R s m args below meth c H1 locs1 cells slots Q (F0 m (pc + 3) ls rest)) : W p l e R s m args below meth c H locs cells slots Q (F0 m pc ls (.int v :: .ref (B.1 40 i) :: rest)) := m_put (ty := .int) (ci := 6) hx hb hown hK hH hS hi rfl rfl 7 (by decide) wf_X6_168 rfl (by decide +kernel) rfl rfl (Nat.le_of_ble_eq_true rfl) (by rw [sI_on, sI_J]; rfl) (sI_off σ 40 i 7 v) hdg kk
theorem gf_X6_177 (hx : p.tables.exec = Jvm.exec) (hb : c.code = cc) (hown : s.vm.findClass RX6 = some m.cls) (hK : KI G s) (hH : Hp G B σ H) {i : Nat} (hi : i < B.2 40) (hdg : decode cc pc = .ok (.getfield 177, 3)) (kk : W p l e R s m args below meth c H locs cells slots Q (F0 m (pc + 3) ls (.int (σ.1 40 i 9) :: rest))) : W p l e R s m args below meth c H locs cells slots Q (F0 m pc ls (.ref (B.1 40 i) :: rest)) := m_get (ci := 6) hx hb hown hK hH hi rfl rfl 9 (by decide) wf_X6_177 rfl hdg kk
theorem pf_X6_177 (hx : p.tables.exec = Jvm.exec) (hb : c.code = cc) (hown : s.vm.findClass RX6 = some m.cls) (hK : KI G s) (hH : Hp G B σ H) (hS : va_S (mA G) s.heap H locs) {i : Nat} (hi : i < B.2 40) {v : Int32} (hdg : decode cc pc = .ok (.putfield 177, 3)) (kk : ∀ (H1 : Heap) (locs1 : List Loc), Hp G B (sI σ 40 i 9 v) H1 → va_S (mA G) s.heap H1 locs1 → W p l e R s m args below meth c H1 locs1 cells slots Q (F0 m (pc + 3) ls rest)) : W p l e R s m args below meth c H locs cells slots Q (F0 m pc ls (.int v :: .ref (B.1 40 i) :: rest)) := m_put (ty := .int) (ci := 6) hx hb hown hK hH hS hi rfl rfl 9 (by decide) wf_X6_177 rfl (by decide +kernel) rfl rfl (Nat.le_of_ble_eq_true rfl) (by rw [sI_on, sI_J]; rfl) (sI_off σ 40 i 9 v) hdg kk
theorem gf_X6_183 (hx : p.tables.exec = Jvm.exec) (hb : c.code = cc) (hown : s.vm.findClass RX6 = some m.cls) (hK : KI G s) (hH : Hp G B σ H) {i : Nat} (hi : i < B.2 57) (hdg : decode cc pc = .ok (.getfield 183, 3)) (kk : W p l e R s m args below meth c H locs cells slots Q (F0 m (pc + 3) ls (.int (σ.1 57 i 3) :: rest))) : W p l e R s m args below meth c H locs cells slots Q (F0 m pc ls (.ref (B.1 57 i) :: rest)) := m_getN (ci := 4) hx hb hown hK hH hi rfl rfl 3 (by decide) wf_X6_183 rfl hdg kk
theorem pf_X6_183 (hx : p.tables.exec = Jvm.exec) (hb : c.code = cc) (hown : s.vm.findClass RX6 = some m.cls) (hK : KI G s) (hH : Hp G B σ H) (hS : va_S (mA G) s.heap H locs) {i : Nat} (hi : i < B.2 57) {v : Int32} (hdg : decode cc pc = .ok (.putfield 183, 3)) (kk : ∀ (H1 : Heap) (locs1 : List Loc), Hp G B (sI σ 57 i 3 v) H1 → va_S (mA G) s.heap H1 locs1 → W p l e R s m args below meth c H1 locs1 cells slots Q (F0 m (pc + 3) ls rest)) : W p l e R s m args below meth c H locs cells slots Q (F0 m pc ls (.int v :: .ref (B.1 57 i) :: rest)) := m_putN (ty := .int) (ci := 4) hx hb hown hK hH hS hi rfl rfl 3 (by decide) wf_X6_183 rfl (by decide +kernel) rfl rfl (Nat.le_of_ble_eq_true rfl) (by rw [sI_on, sI_J]; rfl) (sI_off σ 57 i 3 v) hdg kk
theorem gf_X6_204 (hx : p.tables.exec = Jvm.exec) (hb : c.code = cc) (hown : s.vm.findClass RX6 = some m.cls) (hK : KI G s) (hH : Hp G B σ H) {i : Nat} (hi : i < B.2 60) (hdg : decode cc pc = .ok (.getfield 204, 3)) (kk : W p l e R s m args below meth c H locs cells slots Q (F0 m (pc + 3) ls (.int (σ.1 60 i 7) :: rest))) : W p l e R s m args below meth c H locs cells slots Q (F0 m pc ls (.ref (B.1 60 i) :: rest)) := m_getN (ci := 0) hx hb hown hK hH hi rfl rfl 7 (by decide) wf_X6_204 rfl hdg kk
theorem pf_X6_204 (hx : p.tables.exec = Jvm.exec) (hb : c.code = cc) (hown : s.vm.findClass RX6 = some m.cls) (hK : KI G s) (hH : Hp G B σ H) (hS : va_S (mA G) s.heap H locs) {i : Nat} (hi : i < B.2 60) {v : Int32} (hdg : decode cc pc = .ok (.putfield 204, 3)) (kk : ∀ (H1 : Heap) (locs1 : List Loc), Hp G B (sI σ 60 i 7 v) H1 → va_S (mA G) s.heap H1 locs1 → W p l e R s m args below meth c H1 locs1 cells slots Q (F0 m (pc + 3) ls rest)) : W p l e R s m args below meth c H locs cells slots Q (F0 m pc ls (.int v :: .ref (B.1 60 i) :: rest)) := m_putN (ty := .int) (ci := 0) hx hb hown hK hH hS hi rfl rfl 7 (by decide) wf_X6_204 rfl (by decide +kernel) rfl rfl (Nat.le_of_ble_eq_true rfl) (by rw [sI_on, sI_J]; rfl) (sI_off σ 60 i 7 v) hdg kk
theorem gf_X6_213 (hx : p.tables.exec = Jvm.exec) (hb : c.code = cc) (hown : s.vm.findClass RX6 = some m.cls) (hK : KI G s) (hH : Hp G B σ H) {i : Nat} (hi : i < B.2 60) (hdg : decode cc pc = .ok (.getfield 213, 3)) (kk : W p l e R s m args below meth c H locs cells slots Q (F0 m (pc + 3) ls (.ref (B.1 61 i) :: rest))) : W p l e R s m args below meth c H locs cells slots Q (F0 m pc ls (.ref (B.1 60 i) :: rest)) := m_getN (ci := 0) hx hb hown hK hH hi rfl rfl 5 (by decide) wf_X6_213 rfl hdg kk
theorem gf_X6_219 (hx : p.tables.exec = Jvm.exec) (hb : c.code = cc) (hown : s.vm.findClass RX6 = some m.cls) (hK : KI G s) (hH : Hp G B σ H) {i : Nat} (hi : i < B.2 60) (hdg : decode cc pc = .ok (.getfield 219, 3)) (kk : W p l e R s m args below meth c H locs cells slots Q (F0 m (pc + 3) ls (.int (σ.1 60 i 9) :: rest))) : W p l e R s m args below meth c H locs cells slots Q (F0 m pc ls (.ref (B.1 60 i) :: rest)) := m_getN (ci := 0) hx hb hown hK hH hi rfl rfl 9 (by decide) wf_X6_219 rfl hdg kk
theorem pf_X6_219 (hx : p.tables.exec = Jvm.exec) (hb : c.code = cc) (hown : s.vm.findClass RX6 = some m.cls) (hK : KI G s) (hH : Hp G B σ H) (hS : va_S (mA G) s.heap H locs) {i : Nat} (hi : i < B.2 60) {v : Int32} (hdg : decode cc pc = .ok (.putfield 219, 3)) (kk : ∀ (H1 : Heap) (locs1 : List Loc), Hp G B (sI σ 60 i 9 v) H1 → va_S (mA G) s.heap H1 locs1 → W p l e R s m args below meth c H1 locs1 cells slots Q (F0 m (pc + 3) ls rest)) : W p l e R s m args below meth c H locs cells slots Q (F0 m pc ls (.int v :: .ref (B.1 60 i) :: rest)) := m_putN (ty := .int) (ci := 0) hx hb hown hK hH hS hi rfl rfl 9 (by decide) wf_X6_219 rfl (by decide +kernel) rfl rfl (Nat.le_of_ble_eq_true rfl) (by rw [sI_on, sI_J]; rfl) (sI_off σ 60 i 9 v) hdg kk
theorem gf_X6_225 (hx : p.tables.exec = Jvm.exec) (hb : c.code = cc) (hown : s.vm.findClass RX6 = some m.cls) (hK : KI G s) (hH : Hp G B σ H) {i : Nat} (hi : i < B.2 60) (hdg : decode cc pc = .ok (.getfield 225, 3)) (kk : W p l e R s m args below meth c H locs cells slots Q (F0 m (pc + 3) ls (.int (σ.1 60 i 8) :: rest))) : W p l e R s m args below meth c H locs cells slots Q (F0 m pc ls (.ref (B.1 60 i) :: rest)) := m_getN (ci := 0) hx hb hown hK hH hi rfl rfl 8 (by decide) wf_X6_225 rfl hdg kk
theorem pf_X6_225 (hx : p.tables.exec = Jvm.exec) (hb : c.code = cc) (hown : s.vm.findClass RX6 = some m.cls) (hK : KI G s) (hH : Hp G B σ H) (hS : va_S (mA G) s.heap H locs) {i : Nat} (hi : i < B.2 60) {v : Int32} (hdg : decode cc pc = .ok (.putfield 225, 3)) (kk : ∀ (H1 : Heap) (locs1 : List Loc), Hp G B (sI σ 60 i 8 v) H1 → va_S (mA G) s.heap H1 locs1 → W p l e R s m args below meth c H1 locs1 cells slots Q (F0 m (pc + 3) ls rest)) : W p l e R s m args below meth c H locs cells slots Q (F0 m pc ls (.int v :: .ref (B.1 60 i) :: rest)) := m_putN (ty := .int) (ci := 0) hx hb hown hK hH hS hi rfl rfl 8 (by decide) wf_X6_225 rfl (by decide +kernel) rfl rfl (Nat.le_of_ble_eq_true rfl) (by rw [sI_on, sI_J]; rfl) (sI_off σ 60 i 8 v) hdg kk
theorem gf_X6_228 (hx : p.tables.exec = Jvm.exec) (hb : c.code = cc) (hown : s.vm.findClass RX6 = some m.cls) (hK : KI G s) (hH : Hp G B σ H) {i : Nat} (hi : i < B.2 60) (hdg : decode cc pc = .ok (.getfield 228, 3)) (kk : W p l e R s m args below meth c H locs cells slots Q (F0 m (pc + 3) ls (.int (σ.1 60 i 3) :: rest))) : W p l e R s m args below meth c H locs cells slots Q (F0 m pc ls (.ref (B.1 60 i) :: rest)) := m_getN (ci := 0) hx hb hown hK hH hi rfl rfl 3 (by decide) wf_X6_228 rfl hdg kk
theorem gf_X6_231 (hx : p.tables.exec = Jvm.exec) (hb : c.code = cc) (hown : s.vm.findClass RX6 = some m.cls) (hK : KI G s) (hH : Hp G B σ H) {i : Nat} (hi : i < B.2 60) (hdg : decode cc pc = .ok (.getfield 231, 3)) (kk : W p l e R s m args below meth c H locs cells slots Q (F0 m (pc + 3) ls (.int (σ.1 60 i 1) :: rest))) : W p l e R s m args below meth c H locs cells slots Q (F0 m pc ls (.ref (B.1 60 i) :: rest)) := m_getN (ci := 0) hx hb hown hK hH hi rfl rfl 1 (by decide) wf_X6_231 rfl hdg kk
theorem gf_X6_234 (hx : p.tables.exec = Jvm.exec) (hb : c.code = cc) (hown : s.vm.findClass RX6 = some m.cls) (hK : KI G s) (hH : Hp G B σ H) {i : Nat} (hi : i < B.2 60) (hdg : decode cc pc = .ok (.getfield 234, 3)) (kk : W p l e R s m args below meth c H locs cells slots Q (F0 m (pc + 3) ls (.int (σ.1 60 i 4) :: rest))) : W p l e R s m args below meth c H locs cells slots Q (F0 m pc ls (.ref (B.1 60 i) :: rest)) := m_getN (ci := 0) hx hb hown hK hH hi rfl rfl 4 (by decide) wf_X6_234 rfl hdg kk
theorem gf_X6_244 (hx : p.tables.exec = Jvm.exec) (hb : c.code = cc) (hown : s.vm.findClass RX6 = some m.cls) (hK : KI G s) (hH : Hp G B σ H) {i : Nat} (hi : i < B.2 60) (hdg : decode cc pc = .ok (.getfield 244, 3)) (kk : W p l e R s m args below meth c H locs cells slots Q (F0 m (pc + 3) ls (.int (σ.1 60 i 0) :: rest))) : W p l e R s m args below meth c H locs cells slots Q (F0 m pc ls (.ref (B.1 60 i) :: rest)) := m_getN (ci := 0) hx hb hown hK hH hi rfl rfl 0 (by decide) wf_X6_244 rfl hdg kk
theorem gf_X6_251 (hx : p.tables.exec = Jvm.exec) (hb : c.code = cc) (hown : s.vm.findClass RX6 = some m.cls) (hK : KI G s) (hH : Hp G B σ H) {i : Nat} (hi : i < B.2 57) (hdg : decode cc pc = .ok (.getfield 251, 3)) (kk : W p l e R s m args below meth c H locs cells slots Q (F0 m (pc + 3) ls (.int (σ.1 57 i 4) :: rest))) : W p l e R s m args below meth c H locs cells slots Q (F0 m pc ls (.ref (B.1 57 i) :: rest)) := m_getN (ci := 4) hx hb hown hK hH hi rfl rfl 4 (by decide) wf_X6_251 rfl hdg kk
theorem pf_X6_251 (hx : p.tables.exec = Jvm.exec) (hb : c.code = cc) (hown : s.vm.findClass RX6 = some m.cls) (hK : KI G s) (hH : Hp G B σ H) (hS : va_S (mA G) s.heap H locs) {i : Nat} (hi : i < B.2 57) {v : Int32} (hdg : decode cc pc = .ok (.putfield 251, 3)) (kk : ∀ (H1 : Heap) (locs1 : List Loc), Hp G B (sI σ 57 i 4 v) H1 → va_S (mA G) s.heap H1 locs1 → W p l e R s m args below meth c H1 locs1 cells slots Q (F0 m (pc + 3) ls rest)) : W p l e R s m args below meth c H locs cells slots Q (F0 m pc ls (.int v :: .ref (B.1 57 i) :: rest)) := m_putN (ty := .int) (ci := 4) hx hb hown hK hH hS hi rfl rfl 4 (by decide) wf_X6_251 rfl (by decide +kernel) rfl rfl (Nat.le_of_ble_eq_true rfl) (by rw [sI_on, sI_J]; rfl) (sI_off σ 57 i 4 v) hdg kk
theorem gf_X6_264 (hx : p.tables.exec = Jvm.exec) (hb : c.code = cc) (hown : s.vm.findClass RX6 = some m.cls) (hK : KI G s) (hH : Hp G B σ H) {i : Nat} (hi : i < B.2 60) (hdg : decode cc pc = .ok (.getfield 264, 3)) (kk : W p l e R s m args below meth c H locs cells slots Q (F0 m (pc + 3) ls (.ref (B.1 62 i) :: rest))) : W p l e R s m args below meth c H locs cells slots Q (F0 m pc ls (.ref (B.1 60 i) :: rest)) := m_getN (ci := 0) hx hb hown hK hH hi rfl rfl 6 (by decide) wf_X6_264 rfl hdg kk
theorem gf_X7_7 (hx : p.tables.exec = Jvm.exec) (hb : c.code = cc) (hown : s.vm.findClass RX7 = some m.cls) (hK : KI G s) (hH : Hp G B σ H) {i : Nat} (hi : i < B.2 0) (hdg : decode cc pc = .ok (.getfield 7, 3)) (kk : W p l e R s m args below meth c H locs cells slots Q (F0 m (pc + 3) ls (.ref (B.1 3 0) :: rest))) : W p l e R s m args below meth c H locs cells slots Q (F0 m pc ls (.ref (B.1 0 i) :: rest)) := m_get (ci := 7) hx hb hown hK hH hi rfl rfl 3 (by decide) wf_X7_7 rfl hdg kk
theorem gf_X7_13 (hx : p.tables.exec = Jvm.exec) (hb : c.code = cc) (hown : s.vm.findClass RX7 = some m.cls) (hK : KI G s) (hH : Hp G B σ H) {i : Nat} (hi : i < B.2 0) (hdg : decode cc pc = .ok (.getfield 13, 3)) (kk : W p l e R s m args below meth c H locs cells slots Q (F0 m (pc + 3) ls (.ref (B.1 4 0) :: rest))) : W p l e R s m args below meth c H locs cells slots Q (F0 m pc ls (.ref (B.1 0 i) :: rest)) := m_get (ci := 7) hx hb hown hK hH hi rfl rfl 4 (by decide) wf_X7_13 rfl hdg kk
theorem gf_X7_16 (hx : p.tables.exec = Jvm.exec) (hb : c.code = cc) (hown : s.vm.findClass RX7 = some m.cls) (hK : KI G s) (hH : Hp G B σ H) {i : Nat} (hi : i < B.2 0) (hdg : decode cc pc = .ok (.getfield 16, 3)) (kk : W p l e R s m args below meth c H locs cells slots Q (F0 m (pc + 3) ls (.ref (B.1 5 0) :: rest))) : W p l e R s m args below meth c H locs cells slots Q (F0 m pc ls (.ref (B.1 0 i) :: rest)) := m_get (ci := 7) hx hb hown hK hH hi rfl rfl 5 (by decide) wf_X7_16 rfl hdg kk
theorem gf_X7_19 (hx : p.tables.exec = Jvm.exec) (hb : c.code = cc) (hown : s.vm.findClass RX7 = some m.cls) (hK : KI G s) (hH : Hp G B σ H) {i : Nat} (hi : i < B.2 0) (hdg : decode cc pc = .ok (.getfield 19, 3)) (kk : W p l e R s m args below meth c H locs cells slots Q (F0 m (pc + 3) ls (.ref (B.1 6 0) :: rest))) : W p l e R s m args below meth c H locs cells slots Q (F0 m pc ls (.ref (B.1 0 i) :: rest)) := m_get (ci := 7) hx hb hown hK hH hi rfl rfl 6 (by decide) wf_X7_19 rfl hdg kk
theorem gf_X7_22 (hx : p.tables.exec = Jvm.exec) (hb : c.code = cc) (hown : s.vm.findClass RX7 = some m.cls) (hK : KI G s) (hH : Hp G B σ H) {i : Nat} (hi : i < B.2 0) (hdg : decode cc pc = .ok (.getfield 22, 3)) (kk : W p l e R s m args below meth c H locs cells slots Q (F0 m (pc + 3) ls (.long (σ.2 0 i 8) :: rest))) : W p l e R s m args below meth c H locs cells slots Q (F0 m pc ls (.ref (B.1 0 i) :: rest)) := m_get (ci := 7) hx hb hown hK hH hi rfl rfl 8 (by decide) wf_X7_22 rfl hdg kk
theorem pf_X7_22 (hx : p.tables.exec = Jvm.exec) (hb : c.code = cc) (hown : s.vm.findClass RX7 = some m.cls) (hK : KI G s) (hH : Hp G B σ H) (hS : va_S (mA G) s.heap H locs) {i : Nat} (hi : i < B.2 0) {v : Int64} (hdg : decode cc pc = .ok (.putfield 22, 3)) (kk : ∀ (H1 : Heap) (locs1 : List Loc), Hp G B (sJ σ 0 i 8 v) H1 → va_S (mA G) s.heap H1 locs1 → W p l e R s m args below meth c H1 locs1 cells slots Q (F0 m (pc + 3) ls rest)) : W p l e R s m args below meth c H locs cells slots Q (F0 m pc ls (.long v :: .ref (B.1 0 i) :: rest)) := m_put (ty := .long) (ci := 7) hx hb hown hK hH hS hi rfl rfl 8 (by decide) wf_X7_22 rfl (by decide +kernel) rfl rfl (Nat.le_of_ble_eq_true rfl) (by rw [sJ_on, sJ_I]; rfl) (sJ_off σ 0 i 8 v) hdg kk
theorem gf_X7_26 (hx : p.tables.exec = Jvm.exec) (hb : c.code = cc) (hown : s.vm.findClass RX7 = some m.cls) (hK : KI G s) (hH : Hp G B σ H) {i : Nat} (hi : i < B.2 0) (hdg : decode cc pc = .ok (.getfield 26, 3)) (kk : W p l e R s m args below meth c H locs cells slots Q (F0 m (pc + 3) ls (.ref (B.1 9 0) :: rest))) : W p l e R s m args below meth c H locs cells slots Q (F0 m pc ls (.ref (B.1 0 i) :: rest)) := m_get (ci := 7) hx hb hown hK hH hi rfl rfl 9 (by decide) wf_X7_26 rfl hdg kk
theorem gf_X7_30 (hx : p.tables.exec = Jvm.exec) (hb : c.code = cc) (hown : s.vm.findClass RX7 = some m.cls) (hK : KI G s) (hH : Hp G B σ H) {i : Nat} (hi : i < B.2 0) (hdg : decode cc pc = .ok (.getfield 30, 3)) (kk : W p l e R s m args below meth c H locs cells slots Q (F0 m (pc + 3) ls (.ref (B.1 10 0) :: rest))) : W p l e R s m args below meth c H locs cells slots Q (F0 m pc ls (.ref (B.1 0 i) :: rest)) := m_get (ci := 7) hx hb hown hK hH hi rfl rfl 10 (by decide) wf_X7_30 rfl hdg kk
theorem gf_X7_33 (hx : p.tables.exec = Jvm.exec) (hb : c.code = cc) (hown : s.vm.findClass RX7 = some m.cls) (hK : KI G s) (hH : Hp G B σ H) {i : Nat} (hi : i < B.2 0) (hdg : decode cc pc = .ok (.getfield 33, 3)) (kk : W p l e R s m args below meth c H locs cells slots Q (F0 m (pc + 3) ls (.ref (B.1 11 0) :: rest))) : W p l e R s m args below meth c H locs cells slots Q (F0 m pc ls (.ref (B.1 0 i) :: rest)) := m_get (ci := 7) hx hb hown hK hH hi rfl rfl 11 (by decide) wf_X7_33 rfl hdg kk
theorem gf_X7_36 (hx : p.tables.exec = Jvm.exec) (hb : c.code = cc) (hown : s.vm.findClass RX7 = some m.cls) (hK : KI G s) (hH : Hp G B σ H) {i : Nat} (hi : i < B.2 0) (hdg : decode cc pc = .ok (.getfield 36, 3)) (kk : W p l e R s m args below meth c H locs cells slots Q (F0 m (pc + 3) ls (.ref (B.1 12 0) :: rest))) : W p l e R s m args below meth c H locs cells slots Q (F0 m pc ls (.ref (B.1 0 i) :: rest)) := m_get (ci := 7) hx hb hown hK hH hi rfl rfl 12 (by decide) wf_X7_36 rfl hdg kk
theorem gf_X7_39 (hx : p.tables.exec = Jvm.exec) (hb : c.code = cc) (hown : s.vm.findClass RX7 = some m.cls) (hK : KI G s) (hH : Hp G B σ H) {i : Nat} (hi : i < B.2 0) (hdg : decode cc pc = .ok (.getfield 39, 3)) (kk : W p l e R s m args below meth c H locs cells slots Q (F0 m (pc + 3) ls (.ref (B.1 13 0) :: rest))) : W p l e R s m args below meth c H locs cells slots Q (F0 m pc ls (.ref (B.1 0 i) :: rest)) := m_get (ci := 7) hx hb hown hK hH hi rfl rfl 13 (by decide) wf_X7_39 rfl hdg kk
theorem gf_X7_43 (hx : p.tables.exec = Jvm.exec) (hb : c.code = cc) (hown : s.vm.findClass RX7 = some m.cls) (hK : KI G s) (hH : Hp G B σ H) {i : Nat} (hi : i < B.2 0) (hdg : decode cc pc = .ok (.getfield 43, 3)) (kk : W p l e R s m args below meth c H locs cells slots Q (F0 m (pc + 3) ls (.ref (B.1 14 0) :: rest))) : W p l e R s m args below meth c H locs cells slots Q (F0 m pc ls (.ref (B.1 0 i) :: rest)) := m_get (ci := 7) hx hb hown hK hH hi rfl rfl 14 (by decide) wf_X7_43 rfl hdg kk
theorem gf_X7_46 (hx : p.tables.exec = Jvm.exec) (hb : c.code = cc) (hown : s.vm.findClass RX7 = some m.cls) (hK : KI G s) (hH : Hp G B σ H) {i : Nat} (hi : i < B.2 0) (hdg : decode cc pc = .ok (.getfield 46, 3)) (kk : W p l e R s m args below meth c H locs cells slots Q (F0 m (pc + 3) ls (.ref (B.1 15 0) :: rest))) : W p l e R s m args below meth c H locs cells slots Q (F0 m pc ls (.ref (B.1 0 i) :: rest)) := m_get (ci := 7) hx hb hown hK hH hi rfl rfl 15 (by decide) wf_X7_46 rfl hdg kk
theorem gf_X7_49 (hx : p.tables.exec = Jvm.exec) (hb : c.code = cc) (hown : s.vm.findClass RX7 = some m.cls) (hK : KI G s) (hH : Hp G B σ H) {i : Nat} (hi : i < B.2 0) (hdg : decode cc pc = .ok (.getfield 49, 3)) (kk : W p l e R s m args below meth c H locs cells slots Q (F0 m (pc + 3) ls (.ref (B.1 16 0) :: rest))) : W p l e R s m args below meth c H locs cells slots Q (F0 m pc ls (.ref (B.1 0 i) :: rest)) := m_get (ci := 7) hx hb hown hK hH hi rfl rfl 16 (by decide) wf_X7_49 rfl hdg kk
theorem gf_X7_52 (hx : p.tables.exec = Jvm.exec) (hb : c.code = cc) (hown : s.vm.findClass RX7 = some m.cls) (hK : KI G s) (hH : Hp G B σ H) {i : Nat} (hi : i < B.2 0) (hdg : decode cc pc = .ok (.getfield 52, 3)) (kk : W p l e R s m args below meth c H locs cells slots Q (F0 m (pc + 3) ls (.ref (B.1 17 0) :: rest))) : W p l e R s m args below meth c H locs cells slots Q (F0 m pc ls (.ref (B.1 0 i) :: rest)) := m_get (ci := 7) hx hb hown hK hH hi rfl rfl 17 (by decide) wf_X7_52 rfl hdg kk
theorem gf_X7_55 (hx : p.tables.exec = Jvm.exec) (hb : c.code = cc) (hown : s.vm.findClass RX7 = some m.cls) (hK : KI G s) (hH : Hp G B σ H) {i : Nat} (hi : i < B.2 0) (hdg : decode cc pc = .ok (.getfield 55, 3)) (kk : W p l e R s m args below meth c H locs cells slots Q (F0 m (pc + 3) ls (.ref (B.1 18 0) :: rest))) : W p l e R s m args below meth c H locs cells slots Q (F0 m pc ls (.ref (B.1 0 i) :: rest)) := m_get (ci := 7) hx hb hown hK hH hi rfl rfl 18 (by decide) wf_X7_55 rfl hdg kk
theorem gf_X7_58 (hx : p.tables.exec = Jvm.exec) (hb : c.code = cc) (hown : s.vm.findClass RX7 = some m.cls) (hK : KI G s) (hH : Hp G B σ H) {i : Nat} (hi : i < B.2 0) (hdg : decode cc pc = .ok (.getfield 58, 3)) (kk : W p l e R s m args below meth c H locs cells slots Q (F0 m (pc + 3) ls (.ref (B.1 19 0) :: rest))) : W p l e R s m args below meth c H locs cells slots Q (F0 m pc ls (.ref (B.1 0 i) :: rest)) := m_get (ci := 7) hx hb hown hK hH hi rfl rfl 19 (by decide) wf_X7_58 rfl hdg kk
theorem gf_X7_61 (hx : p.tables.exec = Jvm.exec) (hb : c.code = cc) (hown : s.vm.findClass RX7 = some m.cls) (hK : KI G s) (hH : Hp G B σ H) {i : Nat} (hi : i < B.2 0) (hdg : decode cc pc = .ok (.getfield 61, 3)) (kk : W p l e R s m args below meth c H locs cells slots Q (F0 m (pc + 3) ls (.ref (B.1 20 0) :: rest))) : W p l e R s m args below meth c H locs cells slots Q (F0 m pc ls (.ref (B.1 0 i) :: rest)) := m_get (ci := 7) hx hb hown hK hH hi rfl rfl 20 (by decide) wf_X7_61 rfl hdg kk
theorem gf_X7_64 (hx : p.tables.exec = Jvm.exec) (hb : c.code = cc) (hown : s.vm.findClass RX7 = some m.cls) (hK : KI G s) (hH : Hp G B σ H) {i : Nat} (hi : i < B.2 0) (hdg : decode cc pc = .ok (.getfield 64, 3)) (kk : W p l e R s m args below meth c H locs cells slots Q (F0 m (pc + 3) ls (.ref (B.1 21 0) :: rest))) : W p l e R s m args below meth c H locs cells slots Q (F0 m pc ls (.ref (B.1 0 i) :: rest)) := m_get (ci := 7) hx hb hown hK hH hi rfl rfl 21 (by decide) wf_X7_64 rfl hdg kk
theorem gf_X7_67 (hx : p.tables.exec = Jvm.exec) (hb : c.code = cc) (hown : s.vm.findClass RX7 = some m.cls) (hK : KI G s) (hH : Hp G B σ H) {i : Nat} (hi : i < B.2 0) (hdg : decode cc pc = .ok (.getfield 67, 3)) (kk : W p l e R s m args below meth c H locs cells slots Q (F0 m (pc + 3) ls (.ref (B.1 22 0) :: rest))) : W p l e R s m args below meth c H locs cells slots Q (F0 m pc ls (.ref (B.1 0 i) :: rest)) := m_get (ci := 7) hx hb hown hK hH hi rfl rfl 22 (by decide) wf_X7_67 rfl hdg kk
theorem gf_X7_70 (hx : p.tables.exec = Jvm.exec) (hb : c.code = cc) (hown : s.vm.findClass RX7 = some m.cls) (hK : KI G s) (hH : Hp G B σ H) {i : Nat} (hi : i < B.2 0) (hdg : decode cc pc = .ok (.getfield 70, 3)) (kk : W p l e R s m args below meth c H locs cells slots Q (F0 m (pc + 3) ls (.ref (B.1 23 0) :: rest))) : W p l e R s m args below meth c H locs cells slots Q (F0 m pc ls (.ref (B.1 0 i) :: rest)) := m_get (ci := 7) hx hb hown hK hH hi rfl rfl 23 (by decide) wf_X7_70 rfl hdg kk
theorem gf_X7_73 (hx : p.tables.exec = Jvm.exec) (hb : c.code = cc) (hown : s.vm.findClass RX7 = some m.cls) (hK : KI G s) (hH : Hp G B σ H) {i : Nat} (hi : i < B.2 0) (hdg : decode cc pc = .ok (.getfield 73, 3)) (kk : W p l e R s m args below meth c H locs cells slots Q (F0 m (pc + 3) ls (.ref (B.1 24 0) :: rest))) : W p l e R s m args below meth c H locs cells slots Q (F0 m pc ls (.ref (B.1 0 i) :: rest)) := m_get (ci := 7) hx hb hown hK hH hi rfl rfl 24 (by decide) wf_X7_73 rfl hdg kk
theorem gf_X7_76 (hx : p.tables.exec = Jvm.exec) (hb : c.code = cc) (hown : s.vm.findClass RX7 = some m.cls) (hK : KI G s) (hH : Hp G B σ H) {i : Nat} (hi : i < B.2 0) (hdg : decode cc pc = .ok (.getfield 76, 3)) (kk : W p l e R s m args below meth c H locs cells slots Q (F0 m (pc + 3) ls (.ref (B.1 25 0) :: rest))) : W p l e R s m args below meth c H locs cells slots Q (F0 m pc ls (.ref (B.1 0 i) :: rest)) := m_get (ci := 7) hx hb hown hK hH hi rfl rfl 25 (by decide) wf_X7_76 rfl hdg kk
theorem gf_X7_79 (hx : p.tables.exec = Jvm.exec) (hb : c.code = cc) (hown : s.vm.findClass RX7 = some m.cls) (hK : KI G s) (hH : Hp G B σ H) {i : Nat} (hi : i < B.2 0) (hdg : decode cc pc = .ok (.getfield 79, 3)) (kk : W p l e R s m args below meth c H locs cells slots Q (F0 m (pc + 3) ls (.ref (B.1 26 0) :: rest))) : W p l e R s m args below meth c H locs cells slots Q (F0 m pc ls (.ref (B.1 0 i) :: rest)) := m_get (ci := 7) hx hb hown hK hH hi rfl rfl 26 (by decide) wf_X7_79 rfl hdg kk
theorem gf_X7_82 (hx : p.tables.exec = Jvm.exec) (hb : c.code = cc) (hown : s.vm.findClass RX7 = some m.cls) (hK : KI G s) (hH : Hp G B σ H) {i : Nat} (hi : i < B.2 0) (hdg : decode cc pc = .ok (.getfield 82, 3)) (kk : W p l e R s m args below meth c H locs cells slots Q (F0 m (pc + 3) ls (.ref (B.1 27 0) :: rest))) : W p l e R s m args below meth c H locs cells slots Q (F0 m pc ls (.ref (B.1 0 i) :: rest)) := m_get (ci := 7) hx hb hown hK hH hi rfl rfl 27 (by decide) wf_X7_82 rfl hdg kk
theorem gf_X7_85 (hx : p.tables.exec = Jvm.exec) (hb : c.code = cc) (hown : s.vm.findClass RX7 = some m.cls) (hK : KI G s) (hH : Hp G B σ H) {i : Nat} (hi : i < B.2 0) (hdg : decode cc pc = .ok (.getfield 85, 3)) (kk : W p l e R s m args below meth c H locs cells slots Q (F0 m (pc + 3) ls (.ref (B.1 35 0) :: rest))) : W p l e R s m args below meth c H locs cells slots Q (F0 m pc ls (.ref (B.1 0 i) :: rest)) := m_get (ci := 7) hx hb hown hK hH hi rfl rfl 35 (by decide) wf_X7_85 rfl hdg kk
theorem gf_X7_88 (hx : p.tables.exec = Jvm.exec) (hb : c.code = cc) (hown : s.vm.findClass RX7 = some m.cls) (hK : KI G s) (hH : Hp G B σ H) {i : Nat} (hi : i < B.2 0) (hdg : decode cc pc = .ok (.getfield 88, 3)) (kk : W p l e R s m args below meth c H locs cells slots Q (F0 m (pc + 3) ls (.ref (B.1 36 0) :: rest))) : W p l e R s m args below meth c H locs cells slots Q (F0 m pc ls (.ref (B.1 0 i) :: rest)) := m_get (ci := 7) hx hb hown hK hH hi rfl rfl 36 (by decide) wf_X7_88 rfl hdg kk
theorem gf_X7_91 (hx : p.tables.exec = Jvm.exec) (hb : c.code = cc) (hown : s.vm.findClass RX7 = some m.cls) (hK : KI G s) (hH : Hp G B σ H) {i : Nat} (hi : i < B.2 0) (hdg : decode cc pc = .ok (.getfield 91, 3)) (kk : W p l e R s m args below meth c H locs cells slots Q (F0 m (pc + 3) ls (.int (σ.1 0 i 0) :: rest))) : W p l e R s m args below meth c H locs cells slots Q (F0 m pc ls (.ref (B.1 0 i) :: rest)) := m_get (ci := 7) hx hb hown hK hH hi rfl rfl 0 (by decide) wf_X7_91 rfl hdg kk
theorem pf_X7_91 (hx : p.tables.exec = Jvm.exec) (hb : c.code = cc) (hown : s.vm.findClass RX7 = some m.cls) (hK : KI G s) (hH : Hp G B σ H) (hS : va_S (mA G) s.heap H locs) {i : Nat} (hi : i < B.2 0) {v : Int32} (hdg : decode cc pc = .ok (.putfield 91, 3)) (kk : ∀ (H1 : Heap) (locs1 : List Loc), Hp G B (sI σ 0 i 0 v) H1 → va_S (mA G) s.heap H1 locs1 → W p l e R s m args below meth c H1 locs1 cells slots Q (F0 m (pc + 3) ls rest)) : W p l e R s m args below meth c H locs cells slots Q (F0 m pc ls (.int v :: .ref (B.1 0 i) :: rest)) := m_put (ty := .int) (ci := 7) hx hb hown hK hH hS hi rfl rfl 0 (by decide) wf_X7_91 rfl (by decide +kernel) rfl rfl (Nat.le_of_ble_eq_true rfl) (by rw [sI_on, sI_J]; rfl) (sI_off σ 0 i 0 v) hdg kk
theorem gf_X7_114 (hx : p.tables.exec = Jvm.exec) (hb : c.code = cc) (hown : s.vm.findClass RX7 = some m.cls) (hK : KI G s) (hH : Hp G B σ H) {i : Nat} (hi : i < B.2 0) (hdg : decode cc pc = .ok (.getfield 114, 3)) (kk : W p l e R s m args below meth c H locs cells slots Q (F0 m (pc + 3) ls (.long (σ.2 0 i 28) :: rest))) : W p l e R s m args below meth c H locs cells slots Q (F0 m pc ls (.ref (B.1 0 i) :: rest)) := m_get (ci := 7) hx hb hown hK hH hi rfl rfl 28 (by decide) wf_X7_114 rfl hdg kk
theorem pf_X7_114 (hx : p.tables.exec = Jvm.exec) (hb : c.code = cc) (hown : s.vm.findClass RX7 = some m.cls) (hK : KI G s) (hH : Hp G B σ H) (hS : va_S (mA G) s.heap H locs) {i : Nat} (hi : i < B.2 0) {v : Int64} (hdg : decode cc pc = .ok (.putfield 114, 3)) (kk : ∀ (H1 : Heap) (locs1 : List Loc), Hp G B (sJ σ 0 i 28 v) H1 → va_S (mA G) s.heap H1 locs1 → W p l e R s m args below meth c H1 locs1 cells slots Q (F0 m (pc + 3) ls rest)) : W p l e R s m args below meth c H locs cells slots Q (F0 m pc ls (.long v :: .ref (B.1 0 i) :: rest)) := m_put (ty := .long) (ci := 7) hx hb hown hK hH hS hi rfl rfl 28 (by decide) wf_X7_114 rfl (by decide +kernel) rfl rfl (Nat.le_of_ble_eq_true rfl) (by rw [sJ_on, sJ_I]; rfl) (sJ_off σ 0 i 28 v) hdg kk
theorem gf_X7_117 (hx : p.tables.exec = Jvm.exec) (hb : c.code = cc) (hown : s.vm.findClass RX7 = some m.cls) (hK : KI G s) (hH : Hp G B σ H) {i : Nat} (hi : i < B.2 0) (hdg : decode cc pc = .ok (.getfield 117, 3)) (kk : W p l e R s m args below meth c H locs cells slots Q (F0 m (pc + 3) ls (.long (σ.2 0 i 29) :: rest))) : W p l e R s m args below meth c H locs cells slots Q (F0 m pc ls (.ref (B.1 0 i) :: rest)) := m_get (ci := 7) hx hb hown hK hH hi rfl rfl 29 (by decide) wf_X7_117 rfl hdg kk
theorem pf_X7_117 (hx : p.tables.exec = Jvm.exec) (hb : c.code = cc) (hown : s.vm.findClass RX7 = some m.cls) (hK : KI G s) (hH : Hp G B σ H) (hS : va_S (mA G) s.heap H locs) {i : Nat} (hi : i < B.2 0) {v : Int64} (hdg : decode cc pc = .ok (.putfield 117, 3)) (kk : ∀ (H1 : Heap) (locs1 : List Loc), Hp G B (sJ σ 0 i 29 v) H1 → va_S (mA G) s.heap H1 locs1 → W p l e R s m args below meth c H1 locs1 cells slots Q (F0 m (pc + 3) ls rest)) : W p l e R s m args below meth c H locs cells slots Q (F0 m pc ls (.long v :: .ref (B.1 0 i) :: rest)) := m_put (ty := .long) (ci := 7) hx hb hown hK hH hS hi rfl rfl 29 (by decide) wf_X7_117 rfl (by decide +kernel) rfl rfl (Nat.le_of_ble_eq_true rfl) (by rw [sJ_on, sJ_I]; rfl) (sJ_off σ 0 i 29 v) hdg kk
theorem gf_X7_120 (hx : p.tables.exec = Jvm.exec) (hb : c.code = cc) (hown : s.vm.findClass RX7 = some m.cls) (hK : KI G s) (hH : Hp G B σ H) {i : Nat} (hi : i < B.2 0) (hdg : decode cc pc = .ok (.getfield 120, 3)) (kk : W p l e R s m args below meth c H locs cells slots Q (F0 m (pc + 3) ls (.long (σ.2 0 i 30) :: rest))) : W p l e R s m args below meth c H locs cells slots Q (F0 m pc ls (.ref (B.1 0 i) :: rest)) := m_get (ci := 7) hx hb hown hK hH hi rfl rfl 30 (by decide) wf_X7_120 rfl hdg kk
theorem pf_X7_120 (hx : p.tables.exec = Jvm.exec) (hb : c.code = cc) (hown : s.vm.findClass RX7 = some m.cls) (hK : KI G s) (hH : Hp G B σ H) (hS : va_S (mA G) s.heap H locs) {i : Nat} (hi : i < B.2 0) {v : Int64} (hdg : decode cc pc = .ok (.putfield 120, 3)) (kk : ∀ (H1 : Heap) (locs1 : List Loc), Hp G B (sJ σ 0 i 30 v) H1 → va_S (mA G) s.heap H1 locs1 → W p l e R s m args below meth c H1 locs1 cells slots Q (F0 m (pc + 3) ls rest)) : W p l e R s m args below meth c H locs cells slots Q (F0 m pc ls (.long v :: .ref (B.1 0 i) :: rest)) := m_put (ty := .long) (ci := 7) hx hb hown hK hH hS hi rfl rfl 30 (by decide) wf_X7_120 rfl (by decide +kernel) rfl rfl (Nat.le_of_ble_eq_true rfl) (by rw [sJ_on, sJ_I]; rfl) (sJ_off σ 0 i 30 v) hdg kk
theorem gf_X7_139 (hx : p.tables.exec = Jvm.exec) (hb : c.code = cc) (hown : s.vm.findClass RX7 = some m.cls) (hK : KI G s) (hH : Hp G B σ H) {i : Nat} (hi : i < B.2 0) (hdg : decode cc pc = .ok (.getfield 139, 3)) (kk : W p l e R s m args below meth c H locs cells slots Q (F0 m (pc + 3) ls (.long (σ.2 0 i 7) :: rest))) : W p l e R s m args below meth c H locs cells slots Q (F0 m pc ls (.ref (B.1 0 i) :: rest)) := m_get (ci := 7) hx hb hown hK hH hi rfl rfl 7 (by decide) wf_X7_139 rfl hdg kk
theorem pf_X7_139 (hx : p.tables.exec = Jvm.exec) (hb : c.code = cc) (hown : s.vm.findClass RX7 = some m.cls) (hK : KI G s) (hH : Hp G B σ H) (hS : va_S (mA G) s.heap H locs) {i : Nat} (hi : i < B.2 0) {v : Int64} (hdg : decode cc pc = .ok (.putfield 139, 3)) (kk : ∀ (H1 : Heap) (locs1 : List Loc), Hp G B (sJ σ 0 i 7 v) H1 → va_S (mA G) s.heap H1 locs1 → W p l e R s m args below meth c H1 locs1 cells slots Q (F0 m (pc + 3) ls rest)) : W p l e R s m args below meth c H locs cells slots Q (F0 m pc ls (.long v :: .ref (B.1 0 i) :: rest)) := m_put (ty := .long) (ci := 7) hx hb hown hK hH hS hi rfl rfl 7 (by decide) wf_X7_139 rfl (by decide +kernel) rfl rfl (Nat.le_of_ble_eq_true rfl) (by rw [sJ_on, sJ_I]; rfl) (sJ_off σ 0 i 7 v) hdg kk
theorem gf_X7_168 (hx : p.tables.exec = Jvm.exec) (hb : c.code = cc) (hown : s.vm.findClass RX7 = some m.cls) (hK : KI G s) (hH : Hp G B σ H) {i : Nat} (hi : i < B.2 0) (hdg : decode cc pc = .ok (.getfield 168, 3)) (kk : W p l e R s m args below meth c H locs cells slots Q (F0 m (pc + 3) ls (.int (σ.1 0 i 1) :: rest))) : W p l e R s m args below meth c H locs cells slots Q (F0 m pc ls (.ref (B.1 0 i) :: rest)) := m_get (ci := 7) hx hb hown hK hH hi rfl rfl 1 (by decide) wf_X7_168 rfl hdg kk
theorem pf_X7_168 (hx : p.tables.exec = Jvm.exec) (hb : c.code = cc) (hown : s.vm.findClass RX7 = some m.cls) (hK : KI G s) (hH : Hp G B σ H) (hS : va_S (mA G) s.heap H locs) {i : Nat} (hi : i < B.2 0) {v : Int32} (hdg : decode cc pc = .ok (.putfield 168, 3)) (kk : ∀ (H1 : Heap) (locs1 : List Loc), Hp G B (sI σ 0 i 1 v) H1 → va_S (mA G) s.heap H1 locs1 → W p l e R s m args below meth c H1 locs1 cells slots Q (F0 m (pc + 3) ls rest)) : W p l e R s m args below meth c H locs cells slots Q (F0 m pc ls (.int v :: .ref (B.1 0 i) :: rest)) := m_put (ty := .int) (ci := 7) hx hb hown hK hH hS hi rfl rfl 1 (by decide) wf_X7_168 rfl (by decide +kernel) rfl rfl (Nat.le_of_ble_eq_true rfl) (by rw [sI_on, sI_J]; rfl) (sI_off σ 0 i 1 v) hdg kk
theorem gf_X7_171 (hx : p.tables.exec = Jvm.exec) (hb : c.code = cc) (hown : s.vm.findClass RX7 = some m.cls) (hK : KI G s) (hH : Hp G B σ H) {i : Nat} (hi : i < B.2 0) (hdg : decode cc pc = .ok (.getfield 171, 3)) (kk : W p l e R s m args below meth c H locs cells slots Q (F0 m (pc + 3) ls (.int (σ.1 0 i 2) :: rest))) : W p l e R s m args below meth c H locs cells slots Q (F0 m pc ls (.ref (B.1 0 i) :: rest)) := m_get (ci := 7) hx hb hown hK hH hi rfl rfl 2 (by decide) wf_X7_171 rfl hdg kk
theorem pf_X7_171 (hx : p.tables.exec = Jvm.exec) (hb : c.code = cc) (hown : s.vm.findClass RX7 = some m.cls) (hK : KI G s) (hH : Hp G B σ H) (hS : va_S (mA G) s.heap H locs) {i : Nat} (hi : i < B.2 0) {v : Int32} (hdg : decode cc pc = .ok (.putfield 171, 3)) (kk : ∀ (H1 : Heap) (locs1 : List Loc), Hp G B (sI σ 0 i 2 v) H1 → va_S (mA G) s.heap H1 locs1 → W p l e R s m args below meth c H1 locs1 cells slots Q (F0 m (pc + 3) ls rest)) : W p l e R s m args below meth c H locs cells slots Q (F0 m pc ls (.int v :: .ref (B.1 0 i) :: rest)) := m_put (ty := .int) (ci := 7) hx hb hown hK hH hS hi rfl rfl 2 (by decide) wf_X7_171 rfl (by decide +kernel) rfl rfl (Nat.le_of_ble_eq_true rfl) (by rw [sI_on, sI_J]; rfl) (sI_off σ 0 i 2 v) hdg kk
theorem gf_X7_177 (hx : p.tables.exec = Jvm.exec) (hb : c.code = cc) (hown : s.vm.findClass RX7 = some m.cls) (hK : KI G s) (hH : Hp G B σ H) {i : Nat} (hi : i < B.2 0) (hdg : decode cc pc = .ok (.getfield 177, 3)) (kk : W p l e R s m args below meth c H locs cells slots Q (F0 m (pc + 3) ls (.int (σ.1 0 i 31) :: rest))) : W p l e R s m args below meth c H locs cells slots Q (F0 m pc ls (.ref (B.1 0 i) :: rest)) := m_get (ci := 7) hx hb hown hK hH hi rfl rfl 31 (by decide) wf_X7_177 rfl hdg kk
theorem pf_X7_177 (hx : p.tables.exec = Jvm.exec) (hb : c.code = cc) (hown : s.vm.findClass RX7 = some m.cls) (hK : KI G s) (hH : Hp G B σ H) (hS : va_S (mA G) s.heap H locs) {i : Nat} (hi : i < B.2 0) {v : Int32} (hdg : decode cc pc = .ok (.putfield 177, 3)) (kk : ∀ (H1 : Heap) (locs1 : List Loc), Hp G B (sI σ 0 i 31 v) H1 → va_S (mA G) s.heap H1 locs1 → W p l e R s m args below meth c H1 locs1 cells slots Q (F0 m (pc + 3) ls rest)) : W p l e R s m args below meth c H locs cells slots Q (F0 m pc ls (.int v :: .ref (B.1 0 i) :: rest)) := m_put (ty := .int) (ci := 7) hx hb hown hK hH hS hi rfl rfl 31 (by decide) wf_X7_177 rfl (by decide +kernel) rfl rfl (Nat.le_of_ble_eq_true rfl) (by rw [sI_on, sI_J]; rfl) (sI_off σ 0 i 31 v) hdg kk
theorem gf_X7_180 (hx : p.tables.exec = Jvm.exec) (hb : c.code = cc) (hown : s.vm.findClass RX7 = some m.cls) (hK : KI G s) (hH : Hp G B σ H) {i : Nat} (hi : i < B.2 0) (hdg : decode cc pc = .ok (.getfield 180, 3)) (kk : W p l e R s m args below meth c H locs cells slots Q (F0 m (pc + 3) ls (.int (σ.1 0 i 32) :: rest))) : W p l e R s m args below meth c H locs cells slots Q (F0 m pc ls (.ref (B.1 0 i) :: rest)) := m_get (ci := 7) hx hb hown hK hH hi rfl rfl 32 (by decide) wf_X7_180 rfl hdg kk
theorem pf_X7_180 (hx : p.tables.exec = Jvm.exec) (hb : c.code = cc) (hown : s.vm.findClass RX7 = some m.cls) (hK : KI G s) (hH : Hp G B σ H) (hS : va_S (mA G) s.heap H locs) {i : Nat} (hi : i < B.2 0) {v : Int32} (hdg : decode cc pc = .ok (.putfield 180, 3)) (kk : ∀ (H1 : Heap) (locs1 : List Loc), Hp G B (sI σ 0 i 32 v) H1 → va_S (mA G) s.heap H1 locs1 → W p l e R s m args below meth c H1 locs1 cells slots Q (F0 m (pc + 3) ls rest)) : W p l e R s m args below meth c H locs cells slots Q (F0 m pc ls (.int v :: .ref (B.1 0 i) :: rest)) := m_put (ty := .int) (ci := 7) hx hb hown hK hH hS hi rfl rfl 32 (by decide) wf_X7_180 rfl (by decide +kernel) rfl rfl (Nat.le_of_ble_eq_true rfl) (by rw [sI_on, sI_J]; rfl) (sI_off σ 0 i 32 v) hdg kk
theorem gf_X7_183 (hx : p.tables.exec = Jvm.exec) (hb : c.code = cc) (hown : s.vm.findClass RX7 = some m.cls) (hK : KI G s) (hH : Hp G B σ H) {i : Nat} (hi : i < B.2 0) (hdg : decode cc pc = .ok (.getfield 183, 3)) (kk : W p l e R s m args below meth c H locs cells slots Q (F0 m (pc + 3) ls (.int (σ.1 0 i 33) :: rest))) : W p l e R s m args below meth c H locs cells slots Q (F0 m pc ls (.ref (B.1 0 i) :: rest)) := m_get (ci := 7) hx hb hown hK hH hi rfl rfl 33 (by decide) wf_X7_183 rfl hdg kk
theorem pf_X7_183 (hx : p.tables.exec = Jvm.exec) (hb : c.code = cc) (hown : s.vm.findClass RX7 = some m.cls) (hK : KI G s) (hH : Hp G B σ H) (hS : va_S (mA G) s.heap H locs) {i : Nat} (hi : i < B.2 0) {v : Int32} (hdg : decode cc pc = .ok (.putfield 183, 3)) (kk : ∀ (H1 : Heap) (locs1 : List Loc), Hp G B (sI σ 0 i 33 v) H1 → va_S (mA G) s.heap H1 locs1 → W p l e R s m args below meth c H1 locs1 cells slots Q (F0 m (pc + 3) ls rest)) : W p l e R s m args below meth c H locs cells slots Q (F0 m pc ls (.int v :: .ref (B.1 0 i) :: rest)) := m_put (ty := .int) (ci := 7) hx hb hown hK hH hS hi rfl rfl 33 (by decide) wf_X7_183 rfl (by decide +kernel) rfl rfl (Nat.le_of_ble_eq_true rfl) (by rw [sI_on, sI_J]; rfl) (sI_off σ 0 i 33 v) hdg kk
theorem gf_X7_186 (hx : p.tables.exec = Jvm.exec) (hb : c.code = cc) (hown : s.vm.findClass RX7 = some m.cls) (hK : KI G s) (hH : Hp G B σ H) {i : Nat} (hi : i < B.2 0) (hdg : decode cc pc = .ok (.getfield 186, 3)) (kk : W p l e R s m args below meth c H locs cells slots Q (F0 m (pc + 3) ls (.int (σ.1 0 i 34) :: rest))) : W p l e R s m args below meth c H locs cells slots Q (F0 m pc ls (.ref (B.1 0 i) :: rest)) := m_get (ci := 7) hx hb hown hK hH hi rfl rfl 34 (by decide) wf_X7_186 rfl hdg kk
theorem pf_X7_186 (hx : p.tables.exec = Jvm.exec) (hb : c.code = cc) (hown : s.vm.findClass RX7 = some m.cls) (hK : KI G s) (hH : Hp G B σ H) (hS : va_S (mA G) s.heap H locs) {i : Nat} (hi : i < B.2 0) {v : Int32} (hdg : decode cc pc = .ok (.putfield 186, 3)) (kk : ∀ (H1 : Heap) (locs1 : List Loc), Hp G B (sI σ 0 i 34 v) H1 → va_S (mA G) s.heap H1 locs1 → W p l e R s m args below meth c H1 locs1 cells slots Q (F0 m (pc + 3) ls rest)) : W p l e R s m args below meth c H locs cells slots Q (F0 m pc ls (.int v :: .ref (B.1 0 i) :: rest)) := m_put (ty := .int) (ci := 7) hx hb hown hK hH hS hi rfl rfl 34 (by decide) wf_X7_186 rfl (by decide +kernel) rfl rfl (Nat.le_of_ble_eq_true rfl) (by rw [sI_on, sI_J]; rfl) (sI_off σ 0 i 34 v) hdg kk
end GF
end
section
/-! rows on naturals, truth values, longs compared; the book -/
def bI (b : Bool) : Int32 := if b then 1 else 0
theorem bI_01 (b : Bool) : bI b = 0 ∨ bI b = 1 := by cases b <;> simp [bI]
theorem bI_0 {b : Bool} : bI b = 0 ↔ b = false := by cases b <;> simp [bI]
theorem bI_n0 {b : Bool} : ¬ bI b = 0 ↔ b = true := by cases b <;> simp [bI]
def BkM (B : gB) : Prop := ∀ k ∈ [0, 3, 4, 5, 6, 9, 10, 11, 12, 13, 14, 15, 16, 17, 18, 19, 20, 21, 22, 23, 24, 25, 26, 27, 35, 36], B.2 k = 1
def BkC (B : gB) : Prop := (∀ k ∈ [40, 41, 42, 44, 45, 46, 47, 48], B.2 k = 1) ∧ B.2 49 = 2 ∧ B.2 43 = 61 ∧ (∀ k ∈ [51, 52, 53, 54, 55], B.2 k = B.2 50) ∧ B.2 56 = 4 * B.2 50 ∧ (∀ k ∈ [58, 59], B.2 k = B.2 57) ∧ (∀ k ∈ [61, 62], B.2 k = B.2 60)
theorem bm {B : gB} (h : BkM B) (k : Nat) (hk : k ∈ [0, 3, 4, 5, 6, 9, 10, 11, 12, 13, 14, 15, 16, 17, 18, 19, 20, 21, 22, 23, 24, 25, 26, 27, 35, 36] := by decide) : 0 < B.2 k := by rw [h k hk]; decide
theorem bc {B : gB} (h : BkC B) (k : Nat) (hk : k ∈ [40, 41, 42, 44, 45, 46, 47, 48] := by decide) : 0 < B.2 k := by rw [h.1 k hk]; decide
theorem bc9 {B : gB} (h : BkC B) {i : Nat} (hi : i < 2) : i < B.2 49 := by rw [h.2.1]; exact hi
theorem br {B : gB} (h : BkC B) {i : Nat} (hi : i < 61) : i < B.2 43 := by rw [h.2.2.1]; exact hi
theorem bq {B : gB} (h : BkC B) (k : Nat) {i : Nat} (hi : i < B.2 50) (hk : k ∈ [51, 52, 53, 54, 55] := by decide) : i < B.2 k := by rw [h.2.2.2.1 k hk]; exact hi
theorem bt {B : gB} (h : BkC B) {i j : Nat} (hi : i < B.2 50) (hj : j < 4) : 4 * i + j < B.2 56 := by rw [h.2.2.2.2.1]; omega
theorem bs {B : gB} (h : BkC B) (k : Nat) {i : Nat} (hi : i < B.2 57) (hk : k ∈ [58, 59] := by decide) : i < B.2 k := by rw [h.2.2.2.2.2.1 k hk]; exact hi
theorem bl {B : gB} (h : BkC B) (k : Nat) {i : Nat} (hi : i < B.2 60) (hk : k ∈ [61, 62] := by decide) : i < B.2 k := by rw [h.2.2.2.2.2.2 k hk]; exact hi
section MN
variable {p : Program} {l : Launch} {e : Env} {R : Room} {s : State} {m : MethodId} {args : Array Value} {below : List Frame} {meth : Method} {c : Code} {H : Heap} {locs : List Loc} {cells slots : Nat} {Q : State → Prop}
variable {cc : ByteArray} {pc : Nat} {ls : Array Slot} {rest : List Value} {G : gG} {B : gB} {σ : gS}
theorem m_toi {x : Int32} (n : Nat) (h : x = nI n) (k : W p l e R s m args below meth c H locs cells slots Q (F0 m pc ls (.int (nI n) :: rest))) : W p l e R s m args below meth c H locs cells slots Q (F0 m pc ls (.int x :: rest)) := h ▸ k
theorem m_toe {x : Int32} (y : Int32) (h : x = y) (k : W p l e R s m args below meth c H locs cells slots Q (F0 m pc ls (.int y :: rest))) : W p l e R s m args below meth c H locs cells slots Q (F0 m pc ls (.int x :: rest)) := h ▸ k
theorem m_toj {x : Int64} (y : Int64) (h : x = y) (k : W p l e R s m args below meth c H locs cells slots Q (F0 m pc ls (.long y :: rest))) : W p l e R s m args below meth c H locs cells slots Q (F0 m pc ls (.long x :: rest)) := h ▸ k
theorem m_iaddN (hx : p.tables.exec = Jvm.exec) (hb : c.code = cc) {a b : Nat} (hdg : decode cc pc = .ok (.iadd, 1)) (k : W p l e R s m args below meth c H locs cells slots Q (F0 m (pc + 1) ls (.int (nI (a + b)) :: rest))) : W p l e R s m args below meth c H locs cells slots Q (F0 m pc ls (.int (nI b) :: .int (nI a) :: rest)) := lv_iadd hx hb hdg (m_toi (a + b) (nI_add a b) k)
theorem m_imulN (hx : p.tables.exec = Jvm.exec) (hb : c.code = cc) {a b : Nat} (hdg : decode cc pc = .ok (.imul, 1)) (k : W p l e R s m args below meth c H locs cells slots Q (F0 m (pc + 1) ls (.int (nI (a * b)) :: rest))) : W p l e R s m args below meth c H locs cells slots Q (F0 m pc ls (.int (nI b) :: .int (nI a) :: rest)) := lv_imul hx hb hdg (m_toi (a * b) (pk_mul a b) k)
theorem m_isubN {a b : Nat} (h : b ≤ a) (hx : p.tables.exec = Jvm.exec) (hb : c.code = cc) (hdg : decode cc pc = .ok (.isub, 1)) (k : W p l e R s m args below meth c H locs cells slots Q (F0 m (pc + 1) ls (.int (nI (a - b)) :: rest))) : W p l e R s m args below meth c H locs cells slots Q (F0 m pc ls (.int (nI b) :: .int (nI a) :: rest)) := lv_isub hx hb hdg (m_toi (a - b) (pk_sub h) k)
theorem nI_n0 {b : Nat} (h : 0 < b) (h2 : b < 2147483648) : ¬ nI b = 0 := nI_ne0 h h2
theorem m_idivN {a b : Nat} (ha : a < 2147483648) (h0 : 0 < b) (hb2 : b < 2147483648) (hx : p.tables.exec = Jvm.exec) (hb : c.code = cc) (hdg : decode cc pc = .ok (.idiv, 1)) (k : W p l e R s m args below meth c H locs cells slots Q (F0 m (pc + 1) ls (.int (nI (a / b)) :: rest))) : W p l e R s m args below meth c H locs cells slots Q (F0 m pc ls (.int (nI b) :: .int (nI a) :: rest)) := lv_idiv hx hb hdg (nI_n0 h0 hb2) (m_toi (a / b) (pk_div ha h0 hb2) k)
theorem m_iremN {a b : Nat} (ha : a < 2147483648) (h0 : 0 < b) (hb2 : b < 2147483648) (hx : p.tables.exec = Jvm.exec) (hb : c.code = cc) (hdg : decode cc pc = .ok (.irem, 1)) (k : W p l e R s m args below meth c H locs cells slots Q (F0 m (pc + 1) ls (.int (nI (a % b)) :: rest))) : W p l e R s m args below meth c H locs cells slots Q (F0 m pc ls (.int (nI b) :: .int (nI a) :: rest)) := lv_irem hx hb hdg (nI_n0 h0 hb2) (m_toi (a % b) (pk_rem ha h0 hb2) k)
theorem m_i2lN {a : Nat} (ha : a < 2147483648) (hx : p.tables.exec = Jvm.exec) (hb : c.code = cc) (hdg : decode cc pc = .ok (.i2l, 1)) (k : W p l e R s m args below meth c H locs cells slots Q (F0 m (pc + 1) ls (.long (lN a) :: rest))) : W p l e R s m args below meth c H locs cells slots Q (F0 m pc ls (.int (nI a) :: rest)) := lv_i2l hx hb hdg (nI_l ha) k
theorem m_icmp_eqN {a b : Nat} {off : Int} {tgt : Nat} (ha : a < 2147483648) (hb2 : b < 2147483648) (hx : p.tables.exec = Jvm.exec) (hb : c.code = cc) (hdg : decode cc pc = .ok (.if_icmp .eq off, 3)) (ht : (pc : Int) + off = (tgt : Int)) (kt : a = b → W p l e R s m args below meth c H locs cells slots Q (F0 m tgt ls rest)) (kf : a ≠ b → W p l e R s m args below meth c H locs cells slots Q (F0 m (pc + 3) ls rest)) : W p l e R s m args below meth c H locs cells slots Q (F0 m pc ls (.int (nI b) :: .int (nI a) :: rest)) := lv_icmp_eq hx hb hdg ht (fun h => kt ((nI_eq ha hb2).mp h)) (fun h => kf (fun q => h ((nI_eq ha hb2).mpr q)))
theorem m_icmp_neN {a b : Nat} {off : Int} {tgt : Nat} (ha : a < 2147483648) (hb2 : b < 2147483648) (hx : p.tables.exec = Jvm.exec) (hb : c.code = cc) (hdg : decode cc pc = .ok (.if_icmp .ne off, 3)) (ht : (pc : Int) + off = (tgt : Int)) (kt : a ≠ b → W p l e R s m args below meth c H locs cells slots Q (F0 m tgt ls rest)) (kf : a = b → W p l e R s m args below meth c H locs cells slots Q (F0 m (pc + 3) ls rest)) : W p l e R s m args below meth c H locs cells slots Q (F0 m pc ls (.int (nI b) :: .int (nI a) :: rest)) := lv_icmp_ne hx hb hdg ht (fun h => kt (fun q => h ((nI_eq ha hb2).mpr q))) (fun h => kf ((nI_eq ha hb2).mp h))
theorem m_icmp_ltN {a b : Nat} {off : Int} {tgt : Nat} (ha : a < 2147483648) (hb2 : b < 2147483648) (hx : p.tables.exec = Jvm.exec) (hb : c.code = cc) (hdg : decode cc pc = .ok (.if_icmp .lt off, 3)) (ht : (pc : Int) + off = (tgt : Int)) (kt : a < b → W p l e R s m args below meth c H locs cells slots Q (F0 m tgt ls rest)) (kf : b ≤ a → W p l e R s m args below meth c H locs cells slots Q (F0 m (pc + 3) ls rest)) : W p l e R s m args below meth c H locs cells slots Q (F0 m pc ls (.int (nI b) :: .int (nI a) :: rest)) := lv_icmp_lt hx hb hdg ht (fun h => kt ((nI_ltI ha hb2).mp h)) (fun h => kf (Nat.not_lt.mp (fun q => h ((nI_ltI ha hb2).mpr q))))
theorem m_icmp_geN {a b : Nat} {off : Int} {tgt : Nat} (ha : a < 2147483648) (hb2 : b < 2147483648) (hx : p.tables.exec = Jvm.exec) (hb : c.code = cc) (hdg : decode cc pc = .ok (.if_icmp .ge off, 3)) (ht : (pc : Int) + off = (tgt : Int)) (kt : b ≤ a → W p l e R s m args below meth c H locs cells slots Q (F0 m tgt ls rest)) (kf : a < b → W p l e R s m args below meth c H locs cells slots Q (F0 m (pc + 3) ls rest)) : W p l e R s m args below meth c H locs cells slots Q (F0 m pc ls (.int (nI b) :: .int (nI a) :: rest)) := lv_icmp_ge hx hb hdg ht (fun h => kt ((nI_leI hb2 ha).mp h)) (fun h => kf (Nat.not_le.mp (fun q => h ((nI_leI hb2 ha).mpr q))))
theorem m_icmp_gtN {a b : Nat} {off : Int} {tgt : Nat} (ha : a < 2147483648) (hb2 : b < 2147483648) (hx : p.tables.exec = Jvm.exec) (hb : c.code = cc) (hdg : decode cc pc = .ok (.if_icmp .gt off, 3)) (ht : (pc : Int) + off = (tgt : Int)) (kt : b < a → W p l e R s m args below meth c H locs cells slots Q (F0 m tgt ls rest)) (kf : a ≤ b → W p l e R s m args below meth c H locs cells slots Q (F0 m (pc + 3) ls rest)) : W p l e R s m args below meth c H locs cells slots Q (F0 m pc ls (.int (nI b) :: .int (nI a) :: rest)) := lv_icmp_gt hx hb hdg ht (fun h => kt ((nI_ltI hb2 ha).mp h)) (fun h => kf (Nat.not_lt.mp (fun q => h ((nI_ltI hb2 ha).mpr q))))
theorem m_icmp_leN {a b : Nat} {off : Int} {tgt : Nat} (ha : a < 2147483648) (hb2 : b < 2147483648) (hx : p.tables.exec = Jvm.exec) (hb : c.code = cc) (hdg : decode cc pc = .ok (.if_icmp .le off, 3)) (ht : (pc : Int) + off = (tgt : Int)) (kt : a ≤ b → W p l e R s m args below meth c H locs cells slots Q (F0 m tgt ls rest)) (kf : b < a → W p l e R s m args below meth c H locs cells slots Q (F0 m (pc + 3) ls rest)) : W p l e R s m args below meth c H locs cells slots Q (F0 m pc ls (.int (nI b) :: .int (nI a) :: rest)) := lv_icmp_le hx hb hdg ht (fun h => kt ((nI_leI ha hb2).mp h)) (fun h => kf (Nat.not_le.mp (fun q => h ((nI_leI ha hb2).mpr q))))
theorem m_ifeqN {a : Nat} {off : Int} {tgt : Nat} (ha : a < 2147483648) (hx : p.tables.exec = Jvm.exec) (hb : c.code = cc) (hdg : decode cc pc = .ok (.ifCond .eq off, 3)) (ht : (pc : Int) + off = (tgt : Int)) (kt : a = 0 → W p l e R s m args below meth c H locs cells slots Q (F0 m tgt ls rest)) (kf : 0 < a → W p l e R s m args below meth c H locs cells slots Q (F0 m (pc + 3) ls rest)) : W p l e R s m args below meth c H locs cells slots Q (F0 m pc ls (.int (nI a) :: rest)) := lv_if_eq hx hb hdg ht (fun h => kt ((nI_eq ha (by decide)).mp (h.trans nI_0.symm))) (fun h => kf (Nat.pos_of_ne_zero (fun q => h (by rw [q]; exact nI_0))))
theorem m_ifneN {a : Nat} {off : Int} {tgt : Nat} (ha : a < 2147483648) (hx : p.tables.exec = Jvm.exec) (hb : c.code = cc) (hdg : decode cc pc = .ok (.ifCond .ne off, 3)) (ht : (pc : Int) + off = (tgt : Int)) (kt : 0 < a → W p l e R s m args below meth c H locs cells slots Q (F0 m tgt ls rest)) (kf : a = 0 → W p l e R s m args below meth c H locs cells slots Q (F0 m (pc + 3) ls rest)) : W p l e R s m args below meth c H locs cells slots Q (F0 m pc ls (.int (nI a) :: rest)) := lv_if_ne hx hb hdg ht (fun h => kt (Nat.pos_of_ne_zero (fun q => h (by rw [q]; exact nI_0)))) (fun h => kf ((nI_eq ha (by decide)).mp (h.trans nI_0.symm)))
theorem m_ifeqB {b : Bool} {off : Int} {tgt : Nat} (hx : p.tables.exec = Jvm.exec) (hb : c.code = cc) (hdg : decode cc pc = .ok (.ifCond .eq off, 3)) (ht : (pc : Int) + off = (tgt : Int)) (kt : b = false → W p l e R s m args below meth c H locs cells slots Q (F0 m tgt ls rest)) (kf : b = true → W p l e R s m args below meth c H locs cells slots Q (F0 m (pc + 3) ls rest)) : W p l e R s m args below meth c H locs cells slots Q (F0 m pc ls (.int (bI b) :: rest)) := lv_if_eq hx hb hdg ht (fun h => kt (bI_0.mp h)) (fun h => kf (bI_n0.mp h))
theorem m_ifneB {b : Bool} {off : Int} {tgt : Nat} (hx : p.tables.exec = Jvm.exec) (hb : c.code = cc) (hdg : decode cc pc = .ok (.ifCond .ne off, 3)) (ht : (pc : Int) + off = (tgt : Int)) (kt : b = true → W p l e R s m args below meth c H locs cells slots Q (F0 m tgt ls rest)) (kf : b = false → W p l e R s m args below meth c H locs cells slots Q (F0 m (pc + 3) ls rest)) : W p l e R s m args below meth c H locs cells slots Q (F0 m pc ls (.int (bI b) :: rest)) := lv_if_ne hx hb hdg ht (fun h => kt (bI_n0.mp h)) (fun h => kf (bI_0.mp h))
theorem lg_e (x y : Int64) : lg_cmp x y = 0 ↔ x = y := by
  unfold lg_cmp
  by_cases h : y < x
  · simp only [h, if_true]
    constructor
    · intro q; exact absurd q (by decide)
    · intro q; subst q; exact absurd h Int64.lt_irrefl
  · by_cases h2 : x = y
    · subst h2; simp [h]
    · simp only [h, if_false, h2]
      constructor
      · intro q; exact absurd q (by decide)
      · intro q; exact absurd q (fun h => h)
theorem lg_l (x y : Int64) : lg_cmp x y < 0 ↔ x < y := by
  unfold lg_cmp
  by_cases h : y < x
  · simp only [h, if_true]
    constructor
    · intro q; exact absurd q (by decide)
    · intro q; exact absurd (Int64.lt_trans h q) Int64.lt_irrefl
  · by_cases h2 : x = y
    · subst h2; simp [h]
    · simp only [h, if_false, h2]
      constructor
      · intro _
        rcases Int64.lt_or_le x y with q | q
        · exact q
        · exact absurd (Int64.le_antisymm (Int64.not_lt.mp h) q) h2
      · intro _; decide
theorem lg_g (x y : Int64) : 0 < lg_cmp x y ↔ y < x := by
  unfold lg_cmp
  by_cases h : y < x
  · simp [h]
  · by_cases h2 : x = y
    · subst h2; simp [h]
    · simp only [h, if_false, h2]
      constructor
      · intro q; exact absurd q (by decide)
      · intro q; exact absurd q (fun h => h)
theorem m_lc_eq {x y : Int64} {off : Int} {tgt : Nat} (hx : p.tables.exec = Jvm.exec) (hb : c.code = cc) (h1 : decode cc pc = .ok (.lcmp, 1)) (h2 : decode cc (pc + 1) = .ok (.ifCond .eq off, 3)) (ht : ((pc + 1 : Nat) : Int) + off = (tgt : Int)) (kt : x = y → W p l e R s m args below meth c H locs cells slots Q (F0 m tgt ls rest)) (kf : ¬ x = y → W p l e R s m args below meth c H locs cells slots Q (F0 m (pc + 1 + 3) ls rest)) : W p l e R s m args below meth c H locs cells slots Q (F0 m pc ls (.long y :: .long x :: rest)) := W.lcmp hx hb h1 (lv_if_eq hx hb h2 ht (fun h => kt ((lg_e x y).mp h)) (fun h => kf (fun q => h ((lg_e x y).mpr q))))
theorem m_lc_ne {x y : Int64} {off : Int} {tgt : Nat} (hx : p.tables.exec = Jvm.exec) (hb : c.code = cc) (h1 : decode cc pc = .ok (.lcmp, 1)) (h2 : decode cc (pc + 1) = .ok (.ifCond .ne off, 3)) (ht : ((pc + 1 : Nat) : Int) + off = (tgt : Int)) (kt : ¬ x = y → W p l e R s m args below meth c H locs cells slots Q (F0 m tgt ls rest)) (kf : x = y → W p l e R s m args below meth c H locs cells slots Q (F0 m (pc + 1 + 3) ls rest)) : W p l e R s m args below meth c H locs cells slots Q (F0 m pc ls (.long y :: .long x :: rest)) := W.lcmp hx hb h1 (lv_if_ne hx hb h2 ht (fun h => kt (fun q => h ((lg_e x y).mpr q))) (fun h => kf ((lg_e x y).mp h)))
theorem m_lc_lt {x y : Int64} {off : Int} {tgt : Nat} (hx : p.tables.exec = Jvm.exec) (hb : c.code = cc) (h1 : decode cc pc = .ok (.lcmp, 1)) (h2 : decode cc (pc + 1) = .ok (.ifCond .lt off, 3)) (ht : ((pc + 1 : Nat) : Int) + off = (tgt : Int)) (kt : x < y → W p l e R s m args below meth c H locs cells slots Q (F0 m tgt ls rest)) (kf : ¬ x < y → W p l e R s m args below meth c H locs cells slots Q (F0 m (pc + 1 + 3) ls rest)) : W p l e R s m args below meth c H locs cells slots Q (F0 m pc ls (.long y :: .long x :: rest)) := W.lcmp hx hb h1 (lv_if_lt hx hb h2 ht (fun h => kt ((lg_l x y).mp h)) (fun h => kf (fun q => h ((lg_l x y).mpr q))))
theorem m_lc_ge {x y : Int64} {off : Int} {tgt : Nat} (hx : p.tables.exec = Jvm.exec) (hb : c.code = cc) (h1 : decode cc pc = .ok (.lcmp, 1)) (h2 : decode cc (pc + 1) = .ok (.ifCond .ge off, 3)) (ht : ((pc + 1 : Nat) : Int) + off = (tgt : Int)) (kt : ¬ x < y → W p l e R s m args below meth c H locs cells slots Q (F0 m tgt ls rest)) (kf : x < y → W p l e R s m args below meth c H locs cells slots Q (F0 m (pc + 1 + 3) ls rest)) : W p l e R s m args below meth c H locs cells slots Q (F0 m pc ls (.long y :: .long x :: rest)) := W.lcmp hx hb h1 (lv_if_ge hx hb h2 ht (fun h => kt (fun q => Int32.not_le.mpr ((lg_l x y).mpr q) h)) (fun h => kf ((lg_l x y).mp (Int32.not_le.mp h))))
theorem m_lc_gt {x y : Int64} {off : Int} {tgt : Nat} (hx : p.tables.exec = Jvm.exec) (hb : c.code = cc) (h1 : decode cc pc = .ok (.lcmp, 1)) (h2 : decode cc (pc + 1) = .ok (.ifCond .gt off, 3)) (ht : ((pc + 1 : Nat) : Int) + off = (tgt : Int)) (kt : y < x → W p l e R s m args below meth c H locs cells slots Q (F0 m tgt ls rest)) (kf : ¬ y < x → W p l e R s m args below meth c H locs cells slots Q (F0 m (pc + 1 + 3) ls rest)) : W p l e R s m args below meth c H locs cells slots Q (F0 m pc ls (.long y :: .long x :: rest)) := W.lcmp hx hb h1 (lv_if_gt hx hb h2 ht (fun h => kt ((lg_g x y).mp h)) (fun h => kf (fun q => h ((lg_g x y).mpr q))))
theorem m_lc_le {x y : Int64} {off : Int} {tgt : Nat} (hx : p.tables.exec = Jvm.exec) (hb : c.code = cc) (h1 : decode cc pc = .ok (.lcmp, 1)) (h2 : decode cc (pc + 1) = .ok (.ifCond .le off, 3)) (ht : ((pc + 1 : Nat) : Int) + off = (tgt : Int)) (kt : ¬ y < x → W p l e R s m args below meth c H locs cells slots Q (F0 m tgt ls rest)) (kf : y < x → W p l e R s m args below meth c H locs cells slots Q (F0 m (pc + 1 + 3) ls rest)) : W p l e R s m args below meth c H locs cells slots Q (F0 m pc ls (.long y :: .long x :: rest)) := W.lcmp hx hb h1 (lv_if_le hx hb h2 ht (fun h => kt (fun q => Int32.not_le.mpr ((lg_g x y).mpr q) h)) (fun h => kf ((lg_g x y).mp (Int32.not_le.mp h))))
variable {y : MethodName} {bytes : ByteArray} {maxL nL n index mc ms : Nat} {ret : Option FieldType} {rm : Room} {own : String} {As : List Value} {st0 : List Value} {Qc : Array Value → State → Outcome → State → Prop}
theorem m_runSN {own host : String} (C0 : p.tables.exec = Jvm.exec ∧ c.code = cc ∧ c.maxLocals = nL ∧ s.vm.findClass own = some m.cls ∧ G.2.2 ≤ s.heap.size) (hK : KI G s) (hH : Hp G B σ H) (hS : va_S (mA G) s.heap H locs)
    (hM : Met l y [.code y bytes maxL ret] rm (mPc G B σ As) Qc 0 0 (mA G)) (hw : mWs y bytes maxL ret n) (hl : Cond.methodLinkNest own index y host ∈ lw_tbl) (hrc : rm.cells = 0 ∧ rm.slots = 0) (hR : rm.frames + 1 ≤ R.frames ∧ 8 + (maxL + 11) + rm.locals ≤ R.locals) (hn : As.length = n) (hsize : ls.size = nL) (hst : st0 = As.reverse ++ rest) (hrest : (rest.map fun v => v.category).sum ≤ 8) (hdg : decode cc pc = .ok (.invokestatic index, 3)) (hf : cells ≤ R.cells ∧ slots ≤ R.slots) :
    va_Run p l e R s m args below meth c H locs cells slots 0 0 (F0 m pc ls st0) rest (Qc As.toArray) (mA G) := by
  obtain ⟨hx, hb, hml, hown, hz⟩ := C0
  have cb := va_cnB (R := R) (args := args) (own := own) (host := host) (index := index) (y := y) (bytes := bytes) (maxL := maxL) (ret := ret) (rm := rm) n (m_code (args := args) hK hw.1.1) m_good rfl hrc.1 hrc.2 (hK.2 _ hl rfl #[]) (hK.2 _ hw.1.2.1 rfl args) hw.1.2.2 hR
  exact va_runSN (Ts := []) ⟨hx, hb, hml, hown, fun w h => by cases h⟩ hM ⟨cb, hK.2 _ hw.2 rfl args, trivial⟩ ⟨mPc.blind, m_pre hK hz hH hS⟩ rfl hn hsize hst (lv_room hrest) hdg hf
end MN
end
section
section ML
variable {p : Program} {l : Launch} {e : Env} {R : Room} {s : State} {m : MethodId} {args : Array Value} {below : List Frame} {meth : Method} {c : Code} {H : Heap} {locs : List Loc} {cells slots : Nat} {Q : State → Prop}
variable {cc : ByteArray} {pc : Nat} {ls : Array Slot} {rest : List Value}
theorem m_laddN (hx : p.tables.exec = Jvm.exec) (hb : c.code = cc) {a b : Nat} (hdg : decode cc pc = .ok (.ladd, 1)) (k : W p l e R s m args below meth c H locs cells slots Q (F0 m (pc + 1) ls (.long (lN (a + b)) :: rest))) : W p l e R s m args below meth c H locs cells slots Q (F0 m pc ls (.long (lN b) :: .long (lN a) :: rest)) := lv_ladd hx hb hdg (m_toj (lN (a + b)) (lN_add a b) k)
theorem m_lmulN (hx : p.tables.exec = Jvm.exec) (hb : c.code = cc) {a b : Nat} (hdg : decode cc pc = .ok (.lmul, 1)) (k : W p l e R s m args below meth c H locs cells slots Q (F0 m (pc + 1) ls (.long (lN (a * b)) :: rest))) : W p l e R s m args below meth c H locs cells slots Q (F0 m pc ls (.long (lN b) :: .long (lN a) :: rest)) := lv_lmul hx hb hdg (m_toj (lN (a * b)) (lN_mul a b) k)
theorem m_lsubN {a b : Nat} (h : b ≤ a) (hx : p.tables.exec = Jvm.exec) (hb : c.code = cc) (hdg : decode cc pc = .ok (.lsub, 1)) (k : W p l e R s m args below meth c H locs cells slots Q (F0 m (pc + 1) ls (.long (lN (a - b)) :: rest))) : W p l e R s m args below meth c H locs cells slots Q (F0 m pc ls (.long (lN b) :: .long (lN a) :: rest)) := lv_lsub hx hb hdg (m_toj (lN (a - b)) (lN_sub h) k)
theorem lN_n0' {b : Nat} (h0 : 0 < b) (hb : b < 9223372036854775808) : ¬ lN b = 0 := fun q => by
  have h := (pk_lEQ hb (by decide : 0 < 2 ^ 63)).mp (show lN b = lN 0 from q)
  omega
theorem m_ldivN {a b : Nat} (ha : a < 9223372036854775808) (h0 : 0 < b) (hb2 : b < 9223372036854775808) (hx : p.tables.exec = Jvm.exec) (hb : c.code = cc) (hdg : decode cc pc = .ok (.ldiv, 1)) (k : W p l e R s m args below meth c H locs cells slots Q (F0 m (pc + 1) ls (.long (lN (a / b)) :: rest))) : W p l e R s m args below meth c H locs cells slots Q (F0 m pc ls (.long (lN b) :: .long (lN a) :: rest)) := lv_ldiv hx hb hdg (lN_n0' h0 hb2) (m_toj (lN (a / b)) (pk_lDiv ha h0 hb2) k)
theorem m_lremN {a b : Nat} (ha : a < 9223372036854775808) (h0 : 0 < b) (hb2 : b < 9223372036854775808) (hx : p.tables.exec = Jvm.exec) (hb : c.code = cc) (hdg : decode cc pc = .ok (.lrem, 1)) (k : W p l e R s m args below meth c H locs cells slots Q (F0 m (pc + 1) ls (.long (lN (a % b)) :: rest))) : W p l e R s m args below meth c H locs cells slots Q (F0 m pc ls (.long (lN b) :: .long (lN a) :: rest)) := lv_lrem hx hb hdg (lN_n0' h0 hb2) (m_toj (lN (a % b)) (pk_lRem ha h0 hb2) k)
theorem m_lc_eqN {a b : Nat} {off : Int} {tgt : Nat} (ha : a < 9223372036854775808) (hb2 : b < 9223372036854775808) (hx : p.tables.exec = Jvm.exec) (hb : c.code = cc) (h1 : decode cc pc = .ok (.lcmp, 1)) (h2 : decode cc (pc + 1) = .ok (.ifCond .eq off, 3)) (ht : ((pc + 1 : Nat) : Int) + off = (tgt : Int)) (kt : a = b → W p l e R s m args below meth c H locs cells slots Q (F0 m tgt ls rest)) (kf : a ≠ b → W p l e R s m args below meth c H locs cells slots Q (F0 m (pc + 1 + 3) ls rest)) : W p l e R s m args below meth c H locs cells slots Q (F0 m pc ls (.long (lN b) :: .long (lN a) :: rest)) := m_lc_eq hx hb h1 h2 ht (fun h => kt ((pk_lEQ ha hb2).mp h)) (fun h => kf (fun q => h ((pk_lEQ ha hb2).mpr q)))
theorem m_lc_neN {a b : Nat} {off : Int} {tgt : Nat} (ha : a < 9223372036854775808) (hb2 : b < 9223372036854775808) (hx : p.tables.exec = Jvm.exec) (hb : c.code = cc) (h1 : decode cc pc = .ok (.lcmp, 1)) (h2 : decode cc (pc + 1) = .ok (.ifCond .ne off, 3)) (ht : ((pc + 1 : Nat) : Int) + off = (tgt : Int)) (kt : a ≠ b → W p l e R s m args below meth c H locs cells slots Q (F0 m tgt ls rest)) (kf : a = b → W p l e R s m args below meth c H locs cells slots Q (F0 m (pc + 1 + 3) ls rest)) : W p l e R s m args below meth c H locs cells slots Q (F0 m pc ls (.long (lN b) :: .long (lN a) :: rest)) := m_lc_ne hx hb h1 h2 ht (fun h => kt (fun q => h ((pk_lEQ ha hb2).mpr q))) (fun h => kf ((pk_lEQ ha hb2).mp h))
theorem m_lc_ltN {a b : Nat} {off : Int} {tgt : Nat} (ha : a < 9223372036854775808) (hb2 : b < 9223372036854775808) (hx : p.tables.exec = Jvm.exec) (hb : c.code = cc) (h1 : decode cc pc = .ok (.lcmp, 1)) (h2 : decode cc (pc + 1) = .ok (.ifCond .lt off, 3)) (ht : ((pc + 1 : Nat) : Int) + off = (tgt : Int)) (kt : a < b → W p l e R s m args below meth c H locs cells slots Q (F0 m tgt ls rest)) (kf : b ≤ a → W p l e R s m args below meth c H locs cells slots Q (F0 m (pc + 1 + 3) ls rest)) : W p l e R s m args below meth c H locs cells slots Q (F0 m pc ls (.long (lN b) :: .long (lN a) :: rest)) := m_lc_lt hx hb h1 h2 ht (fun h => kt ((pk_lLT ha hb2).mp h)) (fun h => kf (Nat.not_lt.mp (fun q => h ((pk_lLT ha hb2).mpr q))))
theorem m_lc_geN {a b : Nat} {off : Int} {tgt : Nat} (ha : a < 9223372036854775808) (hb2 : b < 9223372036854775808) (hx : p.tables.exec = Jvm.exec) (hb : c.code = cc) (h1 : decode cc pc = .ok (.lcmp, 1)) (h2 : decode cc (pc + 1) = .ok (.ifCond .ge off, 3)) (ht : ((pc + 1 : Nat) : Int) + off = (tgt : Int)) (kt : b ≤ a → W p l e R s m args below meth c H locs cells slots Q (F0 m tgt ls rest)) (kf : a < b → W p l e R s m args below meth c H locs cells slots Q (F0 m (pc + 1 + 3) ls rest)) : W p l e R s m args below meth c H locs cells slots Q (F0 m pc ls (.long (lN b) :: .long (lN a) :: rest)) := m_lc_ge hx hb h1 h2 ht (fun h => kt (Nat.not_lt.mp (fun q => h ((pk_lLT ha hb2).mpr q)))) (fun h => kf ((pk_lLT ha hb2).mp h))
theorem m_lc_gtN {a b : Nat} {off : Int} {tgt : Nat} (ha : a < 9223372036854775808) (hb2 : b < 9223372036854775808) (hx : p.tables.exec = Jvm.exec) (hb : c.code = cc) (h1 : decode cc pc = .ok (.lcmp, 1)) (h2 : decode cc (pc + 1) = .ok (.ifCond .gt off, 3)) (ht : ((pc + 1 : Nat) : Int) + off = (tgt : Int)) (kt : b < a → W p l e R s m args below meth c H locs cells slots Q (F0 m tgt ls rest)) (kf : a ≤ b → W p l e R s m args below meth c H locs cells slots Q (F0 m (pc + 1 + 3) ls rest)) : W p l e R s m args below meth c H locs cells slots Q (F0 m pc ls (.long (lN b) :: .long (lN a) :: rest)) := m_lc_gt hx hb h1 h2 ht (fun h => kt ((pk_lLT hb2 ha).mp h)) (fun h => kf (Nat.not_lt.mp (fun q => h ((pk_lLT hb2 ha).mpr q))))
theorem m_lc_leN {a b : Nat} {off : Int} {tgt : Nat} (ha : a < 9223372036854775808) (hb2 : b < 9223372036854775808) (hx : p.tables.exec = Jvm.exec) (hb : c.code = cc) (h1 : decode cc pc = .ok (.lcmp, 1)) (h2 : decode cc (pc + 1) = .ok (.ifCond .le off, 3)) (ht : ((pc + 1 : Nat) : Int) + off = (tgt : Int)) (kt : a ≤ b → W p l e R s m args below meth c H locs cells slots Q (F0 m tgt ls rest)) (kf : b < a → W p l e R s m args below meth c H locs cells slots Q (F0 m (pc + 1 + 3) ls rest)) : W p l e R s m args below meth c H locs cells slots Q (F0 m pc ls (.long (lN b) :: .long (lN a) :: rest)) := m_lc_le hx hb h1 h2 ht (fun h => kt (Nat.not_lt.mp (fun q => h ((pk_lLT hb2 ha).mpr q)))) (fun h => kf ((pk_lLT hb2 ha).mp h))
end ML
end
section
/-! what the check's own object holds, as numbers -/
theorem i_lt (a b : Int32) : a < b ↔ a.toInt < b.toInt := Int32.lt_iff_toInt_lt
theorem i_le (a b : Int32) : a ≤ b ↔ a.toInt ≤ b.toInt := Int32.le_iff_toInt_le
theorem i_eq (a b : Int32) : a = b ↔ a.toInt = b.toInt := Int32.toInt_inj.symm
theorem nI_I {n : Nat} (h : n < 2147483648) : (nI n).toInt = (n : Int) := nI_toInt h
theorem i_rng (x : Int32) : -2147483648 ≤ x.toInt ∧ x.toInt < 2147483648 := ⟨Int32.le_toInt x, Int32.toInt_lt x⟩
theorem i_add {x y : Int32} (h1 : -2147483648 ≤ x.toInt + y.toInt) (h2 : x.toInt + y.toInt < 2147483648) : (x + y).toInt = x.toInt + y.toInt := by
  rw [Int32.toInt_add]
  exact Int.bmod_eq_of_le (by omega) (by omega)
theorem i_sub {x y : Int32} (h1 : -2147483648 ≤ x.toInt - y.toInt) (h2 : x.toInt - y.toInt < 2147483648) : (x - y).toInt = x.toInt - y.toInt := by
  rw [Int32.toInt_sub]
  exact Int.bmod_eq_of_le (by omega) (by omega)
theorem i_nat {x : Int32} (h : 0 ≤ x.toInt) : x = nI x.toInt.toNat ∧ (x.toInt.toNat : Int) = x.toInt := by
  have h2 := i_rng x
  have e : (x.toInt.toNat : Int) = x.toInt := Int.toNat_of_nonneg h
  exact ⟨(i_eq _ _).mpr (by rw [nI_I (by omega), e]), e⟩
theorem bI_t {b : Bool} (h : b = true) : nI 1 = bI b := by rw [h]; rfl
theorem bI_f {b : Bool} (h : b = false) : nI 0 = bI b := by rw [h]; rfl
def inR (v lo hi : Int32) : Bool := decide (lo.toInt ≤ v.toInt ∧ v.toInt ≤ hi.toInt)
def nP (σ : gS) : Nat := (σ.1 0 0 0).toNatClampNeg
def stN (σ : gS) (p : Nat) : Nat := (σ.1 3 0 p).toNatClampNeg
def szN (σ : gS) (p k : Nat) : Nat := (σ.1 4 0 (4 * p + k)).toNatClampNeg
def acI (σ : gS) (p k : Nat) : Int := (σ.1 5 0 (4 * p + k)).toInt
def rfI (σ : gS) (p k : Nat) : Int := (σ.1 6 0 (4 * p + k)).toInt
/-- the SIZES of the first k STAGES together -/
def tot (σ : gS) (p : Nat) : Nat → Nat
  | 0 => 0
  | k + 1 => tot σ p k + szN σ p k
/-- one plan as it must be -/
def WfP1 (σ : gS) (p : Nat) : Prop := σ.1 3 0 p = nI (stN σ p) ∧ stN σ p ≤ 4 ∧ (∀ k, k < stN σ p → σ.1 4 0 (4 * p + k) = nI (szN σ p k) ∧ 1 ≤ szN σ p k ∧ -1 ≤ acI σ p k ∧ acI σ p k ≤ 60 ∧ acI σ p k < rfI σ p k ∧ rfI σ p k ≤ 61) ∧ tot σ p (stN σ p) ≤ 60 ∧ (∀ k, k + 1 < stN σ p → rfI σ p k ≠ acI σ p k + 1) ∧ (stN σ p = 4 → rfI σ p 3 = acI σ p 3 + 1)
def WfP (σ : gS) : Prop := σ.1 0 0 0 = nI (nP σ) ∧ nP σ ≤ 24 ∧ ∀ p, p < nP σ → WfP1 σ p
theorem tot_mono (σ : gS) (p : Nat) {a b : Nat} (h : a ≤ b) : tot σ p a ≤ tot σ p b := by
  induction b with
  | zero => rw [Nat.le_zero.mp h]; exact Nat.le_refl _
  | succ b ih =>
    rcases Nat.lt_or_ge a (b + 1) with q | q
    · exact Nat.le_trans (ih (by omega)) (by show tot σ p b ≤ tot σ p b + szN σ p b; omega)
    · rw [show a = b + 1 by omega]; exact Nat.le_refl _
def isPl (σ : gS) (x : Int32) : Bool := decide (0 ≤ x.toInt ∧ x.toInt < (nP σ : Int))
theorem isPl_t {σ : gS} {x : Int32} (h : isPl σ x = true) : ∃ p : Nat, p < nP σ ∧ x = nI p := by
  have h2 := of_decide_eq_true h
  obtain ⟨a, b⟩ := i_nat h2.1
  exact ⟨x.toInt.toNat, by omega, a⟩
def clo (σ : gS) (p : Nat) : Bool := decide (0 < stN σ p ∧ rfI σ p (stN σ p - 1) = acI σ p (stN σ p - 1) + 1)
def isCl (σ : gS) (x : Int32) : Bool := isPl σ x && clo σ x.toNatClampNeg
theorem isCl_nI {σ : gS} {p : Nat} (hp : p < nP σ) (h24 : nP σ ≤ 24) : isCl σ (nI p) = clo σ p := by
  unfold isCl isPl
  rw [nI_I (by omega), nI_clamp (by omega)]
  simp [hp]
theorem isCl_t {σ : gS} {x : Int32} (h24 : nP σ ≤ 24) (h : isCl σ x = true) : ∃ p : Nat, p < nP σ ∧ x = nI p ∧ clo σ p = true := by
  unfold isCl at h
  obtain ⟨h1, h2⟩ := Bool.and_eq_true_iff.mp h
  obtain ⟨p, hp, rfl⟩ := isPl_t h1
  rw [nI_clamp (by omega)] at h2
  exact ⟨p, hp, rfl, h2⟩
/-- binomial numbers -/
def ch : Nat → Nat → Nat
  | _, 0 => 1
  | 0, _ + 1 => 0
  | n + 1, k + 1 => ch n k + ch n (k + 1)
def chZ (n : Nat) (z : Int) : Nat := if z < 0 then 0 else ch n z.toNat
theorem ch_0 (n : Nat) : ch n 0 = 1 := by cases n <;> rfl
theorem ch_big {n k : Nat} (h : n < k) : ch n k = 0 := by
  induction n generalizing k with
  | zero => cases k with
    | zero => omega
    | succ k => rfl
  | succ n ih => cases k with
    | zero => omega
    | succ k => show ch n k + ch n (k + 1) = 0; rw [ih (by omega), ih (by omega)]
def WfCh (σ : gS) : Prop := ∀ n k, n ≤ 60 → k ≤ n → σ.2 9 0 (61 * n + k) = lN (ch n k)
theorem i0 : (0 : Int32).toInt = 0 := rfl
theorem im1 : (-1 : Int32).toInt = -1 := rfl
theorem n0I : (nI 0).toInt = 0 := rfl
theorem n1I : (nI 1).toInt = 1 := rfl
theorem tot_le {σ : gS} {p k : Nat} (h : WfP1 σ p) (hk : k ≤ stN σ p) : tot σ p k ≤ 60 := Nat.le_trans (tot_mono σ p hk) h.2.2.2.1
end
section
set_option maxHeartbeats 4000000 in
set_option maxRecDepth 100000 in
theorem c_X7_in (l : Launch) (G : gG) (B : gB) (σ : gS) (v lo hi : Int32) : Met l yX7_in [.code yX7_in cX7_in 3 (some .boolean)] ({ frames := 0, cells := 0, slots := 0, locals := 0 } : Room) (mPc G B σ [.int (v), .int (lo), .int (hi)]) (mQi G B (fun r σ' => r = bI (inR v lo hi) ∧ σ' = σ)) 0 0 (mA G) := by
  refine m_start (by decide) (Nat.le_of_ble_eq_true rfl) ?_
  intro p e s m below meth c ⟨hx, hb, hr, hml, hown, hK, hlk, hz⟩ hH hS ls hl
  have hl : lv_has ls 3 [(0, .int (v)), (1, .int (lo)), (2, .int (hi))] := hl
  refine lv_iload_n hx hb dX7_in_0 rfl (lv_at hl 0 rfl) ?_
  refine lv_iload_n hx hb dX7_in_1 rfl (lv_at hl 1 rfl) ?_
  refine lv_icmp_lt (tgt := 14) hx hb dX7_in_2 (by decide) (fun c_2 => ?_) (fun c_2 => ?_)
  · refine lv_iconst (v := nI 0) hx hb dX7_in_14 (by decide) ?_
    exact m_zret hx hb hr hlk hH hS dX7_in_15 (by first | exact Or.inl rfl | exact Or.inr rfl | exact bI_01 _) (⟨bI_f (by simp only [i_lt, i_le] at *; simp [inR]; omega), rfl⟩)
  · refine lv_iload_n hx hb dX7_in_5 rfl (lv_at hl 0 rfl) ?_
    refine lv_iload_n hx hb dX7_in_6 rfl (lv_at hl 2 rfl) ?_
    refine lv_icmp_gt (tgt := 14) hx hb dX7_in_7 (by decide) (fun c_7 => ?_) (fun c_7 => ?_)
    · refine lv_iconst (v := nI 0) hx hb dX7_in_14 (by decide) ?_
      exact m_zret hx hb hr hlk hH hS dX7_in_15 (by first | exact Or.inl rfl | exact Or.inr rfl | exact bI_01 _) (⟨bI_f (by simp only [i_lt, i_le] at *; simp [inR]; omega), rfl⟩)
    · refine lv_iconst (v := nI 1) hx hb dX7_in_10 (by decide) ?_
      refine lv_goto (tgt := 15) hx hb dX7_in_11 (by decide) ?_
      exact m_zret hx hb hr hlk hH hS dX7_in_15 (by first | exact Or.inl rfl | exact Or.inr rfl | exact bI_01 _) (⟨bI_t (by simp only [i_lt, i_le] at *; simp [inR]; omega), rfl⟩)
theorem ways_z {n : Nat} {k : Int32} (hn : n ≤ 60) (h : k.toInt < 0 ∨ (n : Int) < k.toInt) : (0 : Int64) = lN (chZ n k.toInt) := by
  unfold chZ
  rcases h with h | h
  · rw [if_pos h]; rfl
  · rw [if_neg (by omega), ch_big (by omega)]; rfl
theorem ways_v {σ : gS} {n q : Nat} {k : Int32} (hW : WfCh σ) (hn : n ≤ 60) (hq : q ≤ n) (h : (q : Int) = k.toInt) : σ.2 9 0 (61 * n + q) = lN (chZ n k.toInt) := by
  rw [hW n q hn hq]
  unfold chZ
  rw [if_neg (by omega), ← h]
  rfl
set_option maxHeartbeats 4000000 in
set_option maxRecDepth 100000 in
theorem c_X7_ways (l : Launch) (G : gG) (B : gB) (σ : gS) (hM : BkM B) (n : Nat) (k : Int32) (hn : n ≤ 60) (hW : WfCh σ) : Met l yX7_ways [.code yX7_ways cX7_ways 3 (some .long)] ({ frames := 0, cells := 0, slots := 0, locals := 0 } : Room) (mPc G B σ [.ref (B.1 0 0), .int (nI n), .int (k)]) (mQl G B (fun r σ' => r = lN (chZ n k.toInt) ∧ σ' = σ)) 0 0 (mA G) := by
  refine m_start (by decide) (Nat.le_of_ble_eq_true rfl) ?_
  intro p e s m below meth c ⟨hx, hb, hr, hml, hown, hK, hlk, hz⟩ hH hS ls hl
  have hl : lv_has ls 3 [(0, .ref (B.1 0 0)), (1, .int (nI n)), (2, .int (k))] := hl
  refine lv_iload_n hx hb dX7_ways_0 rfl (lv_at hl 2 rfl) ?_
  refine lv_if_lt (tgt := 9) hx hb dX7_ways_1 (by decide) (fun c_1 => ?_) (fun c_1 => ?_)
  · have hzz : k.toInt < 0 ∨ (n : Int) < k.toInt := by
      have e := nI_I (n := n) (by omega)
      simp only [i_lt, i_le, e, i0] at *
      omega
    refine lv_lconst (v := lN 0) hx hb dX7_ways_9 rfl ?_
    refine lv_goto (tgt := 24) hx hb dX7_ways_10 (by decide) ?_
    exact m_lret hx hb hr hlk hH hS dX7_ways_24 (⟨ways_z hn hzz, rfl⟩)
  · refine lv_iload_n hx hb dX7_ways_4 rfl (lv_at hl 2 rfl) ?_
    refine lv_iload_n hx hb dX7_ways_5 rfl (lv_at hl 1 rfl) ?_
    refine lv_icmp_le (tgt := 13) hx hb dX7_ways_6 (by decide) (fun c_6 => ?_) (fun c_6 => ?_)
    · have hk1 : 0 ≤ k.toInt ∧ k.toInt ≤ (n : Int) := by
        have e := nI_I (n := n) (by omega)
        simp only [i_lt, i_le, e, i0] at c_1 c_6
        omega
      obtain ⟨k1, k2⟩ := i_nat hk1.1
      obtain ⟨q, hq⟩ : ∃ q : Nat, q = k.toInt.toNat := ⟨_, rfl⟩
      rw [← hq] at k1 k2
      have hqn : q ≤ n := by omega
      have hl : lv_has ls 3 [(2, .int (nI q)), (0, .ref (B.1 0 0)), (1, .int (nI n))] := by rw [← k1]; exact lv_sub hl [2, 0, 1] rfl
      refine lv_aload_n hx hb dX7_ways_13 rfl (lv_at hl 1 rfl) ?_
      refine gf_X7_26 hx hb hown hK hH (bm hM 0) dX7_ways_14 ?_
      refine lv_bipush (v := nI 61) hx hb dX7_ways_17 (by decide) ?_
      refine lv_iload_n hx hb dX7_ways_19 rfl (lv_at hl 2 rfl) ?_
      refine m_imulN hx hb dX7_ways_20 ?_
      refine lv_iload_n hx hb dX7_ways_21 rfl (lv_at hl 0 rfl) ?_
      refine m_iaddN hx hb dX7_ways_22 ?_
      refine m_lald hx hb hK hH (n := 3721) (bm hM 9) (fun _ _ => rfl) (61 * n + q) (rfl) (by omega) (by decide) dX7_ways_23 ?_
      exact m_lret hx hb hr hlk hH hS dX7_ways_24 (⟨ways_v hW hn hqn k2, rfl⟩)
    · have hzz : k.toInt < 0 ∨ (n : Int) < k.toInt := by
        have e := nI_I (n := n) (by omega)
        simp only [i_lt, i_le, e, i0] at *
        omega
      refine lv_lconst (v := lN 0) hx hb dX7_ways_9 rfl ?_
      refine lv_goto (tgt := 24) hx hb dX7_ways_10 (by decide) ?_
      exact m_lret hx hb hr hlk hH hS dX7_ways_24 (⟨ways_z hn hzz, rfl⟩)
theorem inR_P {σ : gS} {x : Int32} (h : WfP σ) : inR x (nI 0) (σ.1 0 0 0 - nI 1) = isPl σ x := by
  unfold inR isPl
  have e := nI_I (n := nP σ) (by have := h.2.1; omega)
  have h2 := h.2.1
  rw [h.1, i_sub (by rw [e, n1I]; omega) (by rw [e, n1I]; omega), e, n1I, n0I]
  by_cases q : 0 ≤ x.toInt ∧ x.toInt < (nP σ : Int)
  · rw [decide_eq_true q, decide_eq_true (by omega)]
  · rw [decide_eq_false q, decide_eq_false (by omega)]
set_option maxHeartbeats 4000000 in
set_option maxRecDepth 100000 in
theorem c_X7_isPlan (l : Launch) (G : gG) (B : gB) (σ : gS) (hM : BkM B) (hW : WfP σ) (x : Int32) : Met l yX7_isPlan [.code yX7_isPlan cX7_isPlan 2 (some .boolean)] ({ frames := 1, cells := 0, slots := 0, locals := 22 } : Room) (mPc G B σ [.ref (B.1 0 0), .int (x)]) (mQi G B (fun r σ' => r = bI (isPl σ x) ∧ σ' = σ)) 0 0 (mA G) := by
  refine m_start (by decide) (Nat.le_of_ble_eq_true rfl) ?_
  intro p e s m below meth c ⟨hx, hb, hr, hml, hown, hK, hlk, hz⟩ hH hS ls hl
  have hl : lv_has ls 2 [(0, .ref (B.1 0 0)), (1, .int (x))] := hl
  refine lv_iload_n hx hb dX7_isPlan_0 rfl (lv_at hl 1 rfl) ?_
  refine lv_iconst (v := nI 0) hx hb dX7_isPlan_1 (by decide) ?_
  refine lv_aload_n hx hb dX7_isPlan_2 rfl (lv_at hl 0 rfl) ?_
  refine gf_X7_91 hx hb hown hK hH (bm hM 0) dX7_isPlan_3 ?_
  refine lv_iconst (v := nI 1) hx hb dX7_isPlan_6 (by decide) ?_
  refine lv_isub hx hb dX7_isPlan_7 ?_
  refine m_ki (m_runS ⟨hx, hb, hml, hown, hz⟩ hK hH hS (c_X7_in l G B σ x (nI 0) (σ.1 0 0 0 - nI 1)) mw_X7_in wl_X7_95 ⟨rfl, rfl⟩ ⟨by decide, by decide⟩ rfl hl.1 rfl (Nat.le_of_ble_eq_true rfl) dX7_isPlan_8 ⟨Nat.zero_le _, Nat.zero_le _⟩) hS (fun r_8 σ_8 H locs hp hH hS => ?_)
  obtain ⟨hr1, hs1⟩ := hp
  subst hr1
  rw [hs1] at hH
  exact m_zret hx hb hr hlk hH hS dX7_isPlan_11 (by first | exact Or.inl rfl | exact Or.inr rfl | exact bI_01 _) (⟨by rw [inR_P hW], rfl⟩)
theorem clo_ne {σ : gS} {p : Nat} (h : WfP1 σ p) (h0 : 0 < stN σ p) : (σ.1 6 0 (4 * p + stN σ p - 1) = σ.1 5 0 (4 * p + stN σ p - 1) + nI 1) ↔ clo σ p = true := by
  obtain ⟨-, -, h3, -⟩ := h
  have h4 := h3 (stN σ p - 1) (by omega)
  have e : 4 * p + stN σ p - 1 = 4 * p + (stN σ p - 1) := by omega
  unfold clo
  rw [e, i_eq, i_add (by rw [n1I]; have := h4.2.2.1; unfold acI at this; omega) (by rw [n1I]; have := h4.2.2.2.1; unfold acI at this; omega), n1I]
  constructor
  · intro q; exact decide_eq_true ⟨h0, q⟩
  · intro q; exact (of_decide_eq_true q).2
theorem clo_0 {σ : gS} {p : Nat} (h : nI (stN σ p) ≤ 0) (h4 : stN σ p ≤ 4) : clo σ p = false := by
  rw [i_le, nI_I (by omega), i0] at h
  exact decide_eq_false (by omega)
set_option maxHeartbeats 4000000 in
set_option maxRecDepth 100000 in
theorem c_X7_isClosed (l : Launch) (G : gG) (B : gB) (σ : gS) (hM : BkM B) (hW : WfP σ) (x : Int32) : Met l yX7_isClosed [.code yX7_isClosed cX7_isClosed 2 (some .boolean)] ({ frames := 2, cells := 0, slots := 0, locals := 43 } : Room) (mPc G B σ [.ref (B.1 0 0), .int (x)]) (mQi G B (fun r σ' => r = bI (isCl σ x) ∧ σ' = σ)) 0 0 (mA G) := by
  refine m_start (by decide) (Nat.le_of_ble_eq_true rfl) ?_
  intro p e s m below meth c ⟨hx, hb, hr, hml, hown, hK, hlk, hz⟩ hH hS ls hl
  have hl : lv_has ls 2 [(0, .ref (B.1 0 0)), (1, .int (x))] := hl
  refine lv_aload_n hx hb dX7_isClosed_0 rfl (lv_at hl 0 rfl) ?_
  refine lv_iload_n hx hb dX7_isClosed_1 rfl (lv_at hl 1 rfl) ?_
  refine m_ki (m_runV (k := 0) (i := 0) (ci := 7) ⟨hx, hb, hml, hown, hz⟩ hK hH hS (bm hM 0) rfl rfl (c_X7_isPlan l G B σ hM hW x) mw_X7_isPlan wl_X7_99 ⟨rfl, rfl⟩ ⟨by decide, by decide⟩ rfl hl.1 rfl (Nat.le_of_ble_eq_true rfl) dX7_isClosed_2 ⟨Nat.zero_le _, Nat.zero_le _⟩) hS (fun r_2 σ_2 H locs hp hH hS => ?_)
  obtain ⟨hr1, hs1⟩ := hp
  subst hr1
  rw [hs1] at hH
  refine m_ifeqB (tgt := 60) hx hb dX7_isClosed_5 (by decide) (fun c_5 => ?_) (fun c_5 => ?_)
  · refine lv_iconst (v := nI 0) hx hb dX7_isClosed_60 (by decide) ?_
    exact m_zret hx hb hr hlk hH hS dX7_isClosed_61 (by first | exact Or.inl rfl | exact Or.inr rfl | exact bI_01 _) (⟨bI_f (by first | (unfold isCl; rw [c_5]; rfl) | (rw [isCl_nI hpn h24]; exact clo_0 c_14 hs4) | (rw [isCl_nI hpn h24]; exact Bool.eq_false_iff.mpr (fun q => c_53 ((clo_ne hP h0).mpr q)))), rfl⟩)
  · obtain ⟨pn, hpn, rfl⟩ := isPl_t c_5
    have hP := hW.2.2 pn hpn
    have h24 := hW.2.1
    have hs4 := hP.2.1
    refine lv_aload_n hx hb dX7_isClosed_8 rfl (lv_at hl 0 rfl) ?_
    refine gf_X7_7 hx hb hown hK hH (bm hM 0) dX7_isClosed_9 ?_
    refine lv_iload_n hx hb dX7_isClosed_12 rfl (lv_at hl 1 rfl) ?_
    refine m_iald hx hb hK hH (n := 24) (bm hM 3) (fun _ _ => rfl) (pn) (rfl) (by omega) (by decide) dX7_isClosed_13 ?_
    refine m_toi (stN σ pn) (hP.1) ?_
    refine lv_if_le (tgt := 60) hx hb dX7_isClosed_14 (by decide) (fun c_14 => ?_) (fun c_14 => ?_)
    · refine lv_iconst (v := nI 0) hx hb dX7_isClosed_60 (by decide) ?_
      exact m_zret hx hb hr hlk hH hS dX7_isClosed_61 (by first | exact Or.inl rfl | exact Or.inr rfl | exact bI_01 _) (⟨bI_f (by first | (unfold isCl; rw [c_5]; rfl) | (rw [isCl_nI hpn h24]; exact clo_0 c_14 hs4) | (rw [isCl_nI hpn h24]; exact Bool.eq_false_iff.mpr (fun q => c_53 ((clo_ne hP h0).mpr q)))), rfl⟩)
    · have h0 : 0 < stN σ pn := by
        have e := nI_I (n := stN σ pn) (by omega)
        simp only [i_le, e, i0] at c_14
        omega
      refine lv_aload_n hx hb dX7_isClosed_17 rfl (lv_at hl 0 rfl) ?_
      refine gf_X7_19 hx hb hown hK hH (bm hM 0) dX7_isClosed_18 ?_
      refine lv_iconst (v := nI 4) hx hb dX7_isClosed_21 (by decide) ?_
      refine lv_iload_n hx hb dX7_isClosed_22 rfl (lv_at hl 1 rfl) ?_
      refine m_imulN hx hb dX7_isClosed_23 ?_
      refine lv_aload_n hx hb dX7_isClosed_24 rfl (lv_at hl 0 rfl) ?_
      refine gf_X7_7 hx hb hown hK hH (bm hM 0) dX7_isClosed_25 ?_
      refine lv_iload_n hx hb dX7_isClosed_28 rfl (lv_at hl 1 rfl) ?_
      refine m_iald hx hb hK hH (n := 24) (bm hM 3) (fun _ _ => rfl) (pn) (rfl) (by omega) (by decide) dX7_isClosed_29 ?_
      refine m_toi (stN σ pn) (hP.1) ?_
      refine m_iaddN hx hb dX7_isClosed_30 ?_
      refine lv_iconst (v := nI 1) hx hb dX7_isClosed_31 (by decide) ?_
      refine m_isubN (by omega) hx hb dX7_isClosed_32 ?_
      refine m_iald hx hb hK hH (n := 96) (bm hM 6) (fun _ _ => rfl) ((4 * pn + (stN σ pn)) - 1) (rfl) (by omega) (by decide) dX7_isClosed_33 ?_
      refine lv_aload_n hx hb dX7_isClosed_34 rfl (lv_at hl 0 rfl) ?_
      refine gf_X7_16 hx hb hown hK hH (bm hM 0) dX7_isClosed_35 ?_
      refine lv_iconst (v := nI 4) hx hb dX7_isClosed_38 (by decide) ?_
      refine lv_iload_n hx hb dX7_isClosed_39 rfl (lv_at hl 1 rfl) ?_
      refine m_imulN hx hb dX7_isClosed_40 ?_
      refine lv_aload_n hx hb dX7_isClosed_41 rfl (lv_at hl 0 rfl) ?_
      refine gf_X7_7 hx hb hown hK hH (bm hM 0) dX7_isClosed_42 ?_
      refine lv_iload_n hx hb dX7_isClosed_45 rfl (lv_at hl 1 rfl) ?_
      refine m_iald hx hb hK hH (n := 24) (bm hM 3) (fun _ _ => rfl) (pn) (rfl) (by omega) (by decide) dX7_isClosed_46 ?_
      refine m_toi (stN σ pn) (hP.1) ?_
      refine m_iaddN hx hb dX7_isClosed_47 ?_
      refine lv_iconst (v := nI 1) hx hb dX7_isClosed_48 (by decide) ?_
      refine m_isubN (by omega) hx hb dX7_isClosed_49 ?_
      refine m_iald hx hb hK hH (n := 96) (bm hM 5) (fun _ _ => rfl) ((4 * pn + (stN σ pn)) - 1) (rfl) (by omega) (by decide) dX7_isClosed_50 ?_
      refine lv_iconst (v := nI 1) hx hb dX7_isClosed_51 (by decide) ?_
      refine lv_iadd hx hb dX7_isClosed_52 ?_
      refine lv_icmp_ne (tgt := 60) hx hb dX7_isClosed_53 (by decide) (fun c_53 => ?_) (fun c_53 => ?_)
      · refine lv_iconst (v := nI 0) hx hb dX7_isClosed_60 (by decide) ?_
        exact m_zret hx hb hr hlk hH hS dX7_isClosed_61 (by first | exact Or.inl rfl | exact Or.inr rfl | exact bI_01 _) (⟨bI_f (by first | (unfold isCl; rw [c_5]; rfl) | (rw [isCl_nI hpn h24]; exact clo_0 c_14 hs4) | (rw [isCl_nI hpn h24]; exact Bool.eq_false_iff.mpr (fun q => c_53 ((clo_ne hP h0).mpr q)))), rfl⟩)
      · refine lv_iconst (v := nI 1) hx hb dX7_isClosed_56 (by decide) ?_
        refine lv_goto (tgt := 61) hx hb dX7_isClosed_57 (by decide) ?_
        exact m_zret hx hb hr hlk hH hS dX7_isClosed_61 (by first | exact Or.inl rfl | exact Or.inr rfl | exact bI_01 _) (⟨bI_t (by rw [isCl_nI hpn h24]; exact (clo_ne hP h0).mp c_53), rfl⟩)
set_option maxHeartbeats 4000000 in
set_option maxRecDepth 100000 in
theorem c_X7_upTo (l : Launch) (G : gG) (B : gB) (σ : gS) (hM : BkM B) (pn k : Nat) (hp : pn < 24) (hP : WfP1 σ pn) (hk : k ≤ stN σ pn) : Met l yX7_upTo [.code yX7_upTo cX7_upTo 5 (some .int)] ({ frames := 0, cells := 0, slots := 0, locals := 0 } : Room) (mPc G B σ [.ref (B.1 0 0), .int (nI pn), .int (nI k - 1)]) (mQi G B (fun r σ' => r = nI (tot σ pn k) ∧ σ' = σ)) 0 0 (mA G) := by
  refine m_start (by decide) (Nat.le_of_ble_eq_true rfl) ?_
  intro p e s m below meth c ⟨hx, hb, hr, hml, hown, hK, hlk, hz⟩ hH hS ls hl
  have hl : lv_has ls 5 [(0, .ref (B.1 0 0)), (1, .int (nI pn)), (2, .int (nI k - 1))] := hl
  have hk4 := hP.2.1
  have loop : ∀ (n : Nat) (j : Nat), j ≤ k ∧ k < j + n → ∀ (ls : Array Slot), lv_has ls 5 [(0, .ref (B.1 0 0)), (1, .int (nI pn)), (2, .int (nI k - 1)), (3, .int (nI (tot σ pn j))), (4, .int (nI j))] → W p l e ({ frames := 0, cells := 0, slots := 0, locals := 0 } : Room) s m ([.ref (B.1 0 0), .int (nI pn), .int (nI k - 1)] : List Value).toArray below meth c s.heap [] 0 0 (MQ below (mQi G B (fun r σ' => r = nI (tot σ pn k) ∧ σ' = σ)) ([.ref (B.1 0 0), .int (nI pn), .int (nI k - 1)] : List Value).toArray s 0 0 (mA G)) (F0 m 5 ls []) := by
    intro n
    induction n with
    | zero => intro j hh; exfalso; omega
    | succ n ih =>
      intro j hh ls hl
      refine lv_iload hx hb dX7_upTo_5 (lv_at hl 4 rfl) ?_
      refine lv_iload_n hx hb dX7_upTo_7 rfl (lv_at hl 2 rfl) ?_
      refine lv_icmp_gt (tgt := 31) hx hb dX7_upTo_8 (by decide) (fun c_8 => ?_) (fun c_8 => ?_)
      · have hj : j = k := by
          have e1 := nI_I (n := j) (by omega)
          have e2 := nI_I (n := k) (by omega)
          have e3 : (nI k - 1).toInt = (k : Int) - 1 := by rw [i_sub (by rw [e2, show (1 : Int32).toInt = 1 from rfl]; omega) (by rw [e2, show (1 : Int32).toInt = 1 from rfl]; omega), e2]; rfl
          simp only [i_lt, e1, e3] at c_8
          omega
        refine lv_iload_n hx hb dX7_upTo_31 rfl (lv_at hl 3 rfl) ?_
        exact m_iret hx hb hr hlk hH hS dX7_upTo_32 (⟨by rw [hj], rfl⟩)
      · have hj : j < k := by
          have e1 := nI_I (n := j) (by omega)
          have e2 := nI_I (n := k) (by omega)
          have e3 : (nI k - 1).toInt = (k : Int) - 1 := by rw [i_sub (by rw [e2, show (1 : Int32).toInt = 1 from rfl]; omega) (by rw [e2, show (1 : Int32).toInt = 1 from rfl]; omega), e2]; rfl
          simp only [i_lt, e1, e3] at c_8
          omega
        refine lv_iload_n hx hb dX7_upTo_11 rfl (lv_at hl 3 rfl) ?_
        refine lv_aload_n hx hb dX7_upTo_12 rfl (lv_at hl 0 rfl) ?_
        refine gf_X7_13 hx hb hown hK hH (bm hM 0) dX7_upTo_13 ?_
        refine lv_iconst (v := nI 4) hx hb dX7_upTo_16 (by decide) ?_
        refine lv_iload_n hx hb dX7_upTo_17 rfl (lv_at hl 1 rfl) ?_
        refine m_imulN hx hb dX7_upTo_18 ?_
        refine lv_iload hx hb dX7_upTo_19 (lv_at hl 4 rfl) ?_
        refine m_iaddN hx hb dX7_upTo_21 ?_
        refine m_iald hx hb hK hH (n := 96) (bm hM 4) (fun _ _ => rfl) (4 * pn + j) (rfl) (by omega) (by decide) dX7_upTo_22 ?_
        refine m_toi (szN σ pn j) ((hP.2.2.1 j (by omega)).1) ?_
        refine m_iaddN hx hb dX7_upTo_23 ?_
        refine lv_istore_n (lv' := [(3, .int (nI (tot σ pn j + (szN σ pn j)))), (0, .ref (B.1 0 0)), (1, .int (nI pn)), (2, .int (nI k - 1)), (4, .int (nI j))]) hx hb dX7_upTo_24 rfl hl (by decide) rfl (fun ls hl => ?_)
        refine lv_iinc (v := nI (j + 1)) (lv' := [(4, .int (nI (j + 1))), (3, .int (nI (tot σ pn j + (szN σ pn j)))), (0, .ref (B.1 0 0)), (1, .int (nI pn)), (2, .int (nI k - 1))]) hx hb dX7_upTo_25 hl (k := 4) rfl (nI_1 _) (by decide) rfl (fun ls hl => ?_)
        refine lv_goto (tgt := 5) hx hb dX7_upTo_28 (by decide) ?_
        exact ih (j + 1) (by omega) ls (lv_sub hl [2, 3, 4, 1, 0] rfl)
  refine lv_iconst (v := nI 0) hx hb dX7_upTo_0 (by decide) ?_
  refine lv_istore_n (lv' := [(3, .int (nI 0)), (0, .ref (B.1 0 0)), (1, .int (nI pn)), (2, .int (nI k - 1))]) hx hb dX7_upTo_1 rfl hl (by decide) rfl (fun ls hl => ?_)
  refine lv_iconst (v := nI 0) hx hb dX7_upTo_2 (by decide) ?_
  refine lv_istore (lv' := [(4, .int (nI 0)), (3, .int (nI 0)), (0, .ref (B.1 0 0)), (1, .int (nI pn)), (2, .int (nI k - 1))]) hx hb dX7_upTo_3 hl (by decide) rfl (fun ls hl => ?_)
  exact loop (k + 1) 0 (by omega) ls (lv_sub hl [2, 3, 4, 1, 0] rfl)
set_option maxHeartbeats 4000000 in
set_option maxRecDepth 100000 in
theorem c_X7_all (l : Launch) (G : gG) (B : gB) (σ : gS) (hM : BkM B) (pn : Nat) (hp : pn < 24) (hP : WfP1 σ pn) : Met l yX7_all [.code yX7_all cX7_all 2 (some .int)] ({ frames := 1, cells := 0, slots := 0, locals := 24 } : Room) (mPc G B σ [.ref (B.1 0 0), .int (nI pn)]) (mQi G B (fun r σ' => r = nI (tot σ pn (stN σ pn)) ∧ σ' = σ)) 0 0 (mA G) := by
  refine m_start (by decide) (Nat.le_of_ble_eq_true rfl) ?_
  intro p e s m below meth c ⟨hx, hb, hr, hml, hown, hK, hlk, hz⟩ hH hS ls hl
  have hl : lv_has ls 2 [(0, .ref (B.1 0 0)), (1, .int (nI pn))] := hl
  refine lv_aload_n hx hb dX7_all_0 rfl (lv_at hl 0 rfl) ?_
  refine lv_iload_n hx hb dX7_all_1 rfl (lv_at hl 1 rfl) ?_
  refine lv_aload_n hx hb dX7_all_2 rfl (lv_at hl 0 rfl) ?_
  refine gf_X7_7 hx hb hown hK hH (bm hM 0) dX7_all_3 ?_
  refine lv_iload_n hx hb dX7_all_6 rfl (lv_at hl 1 rfl) ?_
  refine m_iald hx hb hK hH (n := 24) (bm hM 3) (fun _ _ => rfl) (pn) (rfl) (by omega) (by decide) dX7_all_7 ?_
  refine m_toi (stN σ pn) (hP.1) ?_
  refine lv_iconst (v := nI 1) hx hb dX7_all_8 (by decide) ?_
  refine lv_isub hx hb dX7_all_9 ?_
  refine m_ki (m_runV (k := 0) (i := 0) (ci := 7) ⟨hx, hb, hml, hown, hz⟩ hK hH hS (bm hM 0) rfl rfl (c_X7_upTo l G B σ hM pn (stN σ pn) hp hP (Nat.le_refl _)) mw_X7_upTo wl_X7_103 ⟨rfl, rfl⟩ ⟨by decide, by decide⟩ rfl hl.1 rfl (Nat.le_of_ble_eq_true rfl) dX7_all_10 ⟨Nat.zero_le _, Nat.zero_le _⟩) hS (fun r_10 σ_10 H locs hp hH hS => ?_)
  obtain ⟨hr1, hs1⟩ := hp
  subst hr1
  rw [hs1] at hH
  exact m_iret hx hb hr hlk hH hS dX7_all_13 (⟨rfl, rfl⟩)
def fitb (σ : gS) (x n : Int32) : Bool := isCl σ x && decide (1 ≤ n.toInt ∧ n.toInt ≤ 60 ∧ (tot σ x.toNatClampNeg (stN σ x.toNatClampNeg) : Int) ≤ n.toInt)
end
section
theorem inR_t {v lo hi : Int32} (h : inR v lo hi = true) : lo.toInt ≤ v.toInt ∧ v.toInt ≤ hi.toInt := of_decide_eq_true h
theorem inR_f {v lo hi : Int32} (h : inR v lo hi = false) : ¬ (lo.toInt ≤ v.toInt ∧ v.toInt ≤ hi.toInt) := of_decide_eq_false h
theorem isPl_nI {σ : gS} {p : Nat} (hp : p < nP σ) (h24 : nP σ ≤ 24) : isPl σ (nI p) = true := by
  unfold isPl
  rw [nI_I (by omega)]
  exact decide_eq_true (by omega)
theorem isCl_P {σ : gS} {x : Int32} (h : isPl σ x = false) : isCl σ x = false := by unfold isCl; rw [h]; rfl
theorem fitb_nI {σ : gS} {p : Nat} {n : Int32} (hp : p < nP σ) (h24 : nP σ ≤ 24) : fitb σ (nI p) n = (clo σ p && decide (1 ≤ n.toInt ∧ n.toInt ≤ 60 ∧ (tot σ p (stN σ p) : Int) ≤ n.toInt)) := by
  unfold fitb
  rw [isCl_nI hp h24, nI_clamp (by omega)]
theorem fitb_t {σ : gS} {x n : Int32} (h24 : nP σ ≤ 24) (h : fitb σ x n = true) : ∃ p q : Nat, p < nP σ ∧ x = nI p ∧ n = nI q ∧ clo σ p = true ∧ 1 ≤ q ∧ q ≤ 60 ∧ tot σ p (stN σ p) ≤ q := by
  unfold fitb at h
  obtain ⟨h1, h2⟩ := Bool.and_eq_true_iff.mp h
  obtain ⟨p, hp, rfl, hc⟩ := isCl_t h24 h1
  rw [nI_clamp (by omega)] at h2
  have h3 := of_decide_eq_true h2
  obtain ⟨a, b⟩ := i_nat (x := n) (by omega)
  exact ⟨p, n.toInt.toNat, hp, rfl, a, hc, by omega, by omega, by omega⟩
theorem n60I : (nI 60).toInt = 60 := rfl
theorem n61I : (nI 61).toInt = 61 := rfl
theorem n2I : (nI 2).toInt = 2 := rfl
theorem n6I : (nI 6).toInt = 6 := rfl
theorem n3I : (nI 3).toInt = 3 := rfl
set_option maxHeartbeats 4000000 in
set_option maxRecDepth 100000 in
theorem c_X7_fits (l : Launch) (G : gG) (B : gB) (σ : gS) (hM : BkM B) (hW : WfP σ) (x n : Int32) : Met l yX7_fits [.code yX7_fits cX7_fits 3 (some .boolean)] ({ frames := 3, cells := 0, slots := 0, locals := 64 } : Room) (mPc G B σ [.ref (B.1 0 0), .int (x), .int (n)]) (mQi G B (fun r σ' => r = bI (fitb σ x n) ∧ σ' = σ)) 0 0 (mA G) := by
  refine m_start (by decide) (Nat.le_of_ble_eq_true rfl) ?_
  intro p e s m below meth c ⟨hx, hb, hr, hml, hown, hK, hlk, hz⟩ hH hS ls hl
  have hl : lv_has ls 3 [(0, .ref (B.1 0 0)), (1, .int (x)), (2, .int (n))] := hl
  refine lv_aload_n hx hb dX7_fits_0 rfl (lv_at hl 0 rfl) ?_
  refine lv_iload_n hx hb dX7_fits_1 rfl (lv_at hl 1 rfl) ?_
  refine m_ki (m_runV (k := 0) (i := 0) (ci := 7) ⟨hx, hb, hml, hown, hz⟩ hK hH hS (bm hM 0) rfl rfl (c_X7_isClosed l G B σ hM hW x) mw_X7_isClosed wl_X7_107 ⟨rfl, rfl⟩ ⟨by decide, by decide⟩ rfl hl.1 rfl (Nat.le_of_ble_eq_true rfl) dX7_fits_2 ⟨Nat.zero_le _, Nat.zero_le _⟩) hS (fun r_2 σ_2 H locs hp hH hS => ?_)
  obtain ⟨hr1, hs1⟩ := hp
  subst hr1
  rw [hs1] at hH
  refine m_ifeqB (tgt := 31) hx hb dX7_fits_5 (by decide) (fun c_5 => ?_) (fun c_5 => ?_)
  · refine lv_iconst (v := nI 0) hx hb dX7_fits_31 (by decide) ?_
    exact m_zret hx hb hr hlk hH hS dX7_fits_32 (by first | exact Or.inl rfl | exact Or.inr rfl | exact bI_01 _) (⟨bI_f (by first | (unfold fitb; rw [c_5]; rfl) | (rw [fitb_nI hpn h24, hcl]; have := inR_f c_15; rw [n1I, n60I] at this; exact decide_eq_false (by omega)) | (rw [fitb_nI hpn h24, hcl]; rw [i_lt, et] at c_24; exact decide_eq_false (by omega))), rfl⟩)
  · obtain ⟨pn, hpn, rfl, hcl⟩ := isCl_t hW.2.1 c_5
    have h24 := hW.2.1
    have hP := hW.2.2 pn hpn
    have ht := tot_le hP (Nat.le_refl _)
    have et := nI_I (n := tot σ pn (stN σ pn)) (by omega)
    refine lv_iload_n hx hb dX7_fits_8 rfl (lv_at hl 2 rfl) ?_
    refine lv_iconst (v := nI 1) hx hb dX7_fits_9 (by decide) ?_
    refine lv_bipush (v := nI 60) hx hb dX7_fits_10 (by decide) ?_
    refine m_ki (m_runS ⟨hx, hb, hml, hown, hz⟩ hK hH hS (c_X7_in l G B σ n (nI 1) (nI 60)) mw_X7_in wl_X7_95 ⟨rfl, rfl⟩ ⟨by decide, by decide⟩ rfl hl.1 rfl (Nat.le_of_ble_eq_true rfl) dX7_fits_12 ⟨Nat.zero_le _, Nat.zero_le _⟩) hS (fun r_12 σ_12 H locs hp hH hS => ?_)
    obtain ⟨hr1, hs1⟩ := hp
    subst hr1
    rw [hs1] at hH
    refine m_ifeqB (tgt := 31) hx hb dX7_fits_15 (by decide) (fun c_15 => ?_) (fun c_15 => ?_)
    · refine lv_iconst (v := nI 0) hx hb dX7_fits_31 (by decide) ?_
      exact m_zret hx hb hr hlk hH hS dX7_fits_32 (by first | exact Or.inl rfl | exact Or.inr rfl | exact bI_01 _) (⟨bI_f (by first | (unfold fitb; rw [c_5]; rfl) | (rw [fitb_nI hpn h24, hcl]; have := inR_f c_15; rw [n1I, n60I] at this; exact decide_eq_false (by omega)) | (rw [fitb_nI hpn h24, hcl]; rw [i_lt, et] at c_24; exact decide_eq_false (by omega))), rfl⟩)
    · refine lv_aload_n hx hb dX7_fits_18 rfl (lv_at hl 0 rfl) ?_
      refine lv_iload_n hx hb dX7_fits_19 rfl (lv_at hl 1 rfl) ?_
      refine m_ki (m_runV (k := 0) (i := 0) (ci := 7) ⟨hx, hb, hml, hown, hz⟩ hK hH hS (bm hM 0) rfl rfl (c_X7_all l G B σ hM pn (by omega) hP) mw_X7_all wl_X7_110 ⟨rfl, rfl⟩ ⟨by decide, by decide⟩ rfl hl.1 rfl (Nat.le_of_ble_eq_true rfl) dX7_fits_20 ⟨Nat.zero_le _, Nat.zero_le _⟩) hS (fun r_20 σ_20 H locs hp hH hS => ?_)
      obtain ⟨hr1, hs1⟩ := hp
      subst hr1
      rw [hs1] at hH
      refine lv_iload_n hx hb dX7_fits_23 rfl (lv_at hl 2 rfl) ?_
      refine lv_icmp_gt (tgt := 31) hx hb dX7_fits_24 (by decide) (fun c_24 => ?_) (fun c_24 => ?_)
      · refine lv_iconst (v := nI 0) hx hb dX7_fits_31 (by decide) ?_
        exact m_zret hx hb hr hlk hH hS dX7_fits_32 (by first | exact Or.inl rfl | exact Or.inr rfl | exact bI_01 _) (⟨bI_f (by first | (unfold fitb; rw [c_5]; rfl) | (rw [fitb_nI hpn h24, hcl]; have := inR_f c_15; rw [n1I, n60I] at this; exact decide_eq_false (by omega)) | (rw [fitb_nI hpn h24, hcl]; rw [i_lt, et] at c_24; exact decide_eq_false (by omega))), rfl⟩)
      · refine lv_iconst (v := nI 1) hx hb dX7_fits_27 (by decide) ?_
        refine lv_goto (tgt := 32) hx hb dX7_fits_28 (by decide) ?_
        exact m_zret hx hb hr hlk hH hS dX7_fits_32 (by first | exact Or.inl rfl | exact Or.inr rfl | exact bI_01 _) (⟨bI_t (by rw [fitb_nI hpn h24, hcl]; have := inR_t c_15; rw [n1I, n60I] at this; rw [i_lt, et] at c_24; exact decide_eq_true (by omega)), rfl⟩)
set_option maxHeartbeats 4000000 in
set_option maxRecDepth 100000 in
theorem c_X7_plan (l : Launch) (G : gG) (B : gB) (σ : gS) (hM : BkM B) (hW : WfP σ) : Met l yX7_plan [.code yX7_plan cX7_plan 1 (some .int)] ({ frames := 0, cells := 0, slots := 0, locals := 0 } : Room) (mPc G B σ [.ref (B.1 0 0)]) (mQi G B (fun r σ' => if nP σ = 24 then r = -2 ∧ σ' = σ else r = nI (nP σ) ∧ σ' = sI (sI σ 3 0 (nP σ) (nI 0)) 0 0 0 (nI (nP σ + 1)))) 0 0 (mA G) := by
  refine m_start (by decide) (Nat.le_of_ble_eq_true rfl) ?_
  intro p e s m below meth c ⟨hx, hb, hr, hml, hown, hK, hlk, hz⟩ hH hS ls hl
  have hl : lv_has ls 1 [(0, .ref (B.1 0 0))] := hl
  have h24 := hW.2.1
  refine lv_aload_n hx hb dX7_plan_0 rfl (lv_at hl 0 rfl) ?_
  refine gf_X7_91 hx hb hown hK hH (bm hM 0) dX7_plan_1 ?_
  refine m_toi (nP σ) (hW.1) ?_
  refine lv_bipush (v := nI 24) hx hb dX7_plan_4 (by decide) ?_
  refine m_icmp_neN (tgt := 12) (by omega) (by omega) hx hb dX7_plan_6 (by decide) (fun c_6 => ?_) (fun c_6 => ?_)
  · refine lv_aload_n hx hb dX7_plan_12 rfl (lv_at hl 0 rfl) ?_
    refine gf_X7_7 hx hb hown hK hH (bm hM 0) dX7_plan_13 ?_
    refine lv_aload_n hx hb dX7_plan_16 rfl (lv_at hl 0 rfl) ?_
    refine gf_X7_91 hx hb hown hK hH (bm hM 0) dX7_plan_17 ?_
    refine m_toi (nP σ) (hW.1) ?_
    refine lv_iconst (v := nI 0) hx hb dX7_plan_20 (by decide) ?_
    refine m_iast hx hb hK hH hS (n := 24) (bm hM 3) (fun _ _ => rfl) (nP σ) (rfl) (by omega) (by decide) dX7_plan_21 (fun H locs hH hS => ?_)
    refine lv_aload_n hx hb dX7_plan_22 rfl (lv_at hl 0 rfl) ?_
    refine lv_dup hx hb dX7_plan_23 rfl ?_
    refine gf_X7_91 hx hb hown hK hH (bm hM 0) dX7_plan_24 ?_
    refine m_toi (nP σ) (by simp only [sI_at]; simp; exact hW.1) ?_
    refine lv_iconst (v := nI 1) hx hb dX7_plan_27 (by decide) ?_
    refine m_iaddN hx hb dX7_plan_28 ?_
    refine pf_X7_91 hx hb hown hK hH hS (bm hM 0) dX7_plan_29 (fun H locs hH hS => ?_)
    refine lv_aload_n hx hb dX7_plan_32 rfl (lv_at hl 0 rfl) ?_
    refine gf_X7_91 hx hb hown hK hH (bm hM 0) dX7_plan_33 ?_
    refine m_toi (nP σ + 1) (by rw [sI_at, if_pos ⟨rfl, rfl, rfl⟩]) ?_
    refine lv_iconst (v := nI 1) hx hb dX7_plan_36 (by decide) ?_
    refine m_isubN (by omega) hx hb dX7_plan_37 ?_
    exact m_iret hx hb hr hlk hH hS dX7_plan_38 (by rw [if_neg c_6]; exact ⟨by congr 1, rfl⟩)
  · refine lv_bipush (v := (-2)) hx hb dX7_plan_9 (by decide) ?_
    exact m_iret hx hb hr hlk hH hS dX7_plan_11 (by rw [if_pos c_6]; exact ⟨rfl, rfl⟩)
def stOK (σ : gS) (x s a r : Int32) : Bool := isPl σ x && decide (clo σ x.toNatClampNeg = false ∧ stN σ x.toNatClampNeg ≠ 4 ∧ (stN σ x.toNatClampNeg = 3 → r.toInt = a.toInt + 1) ∧ (1 ≤ s.toInt ∧ s.toInt ≤ 60) ∧ (-1 ≤ a.toInt ∧ a.toInt ≤ 60) ∧ a.toInt < r.toInt ∧ r.toInt ≤ 61 ∧ (tot σ x.toNatClampNeg (stN σ x.toNatClampNeg) : Int) + s.toInt ≤ 60)
theorem stOK_nI {σ : gS} {p : Nat} {s a r : Int32} (hp : p < nP σ) (h24 : nP σ ≤ 24) : stOK σ (nI p) s a r = decide (clo σ p = false ∧ stN σ p ≠ 4 ∧ (stN σ p = 3 → r.toInt = a.toInt + 1) ∧ (1 ≤ s.toInt ∧ s.toInt ≤ 60) ∧ (-1 ≤ a.toInt ∧ a.toInt ≤ 60) ∧ a.toInt < r.toInt ∧ r.toInt ≤ 61 ∧ (tot σ p (stN σ p) : Int) + s.toInt ≤ 60) := by
  unfold stOK
  rw [isPl_nI hp h24, nI_clamp (by omega)]
  rfl
theorem l_eq64 {r a : Int32} : r.toInt64 = a.toInt64 + 1 ↔ r.toInt = a.toInt + 1 := by
  have h1 := i_rng r
  have h2 := i_rng a
  rw [← Int64.toInt_inj, Int64.toInt_add, Int32.toInt_toInt64, Int32.toInt_toInt64]
  rw [show (1 : Int64).toInt = 1 from rfl, Int.bmod_eq_of_le (by omega) (by omega)]
def stUp (σ : gS) (p : Nat) (s a r : Int32) : gS := sI (sI (sI (sI σ 4 0 (4 * p + stN σ p) s) 5 0 (4 * p + stN σ p) a) 6 0 (4 * p + stN σ p) r) 3 0 p (nI (stN σ p + 1))
set_option maxHeartbeats 4000000 in
set_option maxRecDepth 100000 in
theorem c_X7_stage (l : Launch) (G : gG) (B : gB) (σ : gS) (hM : BkM B) (hW : WfP σ) (x sz a r : Int32) : Met l yX7_stage [.code yX7_stage cX7_stage 6 (some .int)] ({ frames := 3, cells := 0, slots := 0, locals := 64 } : Room) (mPc G B σ [.ref (B.1 0 0), .int (x), .int (sz), .int (a), .int (r)]) (mQi G B (fun v σ' => if stOK σ x sz a r = true then ∃ pn : Nat, x = nI pn ∧ v = nI (stN σ pn + 1) ∧ σ' = stUp σ pn sz a r else v = -2 ∧ σ' = σ)) 0 0 (mA G) := by
  refine m_start (by decide) (Nat.le_of_ble_eq_true rfl) ?_
  intro p e s m below meth c ⟨hx, hb, hr, hml, hown, hK, hlk, hz⟩ hH hS ls hl
  have hl : lv_has ls 6 [(0, .ref (B.1 0 0)), (1, .int (x)), (2, .int (sz)), (3, .int (a)), (4, .int (r))] := hl
  refine lv_aload_n hx hb dX7_stage_0 rfl (lv_at hl 0 rfl) ?_
  refine lv_iload_n hx hb dX7_stage_1 rfl (lv_at hl 1 rfl) ?_
  refine m_ki (m_runV (k := 0) (i := 0) (ci := 7) ⟨hx, hb, hml, hown, hz⟩ hK hH hS (bm hM 0) rfl rfl (c_X7_isPlan l G B σ hM hW x) mw_X7_isPlan wl_X7_99 ⟨rfl, rfl⟩ ⟨by decide, by decide⟩ rfl hl.1 rfl (Nat.le_of_ble_eq_true rfl) dX7_stage_2 ⟨Nat.zero_le _, Nat.zero_le _⟩) hS (fun r_2 σ_2 H locs hp hH hS => ?_)
  obtain ⟨hr1, hs1⟩ := hp
  subst hr1
  rw [hs1] at hH
  refine m_ifeqB (tgt := 47) hx hb dX7_stage_5 (by decide) (fun c_5 => ?_) (fun c_5 => ?_)
  · have hno : stOK σ (x) sz a r = false := by
      first
        | (unfold stOK; rw [c_5]; rfl)
        | (rw [stOK_nI hpn h24]; exact decide_eq_false (fun hh => by rw [c_13] at hh; exact absurd hh.1 (by decide)))
        | (rw [stOK_nI hpn h24]; exact decide_eq_false (fun hh => hh.2.1 c_23))
        | (rw [stOK_nI hpn h24]; exact decide_eq_false (fun hh => c_43 (l_eq64.mpr (hh.2.2.1 c_33))))
    refine lv_bipush (v := (-2)) hx hb dX7_stage_47 (by decide) ?_
    exact m_iret hx hb hr hlk hH hS dX7_stage_49 (by rw [hno]; exact ⟨rfl, rfl⟩)
  · obtain ⟨pn, hpn, rfl⟩ := isPl_t c_5
    have h24 := hW.2.1
    have hP := hW.2.2 pn hpn
    have ht := tot_le hP (Nat.le_refl _)
    have hs4 := hP.2.1
    have et := nI_I (n := tot σ pn (stN σ pn)) (by omega)
    refine lv_aload_n hx hb dX7_stage_8 rfl (lv_at hl 0 rfl) ?_
    refine lv_iload_n hx hb dX7_stage_9 rfl (lv_at hl 1 rfl) ?_
    refine m_ki (m_runV (k := 0) (i := 0) (ci := 7) ⟨hx, hb, hml, hown, hz⟩ hK hH hS (bm hM 0) rfl rfl (c_X7_isClosed l G B σ hM hW (nI pn)) mw_X7_isClosed wl_X7_107 ⟨rfl, rfl⟩ ⟨by decide, by decide⟩ rfl hl.1 rfl (Nat.le_of_ble_eq_true rfl) dX7_stage_10 ⟨Nat.zero_le _, Nat.zero_le _⟩) hS (fun r_10 σ_10 H locs hp hH hS => ?_)
    obtain ⟨hr1, hs1⟩ := hp
    rw [hs1] at hH
    rw [isCl_nI hpn h24] at hr1
    subst hr1
    refine m_ifneB (tgt := 47) hx hb dX7_stage_13 (by decide) (fun c_13 => ?_) (fun c_13 => ?_)
    · have hno : stOK σ (nI pn) sz a r = false := by
        first
          | (unfold stOK; rw [c_5]; rfl)
          | (rw [stOK_nI hpn h24]; exact decide_eq_false (fun hh => by rw [c_13] at hh; exact absurd hh.1 (by decide)))
          | (rw [stOK_nI hpn h24]; exact decide_eq_false (fun hh => hh.2.1 c_23))
          | (rw [stOK_nI hpn h24]; exact decide_eq_false (fun hh => c_43 (l_eq64.mpr (hh.2.2.1 c_33))))
      refine lv_bipush (v := (-2)) hx hb dX7_stage_47 (by decide) ?_
      exact m_iret hx hb hr hlk hH hS dX7_stage_49 (by rw [hno]; exact ⟨rfl, rfl⟩)
    · refine lv_aload_n hx hb dX7_stage_16 rfl (lv_at hl 0 rfl) ?_
      refine gf_X7_7 hx hb hown hK hH (bm hM 0) dX7_stage_17 ?_
      refine lv_iload_n hx hb dX7_stage_20 rfl (lv_at hl 1 rfl) ?_
      refine m_iald hx hb hK hH (n := 24) (bm hM 3) (fun _ _ => rfl) (pn) (rfl) (by omega) (by decide) dX7_stage_21 ?_
      refine m_toi (stN σ pn) (hP.1) ?_
      refine lv_iconst (v := nI 4) hx hb dX7_stage_22 (by decide) ?_
      refine m_icmp_eqN (tgt := 47) (by omega) (by omega) hx hb dX7_stage_23 (by decide) (fun c_23 => ?_) (fun c_23 => ?_)
      · have hno : stOK σ (nI pn) sz a r = false := by
          first
            | (unfold stOK; rw [c_5]; rfl)
            | (rw [stOK_nI hpn h24]; exact decide_eq_false (fun hh => by rw [c_13] at hh; exact absurd hh.1 (by decide)))
            | (rw [stOK_nI hpn h24]; exact decide_eq_false (fun hh => hh.2.1 c_23))
            | (rw [stOK_nI hpn h24]; exact decide_eq_false (fun hh => c_43 (l_eq64.mpr (hh.2.2.1 c_33))))
        refine lv_bipush (v := (-2)) hx hb dX7_stage_47 (by decide) ?_
        exact m_iret hx hb hr hlk hH hS dX7_stage_49 (by rw [hno]; exact ⟨rfl, rfl⟩)
      · refine lv_aload_n hx hb dX7_stage_26 rfl (lv_at hl 0 rfl) ?_
        refine gf_X7_7 hx hb hown hK hH (bm hM 0) dX7_stage_27 ?_
        refine lv_iload_n hx hb dX7_stage_30 rfl (lv_at hl 1 rfl) ?_
        refine m_iald hx hb hK hH (n := 24) (bm hM 3) (fun _ _ => rfl) (pn) (rfl) (by omega) (by decide) dX7_stage_31 ?_
        refine m_toi (stN σ pn) (hP.1) ?_
        refine lv_iconst (v := nI 3) hx hb dX7_stage_32 (by decide) ?_
        refine m_icmp_neN (tgt := 50) (by omega) (by omega) hx hb dX7_stage_33 (by decide) (fun c_33 => ?_) (fun c_33 => ?_)
        · have h33 : stN σ pn = 3 → r.toInt = a.toInt + 1 := by
            first
              | exact fun _ => l_eq64.mp c_43
              | exact fun q => absurd q c_33
          refine lv_iload_n hx hb dX7_stage_50 rfl (lv_at hl 2 rfl) ?_
          refine lv_iconst (v := nI 1) hx hb dX7_stage_51 (by decide) ?_
          refine lv_bipush (v := nI 60) hx hb dX7_stage_52 (by decide) ?_
          refine m_ki (m_runS ⟨hx, hb, hml, hown, hz⟩ hK hH hS (c_X7_in l G B σ sz (nI 1) (nI 60)) mw_X7_in wl_X7_95 ⟨rfl, rfl⟩ ⟨by decide, by decide⟩ rfl hl.1 rfl (Nat.le_of_ble_eq_true rfl) dX7_stage_54 ⟨Nat.zero_le _, Nat.zero_le _⟩) hS (fun r_54 σ_54 H locs hp hH hS => ?_)
          obtain ⟨hr1, hs1⟩ := hp
          subst hr1
          rw [hs1] at hH
          refine m_ifeqB (tgt := 95) hx hb dX7_stage_57 (by decide) (fun c_57 => ?_) (fun c_57 => ?_)
          · have hno : stOK σ (nI pn) sz a r = false := by
              rw [stOK_nI hpn h24]; refine decide_eq_false (fun hh => ?_); obtain ⟨-, -, -, h5, h6, h7, h8, h9⟩ := hh
              first
                | (have := inR_f c_57; rw [n1I, n60I] at this; omega)
                | (have := inR_f c_67; rw [im1, n60I] at this; omega)
                | (rw [i_le] at c_73; omega)
                | (rw [i_lt, n61I] at c_80; omega)
                | (have h10 := inR_t c_57; rw [n1I, n60I] at h10; have e9 : (nI (tot σ pn (stN σ pn)) + sz).toInt = (tot σ pn (stN σ pn) : Int) + sz.toInt := (by rw [i_add (by rw [et]; omega) (by rw [et]; omega), et]); rw [i_le, e9, n60I] at c_92; omega)
            refine lv_bipush (v := (-2)) hx hb dX7_stage_95 (by decide) ?_
            exact m_iret hx hb hr hlk hH hS dX7_stage_97 (by rw [hno]; exact ⟨rfl, rfl⟩)
          · refine lv_iload_n hx hb dX7_stage_60 rfl (lv_at hl 3 rfl) ?_
            refine lv_iconst (v := (-1)) hx hb dX7_stage_61 (by decide) ?_
            refine lv_bipush (v := nI 60) hx hb dX7_stage_62 (by decide) ?_
            refine m_ki (m_runS ⟨hx, hb, hml, hown, hz⟩ hK hH hS (c_X7_in l G B σ a (-1) (nI 60)) mw_X7_in wl_X7_95 ⟨rfl, rfl⟩ ⟨by decide, by decide⟩ rfl hl.1 rfl (Nat.le_of_ble_eq_true rfl) dX7_stage_64 ⟨Nat.zero_le _, Nat.zero_le _⟩) hS (fun r_64 σ_64 H locs hp hH hS => ?_)
            obtain ⟨hr1, hs1⟩ := hp
            subst hr1
            rw [hs1] at hH
            refine m_ifeqB (tgt := 95) hx hb dX7_stage_67 (by decide) (fun c_67 => ?_) (fun c_67 => ?_)
            · have hno : stOK σ (nI pn) sz a r = false := by
                rw [stOK_nI hpn h24]; refine decide_eq_false (fun hh => ?_); obtain ⟨-, -, -, h5, h6, h7, h8, h9⟩ := hh
                first
                  | (have := inR_f c_57; rw [n1I, n60I] at this; omega)
                  | (have := inR_f c_67; rw [im1, n60I] at this; omega)
                  | (rw [i_le] at c_73; omega)
                  | (rw [i_lt, n61I] at c_80; omega)
                  | (have h10 := inR_t c_57; rw [n1I, n60I] at h10; have e9 : (nI (tot σ pn (stN σ pn)) + sz).toInt = (tot σ pn (stN σ pn) : Int) + sz.toInt := (by rw [i_add (by rw [et]; omega) (by rw [et]; omega), et]); rw [i_le, e9, n60I] at c_92; omega)
              refine lv_bipush (v := (-2)) hx hb dX7_stage_95 (by decide) ?_
              exact m_iret hx hb hr hlk hH hS dX7_stage_97 (by rw [hno]; exact ⟨rfl, rfl⟩)
            · refine lv_iload hx hb dX7_stage_70 (lv_at hl 4 rfl) ?_
              refine lv_iload_n hx hb dX7_stage_72 rfl (lv_at hl 3 rfl) ?_
              refine lv_icmp_le (tgt := 95) hx hb dX7_stage_73 (by decide) (fun c_73 => ?_) (fun c_73 => ?_)
              · have hno : stOK σ (nI pn) sz a r = false := by
                  rw [stOK_nI hpn h24]; refine decide_eq_false (fun hh => ?_); obtain ⟨-, -, -, h5, h6, h7, h8, h9⟩ := hh
                  first
                    | (have := inR_f c_57; rw [n1I, n60I] at this; omega)
                    | (have := inR_f c_67; rw [im1, n60I] at this; omega)
                    | (rw [i_le] at c_73; omega)
                    | (rw [i_lt, n61I] at c_80; omega)
                    | (have h10 := inR_t c_57; rw [n1I, n60I] at h10; have e9 : (nI (tot σ pn (stN σ pn)) + sz).toInt = (tot σ pn (stN σ pn) : Int) + sz.toInt := (by rw [i_add (by rw [et]; omega) (by rw [et]; omega), et]); rw [i_le, e9, n60I] at c_92; omega)
                refine lv_bipush (v := (-2)) hx hb dX7_stage_95 (by decide) ?_
                exact m_iret hx hb hr hlk hH hS dX7_stage_97 (by rw [hno]; exact ⟨rfl, rfl⟩)
              · refine lv_iload hx hb dX7_stage_76 (lv_at hl 4 rfl) ?_
                refine lv_bipush (v := nI 61) hx hb dX7_stage_78 (by decide) ?_
                refine lv_icmp_gt (tgt := 95) hx hb dX7_stage_80 (by decide) (fun c_80 => ?_) (fun c_80 => ?_)
                · have hno : stOK σ (nI pn) sz a r = false := by
                    rw [stOK_nI hpn h24]; refine decide_eq_false (fun hh => ?_); obtain ⟨-, -, -, h5, h6, h7, h8, h9⟩ := hh
                    first
                      | (have := inR_f c_57; rw [n1I, n60I] at this; omega)
                      | (have := inR_f c_67; rw [im1, n60I] at this; omega)
                      | (rw [i_le] at c_73; omega)
                      | (rw [i_lt, n61I] at c_80; omega)
                      | (have h10 := inR_t c_57; rw [n1I, n60I] at h10; have e9 : (nI (tot σ pn (stN σ pn)) + sz).toInt = (tot σ pn (stN σ pn) : Int) + sz.toInt := (by rw [i_add (by rw [et]; omega) (by rw [et]; omega), et]); rw [i_le, e9, n60I] at c_92; omega)
                  refine lv_bipush (v := (-2)) hx hb dX7_stage_95 (by decide) ?_
                  exact m_iret hx hb hr hlk hH hS dX7_stage_97 (by rw [hno]; exact ⟨rfl, rfl⟩)
                · refine lv_aload_n hx hb dX7_stage_83 rfl (lv_at hl 0 rfl) ?_
                  refine lv_iload_n hx hb dX7_stage_84 rfl (lv_at hl 1 rfl) ?_
                  refine m_ki (m_runV (k := 0) (i := 0) (ci := 7) ⟨hx, hb, hml, hown, hz⟩ hK hH hS (bm hM 0) rfl rfl (c_X7_all l G B σ hM pn (by omega) hP) mw_X7_all wl_X7_110 ⟨rfl, rfl⟩ ⟨by decide, by decide⟩ rfl hl.1 rfl (Nat.le_of_ble_eq_true rfl) dX7_stage_85 ⟨Nat.zero_le _, Nat.zero_le _⟩) hS (fun r_85 σ_85 H locs hp hH hS => ?_)
                  obtain ⟨hr1, hs1⟩ := hp
                  subst hr1
                  rw [hs1] at hH
                  refine lv_iload_n hx hb dX7_stage_88 rfl (lv_at hl 2 rfl) ?_
                  refine lv_iadd hx hb dX7_stage_89 ?_
                  refine lv_bipush (v := nI 60) hx hb dX7_stage_90 (by decide) ?_
                  refine lv_icmp_le (tgt := 98) hx hb dX7_stage_92 (by decide) (fun c_92 => ?_) (fun c_92 => ?_)
                  · have hyes : stOK σ (nI pn) sz a r = true := by
                      rw [stOK_nI hpn h24]
                      have h10 := inR_t c_57; rw [n1I, n60I] at h10
                      have h11 := inR_t c_67; rw [im1, n60I] at h11
                      rw [i_le] at c_73
                      rw [i_lt, n61I] at c_80
                      have e9 : (nI (tot σ pn (stN σ pn)) + sz).toInt = (tot σ pn (stN σ pn) : Int) + sz.toInt := (by rw [i_add (by rw [et]; omega) (by rw [et]; omega), et])
                      rw [i_le, e9, n60I] at c_92
                      exact decide_eq_true ⟨c_13, c_23, h33, h10, h11, by omega, by omega, by omega⟩
                    have hs3 : stN σ pn < 4 := by omega
                    refine lv_iconst (v := nI 4) hx hb dX7_stage_98 (by decide) ?_
                    refine lv_iload_n hx hb dX7_stage_99 rfl (lv_at hl 1 rfl) ?_
                    refine m_imulN hx hb dX7_stage_100 ?_
                    refine lv_aload_n hx hb dX7_stage_101 rfl (lv_at hl 0 rfl) ?_
                    refine gf_X7_7 hx hb hown hK hH (bm hM 0) dX7_stage_102 ?_
                    refine lv_iload_n hx hb dX7_stage_105 rfl (lv_at hl 1 rfl) ?_
                    refine m_iald hx hb hK hH (n := 24) (bm hM 3) (fun _ _ => rfl) (pn) (rfl) (by omega) (by decide) dX7_stage_106 ?_
                    refine m_toi (stN σ pn) (hP.1) ?_
                    refine m_iaddN hx hb dX7_stage_107 ?_
                    refine lv_istore (lv' := [(5, .int (nI (4 * pn + (stN σ pn)))), (0, .ref (B.1 0 0)), (1, .int (nI pn)), (2, .int (sz)), (3, .int (a)), (4, .int (r))]) hx hb dX7_stage_108 hl (by decide) rfl (fun ls hl => ?_)
                    refine lv_aload_n hx hb dX7_stage_110 rfl (lv_at hl 1 rfl) ?_
                    refine gf_X7_13 hx hb hown hK hH (bm hM 0) dX7_stage_111 ?_
                    refine lv_iload hx hb dX7_stage_114 (lv_at hl 0 rfl) ?_
                    refine lv_iload_n hx hb dX7_stage_116 rfl (lv_at hl 3 rfl) ?_
                    refine m_iast hx hb hK hH hS (n := 96) (bm hM 4) (fun _ _ => rfl) (4 * pn + (stN σ pn)) (rfl) (by omega) (by decide) dX7_stage_117 (fun H locs hH hS => ?_)
                    refine lv_aload_n hx hb dX7_stage_118 rfl (lv_at hl 1 rfl) ?_
                    refine gf_X7_16 hx hb hown hK hH (bm hM 0) dX7_stage_119 ?_
                    refine lv_iload hx hb dX7_stage_122 (lv_at hl 0 rfl) ?_
                    refine lv_iload_n hx hb dX7_stage_124 rfl (lv_at hl 4 rfl) ?_
                    refine m_iast hx hb hK hH hS (n := 96) (bm hM 5) (fun _ _ => rfl) (4 * pn + (stN σ pn)) (rfl) (by omega) (by decide) dX7_stage_125 (fun H locs hH hS => ?_)
                    refine lv_aload_n hx hb dX7_stage_126 rfl (lv_at hl 1 rfl) ?_
                    refine gf_X7_19 hx hb hown hK hH (bm hM 0) dX7_stage_127 ?_
                    refine lv_iload hx hb dX7_stage_130 (lv_at hl 0 rfl) ?_
                    refine lv_iload hx hb dX7_stage_132 (lv_at hl 5 rfl) ?_
                    refine m_iast hx hb hK hH hS (n := 96) (bm hM 6) (fun _ _ => rfl) (4 * pn + (stN σ pn)) (rfl) (by omega) (by decide) dX7_stage_134 (fun H locs hH hS => ?_)
                    refine lv_aload_n hx hb dX7_stage_135 rfl (lv_at hl 1 rfl) ?_
                    refine gf_X7_7 hx hb hown hK hH (bm hM 0) dX7_stage_136 ?_
                    refine lv_iload_n hx hb dX7_stage_139 rfl (lv_at hl 2 rfl) ?_
                    refine lv_dup2_11 hx hb dX7_stage_140 rfl rfl ?_
                    refine m_iald hx hb hK hH (n := 24) (bm hM 3) (fun _ _ => rfl) (pn) (rfl) (by omega) (by decide) dX7_stage_141 ?_
                    refine m_toi (stN σ pn) (by simp only [sI_at]; simp; exact hP.1) ?_
                    refine lv_iconst (v := nI 1) hx hb dX7_stage_142 (by decide) ?_
                    refine m_iaddN hx hb dX7_stage_143 ?_
                    refine m_iast hx hb hK hH hS (n := 24) (bm hM 3) (fun _ _ => rfl) (pn) (rfl) (by omega) (by decide) dX7_stage_144 (fun H locs hH hS => ?_)
                    refine lv_aload_n hx hb dX7_stage_145 rfl (lv_at hl 1 rfl) ?_
                    refine gf_X7_7 hx hb hown hK hH (bm hM 0) dX7_stage_146 ?_
                    refine lv_iload_n hx hb dX7_stage_149 rfl (lv_at hl 2 rfl) ?_
                    refine m_iald hx hb hK hH (n := 24) (bm hM 3) (fun _ _ => rfl) (pn) (rfl) (by omega) (by decide) dX7_stage_150 ?_
                    refine m_toi (stN σ pn + 1) (by rw [sI_at, if_pos ⟨rfl, rfl, rfl⟩]) ?_
                    exact m_iret hx hb hr hlk hH hS dX7_stage_151 (by rw [hyes]; exact ⟨pn, rfl, rfl, rfl⟩)
                  · have hno : stOK σ (nI pn) sz a r = false := by
                      rw [stOK_nI hpn h24]; refine decide_eq_false (fun hh => ?_); obtain ⟨-, -, -, h5, h6, h7, h8, h9⟩ := hh
                      first
                        | (have := inR_f c_57; rw [n1I, n60I] at this; omega)
                        | (have := inR_f c_67; rw [im1, n60I] at this; omega)
                        | (rw [i_le] at c_73; omega)
                        | (rw [i_lt, n61I] at c_80; omega)
                        | (have h10 := inR_t c_57; rw [n1I, n60I] at h10; have e9 : (nI (tot σ pn (stN σ pn)) + sz).toInt = (tot σ pn (stN σ pn) : Int) + sz.toInt := (by rw [i_add (by rw [et]; omega) (by rw [et]; omega), et]); rw [i_le, e9, n60I] at c_92; omega)
                    refine lv_bipush (v := (-2)) hx hb dX7_stage_95 (by decide) ?_
                    exact m_iret hx hb hr hlk hH hS dX7_stage_97 (by rw [hno]; exact ⟨rfl, rfl⟩)
        · refine lv_iload hx hb dX7_stage_36 (lv_at hl 4 rfl) ?_
          refine lv_i2l hx hb dX7_stage_38 rfl ?_
          refine lv_iload_n hx hb dX7_stage_39 rfl (lv_at hl 3 rfl) ?_
          refine lv_i2l hx hb dX7_stage_40 rfl ?_
          refine lv_lconst (v := lN 1) hx hb dX7_stage_41 rfl ?_
          refine lv_ladd hx hb dX7_stage_42 ?_
          refine m_lc_eq (tgt := 50) hx hb dX7_stage_43 dX7_stage_44 (by decide) (fun c_43 => ?_) (fun c_43 => ?_)
          · have h33 : stN σ pn = 3 → r.toInt = a.toInt + 1 := by
              first
                | exact fun _ => l_eq64.mp c_43
                | exact fun q => absurd q c_33
            refine lv_iload_n hx hb dX7_stage_50 rfl (lv_at hl 2 rfl) ?_
            refine lv_iconst (v := nI 1) hx hb dX7_stage_51 (by decide) ?_
            refine lv_bipush (v := nI 60) hx hb dX7_stage_52 (by decide) ?_
            refine m_ki (m_runS ⟨hx, hb, hml, hown, hz⟩ hK hH hS (c_X7_in l G B σ sz (nI 1) (nI 60)) mw_X7_in wl_X7_95 ⟨rfl, rfl⟩ ⟨by decide, by decide⟩ rfl hl.1 rfl (Nat.le_of_ble_eq_true rfl) dX7_stage_54 ⟨Nat.zero_le _, Nat.zero_le _⟩) hS (fun r_54 σ_54 H locs hp hH hS => ?_)
            obtain ⟨hr1, hs1⟩ := hp
            subst hr1
            rw [hs1] at hH
            refine m_ifeqB (tgt := 95) hx hb dX7_stage_57 (by decide) (fun c_57 => ?_) (fun c_57 => ?_)
            · have hno : stOK σ (nI pn) sz a r = false := by
                rw [stOK_nI hpn h24]; refine decide_eq_false (fun hh => ?_); obtain ⟨-, -, -, h5, h6, h7, h8, h9⟩ := hh
                first
                  | (have := inR_f c_57; rw [n1I, n60I] at this; omega)
                  | (have := inR_f c_67; rw [im1, n60I] at this; omega)
                  | (rw [i_le] at c_73; omega)
                  | (rw [i_lt, n61I] at c_80; omega)
                  | (have h10 := inR_t c_57; rw [n1I, n60I] at h10; have e9 : (nI (tot σ pn (stN σ pn)) + sz).toInt = (tot σ pn (stN σ pn) : Int) + sz.toInt := (by rw [i_add (by rw [et]; omega) (by rw [et]; omega), et]); rw [i_le, e9, n60I] at c_92; omega)
              refine lv_bipush (v := (-2)) hx hb dX7_stage_95 (by decide) ?_
              exact m_iret hx hb hr hlk hH hS dX7_stage_97 (by rw [hno]; exact ⟨rfl, rfl⟩)
            · refine lv_iload_n hx hb dX7_stage_60 rfl (lv_at hl 3 rfl) ?_
              refine lv_iconst (v := (-1)) hx hb dX7_stage_61 (by decide) ?_
              refine lv_bipush (v := nI 60) hx hb dX7_stage_62 (by decide) ?_
              refine m_ki (m_runS ⟨hx, hb, hml, hown, hz⟩ hK hH hS (c_X7_in l G B σ a (-1) (nI 60)) mw_X7_in wl_X7_95 ⟨rfl, rfl⟩ ⟨by decide, by decide⟩ rfl hl.1 rfl (Nat.le_of_ble_eq_true rfl) dX7_stage_64 ⟨Nat.zero_le _, Nat.zero_le _⟩) hS (fun r_64 σ_64 H locs hp hH hS => ?_)
              obtain ⟨hr1, hs1⟩ := hp
              subst hr1
              rw [hs1] at hH
              refine m_ifeqB (tgt := 95) hx hb dX7_stage_67 (by decide) (fun c_67 => ?_) (fun c_67 => ?_)
              · have hno : stOK σ (nI pn) sz a r = false := by
                  rw [stOK_nI hpn h24]; refine decide_eq_false (fun hh => ?_); obtain ⟨-, -, -, h5, h6, h7, h8, h9⟩ := hh
                  first
                    | (have := inR_f c_57; rw [n1I, n60I] at this; omega)
                    | (have := inR_f c_67; rw [im1, n60I] at this; omega)
                    | (rw [i_le] at c_73; omega)
                    | (rw [i_lt, n61I] at c_80; omega)
                    | (have h10 := inR_t c_57; rw [n1I, n60I] at h10; have e9 : (nI (tot σ pn (stN σ pn)) + sz).toInt = (tot σ pn (stN σ pn) : Int) + sz.toInt := (by rw [i_add (by rw [et]; omega) (by rw [et]; omega), et]); rw [i_le, e9, n60I] at c_92; omega)
                refine lv_bipush (v := (-2)) hx hb dX7_stage_95 (by decide) ?_
                exact m_iret hx hb hr hlk hH hS dX7_stage_97 (by rw [hno]; exact ⟨rfl, rfl⟩)
              · refine lv_iload hx hb dX7_stage_70 (lv_at hl 4 rfl) ?_
                refine lv_iload_n hx hb dX7_stage_72 rfl (lv_at hl 3 rfl) ?_
                refine lv_icmp_le (tgt := 95) hx hb dX7_stage_73 (by decide) (fun c_73 => ?_) (fun c_73 => ?_)
                · have hno : stOK σ (nI pn) sz a r = false := by
                    rw [stOK_nI hpn h24]; refine decide_eq_false (fun hh => ?_); obtain ⟨-, -, -, h5, h6, h7, h8, h9⟩ := hh
                    first
                      | (have := inR_f c_57; rw [n1I, n60I] at this; omega)
                      | (have := inR_f c_67; rw [im1, n60I] at this; omega)
                      | (rw [i_le] at c_73; omega)
                      | (rw [i_lt, n61I] at c_80; omega)
                      | (have h10 := inR_t c_57; rw [n1I, n60I] at h10; have e9 : (nI (tot σ pn (stN σ pn)) + sz).toInt = (tot σ pn (stN σ pn) : Int) + sz.toInt := (by rw [i_add (by rw [et]; omega) (by rw [et]; omega), et]); rw [i_le, e9, n60I] at c_92; omega)
                  refine lv_bipush (v := (-2)) hx hb dX7_stage_95 (by decide) ?_
                  exact m_iret hx hb hr hlk hH hS dX7_stage_97 (by rw [hno]; exact ⟨rfl, rfl⟩)
                · refine lv_iload hx hb dX7_stage_76 (lv_at hl 4 rfl) ?_
                  refine lv_bipush (v := nI 61) hx hb dX7_stage_78 (by decide) ?_
                  refine lv_icmp_gt (tgt := 95) hx hb dX7_stage_80 (by decide) (fun c_80 => ?_) (fun c_80 => ?_)
                  · have hno : stOK σ (nI pn) sz a r = false := by
                      rw [stOK_nI hpn h24]; refine decide_eq_false (fun hh => ?_); obtain ⟨-, -, -, h5, h6, h7, h8, h9⟩ := hh
                      first
                        | (have := inR_f c_57; rw [n1I, n60I] at this; omega)
                        | (have := inR_f c_67; rw [im1, n60I] at this; omega)
                        | (rw [i_le] at c_73; omega)
                        | (rw [i_lt, n61I] at c_80; omega)
                        | (have h10 := inR_t c_57; rw [n1I, n60I] at h10; have e9 : (nI (tot σ pn (stN σ pn)) + sz).toInt = (tot σ pn (stN σ pn) : Int) + sz.toInt := (by rw [i_add (by rw [et]; omega) (by rw [et]; omega), et]); rw [i_le, e9, n60I] at c_92; omega)
                    refine lv_bipush (v := (-2)) hx hb dX7_stage_95 (by decide) ?_
                    exact m_iret hx hb hr hlk hH hS dX7_stage_97 (by rw [hno]; exact ⟨rfl, rfl⟩)
                  · refine lv_aload_n hx hb dX7_stage_83 rfl (lv_at hl 0 rfl) ?_
                    refine lv_iload_n hx hb dX7_stage_84 rfl (lv_at hl 1 rfl) ?_
                    refine m_ki (m_runV (k := 0) (i := 0) (ci := 7) ⟨hx, hb, hml, hown, hz⟩ hK hH hS (bm hM 0) rfl rfl (c_X7_all l G B σ hM pn (by omega) hP) mw_X7_all wl_X7_110 ⟨rfl, rfl⟩ ⟨by decide, by decide⟩ rfl hl.1 rfl (Nat.le_of_ble_eq_true rfl) dX7_stage_85 ⟨Nat.zero_le _, Nat.zero_le _⟩) hS (fun r_85 σ_85 H locs hp hH hS => ?_)
                    obtain ⟨hr1, hs1⟩ := hp
                    subst hr1
                    rw [hs1] at hH
                    refine lv_iload_n hx hb dX7_stage_88 rfl (lv_at hl 2 rfl) ?_
                    refine lv_iadd hx hb dX7_stage_89 ?_
                    refine lv_bipush (v := nI 60) hx hb dX7_stage_90 (by decide) ?_
                    refine lv_icmp_le (tgt := 98) hx hb dX7_stage_92 (by decide) (fun c_92 => ?_) (fun c_92 => ?_)
                    · have hyes : stOK σ (nI pn) sz a r = true := by
                        rw [stOK_nI hpn h24]
                        have h10 := inR_t c_57; rw [n1I, n60I] at h10
                        have h11 := inR_t c_67; rw [im1, n60I] at h11
                        rw [i_le] at c_73
                        rw [i_lt, n61I] at c_80
                        have e9 : (nI (tot σ pn (stN σ pn)) + sz).toInt = (tot σ pn (stN σ pn) : Int) + sz.toInt := (by rw [i_add (by rw [et]; omega) (by rw [et]; omega), et])
                        rw [i_le, e9, n60I] at c_92
                        exact decide_eq_true ⟨c_13, c_23, h33, h10, h11, by omega, by omega, by omega⟩
                      have hs3 : stN σ pn < 4 := by omega
                      refine lv_iconst (v := nI 4) hx hb dX7_stage_98 (by decide) ?_
                      refine lv_iload_n hx hb dX7_stage_99 rfl (lv_at hl 1 rfl) ?_
                      refine m_imulN hx hb dX7_stage_100 ?_
                      refine lv_aload_n hx hb dX7_stage_101 rfl (lv_at hl 0 rfl) ?_
                      refine gf_X7_7 hx hb hown hK hH (bm hM 0) dX7_stage_102 ?_
                      refine lv_iload_n hx hb dX7_stage_105 rfl (lv_at hl 1 rfl) ?_
                      refine m_iald hx hb hK hH (n := 24) (bm hM 3) (fun _ _ => rfl) (pn) (rfl) (by omega) (by decide) dX7_stage_106 ?_
                      refine m_toi (stN σ pn) (hP.1) ?_
                      refine m_iaddN hx hb dX7_stage_107 ?_
                      refine lv_istore (lv' := [(5, .int (nI (4 * pn + (stN σ pn)))), (0, .ref (B.1 0 0)), (1, .int (nI pn)), (2, .int (sz)), (3, .int (a)), (4, .int (r))]) hx hb dX7_stage_108 hl (by decide) rfl (fun ls hl => ?_)
                      refine lv_aload_n hx hb dX7_stage_110 rfl (lv_at hl 1 rfl) ?_
                      refine gf_X7_13 hx hb hown hK hH (bm hM 0) dX7_stage_111 ?_
                      refine lv_iload hx hb dX7_stage_114 (lv_at hl 0 rfl) ?_
                      refine lv_iload_n hx hb dX7_stage_116 rfl (lv_at hl 3 rfl) ?_
                      refine m_iast hx hb hK hH hS (n := 96) (bm hM 4) (fun _ _ => rfl) (4 * pn + (stN σ pn)) (rfl) (by omega) (by decide) dX7_stage_117 (fun H locs hH hS => ?_)
                      refine lv_aload_n hx hb dX7_stage_118 rfl (lv_at hl 1 rfl) ?_
                      refine gf_X7_16 hx hb hown hK hH (bm hM 0) dX7_stage_119 ?_
                      refine lv_iload hx hb dX7_stage_122 (lv_at hl 0 rfl) ?_
                      refine lv_iload_n hx hb dX7_stage_124 rfl (lv_at hl 4 rfl) ?_
                      refine m_iast hx hb hK hH hS (n := 96) (bm hM 5) (fun _ _ => rfl) (4 * pn + (stN σ pn)) (rfl) (by omega) (by decide) dX7_stage_125 (fun H locs hH hS => ?_)
                      refine lv_aload_n hx hb dX7_stage_126 rfl (lv_at hl 1 rfl) ?_
                      refine gf_X7_19 hx hb hown hK hH (bm hM 0) dX7_stage_127 ?_
                      refine lv_iload hx hb dX7_stage_130 (lv_at hl 0 rfl) ?_
                      refine lv_iload hx hb dX7_stage_132 (lv_at hl 5 rfl) ?_
                      refine m_iast hx hb hK hH hS (n := 96) (bm hM 6) (fun _ _ => rfl) (4 * pn + (stN σ pn)) (rfl) (by omega) (by decide) dX7_stage_134 (fun H locs hH hS => ?_)
                      refine lv_aload_n hx hb dX7_stage_135 rfl (lv_at hl 1 rfl) ?_
                      refine gf_X7_7 hx hb hown hK hH (bm hM 0) dX7_stage_136 ?_
                      refine lv_iload_n hx hb dX7_stage_139 rfl (lv_at hl 2 rfl) ?_
                      refine lv_dup2_11 hx hb dX7_stage_140 rfl rfl ?_
                      refine m_iald hx hb hK hH (n := 24) (bm hM 3) (fun _ _ => rfl) (pn) (rfl) (by omega) (by decide) dX7_stage_141 ?_
                      refine m_toi (stN σ pn) (by simp only [sI_at]; simp; exact hP.1) ?_
                      refine lv_iconst (v := nI 1) hx hb dX7_stage_142 (by decide) ?_
                      refine m_iaddN hx hb dX7_stage_143 ?_
                      refine m_iast hx hb hK hH hS (n := 24) (bm hM 3) (fun _ _ => rfl) (pn) (rfl) (by omega) (by decide) dX7_stage_144 (fun H locs hH hS => ?_)
                      refine lv_aload_n hx hb dX7_stage_145 rfl (lv_at hl 1 rfl) ?_
                      refine gf_X7_7 hx hb hown hK hH (bm hM 0) dX7_stage_146 ?_
                      refine lv_iload_n hx hb dX7_stage_149 rfl (lv_at hl 2 rfl) ?_
                      refine m_iald hx hb hK hH (n := 24) (bm hM 3) (fun _ _ => rfl) (pn) (rfl) (by omega) (by decide) dX7_stage_150 ?_
                      refine m_toi (stN σ pn + 1) (by rw [sI_at, if_pos ⟨rfl, rfl, rfl⟩]) ?_
                      exact m_iret hx hb hr hlk hH hS dX7_stage_151 (by rw [hyes]; exact ⟨pn, rfl, rfl, rfl⟩)
                    · have hno : stOK σ (nI pn) sz a r = false := by
                        rw [stOK_nI hpn h24]; refine decide_eq_false (fun hh => ?_); obtain ⟨-, -, -, h5, h6, h7, h8, h9⟩ := hh
                        first
                          | (have := inR_f c_57; rw [n1I, n60I] at this; omega)
                          | (have := inR_f c_67; rw [im1, n60I] at this; omega)
                          | (rw [i_le] at c_73; omega)
                          | (rw [i_lt, n61I] at c_80; omega)
                          | (have h10 := inR_t c_57; rw [n1I, n60I] at h10; have e9 : (nI (tot σ pn (stN σ pn)) + sz).toInt = (tot σ pn (stN σ pn) : Int) + sz.toInt := (by rw [i_add (by rw [et]; omega) (by rw [et]; omega), et]); rw [i_le, e9, n60I] at c_92; omega)
                      refine lv_bipush (v := (-2)) hx hb dX7_stage_95 (by decide) ?_
                      exact m_iret hx hb hr hlk hH hS dX7_stage_97 (by rw [hno]; exact ⟨rfl, rfl⟩)
          · have hno : stOK σ (nI pn) sz a r = false := by
              first
                | (unfold stOK; rw [c_5]; rfl)
                | (rw [stOK_nI hpn h24]; exact decide_eq_false (fun hh => by rw [c_13] at hh; exact absurd hh.1 (by decide)))
                | (rw [stOK_nI hpn h24]; exact decide_eq_false (fun hh => hh.2.1 c_23))
                | (rw [stOK_nI hpn h24]; exact decide_eq_false (fun hh => c_43 (l_eq64.mpr (hh.2.2.1 c_33))))
            refine lv_bipush (v := (-2)) hx hb dX7_stage_47 (by decide) ?_
            exact m_iret hx hb hr hlk hH hS dX7_stage_49 (by rw [hno]; exact ⟨rfl, rfl⟩)
set_option maxHeartbeats 4000000 in
set_option maxRecDepth 100000 in
theorem c_X7_up (l : Launch) (G : gG) (B : gB) (σ : gS) (hM : BkM B) : Met l yX7_up [.code yX7_up cX7_up 1 (some .long)] ({ frames := 0, cells := 0, slots := 0, locals := 0 } : Room) (mPc G B σ [.ref (B.1 0 0)]) (mQl G B (fun v σ' => v = σ.2 0 0 7 ∧ σ' = σ)) 0 0 (mA G) := by
  refine m_start (by decide) (Nat.le_of_ble_eq_true rfl) ?_
  intro p e s m below meth c ⟨hx, hb, hr, hml, hown, hK, hlk, hz⟩ hH hS ls hl
  have hl : lv_has ls 1 [(0, .ref (B.1 0 0))] := hl
  refine lv_aload_n hx hb dX7_up_0 rfl (lv_at hl 0 rfl) ?_
  refine gf_X7_139 hx hb hown hK hH (bm hM 0) dX7_up_1 ?_
  exact m_lret hx hb hr hlk hH hS dX7_up_4 (⟨rfl, rfl⟩)
set_option maxHeartbeats 4000000 in
set_option maxRecDepth 100000 in
theorem c_X7_down (l : Launch) (G : gG) (B : gB) (σ : gS) (hM : BkM B) : Met l yX7_down [.code yX7_down cX7_down 1 (some .long)] ({ frames := 0, cells := 0, slots := 0, locals := 0 } : Room) (mPc G B σ [.ref (B.1 0 0)]) (mQl G B (fun v σ' => v = σ.2 0 0 8 ∧ σ' = σ)) 0 0 (mA G) := by
  refine m_start (by decide) (Nat.le_of_ble_eq_true rfl) ?_
  intro p e s m below meth c ⟨hx, hb, hr, hml, hown, hK, hlk, hz⟩ hH hS ls hl
  have hl : lv_has ls 1 [(0, .ref (B.1 0 0))] := hl
  refine lv_aload_n hx hb dX7_down_0 rfl (lv_at hl 0 rfl) ?_
  refine gf_X7_22 hx hb hown hK hH (bm hM 0) dX7_down_1 ?_
  exact m_lret hx hb hr hlk hH hS dX7_down_4 (⟨rfl, rfl⟩)
end
section
def isRk (σ : gS) (r : Nat) : Bool := decide (σ.1 13 0 r = 1)
def rAt (σ : gS) (r : Nat) : Nat := (σ.1 10 0 r).toNatClampNeg
def rUp (σ : gS) (r : Nat) : Nat := (σ.1 11 0 r).toNatClampNeg
def rDn (σ : gS) (r : Nat) : Nat := (σ.1 12 0 r).toNatClampNeg
def WfR (σ : gS) : Prop := ∀ r, r < 2 → σ.1 13 0 r = bI (isRk σ r) ∧ (isRk σ r = true → σ.1 10 0 r = nI (rAt σ r) ∧ rAt σ r ≤ 60 ∧ σ.1 11 0 r = nI (rUp σ r) ∧ σ.1 12 0 r = nI (rDn σ r) ∧ 1 ≤ rDn σ r ∧ rDn σ r ≤ 1000 ∧ rUp σ r ≤ rDn σ r)
def rkN (σ : gS) : Nat := (if isRk σ 0 then 1 else 0) + (if isRk σ 1 then 1 else 0)
theorem n1000I : (nI 1000).toInt = 1000 := rfl
def ofA (σ : gS) (x k w : Int32) : Int32 := if isPl σ x = true ∧ 0 ≤ k.toInt ∧ k.toInt < (stN σ x.toNatClampNeg : Int) then (if w = 0 then σ.1 4 0 (4 * x.toNatClampNeg + k.toNatClampNeg) else if w = nI 1 then σ.1 5 0 (4 * x.toNatClampNeg + k.toNatClampNeg) else if w = nI 2 then σ.1 6 0 (4 * x.toNatClampNeg + k.toNatClampNeg) else -2) else -2
theorem ofA_no {σ : gS} {x k w : Int32} (h : ¬ (isPl σ x = true ∧ 0 ≤ k.toInt ∧ k.toInt < (stN σ x.toNatClampNeg : Int))) : ofA σ x k w = -2 := if_neg h
theorem ofA_yes {σ : gS} {p q : Nat} {w : Int32} (hp : p < nP σ) (h24 : nP σ ≤ 24) (h4 : stN σ p ≤ 4) (hq : q < stN σ p) : ofA σ (nI p) (nI q) w = if w = 0 then σ.1 4 0 (4 * p + q) else if w = nI 1 then σ.1 5 0 (4 * p + q) else if w = nI 2 then σ.1 6 0 (4 * p + q) else -2 := by
  unfold ofA
  rw [nI_clamp (by omega), nI_clamp (by omega), isPl_nI hp h24, nI_I (by omega), if_pos ⟨rfl, by omega, by omega⟩]
theorem st_in {σ : gS} {p : Nat} {k : Int32} (h4 : stN σ p ≤ 4) : inR k (nI 0) (nI (stN σ p) - nI 1) = decide (0 ≤ k.toInt ∧ k.toInt < (stN σ p : Int)) := by
  unfold inR
  have e := nI_I (n := stN σ p) (by omega)
  rw [i_sub (by rw [e, n1I]; omega) (by rw [e, n1I]; omega), e, n1I, n0I]
  by_cases q : 0 ≤ k.toInt ∧ k.toInt < (stN σ p : Int)
  · rw [decide_eq_true q, decide_eq_true (by omega)]
  · rw [decide_eq_false q, decide_eq_false (by omega)]
set_option maxHeartbeats 4000000 in
set_option maxRecDepth 100000 in
theorem c_X7_of (l : Launch) (G : gG) (B : gB) (σ : gS) (hM : BkM B) (hW : WfP σ) (x k w : Int32) : Met l yX7_of [.code yX7_of cX7_of 4 (some .int)] ({ frames := 2, cells := 0, slots := 0, locals := 43 } : Room) (mPc G B σ [.ref (B.1 0 0), .int (x), .int (k), .int (w)]) (mQi G B (fun v σ' => v = ofA σ x k w ∧ σ' = σ)) 0 0 (mA G) := by
  refine m_start (by decide) (Nat.le_of_ble_eq_true rfl) ?_
  intro p e s m below meth c ⟨hx, hb, hr, hml, hown, hK, hlk, hz⟩ hH hS ls hl
  have hl : lv_has ls 4 [(0, .ref (B.1 0 0)), (1, .int (x)), (2, .int (k)), (3, .int (w))] := hl
  refine lv_aload_n hx hb dX7_of_0 rfl (lv_at hl 0 rfl) ?_
  refine lv_iload_n hx hb dX7_of_1 rfl (lv_at hl 1 rfl) ?_
  refine m_ki (m_runV (k := 0) (i := 0) (ci := 7) ⟨hx, hb, hml, hown, hz⟩ hK hH hS (bm hM 0) rfl rfl (c_X7_isPlan l G B σ hM hW x) mw_X7_isPlan wl_X7_99 ⟨rfl, rfl⟩ ⟨by decide, by decide⟩ rfl hl.1 rfl (Nat.le_of_ble_eq_true rfl) dX7_of_2 ⟨Nat.zero_le _, Nat.zero_le _⟩) hS (fun r_2 σ_2 H locs hp hH hS => ?_)
  obtain ⟨hr1, hs1⟩ := hp
  subst hr1
  rw [hs1] at hH
  refine m_ifeqB (tgt := 24) hx hb dX7_of_5 (by decide) (fun c_5 => ?_) (fun c_5 => ?_)
  · refine lv_bipush (v := (-2)) hx hb dX7_of_24 (by decide) ?_
    exact m_iret hx hb hr hlk hH hS dX7_of_26 (by first | exact ⟨(ofA_no (fun h => by rw [c_5] at h; exact absurd h.1 (by decide))).symm, rfl⟩ | exact ⟨(ofA_no (fun h => of_decide_eq_false c_21 (by rw [nI_clamp (by omega)] at h; exact h.2))).symm, rfl⟩)
  · obtain ⟨pn, hpn, rfl⟩ := isPl_t c_5
    have h24 := hW.2.1
    have hP := hW.2.2 pn hpn
    have hs4 := hP.2.1
    refine lv_iload_n hx hb dX7_of_8 rfl (lv_at hl 2 rfl) ?_
    refine lv_iconst (v := nI 0) hx hb dX7_of_9 (by decide) ?_
    refine lv_aload_n hx hb dX7_of_10 rfl (lv_at hl 0 rfl) ?_
    refine gf_X7_7 hx hb hown hK hH (bm hM 0) dX7_of_11 ?_
    refine lv_iload_n hx hb dX7_of_14 rfl (lv_at hl 1 rfl) ?_
    refine m_iald hx hb hK hH (n := 24) (bm hM 3) (fun _ _ => rfl) (pn) (rfl) (by omega) (by decide) dX7_of_15 ?_
    refine m_toi (stN σ pn) (hP.1) ?_
    refine lv_iconst (v := nI 1) hx hb dX7_of_16 (by decide) ?_
    refine lv_isub hx hb dX7_of_17 ?_
    refine m_ki (m_runS ⟨hx, hb, hml, hown, hz⟩ hK hH hS (c_X7_in l G B σ k (nI 0) (nI (stN σ pn) - nI 1)) mw_X7_in wl_X7_95 ⟨rfl, rfl⟩ ⟨by decide, by decide⟩ rfl hl.1 rfl (Nat.le_of_ble_eq_true rfl) dX7_of_18 ⟨Nat.zero_le _, Nat.zero_le _⟩) hS (fun r_18 σ_18 H locs hp hH hS => ?_)
    obtain ⟨hr1, hs1⟩ := hp
    rw [hs1] at hH
    rw [st_in hs4] at hr1
    subst hr1
    refine m_ifneB (tgt := 27) hx hb dX7_of_21 (by decide) (fun c_21 => ?_) (fun c_21 => ?_)
    · have c9 := of_decide_eq_true c_21
      obtain ⟨k1, k2⟩ := i_nat c9.1
      obtain ⟨q, hq⟩ : ∃ q : Nat, q = k.toInt.toNat := ⟨_, rfl⟩
      rw [← hq] at k1 k2
      have hqn : q < stN σ pn := by omega
      clear c_21 c9 hq k2
      subst k1
      refine lv_iload_n hx hb dX7_of_27 rfl (lv_at hl 3 rfl) ?_
      refine lv_if_ne (tgt := 44) hx hb dX7_of_28 (by decide) (fun c_28 => ?_) (fun c_28 => ?_)
      · refine lv_iload_n hx hb dX7_of_44 rfl (lv_at hl 3 rfl) ?_
        refine lv_iconst (v := nI 1) hx hb dX7_of_45 (by decide) ?_
        refine lv_icmp_ne (tgt := 62) hx hb dX7_of_46 (by decide) (fun c_46 => ?_) (fun c_46 => ?_)
        · refine lv_iload_n hx hb dX7_of_62 rfl (lv_at hl 3 rfl) ?_
          refine lv_iconst (v := nI 2) hx hb dX7_of_63 (by decide) ?_
          refine lv_icmp_ne (tgt := 80) hx hb dX7_of_64 (by decide) (fun c_64 => ?_) (fun c_64 => ?_)
          · refine lv_bipush (v := (-2)) hx hb dX7_of_80 (by decide) ?_
            exact m_iret hx hb hr hlk hH hS dX7_of_82 (⟨by rw [ofA_yes hpn h24 hs4 hqn]; first | rw [if_pos c_28] | rw [if_neg c_28, if_pos c_46] | rw [if_neg c_28, if_neg c_46, if_pos c_64] | rw [if_neg c_28, if_neg c_46, if_neg c_64], rfl⟩)
          · refine lv_aload_n hx hb dX7_of_67 rfl (lv_at hl 0 rfl) ?_
            refine gf_X7_19 hx hb hown hK hH (bm hM 0) dX7_of_68 ?_
            refine lv_iconst (v := nI 4) hx hb dX7_of_71 (by decide) ?_
            refine lv_iload_n hx hb dX7_of_72 rfl (lv_at hl 1 rfl) ?_
            refine m_imulN hx hb dX7_of_73 ?_
            refine lv_iload_n hx hb dX7_of_74 rfl (lv_at hl 2 rfl) ?_
            refine m_iaddN hx hb dX7_of_75 ?_
            refine m_iald hx hb hK hH (n := 96) (bm hM 6) (fun _ _ => rfl) (4 * pn + q) (rfl) (by omega) (by decide) dX7_of_76 ?_
            refine lv_goto (tgt := 82) hx hb dX7_of_77 (by decide) ?_
            exact m_iret hx hb hr hlk hH hS dX7_of_82 (⟨by rw [ofA_yes hpn h24 hs4 hqn]; first | rw [if_pos c_28] | rw [if_neg c_28, if_pos c_46] | rw [if_neg c_28, if_neg c_46, if_pos c_64] | rw [if_neg c_28, if_neg c_46, if_neg c_64], rfl⟩)
        · refine lv_aload_n hx hb dX7_of_49 rfl (lv_at hl 0 rfl) ?_
          refine gf_X7_16 hx hb hown hK hH (bm hM 0) dX7_of_50 ?_
          refine lv_iconst (v := nI 4) hx hb dX7_of_53 (by decide) ?_
          refine lv_iload_n hx hb dX7_of_54 rfl (lv_at hl 1 rfl) ?_
          refine m_imulN hx hb dX7_of_55 ?_
          refine lv_iload_n hx hb dX7_of_56 rfl (lv_at hl 2 rfl) ?_
          refine m_iaddN hx hb dX7_of_57 ?_
          refine m_iald hx hb hK hH (n := 96) (bm hM 5) (fun _ _ => rfl) (4 * pn + q) (rfl) (by omega) (by decide) dX7_of_58 ?_
          refine lv_goto (tgt := 82) hx hb dX7_of_59 (by decide) ?_
          exact m_iret hx hb hr hlk hH hS dX7_of_82 (⟨by rw [ofA_yes hpn h24 hs4 hqn]; first | rw [if_pos c_28] | rw [if_neg c_28, if_pos c_46] | rw [if_neg c_28, if_neg c_46, if_pos c_64] | rw [if_neg c_28, if_neg c_46, if_neg c_64], rfl⟩)
      · refine lv_aload_n hx hb dX7_of_31 rfl (lv_at hl 0 rfl) ?_
        refine gf_X7_13 hx hb hown hK hH (bm hM 0) dX7_of_32 ?_
        refine lv_iconst (v := nI 4) hx hb dX7_of_35 (by decide) ?_
        refine lv_iload_n hx hb dX7_of_36 rfl (lv_at hl 1 rfl) ?_
        refine m_imulN hx hb dX7_of_37 ?_
        refine lv_iload_n hx hb dX7_of_38 rfl (lv_at hl 2 rfl) ?_
        refine m_iaddN hx hb dX7_of_39 ?_
        refine m_iald hx hb hK hH (n := 96) (bm hM 4) (fun _ _ => rfl) (4 * pn + q) (rfl) (by omega) (by decide) dX7_of_40 ?_
        refine lv_goto (tgt := 82) hx hb dX7_of_41 (by decide) ?_
        exact m_iret hx hb hr hlk hH hS dX7_of_82 (⟨by rw [ofA_yes hpn h24 hs4 hqn]; first | rw [if_pos c_28] | rw [if_neg c_28, if_pos c_46] | rw [if_neg c_28, if_neg c_46, if_pos c_64] | rw [if_neg c_28, if_neg c_46, if_neg c_64], rfl⟩)
    · refine lv_bipush (v := (-2)) hx hb dX7_of_24 (by decide) ?_
      exact m_iret hx hb hr hlk hH hS dX7_of_26 (by first | exact ⟨(ofA_no (fun h => by rw [c_5] at h; exact absurd h.1 (by decide))).symm, rfl⟩ | exact ⟨(ofA_no (fun h => of_decide_eq_false c_21 (by rw [nI_clamp (by omega)] at h; exact h.2))).symm, rfl⟩)
def rkOK (t d u n : Int32) : Bool := decide ((0 ≤ t.toInt ∧ t.toInt ≤ 1) ∧ (0 ≤ d.toInt ∧ d.toInt ≤ 60) ∧ (1 ≤ n.toInt ∧ n.toInt ≤ 1000) ∧ (0 ≤ u.toInt ∧ u.toInt ≤ n.toInt))
def rkUp (σ : gS) (t : Nat) (d u n : Int32) : gS := sI (sI (sI (sI σ 13 0 t (nI 1)) 10 0 t d) 11 0 t u) 12 0 t n
set_option maxHeartbeats 4000000 in
set_option maxRecDepth 100000 in
theorem c_X7_risk (l : Launch) (G : gG) (B : gB) (σ : gS) (hM : BkM B) (t d u dn : Int32) : Met l yX7_risk [.code yX7_risk cX7_risk 5 (some .int)] ({ frames := 1, cells := 0, slots := 0, locals := 22 } : Room) (mPc G B σ [.ref (B.1 0 0), .int (t), .int (d), .int (u), .int (dn)]) (mQi G B (fun v σ' => if rkOK t d u dn = true then ∃ q : Nat, q < 2 ∧ t = nI q ∧ v = 1 ∧ σ' = rkUp σ q d u dn else v = -2 ∧ σ' = σ)) 0 0 (mA G) := by
  refine m_start (by decide) (Nat.le_of_ble_eq_true rfl) ?_
  intro p e s m below meth c ⟨hx, hb, hr, hml, hown, hK, hlk, hz⟩ hH hS ls hl
  have hl : lv_has ls 5 [(0, .ref (B.1 0 0)), (1, .int (t)), (2, .int (d)), (3, .int (u)), (4, .int (dn))] := hl
  refine lv_iload_n hx hb dX7_risk_0 rfl (lv_at hl 1 rfl) ?_
  refine lv_iconst (v := nI 0) hx hb dX7_risk_1 (by decide) ?_
  refine lv_iconst (v := nI 1) hx hb dX7_risk_2 (by decide) ?_
  refine m_ki (m_runS ⟨hx, hb, hml, hown, hz⟩ hK hH hS (c_X7_in l G B σ t (nI 0) (nI 1)) mw_X7_in wl_X7_95 ⟨rfl, rfl⟩ ⟨by decide, by decide⟩ rfl hl.1 rfl (Nat.le_of_ble_eq_true rfl) dX7_risk_3 ⟨Nat.zero_le _, Nat.zero_le _⟩) hS (fun r_3 σ_3 H locs hp hH hS => ?_)
  obtain ⟨hr1, hs1⟩ := hp
  subst hr1
  rw [hs1] at hH
  refine m_ifeqB (tgt := 41) hx hb dX7_risk_6 (by decide) (fun c_6 => ?_) (fun c_6 => ?_)
  · have hno : rkOK t d u dn = false := by
      refine decide_eq_false (fun hh => ?_)
      obtain ⟨h1, h2, h3, h4⟩ := hh
      first
        | (have := inR_f c_6; rw [n0I, n1I] at this; omega)
        | (have := inR_f c_16; rw [n0I, n60I] at this; omega)
        | (have := inR_f c_28; rw [n1I, n1000I] at this; omega)
        | (have := inR_f c_38; rw [n0I] at this; omega)
    refine lv_bipush (v := (-2)) hx hb dX7_risk_41 (by decide) ?_
    exact m_iret hx hb hr hlk hH hS dX7_risk_43 (by rw [hno]; exact ⟨rfl, rfl⟩)
  · refine lv_iload_n hx hb dX7_risk_9 rfl (lv_at hl 2 rfl) ?_
    refine lv_iconst (v := nI 0) hx hb dX7_risk_10 (by decide) ?_
    refine lv_bipush (v := nI 60) hx hb dX7_risk_11 (by decide) ?_
    refine m_ki (m_runS ⟨hx, hb, hml, hown, hz⟩ hK hH hS (c_X7_in l G B σ d (nI 0) (nI 60)) mw_X7_in wl_X7_95 ⟨rfl, rfl⟩ ⟨by decide, by decide⟩ rfl hl.1 rfl (Nat.le_of_ble_eq_true rfl) dX7_risk_13 ⟨Nat.zero_le _, Nat.zero_le _⟩) hS (fun r_13 σ_13 H locs hp hH hS => ?_)
    obtain ⟨hr1, hs1⟩ := hp
    subst hr1
    rw [hs1] at hH
    refine m_ifeqB (tgt := 41) hx hb dX7_risk_16 (by decide) (fun c_16 => ?_) (fun c_16 => ?_)
    · have hno : rkOK t d u dn = false := by
        refine decide_eq_false (fun hh => ?_)
        obtain ⟨h1, h2, h3, h4⟩ := hh
        first
          | (have := inR_f c_6; rw [n0I, n1I] at this; omega)
          | (have := inR_f c_16; rw [n0I, n60I] at this; omega)
          | (have := inR_f c_28; rw [n1I, n1000I] at this; omega)
          | (have := inR_f c_38; rw [n0I] at this; omega)
      refine lv_bipush (v := (-2)) hx hb dX7_risk_41 (by decide) ?_
      exact m_iret hx hb hr hlk hH hS dX7_risk_43 (by rw [hno]; exact ⟨rfl, rfl⟩)
    · refine lv_iload hx hb dX7_risk_19 (lv_at hl 4 rfl) ?_
      refine lv_iconst (v := nI 1) hx hb dX7_risk_21 (by decide) ?_
      refine lv_sipush (v := nI 1000) hx hb dX7_risk_22 (by decide) ?_
      refine m_ki (m_runS ⟨hx, hb, hml, hown, hz⟩ hK hH hS (c_X7_in l G B σ dn (nI 1) (nI 1000)) mw_X7_in wl_X7_95 ⟨rfl, rfl⟩ ⟨by decide, by decide⟩ rfl hl.1 rfl (Nat.le_of_ble_eq_true rfl) dX7_risk_25 ⟨Nat.zero_le _, Nat.zero_le _⟩) hS (fun r_25 σ_25 H locs hp hH hS => ?_)
      obtain ⟨hr1, hs1⟩ := hp
      subst hr1
      rw [hs1] at hH
      refine m_ifeqB (tgt := 41) hx hb dX7_risk_28 (by decide) (fun c_28 => ?_) (fun c_28 => ?_)
      · have hno : rkOK t d u dn = false := by
          refine decide_eq_false (fun hh => ?_)
          obtain ⟨h1, h2, h3, h4⟩ := hh
          first
            | (have := inR_f c_6; rw [n0I, n1I] at this; omega)
            | (have := inR_f c_16; rw [n0I, n60I] at this; omega)
            | (have := inR_f c_28; rw [n1I, n1000I] at this; omega)
            | (have := inR_f c_38; rw [n0I] at this; omega)
        refine lv_bipush (v := (-2)) hx hb dX7_risk_41 (by decide) ?_
        exact m_iret hx hb hr hlk hH hS dX7_risk_43 (by rw [hno]; exact ⟨rfl, rfl⟩)
      · refine lv_iload_n hx hb dX7_risk_31 rfl (lv_at hl 3 rfl) ?_
        refine lv_iconst (v := nI 0) hx hb dX7_risk_32 (by decide) ?_
        refine lv_iload hx hb dX7_risk_33 (lv_at hl 4 rfl) ?_
        refine m_ki (m_runS ⟨hx, hb, hml, hown, hz⟩ hK hH hS (c_X7_in l G B σ u (nI 0) dn) mw_X7_in wl_X7_95 ⟨rfl, rfl⟩ ⟨by decide, by decide⟩ rfl hl.1 rfl (Nat.le_of_ble_eq_true rfl) dX7_risk_35 ⟨Nat.zero_le _, Nat.zero_le _⟩) hS (fun r_35 σ_35 H locs hp hH hS => ?_)
        obtain ⟨hr1, hs1⟩ := hp
        subst hr1
        rw [hs1] at hH
        refine m_ifneB (tgt := 44) hx hb dX7_risk_38 (by decide) (fun c_38 => ?_) (fun c_38 => ?_)
        · have h1 := inR_t c_6; rw [n0I, n1I] at h1
          have h2 := inR_t c_16; rw [n0I, n60I] at h2
          have h3 := inR_t c_28; rw [n1I, n1000I] at h3
          have h4 := inR_t c_38; rw [n0I] at h4
          have hyes : rkOK t d u dn = true := decide_eq_true ⟨h1, h2, h3, h4⟩
          obtain ⟨k1, k2⟩ := i_nat h1.1
          obtain ⟨q, hq⟩ : ∃ q : Nat, q = t.toInt.toNat := ⟨_, rfl⟩
          rw [← hq] at k1 k2
          have hqn : q < 2 := by omega
          clear c_6 hq k2 h1
          subst k1
          refine lv_aload_n hx hb dX7_risk_44 rfl (lv_at hl 0 rfl) ?_
          refine gf_X7_39 hx hb hown hK hH (bm hM 0) dX7_risk_45 ?_
          refine lv_iload_n hx hb dX7_risk_48 rfl (lv_at hl 1 rfl) ?_
          refine lv_iconst (v := nI 1) hx hb dX7_risk_49 (by decide) ?_
          refine m_zast hx hb hK hH hS (n := 2) (bm hM 13) (fun _ _ => rfl) (q) (rfl) (by omega) (by decide) (rfl) dX7_risk_50 (fun H locs hH hS => ?_)
          refine lv_aload_n hx hb dX7_risk_51 rfl (lv_at hl 0 rfl) ?_
          refine gf_X7_30 hx hb hown hK hH (bm hM 0) dX7_risk_52 ?_
          refine lv_iload_n hx hb dX7_risk_55 rfl (lv_at hl 1 rfl) ?_
          refine lv_iload_n hx hb dX7_risk_56 rfl (lv_at hl 2 rfl) ?_
          refine m_iast hx hb hK hH hS (n := 2) (bm hM 10) (fun _ _ => rfl) (q) (rfl) (by omega) (by decide) dX7_risk_57 (fun H locs hH hS => ?_)
          refine lv_aload_n hx hb dX7_risk_58 rfl (lv_at hl 0 rfl) ?_
          refine gf_X7_33 hx hb hown hK hH (bm hM 0) dX7_risk_59 ?_
          refine lv_iload_n hx hb dX7_risk_62 rfl (lv_at hl 1 rfl) ?_
          refine lv_iload_n hx hb dX7_risk_63 rfl (lv_at hl 3 rfl) ?_
          refine m_iast hx hb hK hH hS (n := 2) (bm hM 11) (fun _ _ => rfl) (q) (rfl) (by omega) (by decide) dX7_risk_64 (fun H locs hH hS => ?_)
          refine lv_aload_n hx hb dX7_risk_65 rfl (lv_at hl 0 rfl) ?_
          refine gf_X7_36 hx hb hown hK hH (bm hM 0) dX7_risk_66 ?_
          refine lv_iload_n hx hb dX7_risk_69 rfl (lv_at hl 1 rfl) ?_
          refine lv_iload hx hb dX7_risk_70 (lv_at hl 4 rfl) ?_
          refine m_iast hx hb hK hH hS (n := 2) (bm hM 12) (fun _ _ => rfl) (q) (rfl) (by omega) (by decide) dX7_risk_72 (fun H locs hH hS => ?_)
          refine lv_iconst (v := nI 1) hx hb dX7_risk_73 (by decide) ?_
          exact m_iret hx hb hr hlk hH hS dX7_risk_74 (by rw [hyes]; exact ⟨q, hqn, rfl, rfl, rfl⟩)
        · have hno : rkOK t d u dn = false := by
            refine decide_eq_false (fun hh => ?_)
            obtain ⟨h1, h2, h3, h4⟩ := hh
            first
              | (have := inR_f c_6; rw [n0I, n1I] at this; omega)
              | (have := inR_f c_16; rw [n0I, n60I] at this; omega)
              | (have := inR_f c_28; rw [n1I, n1000I] at this; omega)
              | (have := inR_f c_38; rw [n0I] at this; omega)
          refine lv_bipush (v := (-2)) hx hb dX7_risk_41 (by decide) ?_
          exact m_iret hx hb hr hlk hH hS dX7_risk_43 (by rw [hno]; exact ⟨rfl, rfl⟩)
set_option maxHeartbeats 4000000 in
set_option maxRecDepth 100000 in
theorem c_X7_risks (l : Launch) (G : gG) (B : gB) (σ : gS) (hM : BkM B) (hR : WfR σ) : Met l yX7_risks [.code yX7_risks cX7_risks 1 (some .int)] ({ frames := 0, cells := 0, slots := 0, locals := 0 } : Room) (mPc G B σ [.ref (B.1 0 0)]) (mQi G B (fun v σ' => v = nI (rkN σ) ∧ σ' = σ)) 0 0 (mA G) := by
  refine m_start (by decide) (Nat.le_of_ble_eq_true rfl) ?_
  intro p e s m below meth c ⟨hx, hb, hr, hml, hown, hK, hlk, hz⟩ hH hS ls hl
  have hl : lv_has ls 1 [(0, .ref (B.1 0 0))] := hl
  refine lv_aload_n hx hb dX7_risks_0 rfl (lv_at hl 0 rfl) ?_
  refine gf_X7_39 hx hb hown hK hH (bm hM 0) dX7_risks_1 ?_
  refine lv_iconst (v := nI 0) hx hb dX7_risks_4 (by decide) ?_
  refine m_zald hx hb hK hH (n := 2) (bm hM 13) (fun _ _ => rfl) (0) (rfl) (by omega) (by decide) dX7_risks_5 ?_
  refine m_toe (bI (isRk σ 0)) ((hR 0 (by decide)).1) ?_
  refine m_ifeqB (tgt := 13) hx hb dX7_risks_6 (by decide) (fun c_6 => ?_) (fun c_6 => ?_)
  · refine lv_iconst (v := nI 0) hx hb dX7_risks_13 (by decide) ?_
    refine lv_aload_n hx hb dX7_risks_14 rfl (lv_at hl 0 rfl) ?_
    refine gf_X7_39 hx hb hown hK hH (bm hM 0) dX7_risks_15 ?_
    refine lv_iconst (v := nI 1) hx hb dX7_risks_18 (by decide) ?_
    refine m_zald hx hb hK hH (n := 2) (bm hM 13) (fun _ _ => rfl) (1) (rfl) (by omega) (by decide) dX7_risks_19 ?_
    refine m_toe (bI (isRk σ 1)) ((hR 1 (by decide)).1) ?_
    refine m_ifeqB (tgt := 27) hx hb dX7_risks_20 (by decide) (fun c_20 => ?_) (fun c_20 => ?_)
    · refine lv_iconst (v := nI 0) hx hb dX7_risks_27 (by decide) ?_
      refine m_iaddN hx hb dX7_risks_28 ?_
      exact m_iret hx hb hr hlk hH hS dX7_risks_29 (⟨by unfold rkN; rw [c_6, c_20]; rfl, rfl⟩)
    · refine lv_iconst (v := nI 1) hx hb dX7_risks_23 (by decide) ?_
      refine lv_goto (tgt := 28) hx hb dX7_risks_24 (by decide) ?_
      refine m_iaddN hx hb dX7_risks_28 ?_
      exact m_iret hx hb hr hlk hH hS dX7_risks_29 (⟨by unfold rkN; rw [c_6, c_20]; rfl, rfl⟩)
  · refine lv_iconst (v := nI 1) hx hb dX7_risks_9 (by decide) ?_
    refine lv_goto (tgt := 14) hx hb dX7_risks_10 (by decide) ?_
    refine lv_aload_n hx hb dX7_risks_14 rfl (lv_at hl 0 rfl) ?_
    refine gf_X7_39 hx hb hown hK hH (bm hM 0) dX7_risks_15 ?_
    refine lv_iconst (v := nI 1) hx hb dX7_risks_18 (by decide) ?_
    refine m_zald hx hb hK hH (n := 2) (bm hM 13) (fun _ _ => rfl) (1) (rfl) (by omega) (by decide) dX7_risks_19 ?_
    refine m_toe (bI (isRk σ 1)) ((hR 1 (by decide)).1) ?_
    refine m_ifeqB (tgt := 27) hx hb dX7_risks_20 (by decide) (fun c_20 => ?_) (fun c_20 => ?_)
    · refine lv_iconst (v := nI 0) hx hb dX7_risks_27 (by decide) ?_
      refine m_iaddN hx hb dX7_risks_28 ?_
      exact m_iret hx hb hr hlk hH hS dX7_risks_29 (⟨by unfold rkN; rw [c_6, c_20]; rfl, rfl⟩)
    · refine lv_iconst (v := nI 1) hx hb dX7_risks_23 (by decide) ?_
      refine lv_goto (tgt := 28) hx hb dX7_risks_24 (by decide) ?_
      refine m_iaddN hx hb dX7_risks_28 ?_
      exact m_iret hx hb hr hlk hH hS dX7_risks_29 (⟨by unfold rkN; rw [c_6, c_20]; rfl, rfl⟩)
set_option maxHeartbeats 4000000 in
set_option maxRecDepth 100000 in
theorem c_X7_forget (l : Launch) (G : gG) (B : gB) (σ : gS) (hM : BkM B) (hR : WfR σ) : Met l yX7_forget [.code yX7_forget cX7_forget 2 (some .int)] ({ frames := 1, cells := 0, slots := 0, locals := 20 } : Room) (mPc G B σ [.ref (B.1 0 0)]) (mQi G B (fun v σ' => v = nI (rkN σ) ∧ σ' = sI (sI σ 13 0 0 (nI 0)) 13 0 1 (nI 0))) 0 0 (mA G) := by
  refine m_start (by decide) (Nat.le_of_ble_eq_true rfl) ?_
  intro p e s m below meth c ⟨hx, hb, hr, hml, hown, hK, hlk, hz⟩ hH hS ls hl
  have hl : lv_has ls 2 [(0, .ref (B.1 0 0))] := hl
  refine lv_aload_n hx hb dX7_forget_0 rfl (lv_at hl 0 rfl) ?_
  refine m_ki (m_runV (k := 0) (i := 0) (ci := 7) ⟨hx, hb, hml, hown, hz⟩ hK hH hS (bm hM 0) rfl rfl (c_X7_risks l G B σ hM hR) mw_X7_risks wl_X7_152 ⟨rfl, rfl⟩ ⟨by decide, by decide⟩ rfl hl.1 rfl (Nat.le_of_ble_eq_true rfl) dX7_forget_1 ⟨Nat.zero_le _, Nat.zero_le _⟩) hS (fun r_1 σ_1 H locs hp hH hS => ?_)
  obtain ⟨hr1, hs1⟩ := hp
  subst hr1
  rw [hs1] at hH
  refine lv_istore_n (lv' := [(1, .int (nI (rkN σ))), (0, .ref (B.1 0 0))]) hx hb dX7_forget_4 rfl hl (by decide) rfl (fun ls hl => ?_)
  refine lv_aload_n hx hb dX7_forget_5 rfl (lv_at hl 1 rfl) ?_
  refine gf_X7_39 hx hb hown hK hH (bm hM 0) dX7_forget_6 ?_
  refine lv_iconst (v := nI 0) hx hb dX7_forget_9 (by decide) ?_
  refine lv_iconst (v := nI 0) hx hb dX7_forget_10 (by decide) ?_
  refine m_zast hx hb hK hH hS (n := 2) (bm hM 13) (fun _ _ => rfl) (0) (rfl) (by omega) (by decide) (rfl) dX7_forget_11 (fun H locs hH hS => ?_)
  refine lv_aload_n hx hb dX7_forget_12 rfl (lv_at hl 1 rfl) ?_
  refine gf_X7_39 hx hb hown hK hH (bm hM 0) dX7_forget_13 ?_
  refine lv_iconst (v := nI 1) hx hb dX7_forget_16 (by decide) ?_
  refine lv_iconst (v := nI 0) hx hb dX7_forget_17 (by decide) ?_
  refine m_zast hx hb hK hH hS (n := 2) (bm hM 13) (fun _ _ => rfl) (1) (rfl) (by omega) (by decide) (rfl) dX7_forget_18 (fun H locs hH hS => ?_)
  refine lv_iload_n hx hb dX7_forget_19 rfl (lv_at hl 0 rfl) ?_
  exact m_iret hx hb hr hlk hH hS dX7_forget_20 (⟨rfl, rfl⟩)
def nS (σ : gS) : Nat := (σ.1 0 0 1).toNatClampNeg
def nL (σ : gS) : Nat := (σ.1 0 0 2).toNatClampNeg
def isSu (σ : gS) (x : Int32) : Bool := decide (0 ≤ x.toInt ∧ x.toInt < (nS σ : Int))
def isLo (σ : gS) (x : Int32) : Bool := decide (0 ≤ x.toInt ∧ x.toInt < (nL σ : Int))
theorem inR_n {n : Nat} {x : Int32} (h : n ≤ 60) : inR x (nI 0) (nI n - nI 1) = decide (0 ≤ x.toInt ∧ x.toInt < (n : Int)) := by
  unfold inR
  have e := nI_I (n := n) (by omega)
  rw [i_sub (by rw [e, n1I]; omega) (by rw [e, n1I]; omega), e, n1I, n0I]
  by_cases q : 0 ≤ x.toInt ∧ x.toInt < (n : Int)
  · rw [decide_eq_true q, decide_eq_true (by omega)]
  · rw [decide_eq_false q, decide_eq_false (by omega)]
theorem isSu_t {σ : gS} {x : Int32} (h : isSu σ x = true) : ∃ p : Nat, p < nS σ ∧ x = nI p := by
  have h2 := of_decide_eq_true h
  obtain ⟨a, b⟩ := i_nat h2.1
  exact ⟨x.toInt.toNat, by omega, a⟩
theorem isLo_t {σ : gS} {x : Int32} (h : isLo σ x = true) : ∃ p : Nat, p < nL σ ∧ x = nI p := by
  have h2 := of_decide_eq_true h
  obtain ⟨a, b⟩ := i_nat h2.1
  exact ⟨x.toInt.toNat, by omega, a⟩
def rl (σ : gS) (s : Nat) : Nat := (σ.1 15 0 s).toNatClampNeg
def rn (σ : gS) (s : Nat) : Nat := (σ.1 17 0 s).toNatClampNeg
def pO (σ : gS) (s j : Nat) : Nat := (σ.1 14 0 (3 * s + j)).toNatClampNeg
def WfS1 (σ : gS) (s : Nat) : Prop := σ.1 15 0 s = nI (rl σ s) ∧ rl σ s ≤ 2 ∧ (∀ j, j < 3 → σ.1 14 0 (3 * s + j) = nI (pO σ s j) ∧ pO σ s j < nP σ ∧ clo σ (pO σ s j) = true) ∧ σ.1 17 0 s = nI (rn σ s) ∧ rn σ s ≤ 60
def WfS (σ : gS) : Prop := σ.1 0 0 1 = nI (nS σ) ∧ nS σ ≤ 8 ∧ (∀ s, s < nS σ → WfS1 σ s) ∧ ∀ s, nS σ ≤ s → s < 8 → σ.1 16 0 s = 0 ∧ σ.1 17 0 s = 0
set_option maxHeartbeats 4000000 in
set_option maxRecDepth 100000 in
theorem c_X7_isSupplier (l : Launch) (G : gG) (B : gB) (σ : gS) (hM : BkM B) (hW : WfS σ) (x : Int32) : Met l yX7_isSupplier [.code yX7_isSupplier cX7_isSupplier 2 (some .boolean)] ({ frames := 1, cells := 0, slots := 0, locals := 22 } : Room) (mPc G B σ [.ref (B.1 0 0), .int (x)]) (mQi G B (fun v σ' => v = bI (isSu σ x) ∧ σ' = σ)) 0 0 (mA G) := by
  refine m_start (by decide) (Nat.le_of_ble_eq_true rfl) ?_
  intro p e s m below meth c ⟨hx, hb, hr, hml, hown, hK, hlk, hz⟩ hH hS ls hl
  have hl : lv_has ls 2 [(0, .ref (B.1 0 0)), (1, .int (x))] := hl
  refine lv_iload_n hx hb dX7_isSupplier_0 rfl (lv_at hl 1 rfl) ?_
  refine lv_iconst (v := nI 0) hx hb dX7_isSupplier_1 (by decide) ?_
  refine lv_aload_n hx hb dX7_isSupplier_2 rfl (lv_at hl 0 rfl) ?_
  refine gf_X7_168 hx hb hown hK hH (bm hM 0) dX7_isSupplier_3 ?_
  refine m_toi (nS σ) (hW.1) ?_
  refine lv_iconst (v := nI 1) hx hb dX7_isSupplier_6 (by decide) ?_
  refine lv_isub hx hb dX7_isSupplier_7 ?_
  refine m_ki (m_runS ⟨hx, hb, hml, hown, hz⟩ hK hH hS (c_X7_in l G B σ x (nI 0) (nI (nS σ) - nI 1)) mw_X7_in wl_X7_95 ⟨rfl, rfl⟩ ⟨by decide, by decide⟩ rfl hl.1 rfl (Nat.le_of_ble_eq_true rfl) dX7_isSupplier_8 ⟨Nat.zero_le _, Nat.zero_le _⟩) hS (fun r_8 σ_8 H locs hp hH hS => ?_)
  obtain ⟨hr1, hs1⟩ := hp
  subst hr1
  rw [hs1] at hH
  exact m_zret hx hb hr hlk hH hS dX7_isSupplier_11 (by first | exact Or.inl rfl | exact Or.inr rfl | exact bI_01 _) (⟨by rw [inR_n (by have := hW.2.1; omega)]; rfl, rfl⟩)
set_option maxHeartbeats 4000000 in
set_option maxRecDepth 100000 in
theorem c_X7_isLot (l : Launch) (G : gG) (B : gB) (σ : gS) (hM : BkM B) (h60 : σ.1 0 0 2 = nI (nL σ) ∧ nL σ ≤ 60) (x : Int32) : Met l yX7_isLot [.code yX7_isLot cX7_isLot 2 (some .boolean)] ({ frames := 1, cells := 0, slots := 0, locals := 22 } : Room) (mPc G B σ [.ref (B.1 0 0), .int (x)]) (mQi G B (fun v σ' => v = bI (isLo σ x) ∧ σ' = σ)) 0 0 (mA G) := by
  refine m_start (by decide) (Nat.le_of_ble_eq_true rfl) ?_
  intro p e s m below meth c ⟨hx, hb, hr, hml, hown, hK, hlk, hz⟩ hH hS ls hl
  have hl : lv_has ls 2 [(0, .ref (B.1 0 0)), (1, .int (x))] := hl
  refine lv_iload_n hx hb dX7_isLot_0 rfl (lv_at hl 1 rfl) ?_
  refine lv_iconst (v := nI 0) hx hb dX7_isLot_1 (by decide) ?_
  refine lv_aload_n hx hb dX7_isLot_2 rfl (lv_at hl 0 rfl) ?_
  refine gf_X7_171 hx hb hown hK hH (bm hM 0) dX7_isLot_3 ?_
  refine m_toi (nL σ) (h60.1) ?_
  refine lv_iconst (v := nI 1) hx hb dX7_isLot_6 (by decide) ?_
  refine lv_isub hx hb dX7_isLot_7 ?_
  refine m_ki (m_runS ⟨hx, hb, hml, hown, hz⟩ hK hH hS (c_X7_in l G B σ x (nI 0) (nI (nL σ) - nI 1)) mw_X7_in wl_X7_95 ⟨rfl, rfl⟩ ⟨by decide, by decide⟩ rfl hl.1 rfl (Nat.le_of_ble_eq_true rfl) dX7_isLot_8 ⟨Nat.zero_le _, Nat.zero_le _⟩) hS (fun r_8 σ_8 H locs hp hH hS => ?_)
  obtain ⟨hr1, hs1⟩ := hp
  subst hr1
  rw [hs1] at hH
  exact m_zret hx hb hr hlk hH hS dX7_isLot_11 (by first | exact Or.inl rfl | exact Or.inr rfl | exact bI_01 _) (⟨by rw [inR_n h60.2]; rfl, rfl⟩)
theorem isSu_nI {σ : gS} {p : Nat} (hp : p < nS σ) (h8 : nS σ ≤ 8) : isSu σ (nI p) = true := by
  unfold isSu
  rw [nI_I (by omega)]
  exact decide_eq_true (by omega)
theorem isLo_nI {σ : gS} {p : Nat} (hp : p < nL σ) (h8 : nL σ ≤ 60) : isLo σ (nI p) = true := by
  unfold isLo
  rw [nI_I (by omega)]
  exact decide_eq_true (by omega)
set_option maxHeartbeats 4000000 in
set_option maxRecDepth 100000 in
theorem c_X7_rule (l : Launch) (G : gG) (B : gB) (σ : gS) (hM : BkM B) (hW : WfS σ) (x : Int32) : Met l yX7_rule [.code yX7_rule cX7_rule 2 (some .int)] ({ frames := 2, cells := 0, slots := 0, locals := 43 } : Room) (mPc G B σ [.ref (B.1 0 0), .int (x)]) (mQi G B (fun v σ' => v = (if isSu σ x = true then σ.1 15 0 x.toNatClampNeg else -2) ∧ σ' = σ)) 0 0 (mA G) := by
  refine m_start (by decide) (Nat.le_of_ble_eq_true rfl) ?_
  intro p e s m below meth c ⟨hx, hb, hr, hml, hown, hK, hlk, hz⟩ hH hS ls hl
  have hl : lv_has ls 2 [(0, .ref (B.1 0 0)), (1, .int (x))] := hl
  refine lv_aload_n hx hb dX7_rule_0 rfl (lv_at hl 0 rfl) ?_
  refine lv_iload_n hx hb dX7_rule_1 rfl (lv_at hl 1 rfl) ?_
  refine m_ki (m_runV (k := 0) (i := 0) (ci := 7) ⟨hx, hb, hml, hown, hz⟩ hK hH hS (bm hM 0) rfl rfl (c_X7_isSupplier l G B σ hM hW x) mw_X7_isSupplier wl_X7_174 ⟨rfl, rfl⟩ ⟨by decide, by decide⟩ rfl hl.1 rfl (Nat.le_of_ble_eq_true rfl) dX7_rule_2 ⟨Nat.zero_le _, Nat.zero_le _⟩) hS (fun r_2 σ_2 H locs hp hH hS => ?_)
  obtain ⟨hr1, hs1⟩ := hp
  subst hr1
  rw [hs1] at hH
  refine m_ifeqB (tgt := 17) hx hb dX7_rule_5 (by decide) (fun c_5 => ?_) (fun c_5 => ?_)
  · refine lv_bipush (v := (-2)) hx hb dX7_rule_17 (by decide) ?_
    exact m_iret hx hb hr hlk hH hS dX7_rule_19 (by rw [c_5]; exact ⟨rfl, rfl⟩)
  · obtain ⟨sn, hsn, rfl⟩ := isSu_t c_5
    have h8 := hW.2.1
    refine lv_aload_n hx hb dX7_rule_8 rfl (lv_at hl 0 rfl) ?_
    refine gf_X7_46 hx hb hown hK hH (bm hM 0) dX7_rule_9 ?_
    refine lv_iload_n hx hb dX7_rule_12 rfl (lv_at hl 1 rfl) ?_
    refine m_iald hx hb hK hH (n := 8) (bm hM 15) (fun _ _ => rfl) (sn) (rfl) (by omega) (by decide) dX7_rule_13 ?_
    refine lv_goto (tgt := 19) hx hb dX7_rule_14 (by decide) ?_
    exact m_iret hx hb hr hlk hH hS dX7_rule_19 (by rw [isSu_nI hsn h8]; exact ⟨by rw [nI_clamp (by omega)]; rfl, rfl⟩)
def coOK (w n : Int32) : Bool := decide ((0 ≤ w.toInt ∧ w.toInt ≤ 3) ∧ (0 ≤ n.toInt ∧ n.toInt ≤ 100000))
set_option maxHeartbeats 4000000 in
set_option maxRecDepth 100000 in
theorem c_X7_cost (l : Launch) (G : gG) (B : gB) (σ : gS) (hM : BkM B) (t u : Int32) : Met l yX7_cost [.code yX7_cost cX7_cost 4 (some .int)] ({ frames := 1, cells := 0, slots := 0, locals := 22 } : Room) (mPc G B σ [.ref (B.1 0 0), .int (t), .int (u)]) (mQi G B (fun v σ' => if coOK t u = true then ∃ q : Nat, q < 4 ∧ t = nI q ∧ v = σ.1 25 0 q ∧ σ' = sI σ 25 0 q u else v = -2 ∧ σ' = σ)) 0 0 (mA G) := by
  refine m_start (by decide) (Nat.le_of_ble_eq_true rfl) ?_
  intro p e s m below meth c ⟨hx, hb, hr, hml, hown, hK, hlk, hz⟩ hH hS ls hl
  have hl : lv_has ls 4 [(0, .ref (B.1 0 0)), (1, .int (t)), (2, .int (u))] := hl
  refine lv_iload_n hx hb dX7_cost_0 rfl (lv_at hl 1 rfl) ?_
  refine lv_iconst (v := nI 0) hx hb dX7_cost_1 (by decide) ?_
  refine lv_iconst (v := nI 3) hx hb dX7_cost_2 (by decide) ?_
  refine m_ki (m_runS ⟨hx, hb, hml, hown, hz⟩ hK hH hS (c_X7_in l G B σ t (nI 0) (nI 3)) mw_X7_in wl_X7_95 ⟨rfl, rfl⟩ ⟨by decide, by decide⟩ rfl hl.1 rfl (Nat.le_of_ble_eq_true rfl) dX7_cost_3 ⟨Nat.zero_le _, Nat.zero_le _⟩) hS (fun r_3 σ_3 H locs hp hH hS => ?_)
  obtain ⟨hr1, hs1⟩ := hp
  subst hr1
  rw [hs1] at hH
  refine m_ifeqB (tgt := 19) hx hb dX7_cost_6 (by decide) (fun c_6 => ?_) (fun c_6 => ?_)
  · have hno : coOK t u = false := by
      refine decide_eq_false (fun hh => ?_)
      obtain ⟨h1, h2⟩ := hh
      first
        | (have := inR_f c_6; rw [n0I, n3I] at this; omega)
        | (have := inR_f c_16; rw [n0I, show (100000 : Int32).toInt = 100000 from rfl] at this; omega)
    refine lv_bipush (v := (-2)) hx hb dX7_cost_19 (by decide) ?_
    exact m_iret hx hb hr hlk hH hS dX7_cost_21 (by rw [hno]; exact ⟨rfl, rfl⟩)
  · refine lv_iload_n hx hb dX7_cost_9 rfl (lv_at hl 2 rfl) ?_
    refine lv_iconst (v := nI 0) hx hb dX7_cost_10 (by decide) ?_
    refine lv_ldc hx hb hown (hK.2 _ wc_X7_204 rfl _) dX7_cost_11 ?_
    refine m_ki (m_runS ⟨hx, hb, hml, hown, hz⟩ hK hH hS (c_X7_in l G B σ u (nI 0) 100000) mw_X7_in wl_X7_95 ⟨rfl, rfl⟩ ⟨by decide, by decide⟩ rfl hl.1 rfl (Nat.le_of_ble_eq_true rfl) dX7_cost_13 ⟨Nat.zero_le _, Nat.zero_le _⟩) hS (fun r_13 σ_13 H locs hp hH hS => ?_)
    obtain ⟨hr1, hs1⟩ := hp
    subst hr1
    rw [hs1] at hH
    refine m_ifneB (tgt := 22) hx hb dX7_cost_16 (by decide) (fun c_16 => ?_) (fun c_16 => ?_)
    · have h1 := inR_t c_6; rw [n0I, n3I] at h1
      have h2 := inR_t c_16; rw [n0I, show (100000 : Int32).toInt = 100000 from rfl] at h2
      have hyes : coOK t u = true := decide_eq_true ⟨h1, h2⟩
      obtain ⟨k1, k2⟩ := i_nat h1.1
      obtain ⟨q, hq⟩ : ∃ q : Nat, q = t.toInt.toNat := ⟨_, rfl⟩
      rw [← hq] at k1 k2
      have hqn : q < 4 := by omega
      clear c_6 hq k2 h1
      subst k1
      refine lv_aload_n hx hb dX7_cost_22 rfl (lv_at hl 0 rfl) ?_
      refine gf_X7_76 hx hb hown hK hH (bm hM 0) dX7_cost_23 ?_
      refine lv_iload_n hx hb dX7_cost_26 rfl (lv_at hl 1 rfl) ?_
      refine m_iald hx hb hK hH (n := 4) (bm hM 25) (fun _ _ => rfl) (q) (rfl) (by omega) (by decide) dX7_cost_27 ?_
      refine lv_istore_n (lv' := [(3, .int (σ.1 25 0 q)), (0, .ref (B.1 0 0)), (1, .int (nI q)), (2, .int (u))]) hx hb dX7_cost_28 rfl hl (by decide) rfl (fun ls hl => ?_)
      refine lv_aload_n hx hb dX7_cost_29 rfl (lv_at hl 1 rfl) ?_
      refine gf_X7_76 hx hb hown hK hH (bm hM 0) dX7_cost_30 ?_
      refine lv_iload_n hx hb dX7_cost_33 rfl (lv_at hl 2 rfl) ?_
      refine lv_iload_n hx hb dX7_cost_34 rfl (lv_at hl 3 rfl) ?_
      refine m_iast hx hb hK hH hS (n := 4) (bm hM 25) (fun _ _ => rfl) (q) (rfl) (by omega) (by decide) dX7_cost_35 (fun H locs hH hS => ?_)
      refine lv_iload_n hx hb dX7_cost_36 rfl (lv_at hl 0 rfl) ?_
      exact m_iret hx hb hr hlk hH hS dX7_cost_37 (by rw [hyes]; exact ⟨q, hqn, rfl, rfl, rfl⟩)
    · have hno : coOK t u = false := by
        refine decide_eq_false (fun hh => ?_)
        obtain ⟨h1, h2⟩ := hh
        first
          | (have := inR_f c_6; rw [n0I, n3I] at this; omega)
          | (have := inR_f c_16; rw [n0I, show (100000 : Int32).toInt = 100000 from rfl] at this; omega)
      refine lv_bipush (v := (-2)) hx hb dX7_cost_19 (by decide) ?_
      exact m_iret hx hb hr hlk hH hS dX7_cost_21 (by rw [hno]; exact ⟨rfl, rfl⟩)
def maS (σ : gS) (n : Int32) : Bool := decide ((1 ≤ n.toInt ∧ n.toInt ≤ 60) ∧ (isRk σ 0 = true → (rAt σ 0 : Int) ≤ n.toInt) ∧ (isRk σ 1 = true → (rAt σ 1 : Int) ≤ n.toInt))
theorem maS_t {σ : gS} {n : Int32} (h : (nI 1).toInt ≤ n.toInt ∧ n.toInt ≤ (nI 60).toInt) (h0 : isRk σ 0 = true → (rAt σ 0 : Int) ≤ n.toInt) (h1 : isRk σ 1 = true → (rAt σ 1 : Int) ≤ n.toInt) : maS σ n = true := by
  rw [n1I, n60I] at h
  exact decide_eq_true ⟨h, h0, h1⟩
set_option maxHeartbeats 4000000 in
set_option maxRecDepth 100000 in
theorem c_X7_maySearch (l : Launch) (G : gG) (B : gB) (σ : gS) (hM : BkM B) (hR : WfR σ) (n : Int32) : Met l yX7_maySearch [.code yX7_maySearch cX7_maySearch 2 (some .boolean)] ({ frames := 1, cells := 0, slots := 0, locals := 22 } : Room) (mPc G B σ [.ref (B.1 0 0), .int (n)]) (mQi G B (fun v σ' => v = bI (maS σ n) ∧ σ' = σ)) 0 0 (mA G) := by
  refine m_start (by decide) (Nat.le_of_ble_eq_true rfl) ?_
  intro p e s m below meth c ⟨hx, hb, hr, hml, hown, hK, hlk, hz⟩ hH hS ls hl
  have hl : lv_has ls 2 [(0, .ref (B.1 0 0)), (1, .int (n))] := hl
  refine lv_iload_n hx hb dX7_maySearch_0 rfl (lv_at hl 1 rfl) ?_
  refine lv_iconst (v := nI 1) hx hb dX7_maySearch_1 (by decide) ?_
  refine lv_bipush (v := nI 60) hx hb dX7_maySearch_2 (by decide) ?_
  refine m_ki (m_runS ⟨hx, hb, hml, hown, hz⟩ hK hH hS (c_X7_in l G B σ n (nI 1) (nI 60)) mw_X7_in wl_X7_95 ⟨rfl, rfl⟩ ⟨by decide, by decide⟩ rfl hl.1 rfl (Nat.le_of_ble_eq_true rfl) dX7_maySearch_4 ⟨Nat.zero_le _, Nat.zero_le _⟩) hS (fun r_4 σ_4 H locs hp hH hS => ?_)
  obtain ⟨hr1, hs1⟩ := hp
  subst hr1
  rw [hs1] at hH
  refine m_ifeqB (tgt := 52) hx hb dX7_maySearch_7 (by decide) (fun c_7 => ?_) (fun c_7 => ?_)
  · refine lv_iconst (v := nI 0) hx hb dX7_maySearch_52 (by decide) ?_
    exact m_zret hx hb hr hlk hH hS dX7_maySearch_53 (by first | exact Or.inl rfl | exact Or.inr rfl | exact bI_01 _) (⟨bI_f (by refine decide_eq_false (fun hh => ?_); obtain ⟨h1, h2, h3⟩ := hh; first | (have := inR_f c_7; rw [n1I, n60I] at this; omega) | (rw [i_lt, e0] at c_26; have := h2 c_16; omega) | (rw [i_lt, e1] at c_45; have := h3 c_35; omega)), rfl⟩)
  · refine lv_aload_n hx hb dX7_maySearch_10 rfl (lv_at hl 0 rfl) ?_
    refine gf_X7_39 hx hb hown hK hH (bm hM 0) dX7_maySearch_11 ?_
    refine lv_iconst (v := nI 0) hx hb dX7_maySearch_14 (by decide) ?_
    refine m_zald hx hb hK hH (n := 2) (bm hM 13) (fun _ _ => rfl) (0) (rfl) (by omega) (by decide) dX7_maySearch_15 ?_
    refine m_toe (bI (isRk σ 0)) ((hR 0 (by decide)).1) ?_
    refine m_ifeqB (tgt := 29) hx hb dX7_maySearch_16 (by decide) (fun c_16 => ?_) (fun c_16 => ?_)
    · refine lv_aload_n hx hb dX7_maySearch_29 rfl (lv_at hl 0 rfl) ?_
      refine gf_X7_39 hx hb hown hK hH (bm hM 0) dX7_maySearch_30 ?_
      refine lv_iconst (v := nI 1) hx hb dX7_maySearch_33 (by decide) ?_
      refine m_zald hx hb hK hH (n := 2) (bm hM 13) (fun _ _ => rfl) (1) (rfl) (by omega) (by decide) dX7_maySearch_34 ?_
      refine m_toe (bI (isRk σ 1)) ((hR 1 (by decide)).1) ?_
      refine m_ifeqB (tgt := 48) hx hb dX7_maySearch_35 (by decide) (fun c_35 => ?_) (fun c_35 => ?_)
      · refine lv_iconst (v := nI 1) hx hb dX7_maySearch_48 (by decide) ?_
        refine lv_goto (tgt := 53) hx hb dX7_maySearch_49 (by decide) ?_
        exact m_zret hx hb hr hlk hH hS dX7_maySearch_53 (by first | exact Or.inl rfl | exact Or.inr rfl | exact bI_01 _) (⟨bI_t (maS_t (inR_t c_7) (by first | (rw [i_lt, e0] at c_26; exact fun _ => by omega) | (intro q; rw [c_16] at q; exact absurd q (by decide))) (by first | (rw [i_lt, e1] at c_45; exact fun _ => by omega) | (intro q; rw [c_35] at q; exact absurd q (by decide)))), rfl⟩)
      · refine lv_aload_n hx hb dX7_maySearch_38 rfl (lv_at hl 0 rfl) ?_
        refine gf_X7_30 hx hb hown hK hH (bm hM 0) dX7_maySearch_39 ?_
        refine lv_iconst (v := nI 1) hx hb dX7_maySearch_42 (by decide) ?_
        refine m_iald hx hb hK hH (n := 2) (bm hM 10) (fun _ _ => rfl) (1) (rfl) (by omega) (by decide) dX7_maySearch_43 ?_
        refine m_toi (rAt σ 1) (((hR 1 (by decide)).2 c_35).1) ?_
        have e1 := nI_I (n := rAt σ 1) (by have := ((hR 1 (by decide)).2 c_35).2.1; omega)
        refine lv_iload_n hx hb dX7_maySearch_44 rfl (lv_at hl 1 rfl) ?_
        refine lv_icmp_gt (tgt := 52) hx hb dX7_maySearch_45 (by decide) (fun c_45 => ?_) (fun c_45 => ?_)
        · refine lv_iconst (v := nI 0) hx hb dX7_maySearch_52 (by decide) ?_
          exact m_zret hx hb hr hlk hH hS dX7_maySearch_53 (by first | exact Or.inl rfl | exact Or.inr rfl | exact bI_01 _) (⟨bI_f (by refine decide_eq_false (fun hh => ?_); obtain ⟨h1, h2, h3⟩ := hh; first | (have := inR_f c_7; rw [n1I, n60I] at this; omega) | (rw [i_lt, e0] at c_26; have := h2 c_16; omega) | (rw [i_lt, e1] at c_45; have := h3 c_35; omega)), rfl⟩)
        · refine lv_iconst (v := nI 1) hx hb dX7_maySearch_48 (by decide) ?_
          refine lv_goto (tgt := 53) hx hb dX7_maySearch_49 (by decide) ?_
          exact m_zret hx hb hr hlk hH hS dX7_maySearch_53 (by first | exact Or.inl rfl | exact Or.inr rfl | exact bI_01 _) (⟨bI_t (maS_t (inR_t c_7) (by first | (rw [i_lt, e0] at c_26; exact fun _ => by omega) | (intro q; rw [c_16] at q; exact absurd q (by decide))) (by first | (rw [i_lt, e1] at c_45; exact fun _ => by omega) | (intro q; rw [c_35] at q; exact absurd q (by decide)))), rfl⟩)
    · refine lv_aload_n hx hb dX7_maySearch_19 rfl (lv_at hl 0 rfl) ?_
      refine gf_X7_30 hx hb hown hK hH (bm hM 0) dX7_maySearch_20 ?_
      refine lv_iconst (v := nI 0) hx hb dX7_maySearch_23 (by decide) ?_
      refine m_iald hx hb hK hH (n := 2) (bm hM 10) (fun _ _ => rfl) (0) (rfl) (by omega) (by decide) dX7_maySearch_24 ?_
      refine m_toi (rAt σ 0) (((hR 0 (by decide)).2 c_16).1) ?_
      have e0 := nI_I (n := rAt σ 0) (by have := ((hR 0 (by decide)).2 c_16).2.1; omega)
      refine lv_iload_n hx hb dX7_maySearch_25 rfl (lv_at hl 1 rfl) ?_
      refine lv_icmp_gt (tgt := 52) hx hb dX7_maySearch_26 (by decide) (fun c_26 => ?_) (fun c_26 => ?_)
      · refine lv_iconst (v := nI 0) hx hb dX7_maySearch_52 (by decide) ?_
        exact m_zret hx hb hr hlk hH hS dX7_maySearch_53 (by first | exact Or.inl rfl | exact Or.inr rfl | exact bI_01 _) (⟨bI_f (by refine decide_eq_false (fun hh => ?_); obtain ⟨h1, h2, h3⟩ := hh; first | (have := inR_f c_7; rw [n1I, n60I] at this; omega) | (rw [i_lt, e0] at c_26; have := h2 c_16; omega) | (rw [i_lt, e1] at c_45; have := h3 c_35; omega)), rfl⟩)
      · refine lv_aload_n hx hb dX7_maySearch_29 rfl (lv_at hl 0 rfl) ?_
        refine gf_X7_39 hx hb hown hK hH (bm hM 0) dX7_maySearch_30 ?_
        refine lv_iconst (v := nI 1) hx hb dX7_maySearch_33 (by decide) ?_
        refine m_zald hx hb hK hH (n := 2) (bm hM 13) (fun _ _ => rfl) (1) (rfl) (by omega) (by decide) dX7_maySearch_34 ?_
        refine m_toe (bI (isRk σ 1)) ((hR 1 (by decide)).1) ?_
        refine m_ifeqB (tgt := 48) hx hb dX7_maySearch_35 (by decide) (fun c_35 => ?_) (fun c_35 => ?_)
        · refine lv_iconst (v := nI 1) hx hb dX7_maySearch_48 (by decide) ?_
          refine lv_goto (tgt := 53) hx hb dX7_maySearch_49 (by decide) ?_
          exact m_zret hx hb hr hlk hH hS dX7_maySearch_53 (by first | exact Or.inl rfl | exact Or.inr rfl | exact bI_01 _) (⟨bI_t (maS_t (inR_t c_7) (by first | (rw [i_lt, e0] at c_26; exact fun _ => by omega) | (intro q; rw [c_16] at q; exact absurd q (by decide))) (by first | (rw [i_lt, e1] at c_45; exact fun _ => by omega) | (intro q; rw [c_35] at q; exact absurd q (by decide)))), rfl⟩)
        · refine lv_aload_n hx hb dX7_maySearch_38 rfl (lv_at hl 0 rfl) ?_
          refine gf_X7_30 hx hb hown hK hH (bm hM 0) dX7_maySearch_39 ?_
          refine lv_iconst (v := nI 1) hx hb dX7_maySearch_42 (by decide) ?_
          refine m_iald hx hb hK hH (n := 2) (bm hM 10) (fun _ _ => rfl) (1) (rfl) (by omega) (by decide) dX7_maySearch_43 ?_
          refine m_toi (rAt σ 1) (((hR 1 (by decide)).2 c_35).1) ?_
          have e1 := nI_I (n := rAt σ 1) (by have := ((hR 1 (by decide)).2 c_35).2.1; omega)
          refine lv_iload_n hx hb dX7_maySearch_44 rfl (lv_at hl 1 rfl) ?_
          refine lv_icmp_gt (tgt := 52) hx hb dX7_maySearch_45 (by decide) (fun c_45 => ?_) (fun c_45 => ?_)
          · refine lv_iconst (v := nI 0) hx hb dX7_maySearch_52 (by decide) ?_
            exact m_zret hx hb hr hlk hH hS dX7_maySearch_53 (by first | exact Or.inl rfl | exact Or.inr rfl | exact bI_01 _) (⟨bI_f (by refine decide_eq_false (fun hh => ?_); obtain ⟨h1, h2, h3⟩ := hh; first | (have := inR_f c_7; rw [n1I, n60I] at this; omega) | (rw [i_lt, e0] at c_26; have := h2 c_16; omega) | (rw [i_lt, e1] at c_45; have := h3 c_35; omega)), rfl⟩)
          · refine lv_iconst (v := nI 1) hx hb dX7_maySearch_48 (by decide) ?_
            refine lv_goto (tgt := 53) hx hb dX7_maySearch_49 (by decide) ?_
            exact m_zret hx hb hr hlk hH hS dX7_maySearch_53 (by first | exact Or.inl rfl | exact Or.inr rfl | exact bI_01 _) (⟨bI_t (maS_t (inR_t c_7) (by first | (rw [i_lt, e0] at c_26; exact fun _ => by omega) | (intro q; rw [c_16] at q; exact absurd q (by decide))) (by first | (rw [i_lt, e1] at c_45; exact fun _ => by omega) | (intro q; rw [c_35] at q; exact absurd q (by decide)))), rfl⟩)
end
section
/-! numbers: sums, binomials, comparing, rounding -/
def sg3 (a b : Nat) : Int32 := if a < b then -1 else if b < a then 1 else 0
def rsum (f : Nat → Nat) : Nat → Nat
  | 0 => 0
  | n + 1 => rsum f n + f n
theorem rsum_cong {f g : Nat → Nat} {n : Nat} (h : ∀ k, k < n → f k = g k) : rsum f n = rsum g n := by
  induction n with
  | zero => rfl
  | succ n ih => show rsum f n + f n = rsum g n + g n; rw [ih (fun k hk => h k (by omega)), h n (by omega)]
theorem rsum_add (f g : Nat → Nat) (n : Nat) : rsum (fun k => f k + g k) n = rsum f n + rsum g n := by
  induction n with
  | zero => rfl
  | succ n ih => show rsum (fun k => f k + g k) n + (f n + g n) = (rsum f n + f n) + (rsum g n + g n); rw [ih]; omega
theorem rsum_le {f g : Nat → Nat} {n : Nat} (h : ∀ k, k < n → f k ≤ g k) : rsum f n ≤ rsum g n := by
  induction n with
  | zero => exact Nat.le_refl _
  | succ n ih => exact Nat.add_le_add (ih (fun k hk => h k (by omega))) (h n (by omega))
theorem rsum_mono (f : Nat → Nat) {a b : Nat} (h : a ≤ b) : rsum f a ≤ rsum f b := by
  induction b with
  | zero => rw [Nat.le_zero.mp h]; exact Nat.le_refl _
  | succ b ih =>
    rcases Nat.lt_or_ge a (b + 1) with q | q
    · exact Nat.le_trans (ih (by omega)) (Nat.le_add_right _ _)
    · rw [show a = b + 1 by omega]; exact Nat.le_refl _
theorem rsum_0 {f : Nat → Nat} {n : Nat} (h : ∀ k, k < n → f k = 0) : rsum f n = 0 := by
  induction n with
  | zero => rfl
  | succ n ih => show rsum f n + f n = 0; rw [ih (fun k hk => h k (by omega)), h n (by omega)]
theorem rsum_front (f : Nat → Nat) (n : Nat) : rsum f (n + 1) = f 0 + rsum (fun k => f (k + 1)) n := by
  induction n with
  | zero => show 0 + f 0 = f 0 + 0; omega
  | succ n ih => show rsum f (n + 1) + f (n + 1) = f 0 + (rsum (fun k => f (k + 1)) n + f (n + 1)); rw [ih]; omega
theorem rsum_tail {f : Nat → Nat} {a b : Nat} (h : a ≤ b) (hz : ∀ k, a ≤ k → k < b → f k = 0) : rsum f b = rsum f a := by
  induction b with
  | zero => rw [Nat.le_zero.mp h]
  | succ b ih =>
    rcases Nat.lt_or_ge a (b + 1) with q | q
    · show rsum f b + f b = rsum f a; rw [ih (by omega) (fun k h1 h2 => hz k h1 (by omega)), hz b (by omega) (by omega)]; omega
    · rw [show a = b + 1 by omega]
theorem rsum_mul (c : Nat) (f : Nat → Nat) (n : Nat) : rsum (fun k => c * f k) n = c * rsum f n := by
  induction n with
  | zero => rfl
  | succ n ih => show rsum (fun k => c * f k) n + c * f n = c * (rsum f n + f n); rw [ih, Nat.mul_add]
theorem rsum_mulr (c : Nat) (f : Nat → Nat) (n : Nat) : rsum (fun k => f k * c) n = rsum f n * c := by
  induction n with
  | zero => show 0 = 0 * c; omega
  | succ n ih => show rsum (fun k => f k * c) n + f n * c = (rsum f n + f n) * c; rw [ih, Nat.add_mul]
theorem rsum_swap (f : Nat → Nat → Nat) (a b : Nat) : rsum (fun i => rsum (fun j => f i j) b) a = rsum (fun j => rsum (fun i => f i j) a) b := by
  induction a with
  | zero => show 0 = rsum (fun j => 0) b; rw [rsum_0 (fun _ _ => rfl)]
  | succ a ih => show rsum (fun i => rsum (fun j => f i j) b) a + rsum (fun j => f a j) b = rsum (fun j => rsum (fun i => f i j) a + f a j) b; rw [ih, rsum_add]
theorem chZ_nat (n k : Nat) : chZ n (k : Int) = ch n k := by unfold chZ; rw [if_neg (by omega)]; rfl
theorem chZ_neg {n : Nat} {z : Int} (h : z < 0) : chZ n z = 0 := if_pos h
theorem chZ_succ (n : Nat) (z : Int) : chZ (n + 1) z = chZ n (z - 1) + chZ n z := by
  by_cases h : z < 0
  · rw [chZ_neg h, chZ_neg (by omega), chZ_neg h]
  · obtain ⟨k, rfl⟩ : ∃ k : Nat, z = k := ⟨z.toNat, by omega⟩
    cases k with
    | zero => rw [chZ_nat, chZ_neg (by omega), chZ_nat, ch_0, ch_0]
    | succ k => rw [chZ_nat, show ((k + 1 : Nat) : Int) - 1 = (k : Int) by omega, chZ_nat, chZ_nat]; rfl
/-- Vandermonde's sum, with the terms beyond n nothing -/
theorem vand (n m : Nat) : ∀ z : Int, rsum (fun s => ch n s * chZ m (z - s)) (n + 1) = chZ (n + m) z := by
  induction n with
  | zero =>
    intro z
    show 0 + ch 0 0 * chZ m (z - (0 : Nat)) = chZ (0 + m) z
    rw [ch_0]; simp
  | succ n ih =>
    intro z
    rw [rsum_front]
    have e : ∀ s, ch (n + 1) (s + 1) * chZ m (z - (s + 1 : Nat)) = ch n s * chZ m ((z - 1) - s) + ch n (s + 1) * chZ m (z - (s + 1 : Nat)) := fun s => by
      show (ch n s + ch n (s + 1)) * chZ m (z - (s + 1 : Nat)) = _
      rw [Nat.add_mul, show z - ((s + 1 : Nat) : Int) = (z - 1) - s by omega]
    rw [rsum_cong (fun s _ => e s), rsum_add, ih (z - 1)]
    have h2 := rsum_front (fun s => ch n s * chZ m (z - s)) (n + 1)
    have h3 : rsum (fun s => ch n s * chZ m (z - s)) (n + 1 + 1) = rsum (fun s => ch n s * chZ m (z - s)) (n + 1) := by
      show _ + ch n (n + 1) * _ = _
      rw [ch_big (Nat.lt_succ_self n)]; omega
    rw [h3, ih z] at h2
    rw [show n + 1 + m = (n + m) + 1 by omega, chZ_succ, h2, ch_0, ch_0]
    simp only [Int.ofNat_zero] at *
    have e0 : ((0 : Nat) : Int) = 0 := rfl
    rw [e0] at *
    omega
theorem lN_m (a b : Nat) : lN a * lN b = lN (a * b) := lN_mul a b
theorem lN_a (a b : Nat) : lN a + lN b = lN (a + b) := lN_add a b
theorem lN_0 : (0 : Int64) = lN 0 := rfl
theorem lN_1' : (1 : Int64) = lN 1 := rfl
/-- every binomial of at most 60 fits a long -/
theorem ch_sym_mono : ∀ n : Nat, n ≤ 60 → ∀ k, k ≤ n → 0 < ch n k ∧ 60 * ch n k < 9223372036854775808 := by decide +kernel
theorem ch_lt {n k : Nat} (hn : n ≤ 60) : 60 * ch n k < 9223372036854775808 := by
  rcases Nat.lt_or_ge n k with q | q
  · rw [ch_big q]; decide
  · exact (ch_sym_mono n hn k q).2
theorem ch_pos {n k : Nat} (hn : n ≤ 60) (hk : k ≤ n) : 0 < ch n k := (ch_sym_mono n hn k hk).1
/-- the orders in which the first n of lot items have fewer than c defective ones, of d in all -/
def hs (n lot d : Nat) (c : Nat) : Nat := rsum (fun s => ch n s * chZ (lot - n) ((d : Int) - s)) c
theorem hs_le {n lot d c : Nat} (hn : n ≤ lot) : hs n lot d c ≤ ch lot d := by
  have h := vand n (lot - n) (d : Int)
  rw [show n + (lot - n) = lot by omega, chZ_nat] at h
  rw [← h]
  unfold hs
  rcases Nat.lt_or_ge c (n + 1) with q | q
  · exact rsum_mono _ (by omega)
  · rw [rsum_tail q (fun k h1 _ => by rw [ch_big (by omega)]; omega)]; exact Nat.le_refl _
-- rounding
def inn (d r : Nat) : Nat → Nat × Nat
  | 0 => (0, 0)
  | i + 1 => if d - r ≤ (inn d r i).1 then ((inn d r i).1 - (d - r), (inn d r i).2 + 1) else ((inn d r i).1 + r, (inn d r i).2)
theorem inn_lt {d r : Nat} (h : r < d) (i : Nat) : (inn d r i).1 < d ∧ (inn d r i).2 ≤ i := by
  induction i with
  | zero => exact ⟨by show 0 < d; omega, Nat.le_refl 0⟩
  | succ i ih =>
    unfold inn
    split
    · exact ⟨by show _ - _ < d; omega, by show _ + 1 ≤ _; omega⟩
    · exact ⟨by show _ + _ < d; omega, by show _ ≤ _; omega⟩
def rnd (u d : Nat) : Nat → Nat × Nat
  | 0 => (u / d, u % d)
  | k + 1 => (10 * (rnd u d k).1 + (inn d (rnd u d k).2 10).2, (inn d (rnd u d k).2 10).1)
theorem rnd_lt {u d : Nat} (h : 0 < d) (hu : u ≤ 60 * d) (k : Nat) : (rnd u d k).2 < d ∧ (rnd u d k).1 + 10 ≤ 100 * 10 ^ k := by
  induction k with
  | zero =>
    refine ⟨Nat.mod_lt _ h, ?_⟩
    show u / d + 10 ≤ 100 * 10 ^ 0
    have : u / d ≤ 60 := Nat.div_le_of_le_mul (by rw [Nat.mul_comm]; exact hu)
    omega
  | succ k ih =>
    have h1 := inn_lt ih.1 10
    refine ⟨h1.1, ?_⟩
    show 10 * _ + _ + 10 ≤ 100 * 10 ^ (k + 1)
    rw [Nat.pow_succ]
    omega
def rndV (u d k : Nat) : Nat := if d - (rnd u d k).2 < (rnd u d k).2 ∨ ((rnd u d k).2 = d - (rnd u d k).2 ∧ (rnd u d k).1 % 2 = 1) then (rnd u d k).1 + 1 else (rnd u d k).1
theorem pw6 {k : Nat} (h : k ≤ 6) : 10 ^ k ≤ 1000000 := Nat.pow_le_pow_right (by decide) h
theorem lN_s {a b : Nat} (h : b ≤ a) : lN a - lN b = lN (a - b) := lN_sub h
theorem lN_lt' {a b : Nat} (ha : a < 9223372036854775808) (hb : b < 9223372036854775808) : lN a < lN b ↔ a < b := pk_lLT ha hb
theorem lN_eq' {a b : Nat} (ha : a < 9223372036854775808) (hb : b < 9223372036854775808) : lN a = lN b ↔ a = b := pk_lEQ ha hb
theorem lN_div {a b : Nat} (ha : a < 9223372036854775808) (h0 : 0 < b) (hb : b < 9223372036854775808) : lN a / lN b = lN (a / b) := pk_lDiv ha h0 hb
theorem lN_rem {a b : Nat} (ha : a < 9223372036854775808) (h0 : 0 < b) (hb : b < 9223372036854775808) : lN a - lN a / lN b * lN b = lN (a % b) := pk_lRem ha h0 hb
theorem lN_n0 {b : Nat} (h0 : 0 < b) (hb : b < 9223372036854775808) : ¬ lN b = 0 := fun q => by
  rw [lN_0, lN_eq' hb (by decide)] at q; omega
theorem sg_split {x y z w : Nat} : sg3 (x * y) (z * w) = (if x / 1000000000 * y + x % 1000000000 * y / 1000000000 ≠ z / 1000000000 * w + z % 1000000000 * w / 1000000000 then (if x / 1000000000 * y + x % 1000000000 * y / 1000000000 < z / 1000000000 * w + z % 1000000000 * w / 1000000000 then -1 else 1) else if x % 1000000000 * y % 1000000000 < z % 1000000000 * w % 1000000000 then -1 else if z % 1000000000 * w % 1000000000 < x % 1000000000 * y % 1000000000 then 1 else 0) := by
  have e : ∀ a b : Nat, a * b = 1000000000 * (a / 1000000000 * b + a % 1000000000 * b / 1000000000) + a % 1000000000 * b % 1000000000 := fun a b => by
    have h1 := Nat.div_add_mod a 1000000000
    have h2 := Nat.div_add_mod (a % 1000000000 * b) 1000000000
    have h3 : a * b = 1000000000 * (a / 1000000000 * b) + a % 1000000000 * b := by
      rw [← Nat.mul_assoc, ← Nat.add_mul, h1]
    omega
  have l1 : x % 1000000000 * y % 1000000000 < 1000000000 := Nat.mod_lt _ (by decide)
  have l2 : z % 1000000000 * w % 1000000000 < 1000000000 := Nat.mod_lt _ (by decide)
  have e1 := e x y
  have e2 := e z w
  generalize x / 1000000000 * y + x % 1000000000 * y / 1000000000 = A at *
  generalize z / 1000000000 * w + z % 1000000000 * w / 1000000000 = D at *
  generalize x % 1000000000 * y % 1000000000 = p at *
  generalize z % 1000000000 * w % 1000000000 = q at *
  unfold sg3
  rw [e1, e2]
  by_cases h : A = D
  · subst h
    simp only [ne_eq, not_true, if_false]
    by_cases h1 : p < q
    · rw [if_pos h1, if_pos (by omega)]
    · rw [if_neg h1, if_neg (by omega)]
      by_cases h2 : q < p
      · rw [if_pos h2, if_pos (by omega)]
      · rw [if_neg h2, if_neg (by omega)]
  · rw [if_pos h]
    by_cases h1 : A < D
    · rw [if_pos h1, if_pos (by omega)]
    · rw [if_neg h1, if_neg (by omega), if_pos (by omega)]
/-- what a part at hand is -/
def WfQ (σ : gS) (u d : Nat) : Prop := σ.2 0 0 7 = lN u ∧ σ.2 0 0 8 = lN d ∧ 0 < d ∧ d < 9223372036854775808 ∧ u < 9223372036854775808 ∧ u ≤ 60 * d
end
section
set_option maxHeartbeats 4000000 in
set_option maxRecDepth 100000 in
theorem c_X7_common (l : Launch) (G : gG) (B : gB) (σ : gS) (x y : Nat) (h1 : x < 9223372036854775808) (h2 : y < 9223372036854775808) : Met l yX7_common [.code yX7_common cX7_common 10 (some .long)] ({ frames := 0, cells := 0, slots := 0, locals := 0 } : Room) (mPc G B σ [.long (lN x), .long (lN y)]) (mQl G B (fun r σ' => r = lN (Nat.gcd x y) ∧ σ' = σ)) 0 0 (mA G) := by
  refine m_start (by decide) (Nat.le_of_ble_eq_true rfl) ?_
  intro p e s m below meth c ⟨hx, hb, hr, hml, hown, hK, hlk, hz⟩ hH hS ls hl
  have hl : lv_has ls 10 [(0, .long (lN x)), (2, .long (lN y))] := hl
  have loop : ∀ (n : Nat) (u v : Nat), Nat.gcd u v = Nat.gcd x y ∧ u < 9223372036854775808 ∧ v < 9223372036854775808 ∧ v < n → ∀ (ls : Array Slot), lv_has ls 10 [(0, .long (lN x)), (2, .long (lN y)), (4, .long (lN u)), (6, .long (lN v))] → W p l e ({ frames := 0, cells := 0, slots := 0, locals := 0 } : Room) s m ([.long (lN x), .long (lN y)] : List Value).toArray below meth c s.heap [] 0 0 (MQ below (mQl G B (fun r σ' => r = lN (Nat.gcd x y) ∧ σ' = σ)) ([.long (lN x), .long (lN y)] : List Value).toArray s 0 0 (mA G)) (F0 m 6 ls []) := by
    intro n
    induction n with
    | zero => intro u v hh; exfalso; omega
    | succ n ih =>
      intro u v hh ls hl
      refine lv_lload hx hb dX7_common_6 (lv_at hl 3 rfl) ?_
      refine lv_lconst (v := lN 0) hx hb dX7_common_8 rfl ?_
      refine m_lc_eqN (tgt := 31) (by omega) (by omega) hx hb dX7_common_9 dX7_common_10 (by decide) (fun c_9 => ?_) (fun c_9 => ?_)
      · refine lv_lload hx hb dX7_common_31 (lv_at hl 2 rfl) ?_
        exact m_lret hx hb hr hlk hH hS dX7_common_33 (⟨by rw [← hh.1, c_9, Nat.gcd_zero_right], rfl⟩)
      · refine lv_lload hx hb dX7_common_13 (lv_at hl 2 rfl) ?_
        refine lv_lload hx hb dX7_common_15 (lv_at hl 3 rfl) ?_
        refine m_lremN (by omega) (by omega) (by omega) hx hb dX7_common_17 ?_
        refine lv_lstore (lv' := [(8, .long (lN (u % v))), (0, .long (lN x)), (2, .long (lN y)), (4, .long (lN u)), (6, .long (lN v))]) hx hb dX7_common_18 hl (by decide) rfl (fun ls hl => ?_)
        refine lv_lload hx hb dX7_common_20 (lv_at hl 4 rfl) ?_
        refine lv_lstore (lv' := [(4, .long (lN v)), (8, .long (lN (u % v))), (0, .long (lN x)), (2, .long (lN y)), (6, .long (lN v))]) hx hb dX7_common_22 hl (by decide) rfl (fun ls hl => ?_)
        refine lv_lload hx hb dX7_common_24 (lv_at hl 1 rfl) ?_
        refine lv_lstore (lv' := [(6, .long (lN (u % v))), (4, .long (lN v)), (8, .long (lN (u % v))), (0, .long (lN x)), (2, .long (lN y))]) hx hb dX7_common_26 hl (by decide) rfl (fun ls hl => ?_)
        refine lv_goto (tgt := 6) hx hb dX7_common_28 (by decide) ?_
        exact ih v (u % v) (by have := Nat.mod_lt u (show 0 < v by omega); refine ⟨?_, by omega, by omega, by omega⟩; rw [← hh.1, Nat.gcd_comm v, ← Nat.gcd_rec, Nat.gcd_comm]) ls (lv_sub hl [3, 4, 1, 0] rfl)
  refine lv_lload_n hx hb dX7_common_0 rfl (lv_at hl 0 rfl) ?_
  refine lv_lstore (lv' := [(4, .long (lN x)), (0, .long (lN x)), (2, .long (lN y))]) hx hb dX7_common_1 hl (by decide) rfl (fun ls hl => ?_)
  refine lv_lload_n hx hb dX7_common_3 rfl (lv_at hl 2 rfl) ?_
  refine lv_lstore (lv' := [(6, .long (lN y)), (4, .long (lN x)), (0, .long (lN x)), (2, .long (lN y))]) hx hb dX7_common_4 hl (by decide) rfl (fun ls hl => ?_)
  exact loop (y + 1) x y ⟨rfl, h1, h2, by omega⟩ ls (lv_sub hl [2, 3, 1, 0] rfl)
set_option maxHeartbeats 4000000 in
set_option maxRecDepth 100000 in
theorem c_X7_against (l : Launch) (G : gG) (B : gB) (σ : gS) (x y z w : Nat) (h1 : x < 9223372036854775808) (h2 : z < 9223372036854775808) (hy : y ≤ 1000) (hw : w ≤ 1000) : Met l yX7_against [.code yX7_against cX7_against 18 (some .int)] ({ frames := 0, cells := 0, slots := 0, locals := 0 } : Room) (mPc G B σ [.long (lN x), .int (nI y), .long (lN z), .int (nI w)]) (mQi G B (fun r σ' => r = sg3 (x * y) (z * w) ∧ σ' = σ)) 0 0 (mA G) := by
  refine m_start (by decide) (Nat.le_of_ble_eq_true rfl) ?_
  intro p e s m below meth c ⟨hx, hb, hr, hml, hown, hK, hlk, hz⟩ hH hS ls hl
  have hl : lv_has ls 18 [(0, .long (lN x)), (2, .int (nI y)), (3, .long (lN z)), (5, .int (nI w))] := hl
  have b1 : x % 1000000000 * y ≤ 1000000000 * 1000 := Nat.mul_le_mul (by have := Nat.mod_lt x (show 0 < 1000000000 by decide); omega) hy
  have b2 : z % 1000000000 * w ≤ 1000000000 * 1000 := Nat.mul_le_mul (by have := Nat.mod_lt z (show 0 < 1000000000 by decide); omega) hw
  have b3 : x / 1000000000 * y ≤ 9223372037 * 1000 := Nat.mul_le_mul (by omega) hy
  have b4 : z / 1000000000 * w ≤ 9223372037 * 1000 := Nat.mul_le_mul (by omega) hw
  have b5 : x % 1000000000 * y / 1000000000 ≤ x % 1000000000 * y := Nat.div_le_self _ _
  have b6 : z % 1000000000 * w / 1000000000 ≤ z % 1000000000 * w := Nat.div_le_self _ _
  have b7 := Nat.mod_lt (x % 1000000000 * y) (show 0 < 1000000000 by decide)
  have b8 := Nat.mod_lt (z % 1000000000 * w) (show 0 < 1000000000 by decide)
  refine lv_lload_n hx hb dX7_against_0 rfl (lv_at hl 0 rfl) ?_
  refine lv_ldc2 hx hb hown (hK.2 _ wc_X7_156 rfl _) dX7_against_1 ?_
  refine m_toj (lN 1000000000) rfl ?_
  refine m_lremN (by omega) (by omega) (by omega) hx hb dX7_against_4 ?_
  refine lv_iload_n hx hb dX7_against_5 rfl (lv_at hl 1 rfl) ?_
  refine m_i2lN (by omega) hx hb dX7_against_6 ?_
  refine m_lmulN hx hb dX7_against_7 ?_
  refine lv_lstore (lv' := [(6, .long (lN ((x % 1000000000) * y))), (0, .long (lN x)), (2, .int (nI y)), (3, .long (lN z)), (5, .int (nI w))]) hx hb dX7_against_8 hl (by decide) rfl (fun ls hl => ?_)
  refine lv_lload_n hx hb dX7_against_10 rfl (lv_at hl 1 rfl) ?_
  refine lv_ldc2 hx hb hown (hK.2 _ wc_X7_156 rfl _) dX7_against_11 ?_
  refine m_toj (lN 1000000000) rfl ?_
  refine m_ldivN (by omega) (by omega) (by omega) hx hb dX7_against_14 ?_
  refine lv_iload_n hx hb dX7_against_15 rfl (lv_at hl 2 rfl) ?_
  refine m_i2lN (by omega) hx hb dX7_against_16 ?_
  refine m_lmulN hx hb dX7_against_17 ?_
  refine lv_lload hx hb dX7_against_18 (lv_at hl 0 rfl) ?_
  refine lv_ldc2 hx hb hown (hK.2 _ wc_X7_156 rfl _) dX7_against_20 ?_
  refine m_toj (lN 1000000000) rfl ?_
  refine m_ldivN (by omega) (by omega) (by omega) hx hb dX7_against_23 ?_
  refine m_laddN hx hb dX7_against_24 ?_
  refine lv_lstore (lv' := [(8, .long (lN (((x / 1000000000) * y) + (((x % 1000000000) * y) / 1000000000)))), (6, .long (lN ((x % 1000000000) * y))), (0, .long (lN x)), (2, .int (nI y)), (3, .long (lN z)), (5, .int (nI w))]) hx hb dX7_against_25 hl (by decide) rfl (fun ls hl => ?_)
  refine lv_lload_n hx hb dX7_against_27 rfl (lv_at hl 4 rfl) ?_
  refine lv_ldc2 hx hb hown (hK.2 _ wc_X7_156 rfl _) dX7_against_28 ?_
  refine m_toj (lN 1000000000) rfl ?_
  refine m_lremN (by omega) (by omega) (by omega) hx hb dX7_against_31 ?_
  refine lv_iload hx hb dX7_against_32 (lv_at hl 5 rfl) ?_
  refine m_i2lN (by omega) hx hb dX7_against_34 ?_
  refine m_lmulN hx hb dX7_against_35 ?_
  refine lv_lstore (lv' := [(10, .long (lN ((z % 1000000000) * w))), (8, .long (lN (((x / 1000000000) * y) + (((x % 1000000000) * y) / 1000000000)))), (6, .long (lN ((x % 1000000000) * y))), (0, .long (lN x)), (2, .int (nI y)), (3, .long (lN z)), (5, .int (nI w))]) hx hb dX7_against_36 hl (by decide) rfl (fun ls hl => ?_)
  refine lv_lload_n hx hb dX7_against_38 rfl (lv_at hl 5 rfl) ?_
  refine lv_ldc2 hx hb hown (hK.2 _ wc_X7_156 rfl _) dX7_against_39 ?_
  refine m_toj (lN 1000000000) rfl ?_
  refine m_ldivN (by omega) (by omega) (by omega) hx hb dX7_against_42 ?_
  refine lv_iload hx hb dX7_against_43 (lv_at hl 6 rfl) ?_
  refine m_i2lN (by omega) hx hb dX7_against_45 ?_
  refine m_lmulN hx hb dX7_against_46 ?_
  refine lv_lload hx hb dX7_against_47 (lv_at hl 0 rfl) ?_
  refine lv_ldc2 hx hb hown (hK.2 _ wc_X7_156 rfl _) dX7_against_49 ?_
  refine m_toj (lN 1000000000) rfl ?_
  refine m_ldivN (by omega) (by omega) (by omega) hx hb dX7_against_52 ?_
  refine m_laddN hx hb dX7_against_53 ?_
  refine lv_lstore (lv' := [(12, .long (lN (((z / 1000000000) * w) + (((z % 1000000000) * w) / 1000000000)))), (10, .long (lN ((z % 1000000000) * w))), (8, .long (lN (((x / 1000000000) * y) + (((x % 1000000000) * y) / 1000000000)))), (6, .long (lN ((x % 1000000000) * y))), (0, .long (lN x)), (2, .int (nI y)), (3, .long (lN z)), (5, .int (nI w))]) hx hb dX7_against_54 hl (by decide) rfl (fun ls hl => ?_)
  refine lv_lload hx hb dX7_against_56 (lv_at hl 2 rfl) ?_
  refine lv_lload hx hb dX7_against_58 (lv_at hl 0 rfl) ?_
  refine m_lc_eqN (tgt := 78) (by omega) (by omega) hx hb dX7_against_60 dX7_against_61 (by decide) (fun c_60 => ?_) (fun c_60 => ?_)
  · refine lv_lload hx hb dX7_against_78 (lv_at hl 3 rfl) ?_
    refine lv_ldc2 hx hb hown (hK.2 _ wc_X7_156 rfl _) dX7_against_80 ?_
    refine m_toj (lN 1000000000) rfl ?_
    refine m_lremN (by omega) (by omega) (by omega) hx hb dX7_against_83 ?_
    refine lv_lstore (lv' := [(14, .long (lN (((x % 1000000000) * y) % 1000000000))), (12, .long (lN (((z / 1000000000) * w) + (((z % 1000000000) * w) / 1000000000)))), (10, .long (lN ((z % 1000000000) * w))), (8, .long (lN (((x / 1000000000) * y) + (((x % 1000000000) * y) / 1000000000)))), (6, .long (lN ((x % 1000000000) * y))), (0, .long (lN x)), (2, .int (nI y)), (3, .long (lN z)), (5, .int (nI w))]) hx hb dX7_against_84 hl (by decide) rfl (fun ls hl => ?_)
    refine lv_lload hx hb dX7_against_86 (lv_at hl 2 rfl) ?_
    refine lv_ldc2 hx hb hown (hK.2 _ wc_X7_156 rfl _) dX7_against_88 ?_
    refine m_toj (lN 1000000000) rfl ?_
    refine m_lremN (by omega) (by omega) (by omega) hx hb dX7_against_91 ?_
    refine lv_lstore (lv' := [(16, .long (lN (((z % 1000000000) * w) % 1000000000))), (14, .long (lN (((x % 1000000000) * y) % 1000000000))), (12, .long (lN (((z / 1000000000) * w) + (((z % 1000000000) * w) / 1000000000)))), (10, .long (lN ((z % 1000000000) * w))), (8, .long (lN (((x / 1000000000) * y) + (((x % 1000000000) * y) / 1000000000)))), (6, .long (lN ((x % 1000000000) * y))), (0, .long (lN x)), (2, .int (nI y)), (3, .long (lN z)), (5, .int (nI w))]) hx hb dX7_against_92 hl (by decide) rfl (fun ls hl => ?_)
    refine lv_lload hx hb dX7_against_94 (lv_at hl 1 rfl) ?_
    refine lv_lload hx hb dX7_against_96 (lv_at hl 0 rfl) ?_
    refine m_lc_geN (tgt := 106) (by omega) (by omega) hx hb dX7_against_98 dX7_against_99 (by decide) (fun c_98 => ?_) (fun c_98 => ?_)
    · refine lv_lload hx hb dX7_against_106 (lv_at hl 1 rfl) ?_
      refine lv_lload hx hb dX7_against_108 (lv_at hl 0 rfl) ?_
      refine m_lc_leN (tgt := 118) (by omega) (by omega) hx hb dX7_against_110 dX7_against_111 (by decide) (fun c_110 => ?_) (fun c_110 => ?_)
      · refine lv_iconst (v := nI 0) hx hb dX7_against_118 (by decide) ?_
        exact m_iret hx hb hr hlk hH hS dX7_against_119 (⟨by rw [sg_split, if_neg (by omega)]; first | (rw [if_pos c_98]; done) | (rw [if_neg (by omega), if_pos c_110]; rfl) | (rw [if_neg (by omega), if_neg (by omega)]; rfl), rfl⟩)
      · refine lv_iconst (v := nI 1) hx hb dX7_against_114 (by decide) ?_
        refine lv_goto (tgt := 119) hx hb dX7_against_115 (by decide) ?_
        exact m_iret hx hb hr hlk hH hS dX7_against_119 (⟨by rw [sg_split, if_neg (by omega)]; first | (rw [if_pos c_98]; done) | (rw [if_neg (by omega), if_pos c_110]; rfl) | (rw [if_neg (by omega), if_neg (by omega)]; rfl), rfl⟩)
    · refine lv_iconst (v := (-1)) hx hb dX7_against_102 (by decide) ?_
      refine lv_goto (tgt := 119) hx hb dX7_against_103 (by decide) ?_
      exact m_iret hx hb hr hlk hH hS dX7_against_119 (⟨by rw [sg_split, if_neg (by omega)]; first | (rw [if_pos c_98]; done) | (rw [if_neg (by omega), if_pos c_110]; rfl) | (rw [if_neg (by omega), if_neg (by omega)]; rfl), rfl⟩)
  · refine lv_lload hx hb dX7_against_64 (lv_at hl 2 rfl) ?_
    refine lv_lload hx hb dX7_against_66 (lv_at hl 0 rfl) ?_
    refine m_lc_geN (tgt := 76) (by omega) (by omega) hx hb dX7_against_68 dX7_against_69 (by decide) (fun c_68 => ?_) (fun c_68 => ?_)
    · refine lv_iconst (v := nI 1) hx hb dX7_against_76 (by decide) ?_
      exact m_iret hx hb hr hlk hH hS dX7_against_77 (⟨by rw [sg_split, if_pos c_60]; first | rw [if_pos c_68] | rw [if_neg (by omega)]; rfl, rfl⟩)
    · refine lv_iconst (v := (-1)) hx hb dX7_against_72 (by decide) ?_
      refine lv_goto (tgt := 77) hx hb dX7_against_73 (by decide) ?_
      exact m_iret hx hb hr hlk hH hS dX7_against_77 (⟨by rw [sg_split, if_pos c_60]; first | rw [if_pos c_68] | rw [if_neg (by omega)]; rfl, rfl⟩)
set_option maxHeartbeats 4000000 in
set_option maxRecDepth 100000 in
theorem c_X7_rounded (l : Launch) (G : gG) (B : gB) (σ : gS) (hM : BkM B) (k : Int32) (u d : Nat) (hQ : WfQ σ u d) : Met l yX7_rounded [.code yX7_rounded cX7_rounded 11 (some .long)] ({ frames := 1, cells := 0, slots := 0, locals := 22 } : Room) (mPc G B σ [.ref (B.1 0 0), .int (k)]) (mQl G B (fun r σ' => r = (if 0 ≤ k.toInt ∧ k.toInt ≤ 6 then lN (rndV u d k.toNatClampNeg) else -2) ∧ σ' = σ)) 0 0 (mA G) := by
  refine m_start (by decide) (Nat.le_of_ble_eq_true rfl) ?_
  intro p e s m below meth c ⟨hx, hb, hr, hml, hown, hK, hlk, hz⟩ hH hS ls hl
  have hl : lv_has ls 11 [(0, .ref (B.1 0 0)), (1, .int (k))] := hl
  refine lv_iload_n hx hb dX7_rounded_0 rfl (lv_at hl 1 rfl) ?_
  refine lv_iconst (v := nI 0) hx hb dX7_rounded_1 (by decide) ?_
  refine lv_bipush (v := nI 6) hx hb dX7_rounded_2 (by decide) ?_
  refine m_ki (m_runS ⟨hx, hb, hml, hown, hz⟩ hK hH hS (c_X7_in l G B σ k (nI 0) (nI 6)) mw_X7_in wl_X7_95 ⟨rfl, rfl⟩ ⟨by decide, by decide⟩ rfl hl.1 rfl (Nat.le_of_ble_eq_true rfl) dX7_rounded_4 ⟨Nat.zero_le _, Nat.zero_le _⟩) hS (fun r_4 σ_4 H locs hp hH hS => ?_)
  obtain ⟨hr1, hs1⟩ := hp
  subst hr1
  rw [hs1] at hH
  refine m_ifneB (tgt := 14) hx hb dX7_rounded_7 (by decide) (fun c_7 => ?_) (fun c_7 => ?_)
  · have h6 := inR_t c_7; rw [n0I, n6I] at h6
    obtain ⟨k1, k2⟩ := i_nat h6.1
    obtain ⟨q, hq⟩ : ∃ q : Nat, q = k.toInt.toNat := ⟨_, rfl⟩
    rw [← hq] at k1 k2
    have hq6 : q ≤ 6 := by omega
    clear c_7 hq k2 h6
    subst k1
    have hd := hQ.2.2.1
    have hd2 := hQ.2.2.2.1
    have hu2 := hQ.2.2.2.2.1
    refine lv_aload_n hx hb dX7_rounded_14 rfl (lv_at hl 0 rfl) ?_
    refine gf_X7_139 hx hb hown hK hH (bm hM 0) dX7_rounded_15 ?_
    refine m_toj (lN (u)) (hQ.1) ?_
    refine lv_aload_n hx hb dX7_rounded_18 rfl (lv_at hl 0 rfl) ?_
    refine gf_X7_22 hx hb hown hK hH (bm hM 0) dX7_rounded_19 ?_
    refine m_toj (lN (d)) (hQ.2.1) ?_
    refine m_ldivN (hQ.2.2.2.2.1) (hQ.2.2.1) (hQ.2.2.2.1) hx hb dX7_rounded_22 ?_
    refine lv_lstore_n (lv' := [(2, .long (lN (u / d))), (0, .ref (B.1 0 0)), (1, .int (nI q))]) hx hb dX7_rounded_23 rfl hl (by decide) rfl (fun ls hl => ?_)
    refine lv_aload_n hx hb dX7_rounded_24 rfl (lv_at hl 1 rfl) ?_
    refine gf_X7_139 hx hb hown hK hH (bm hM 0) dX7_rounded_25 ?_
    refine m_toj (lN (u)) (hQ.1) ?_
    refine lv_aload_n hx hb dX7_rounded_28 rfl (lv_at hl 1 rfl) ?_
    refine gf_X7_22 hx hb hown hK hH (bm hM 0) dX7_rounded_29 ?_
    refine m_toj (lN (d)) (hQ.2.1) ?_
    refine m_lremN (hQ.2.2.2.2.1) (hQ.2.2.1) (hQ.2.2.2.1) hx hb dX7_rounded_32 ?_
    refine lv_lstore (lv' := [(4, .long (lN (u % d))), (2, .long (lN (u / d))), (0, .ref (B.1 0 0)), (1, .int (nI q))]) hx hb dX7_rounded_33 hl (by decide) rfl (fun ls hl => ?_)
    refine lv_iconst (v := nI 0) hx hb dX7_rounded_35 (by decide) ?_
    refine lv_istore (lv' := [(6, .int (nI 0)), (4, .long (lN (u % d))), (2, .long (lN (u / d))), (0, .ref (B.1 0 0)), (1, .int (nI q))]) hx hb dX7_rounded_36 hl (by decide) rfl (fun ls hl => ?_)
    have loop : ∀ (n : Nat) (j : Nat), j ≤ q ∧ q < j + n → ∀ (ls : Array Slot), lv_has ls 11 [(0, .ref (B.1 0 0)), (1, .int (nI q)), (2, .long (lN ((rnd u d j).1))), (4, .long (lN ((rnd u d j).2))), (6, .int (nI j))] → W p l e ({ frames := 1, cells := 0, slots := 0, locals := 22 } : Room) s m ([.ref (B.1 0 0), .int (nI q)] : List Value).toArray below meth c H locs 0 0 (MQ below (mQl G B (fun r σ' => r = (if 0 ≤ (nI q).toInt ∧ (nI q).toInt ≤ 6 then lN (rndV u d (nI q).toNatClampNeg) else -2) ∧ σ' = σ)) ([.ref (B.1 0 0), .int (nI q)] : List Value).toArray s 0 0 (mA G)) (F0 m 38 ls []) := by
      intro n
      induction n with
      | zero => intro j hh; exfalso; omega
      | succ n ih =>
        intro j hh ls hl
        refine lv_iload hx hb dX7_rounded_38 (lv_at hl 4 rfl) ?_
        refine lv_iload_n hx hb dX7_rounded_40 rfl (lv_at hl 1 rfl) ?_
        refine m_icmp_geN (tgt := 124) (by omega) (by omega) hx hb dX7_rounded_41 (by decide) (fun c_41 => ?_) (fun c_41 => ?_)
        · have hjl := rnd_lt hd hQ.2.2.2.2.2 j
          have hj : j = q := by omega
          have hpw := pw6 (show j ≤ 6 by omega)
          refine lv_aload_n hx hb dX7_rounded_124 rfl (lv_at hl 0 rfl) ?_
          refine gf_X7_22 hx hb hown hK hH (bm hM 0) dX7_rounded_125 ?_
          refine m_toj (lN (d)) (hQ.2.1) ?_
          refine lv_lload hx hb dX7_rounded_128 (lv_at hl 3 rfl) ?_
          refine m_lsubN (by omega) hx hb dX7_rounded_130 ?_
          refine lv_lstore (lv' := [(6, .long (lN (d - ((rnd u d j).2)))), (0, .ref (B.1 0 0)), (1, .int (nI q)), (2, .long (lN ((rnd u d j).1))), (4, .long (lN ((rnd u d j).2)))]) hx hb dX7_rounded_131 hl (by decide) rfl (fun ls hl => ?_)
          refine lv_lload hx hb dX7_rounded_133 (lv_at hl 4 rfl) ?_
          refine lv_lload hx hb dX7_rounded_135 (lv_at hl 0 rfl) ?_
          refine m_lc_gtN (tgt := 159) (by omega) (by omega) hx hb dX7_rounded_137 dX7_rounded_138 (by decide) (fun c_137 => ?_) (fun c_137 => ?_)
          · refine lv_lload_n hx hb dX7_rounded_159 rfl (lv_at hl 3 rfl) ?_
            refine lv_lconst (v := lN 1) hx hb dX7_rounded_160 rfl ?_
            refine m_laddN hx hb dX7_rounded_161 ?_
            refine lv_goto (tgt := 166) hx hb dX7_rounded_162 (by decide) ?_
            exact m_lret hx hb hr hlk hH hS dX7_rounded_166 (⟨by rw [if_pos (show 0 ≤ (nI q).toInt ∧ (nI q).toInt ≤ 6 by rw [nI_I (by omega)]; omega), nI_clamp (by omega), ← hj]; unfold rndV; first | rw [if_pos (by omega)] | rw [if_neg (by omega)], rfl⟩)
          · refine lv_lload hx hb dX7_rounded_141 (lv_at hl 4 rfl) ?_
            refine lv_lload hx hb dX7_rounded_143 (lv_at hl 0 rfl) ?_
            refine m_lc_neN (tgt := 165) (by omega) (by omega) hx hb dX7_rounded_145 dX7_rounded_146 (by decide) (fun c_145 => ?_) (fun c_145 => ?_)
            · refine lv_lload_n hx hb dX7_rounded_165 rfl (lv_at hl 3 rfl) ?_
              exact m_lret hx hb hr hlk hH hS dX7_rounded_166 (⟨by rw [if_pos (show 0 ≤ (nI q).toInt ∧ (nI q).toInt ≤ 6 by rw [nI_I (by omega)]; omega), nI_clamp (by omega), ← hj]; unfold rndV; first | rw [if_pos (by omega)] | rw [if_neg (by omega)], rfl⟩)
            · refine lv_lload_n hx hb dX7_rounded_149 rfl (lv_at hl 3 rfl) ?_
              refine lv_ldc2 hx hb hown (hK.2 _ wc_X7_146 rfl _) dX7_rounded_150 ?_
              refine m_toj (lN 2) rfl ?_
              refine m_lremN (by omega) (by omega) (by omega) hx hb dX7_rounded_153 ?_
              refine lv_lconst (v := lN 1) hx hb dX7_rounded_154 rfl ?_
              refine m_lc_neN (tgt := 165) (by omega) (by omega) hx hb dX7_rounded_155 dX7_rounded_156 (by decide) (fun c_155 => ?_) (fun c_155 => ?_)
              · refine lv_lload_n hx hb dX7_rounded_165 rfl (lv_at hl 3 rfl) ?_
                exact m_lret hx hb hr hlk hH hS dX7_rounded_166 (⟨by rw [if_pos (show 0 ≤ (nI q).toInt ∧ (nI q).toInt ≤ 6 by rw [nI_I (by omega)]; omega), nI_clamp (by omega), ← hj]; unfold rndV; first | rw [if_pos (by omega)] | rw [if_neg (by omega)], rfl⟩)
              · refine lv_lload_n hx hb dX7_rounded_159 rfl (lv_at hl 3 rfl) ?_
                refine lv_lconst (v := lN 1) hx hb dX7_rounded_160 rfl ?_
                refine m_laddN hx hb dX7_rounded_161 ?_
                refine lv_goto (tgt := 166) hx hb dX7_rounded_162 (by decide) ?_
                exact m_lret hx hb hr hlk hH hS dX7_rounded_166 (⟨by rw [if_pos (show 0 ≤ (nI q).toInt ∧ (nI q).toInt ≤ 6 by rw [nI_I (by omega)]; omega), nI_clamp (by omega), ← hj]; unfold rndV; first | rw [if_pos (by omega)] | rw [if_neg (by omega)], rfl⟩)
        · have hjl := rnd_lt hd hQ.2.2.2.2.2 j
          refine lv_lconst (v := lN 0) hx hb dX7_rounded_44 rfl ?_
          refine lv_lstore (lv' := [(7, .long (lN 0)), (0, .ref (B.1 0 0)), (1, .int (nI q)), (2, .long (lN ((rnd u d j).1))), (4, .long (lN ((rnd u d j).2))), (6, .int (nI j))]) hx hb dX7_rounded_45 hl (by decide) rfl (fun ls hl => ?_)
          refine lv_iconst (v := nI 0) hx hb dX7_rounded_47 (by decide) ?_
          refine lv_istore (lv' := [(9, .int (nI 0)), (7, .long (lN 0)), (0, .ref (B.1 0 0)), (1, .int (nI q)), (2, .long (lN ((rnd u d j).1))), (4, .long (lN ((rnd u d j).2))), (6, .int (nI j))]) hx hb dX7_rounded_48 hl (by decide) rfl (fun ls hl => ?_)
          refine lv_iconst (v := nI 0) hx hb dX7_rounded_50 (by decide) ?_
          refine lv_istore (lv' := [(10, .int (nI 0)), (9, .int (nI 0)), (7, .long (lN 0)), (0, .ref (B.1 0 0)), (1, .int (nI q)), (2, .long (lN ((rnd u d j).1))), (4, .long (lN ((rnd u d j).2))), (6, .int (nI j))]) hx hb dX7_rounded_51 hl (by decide) rfl (fun ls hl => ?_)
          have loopi : ∀ (n2 : Nat) (i : Nat), i ≤ 10 ∧ 10 < i + n2 → ∀ (ls : Array Slot), lv_has ls 11 [(0, .ref (B.1 0 0)), (1, .int (nI q)), (2, .long (lN ((rnd u d j).1))), (4, .long (lN ((rnd u d j).2))), (6, .int (nI j)), (7, .long (lN ((inn d (rnd u d j).2 i).1))), (9, .int (nI ((inn d (rnd u d j).2 i).2))), (10, .int (nI i))] → W p l e ({ frames := 1, cells := 0, slots := 0, locals := 22 } : Room) s m ([.ref (B.1 0 0), .int (nI q)] : List Value).toArray below meth c H locs 0 0 (MQ below (mQl G B (fun r σ' => r = (if 0 ≤ (nI q).toInt ∧ (nI q).toInt ≤ 6 then lN (rndV u d (nI q).toNatClampNeg) else -2) ∧ σ' = σ)) ([.ref (B.1 0 0), .int (nI q)] : List Value).toArray s 0 0 (mA G)) (F0 m 53 ls []) := by
            intro n2
            induction n2 with
            | zero => intro i hhi; exfalso; omega
            | succ n2 ihi =>
              intro i hhi ls hl
              refine lv_iload hx hb dX7_rounded_53 (lv_at hl 7 rfl) ?_
              refine lv_bipush (v := nI 10) hx hb dX7_rounded_55 (by decide) ?_
              refine m_icmp_geN (tgt := 104) (by omega) (by omega) hx hb dX7_rounded_57 (by decide) (fun c_57 => ?_) (fun c_57 => ?_)
              · have hil := inn_lt hjl.1 i
                refine lv_ldc2 hx hb hown (hK.2 _ wc_X7_144 rfl _) dX7_rounded_104 ?_
                refine m_toj (lN 10) rfl ?_
                refine lv_lload_n hx hb dX7_rounded_107 rfl (lv_at hl 2 rfl) ?_
                refine m_lmulN hx hb dX7_rounded_108 ?_
                refine lv_iload hx hb dX7_rounded_109 (lv_at hl 6 rfl) ?_
                refine m_i2lN (by omega) hx hb dX7_rounded_111 ?_
                refine m_laddN hx hb dX7_rounded_112 ?_
                refine lv_lstore_n (lv' := [(2, .long (lN ((10 * ((rnd u d j).1)) + ((inn d (rnd u d j).2 i).2)))), (0, .ref (B.1 0 0)), (1, .int (nI q)), (4, .long (lN ((rnd u d j).2))), (6, .int (nI j)), (7, .long (lN ((inn d (rnd u d j).2 i).1))), (9, .int (nI ((inn d (rnd u d j).2 i).2))), (10, .int (nI i))]) hx hb dX7_rounded_113 rfl hl (by decide) rfl (fun ls hl => ?_)
                refine lv_lload hx hb dX7_rounded_114 (lv_at hl 5 rfl) ?_
                refine lv_lstore (lv' := [(4, .long (lN ((inn d (rnd u d j).2 i).1))), (2, .long (lN ((10 * ((rnd u d j).1)) + ((inn d (rnd u d j).2 i).2)))), (0, .ref (B.1 0 0)), (1, .int (nI q)), (6, .int (nI j)), (7, .long (lN ((inn d (rnd u d j).2 i).1))), (9, .int (nI ((inn d (rnd u d j).2 i).2))), (10, .int (nI i))]) hx hb dX7_rounded_116 hl (by decide) rfl (fun ls hl => ?_)
                refine lv_iinc (v := nI (j + 1)) (lv' := [(6, .int (nI (j + 1))), (4, .long (lN ((inn d (rnd u d j).2 i).1))), (2, .long (lN ((10 * ((rnd u d j).1)) + ((inn d (rnd u d j).2 i).2)))), (0, .ref (B.1 0 0)), (1, .int (nI q)), (7, .long (lN ((inn d (rnd u d j).2 i).1))), (9, .int (nI ((inn d (rnd u d j).2 i).2))), (10, .int (nI i))]) hx hb dX7_rounded_118 hl (k := 4) rfl (nI_1 _) (by decide) rfl (fun ls hl => ?_)
                refine lv_goto (tgt := 38) hx hb dX7_rounded_121 (by decide) ?_
                have hi10 : i = 10 := by omega
                subst hi10
                exact ih (j + 1) (by omega) ls (lv_sub hl [3, 4, 2, 1, 0] rfl)
              · have hil := inn_lt hjl.1 i
                refine lv_lload hx hb dX7_rounded_60 (lv_at hl 5 rfl) ?_
                refine lv_aload_n hx hb dX7_rounded_62 rfl (lv_at hl 0 rfl) ?_
                refine gf_X7_22 hx hb hown hK hH (bm hM 0) dX7_rounded_63 ?_
                refine m_toj (lN (d)) (hQ.2.1) ?_
                refine lv_lload hx hb dX7_rounded_66 (lv_at hl 3 rfl) ?_
                refine m_lsubN (by omega) hx hb dX7_rounded_68 ?_
                refine m_lc_ltN (tgt := 91) (by omega) (by omega) hx hb dX7_rounded_69 dX7_rounded_70 (by decide) (fun c_69 => ?_) (fun c_69 => ?_)
                · refine lv_lload hx hb dX7_rounded_91 (lv_at hl 5 rfl) ?_
                  refine lv_lload hx hb dX7_rounded_93 (lv_at hl 3 rfl) ?_
                  refine m_laddN hx hb dX7_rounded_95 ?_
                  refine lv_lstore (lv' := [(7, .long (lN (((inn d (rnd u d j).2 i).1) + ((rnd u d j).2)))), (0, .ref (B.1 0 0)), (1, .int (nI q)), (2, .long (lN ((rnd u d j).1))), (4, .long (lN ((rnd u d j).2))), (6, .int (nI j)), (9, .int (nI ((inn d (rnd u d j).2 i).2))), (10, .int (nI i))]) hx hb dX7_rounded_96 hl (by decide) rfl (fun ls hl => ?_)
                  refine lv_iinc (v := nI (i + 1)) (lv' := [(10, .int (nI (i + 1))), (7, .long (lN (((inn d (rnd u d j).2 i).1) + ((rnd u d j).2)))), (0, .ref (B.1 0 0)), (1, .int (nI q)), (2, .long (lN ((rnd u d j).1))), (4, .long (lN ((rnd u d j).2))), (6, .int (nI j)), (9, .int (nI ((inn d (rnd u d j).2 i).2)))]) hx hb dX7_rounded_98 hl (k := 7) rfl (nI_1 _) (by decide) rfl (fun ls hl => ?_)
                  refine lv_goto (tgt := 53) hx hb dX7_rounded_101 (by decide) ?_
                  have hin : inn d (rnd u d j).2 (i + 1) = ((inn d (rnd u d j).2 i).1 + (rnd u d j).2, (inn d (rnd u d j).2 i).2) := by
                    show (if _ then _ else _) = _
                    rw [if_neg (by omega)]
                  exact ihi (i + 1) (by omega) ls (by rw [hin]; exact lv_sub hl [2, 3, 4, 5, 6, 1, 7, 0] rfl)
                · refine lv_lload hx hb dX7_rounded_73 (lv_at hl 5 rfl) ?_
                  refine lv_aload_n hx hb dX7_rounded_75 rfl (lv_at hl 0 rfl) ?_
                  refine gf_X7_22 hx hb hown hK hH (bm hM 0) dX7_rounded_76 ?_
                  refine m_toj (lN (d)) (hQ.2.1) ?_
                  refine lv_lload hx hb dX7_rounded_79 (lv_at hl 3 rfl) ?_
                  refine m_lsubN (by omega) hx hb dX7_rounded_81 ?_
                  refine m_lsubN (by omega) hx hb dX7_rounded_82 ?_
                  refine lv_lstore (lv' := [(7, .long (lN (((inn d (rnd u d j).2 i).1) - (d - ((rnd u d j).2))))), (0, .ref (B.1 0 0)), (1, .int (nI q)), (2, .long (lN ((rnd u d j).1))), (4, .long (lN ((rnd u d j).2))), (6, .int (nI j)), (9, .int (nI ((inn d (rnd u d j).2 i).2))), (10, .int (nI i))]) hx hb dX7_rounded_83 hl (by decide) rfl (fun ls hl => ?_)
                  refine lv_iinc (v := nI ((inn d (rnd u d j).2 i).2 + 1)) (lv' := [(9, .int (nI ((inn d (rnd u d j).2 i).2 + 1))), (7, .long (lN (((inn d (rnd u d j).2 i).1) - (d - ((rnd u d j).2))))), (0, .ref (B.1 0 0)), (1, .int (nI q)), (2, .long (lN ((rnd u d j).1))), (4, .long (lN ((rnd u d j).2))), (6, .int (nI j)), (10, .int (nI i))]) hx hb dX7_rounded_85 hl (k := 6) rfl (nI_1 _) (by decide) rfl (fun ls hl => ?_)
                  refine lv_goto (tgt := 98) hx hb dX7_rounded_88 (by decide) ?_
                  refine lv_iinc (v := nI (i + 1)) (lv' := [(10, .int (nI (i + 1))), (9, .int (nI ((inn d (rnd u d j).2 i).2 + 1))), (7, .long (lN (((inn d (rnd u d j).2 i).1) - (d - ((rnd u d j).2))))), (0, .ref (B.1 0 0)), (1, .int (nI q)), (2, .long (lN ((rnd u d j).1))), (4, .long (lN ((rnd u d j).2))), (6, .int (nI j))]) hx hb dX7_rounded_98 hl (k := 7) rfl (nI_1 _) (by decide) rfl (fun ls hl => ?_)
                  refine lv_goto (tgt := 53) hx hb dX7_rounded_101 (by decide) ?_
                  have hin : inn d (rnd u d j).2 (i + 1) = ((inn d (rnd u d j).2 i).1 - (d - (rnd u d j).2), (inn d (rnd u d j).2 i).2 + 1) := by
                    show (if _ then _ else _) = _
                    rw [if_pos (by omega)]
                  exact ihi (i + 1) (by omega) ls (by rw [hin]; exact lv_sub hl [3, 4, 5, 6, 7, 2, 1, 0] rfl)
          exact loopi 11 0 (by omega) ls (lv_sub hl [3, 4, 5, 6, 7, 2, 1, 0] rfl)
    exact loop (q + 1) 0 (by omega) ls (lv_sub hl [3, 4, 2, 1, 0] rfl)
  · refine lv_ldc2 hx hb hown (hK.2 _ wc_X7_142 rfl _) dX7_rounded_10 ?_
    exact m_lret hx hb hr hlk hH hS dX7_rounded_13 (⟨(if_neg (fun h => inR_f c_7 (by rw [n0I, n6I]; exact h))).symm, rfl⟩)
end
section
theorem sg3_l (a b : Nat) : sg3 a b < 0 ↔ a < b := by
  unfold sg3
  by_cases h : a < b
  · rw [if_pos h]; exact ⟨fun _ => h, fun _ => by decide⟩
  · rw [if_neg h]
    by_cases h2 : b < a
    · rw [if_pos h2]; exact ⟨fun q => absurd q (by decide), fun q => absurd q h⟩
    · rw [if_neg h2]; exact ⟨fun q => absurd q (by decide), fun q => absurd q h⟩
theorem sg3_g (a b : Nat) : 0 < sg3 a b ↔ b < a := by
  unfold sg3
  by_cases h : a < b
  · rw [if_pos h]; exact ⟨fun q => absurd q (by decide), fun q => by omega⟩
  · rw [if_neg h]
    by_cases h2 : b < a
    · rw [if_pos h2]; exact ⟨fun _ => h2, fun _ => by decide⟩
    · rw [if_neg h2]; exact ⟨fun q => absurd q (by decide), fun q => absurd q h2⟩
theorem i_subN {a b : Nat} (ha : a < 2147483648) (hb : b < 2147483648) : (nI a - nI b).toInt = (a : Int) - b := by
  rw [i_sub (by rw [nI_I ha, nI_I hb]; omega) (by rw [nI_I ha, nI_I hb]; omega), nI_I ha, nI_I hb]
/-- does a single plan hold for one RISK, for both -/
def hl1 (σ : gS) (nn cn lt r : Nat) : Bool := !(isRk σ r) || (if r = 0 then decide (ch lt (rAt σ r) * rUp σ r ≤ hs nn lt (rAt σ r) (cn + 1) * rDn σ r) else decide (hs nn lt (rAt σ r) (cn + 1) * rDn σ r ≤ ch lt (rAt σ r) * rUp σ r))
def hac (σ : gS) (nn cn lt : Nat) : Nat → Bool
  | 0 => true
  | r + 1 => hac σ nn cn lt r && hl1 σ nn cn lt r
def hld (σ : gS) (nn cn lt : Nat) : Bool := hac σ nn cn lt 2
theorem hac_off {σ : gS} {nn cn lt r : Nat} (h : isRk σ r = false) : hac σ nn cn lt (r + 1) = hac σ nn cn lt r := by
  show (hac σ nn cn lt r && hl1 σ nn cn lt r) = _
  unfold hl1
  rw [h]; simp
theorem hac_f {σ : gS} {nn cn lt r : Nat} (h : hac σ nn cn lt r = false) : nI 0 = bI (hac σ nn cn lt (r + 1)) := by
  show _ = bI (hac σ nn cn lt r && hl1 σ nn cn lt r)
  rw [h]; rfl
theorem hac_0 {σ : gS} {nn cn lt r : Nat} (h : hac σ nn cn lt r = true) (hk : isRk σ r = true) (hr : r = 0) : hac σ nn cn lt (r + 1) = decide (¬ sg3 (hs nn lt (rAt σ r) (cn + 1) * rDn σ r) (ch lt (rAt σ r) * rUp σ r) < 0) := by
  show (hac σ nn cn lt r && hl1 σ nn cn lt r) = _
  unfold hl1
  rw [h, hk, if_pos hr]
  simp only [sg3_l, Nat.not_lt]
  rfl
theorem hac_1 {σ : gS} {nn cn lt r : Nat} (h : hac σ nn cn lt r = true) (hk : isRk σ r = true) (hr : 0 < r) : hac σ nn cn lt (r + 1) = decide (¬ 0 < sg3 (hs nn lt (rAt σ r) (cn + 1) * rDn σ r) (ch lt (rAt σ r) * rUp σ r)) := by
  show (hac σ nn cn lt r && hl1 σ nn cn lt r) = _
  unfold hl1
  rw [h, hk, if_neg (by omega)]
  simp only [sg3_g, Nat.not_lt]
  rfl
set_option maxHeartbeats 4000000 in
set_option maxRecDepth 100000 in
theorem c_X7_holds (l : Launch) (G : gG) (B : gB) (σ : gS) (hM : BkM B) (hR : WfR σ) (hW : WfCh σ) (nn cn lt : Nat) (hnl : nn ≤ lt) (h60 : lt ≤ 60) (hcn : cn ≤ nn) : Met l yX7_holds [.code yX7_holds cX7_holds 10 (some .boolean)] ({ frames := 1, cells := 0, slots := 0, locals := 37 } : Room) (mPc G B σ [.ref (B.1 0 0), .int (nI nn), .int (nI cn), .int (nI lt)]) (mQi G B (fun r σ' => r = bI (hld σ nn cn lt) ∧ σ' = σ)) 0 0 (mA G) := by
  refine m_start (by decide) (Nat.le_of_ble_eq_true rfl) ?_
  intro p e s m below meth c ⟨hx, hb, hr, hml, hown, hK, hlk, hz⟩ hH hS ls hl
  have hl : lv_has ls 10 [(0, .ref (B.1 0 0)), (1, .int (nI nn)), (2, .int (nI cn)), (3, .int (nI lt))] := hl
  have loop : ∀ (n : Nat) (j : Nat), j ≤ 2 ∧ 2 < j + n → ∀ (H : Heap) (locs : List Loc), Hp G B σ H → va_S (mA G) s.heap H locs → ∀ (ls : Array Slot), lv_has ls 10 [(0, .ref (B.1 0 0)), (1, .int (nI nn)), (2, .int (nI cn)), (3, .int (nI lt)), (4, .int (bI (hac σ nn cn lt j))), (5, .int (nI j))] → W p l e ({ frames := 1, cells := 0, slots := 0, locals := 37 } : Room) s m ([.ref (B.1 0 0), .int (nI nn), .int (nI cn), .int (nI lt)] : List Value).toArray below meth c H locs 0 0 (MQ below (mQi G B (fun r σ' => r = bI (hld σ nn cn lt) ∧ σ' = σ)) ([.ref (B.1 0 0), .int (nI nn), .int (nI cn), .int (nI lt)] : List Value).toArray s 0 0 (mA G)) (F0 m 6 ls []) := by
    intro n
    induction n with
    | zero => intro j hh; exfalso; omega
    | succ n ih =>
      intro j hh H locs hH hS ls hl
      refine lv_iload hx hb dX7_holds_6 (lv_at hl 5 rfl) ?_
      refine lv_iconst (v := nI 2) hx hb dX7_holds_8 (by decide) ?_
      refine m_icmp_geN (tgt := 141) (by omega) (by omega) hx hb dX7_holds_9 (by decide) (fun c_9 => ?_) (fun c_9 => ?_)
      · have hj : j = 2 := by omega
        subst hj
        refine lv_iload hx hb dX7_holds_141 (lv_at hl 4 rfl) ?_
        exact m_zret hx hb hr hlk hH hS dX7_holds_143 (by first | exact Or.inl rfl | exact Or.inr rfl | exact bI_01 _) (⟨rfl, rfl⟩)
      · refine lv_aload_n hx hb dX7_holds_12 rfl (lv_at hl 0 rfl) ?_
        refine gf_X7_39 hx hb hown hK hH (bm hM 0) dX7_holds_13 ?_
        refine lv_iload hx hb dX7_holds_16 (lv_at hl 5 rfl) ?_
        refine m_zald hx hb hK hH (n := 2) (bm hM 13) (fun _ _ => rfl) (j) (rfl) (by omega) (by decide) dX7_holds_18 ?_
        refine m_toe (bI (isRk σ j)) ((hR j (by omega)).1) ?_
        refine m_ifneB (tgt := 25) hx hb dX7_holds_19 (by decide) (fun c_19 => ?_) (fun c_19 => ?_)
        · have hk := (hR j (by omega)).2 c_19
          refine lv_aload_n hx hb dX7_holds_25 rfl (lv_at hl 0 rfl) ?_
          refine gf_X7_30 hx hb hown hK hH (bm hM 0) dX7_holds_26 ?_
          refine lv_iload hx hb dX7_holds_29 (lv_at hl 5 rfl) ?_
          refine m_iald hx hb hK hH (n := 2) (bm hM 10) (fun _ _ => rfl) (j) (rfl) (by omega) (by decide) dX7_holds_31 ?_
          refine m_toi (rAt σ j) (hk.1) ?_
          refine lv_istore (lv' := [(6, .int (nI (rAt σ j))), (0, .ref (B.1 0 0)), (1, .int (nI nn)), (2, .int (nI cn)), (3, .int (nI lt)), (4, .int (bI (hac σ nn cn lt j))), (5, .int (nI j))]) hx hb dX7_holds_32 hl (by decide) rfl (fun ls hl => ?_)
          refine lv_lconst (v := lN 0) hx hb dX7_holds_34 rfl ?_
          refine lv_lstore (lv' := [(7, .long (lN 0)), (6, .int (nI (rAt σ j))), (0, .ref (B.1 0 0)), (1, .int (nI nn)), (2, .int (nI cn)), (3, .int (nI lt)), (4, .int (bI (hac σ nn cn lt j))), (5, .int (nI j))]) hx hb dX7_holds_35 hl (by decide) rfl (fun ls hl => ?_)
          refine lv_iconst (v := nI 0) hx hb dX7_holds_37 (by decide) ?_
          refine lv_istore (lv' := [(9, .int (nI 0)), (7, .long (lN 0)), (6, .int (nI (rAt σ j))), (0, .ref (B.1 0 0)), (1, .int (nI nn)), (2, .int (nI cn)), (3, .int (nI lt)), (4, .int (bI (hac σ nn cn lt j))), (5, .int (nI j))]) hx hb dX7_holds_38 hl (by decide) rfl (fun ls hl => ?_)
          have loopi : ∀ (n2 : Nat) (i : Nat), i ≤ cn + 1 ∧ cn + 1 < i + n2 → ∀ (H : Heap) (locs : List Loc), Hp G B σ H → va_S (mA G) s.heap H locs → ∀ (ls : Array Slot), lv_has ls 10 [(0, .ref (B.1 0 0)), (1, .int (nI nn)), (2, .int (nI cn)), (3, .int (nI lt)), (4, .int (bI (hac σ nn cn lt j))), (5, .int (nI j)), (6, .int (nI (rAt σ j))), (7, .long (lN (hs nn lt (rAt σ j) i))), (9, .int (nI i))] → W p l e ({ frames := 1, cells := 0, slots := 0, locals := 37 } : Room) s m ([.ref (B.1 0 0), .int (nI nn), .int (nI cn), .int (nI lt)] : List Value).toArray below meth c H locs 0 0 (MQ below (mQi G B (fun r σ' => r = bI (hld σ nn cn lt) ∧ σ' = σ)) ([.ref (B.1 0 0), .int (nI nn), .int (nI cn), .int (nI lt)] : List Value).toArray s 0 0 (mA G)) (F0 m 40 ls []) := by
            intro n2
            induction n2 with
            | zero => intro i hhi; exfalso; omega
            | succ n2 ihi =>
              intro i hhi H locs hH hS ls hl
              refine lv_iload hx hb dX7_holds_40 (lv_at hl 8 rfl) ?_
              refine lv_iload_n hx hb dX7_holds_42 rfl (lv_at hl 2 rfl) ?_
              refine m_icmp_gtN (tgt := 77) (by omega) (by omega) hx hb dX7_holds_43 (by decide) (fun c_43 => ?_) (fun c_43 => ?_)
              · have hi : i = cn + 1 := by omega
                subst hi
                have hsl := hs_le (n := nn) (lot := lt) (d := rAt σ j) (c := cn + 1) hnl
                have hcl := ch_lt (k := rAt σ j) h60
                refine lv_lload hx hb dX7_holds_77 (lv_at hl 7 rfl) ?_
                refine lv_aload_n hx hb dX7_holds_79 rfl (lv_at hl 0 rfl) ?_
                refine gf_X7_36 hx hb hown hK hH (bm hM 0) dX7_holds_80 ?_
                refine lv_iload hx hb dX7_holds_83 (lv_at hl 5 rfl) ?_
                refine m_iald hx hb hK hH (n := 2) (bm hM 12) (fun _ _ => rfl) (j) (rfl) (by omega) (by decide) dX7_holds_85 ?_
                refine m_toi (rDn σ j) (hk.2.2.2.1) ?_
                refine lv_aload_n hx hb dX7_holds_86 rfl (lv_at hl 0 rfl) ?_
                refine lv_iload_n hx hb dX7_holds_87 rfl (lv_at hl 3 rfl) ?_
                refine lv_iload hx hb dX7_holds_88 (lv_at hl 6 rfl) ?_
                refine m_kl (m_runV (k := 0) (i := 0) (ci := 7) ⟨hx, hb, hml, hown, hz⟩ hK hH hS (bm hM 0) rfl rfl (c_X7_ways l G B σ hM lt (nI (rAt σ j)) h60 hW) mw_X7_ways wl_X7_123 ⟨rfl, rfl⟩ ⟨by decide, by decide⟩ rfl hl.1 rfl (Nat.le_of_ble_eq_true rfl) dX7_holds_90 ⟨Nat.zero_le _, Nat.zero_le _⟩) hS (fun r_90 σ_90 H locs hp hH hS => ?_)
                obtain ⟨hr1, hs1⟩ := hp
                rw [hs1] at hH
                rw [nI_I (by omega), chZ_nat] at hr1
                subst hr1
                refine lv_aload_n hx hb dX7_holds_93 rfl (lv_at hl 0 rfl) ?_
                refine gf_X7_33 hx hb hown hK hH (bm hM 0) dX7_holds_94 ?_
                refine lv_iload hx hb dX7_holds_97 (lv_at hl 5 rfl) ?_
                refine m_iald hx hb hK hH (n := 2) (bm hM 11) (fun _ _ => rfl) (j) (rfl) (by omega) (by decide) dX7_holds_99 ?_
                refine m_toi (rUp σ j) (hk.2.2.1) ?_
                refine m_ki (m_runS ⟨hx, hb, hml, hown, hz⟩ hK hH hS (c_X7_against l G B σ (hs nn lt (rAt σ j) (cn + 1)) (rDn σ j) (ch lt (rAt σ j)) (rUp σ j) (by omega) (by omega) (by omega) (by omega)) mw_X7_against wl_X7_158 ⟨rfl, rfl⟩ ⟨by decide, by decide⟩ rfl hl.1 rfl (Nat.le_of_ble_eq_true rfl) dX7_holds_100 ⟨Nat.zero_le _, Nat.zero_le _⟩) hS (fun r_100 σ_100 H locs hp hH hS => ?_)
                obtain ⟨hr1, hs1⟩ := hp
                subst hr1
                rw [hs1] at hH
                refine lv_istore (lv' := [(9, .int (sg3 (hs nn lt (rAt σ j) (cn + 1) * rDn σ j) (ch lt (rAt σ j) * rUp σ j))), (0, .ref (B.1 0 0)), (1, .int (nI nn)), (2, .int (nI cn)), (3, .int (nI lt)), (4, .int (bI (hac σ nn cn lt j))), (5, .int (nI j)), (6, .int (nI (rAt σ j))), (7, .long (lN (hs nn lt (rAt σ j) (cn + 1))))]) hx hb dX7_holds_103 hl (by decide) rfl (fun ls hl => ?_)
                refine lv_iload hx hb dX7_holds_105 (lv_at hl 5 rfl) ?_
                refine m_ifeqB (tgt := 132) hx hb dX7_holds_107 (by decide) (fun c_107 => ?_) (fun c_107 => ?_)
                · refine lv_iconst (v := nI 0) hx hb dX7_holds_132 (by decide) ?_
                  refine m_toe (bI (hac σ nn cn lt (j + 1))) (by first | exact hac_f c_107 | exact bI_f (by rw [hac_0 c_107 c_19 c_112]; exact decide_eq_false (fun q => q c_117)) | exact bI_f (by rw [hac_1 c_107 c_19 c_112]; exact decide_eq_false (fun q => q c_125))) ?_
                  refine lv_istore (lv' := [(4, .int (bI (hac σ nn cn lt (j + 1)))), (9, .int (sg3 (hs nn lt (rAt σ j) (cn + 1) * rDn σ j) (ch lt (rAt σ j) * rUp σ j))), (0, .ref (B.1 0 0)), (1, .int (nI nn)), (2, .int (nI cn)), (3, .int (nI lt)), (5, .int (nI j)), (6, .int (nI (rAt σ j))), (7, .long (lN (hs nn lt (rAt σ j) (cn + 1))))]) hx hb dX7_holds_133 hl (by decide) rfl (fun ls hl => ?_)
                  refine lv_iinc (v := nI (j + 1)) (lv' := [(5, .int (nI (j + 1))), (4, .int (bI (hac σ nn cn lt (j + 1)))), (9, .int (sg3 (hs nn lt (rAt σ j) (cn + 1) * rDn σ j) (ch lt (rAt σ j) * rUp σ j))), (0, .ref (B.1 0 0)), (1, .int (nI nn)), (2, .int (nI cn)), (3, .int (nI lt)), (6, .int (nI (rAt σ j))), (7, .long (lN (hs nn lt (rAt σ j) (cn + 1))))]) hx hb dX7_holds_135 hl (k := 6) rfl (nI_1 _) (by decide) rfl (fun ls hl => ?_)
                  refine lv_goto (tgt := 6) hx hb dX7_holds_138 (by decide) ?_
                  exact ih (j + 1) (by omega) H locs hH hS ls (lv_sub hl [3, 4, 5, 6, 1, 0] rfl)
                · refine lv_iload hx hb dX7_holds_110 (lv_at hl 6 rfl) ?_
                  refine m_ifneN (tgt := 123) (by omega) hx hb dX7_holds_112 (by decide) (fun c_112 => ?_) (fun c_112 => ?_)
                  · refine lv_iload hx hb dX7_holds_123 (lv_at hl 0 rfl) ?_
                    refine lv_if_gt (tgt := 132) hx hb dX7_holds_125 (by decide) (fun c_125 => ?_) (fun c_125 => ?_)
                    · refine lv_iconst (v := nI 0) hx hb dX7_holds_132 (by decide) ?_
                      refine m_toe (bI (hac σ nn cn lt (j + 1))) (by first | exact hac_f c_107 | exact bI_f (by rw [hac_0 c_107 c_19 c_112]; exact decide_eq_false (fun q => q c_117)) | exact bI_f (by rw [hac_1 c_107 c_19 c_112]; exact decide_eq_false (fun q => q c_125))) ?_
                      refine lv_istore (lv' := [(4, .int (bI (hac σ nn cn lt (j + 1)))), (9, .int (sg3 (hs nn lt (rAt σ j) (cn + 1) * rDn σ j) (ch lt (rAt σ j) * rUp σ j))), (0, .ref (B.1 0 0)), (1, .int (nI nn)), (2, .int (nI cn)), (3, .int (nI lt)), (5, .int (nI j)), (6, .int (nI (rAt σ j))), (7, .long (lN (hs nn lt (rAt σ j) (cn + 1))))]) hx hb dX7_holds_133 hl (by decide) rfl (fun ls hl => ?_)
                      refine lv_iinc (v := nI (j + 1)) (lv' := [(5, .int (nI (j + 1))), (4, .int (bI (hac σ nn cn lt (j + 1)))), (9, .int (sg3 (hs nn lt (rAt σ j) (cn + 1) * rDn σ j) (ch lt (rAt σ j) * rUp σ j))), (0, .ref (B.1 0 0)), (1, .int (nI nn)), (2, .int (nI cn)), (3, .int (nI lt)), (6, .int (nI (rAt σ j))), (7, .long (lN (hs nn lt (rAt σ j) (cn + 1))))]) hx hb dX7_holds_135 hl (k := 6) rfl (nI_1 _) (by decide) rfl (fun ls hl => ?_)
                      refine lv_goto (tgt := 6) hx hb dX7_holds_138 (by decide) ?_
                      exact ih (j + 1) (by omega) H locs hH hS ls (lv_sub hl [3, 4, 5, 6, 1, 0] rfl)
                    · refine lv_iconst (v := nI 1) hx hb dX7_holds_128 (by decide) ?_
                      refine lv_goto (tgt := 133) hx hb dX7_holds_129 (by decide) ?_
                      refine m_toe (bI (hac σ nn cn lt (j + 1))) (by first | exact bI_t (by rw [hac_0 c_107 c_19 c_112]; exact decide_eq_true c_117) | exact bI_t (by rw [hac_1 c_107 c_19 c_112]; exact decide_eq_true c_125)) ?_
                      refine lv_istore (lv' := [(4, .int (bI (hac σ nn cn lt (j + 1)))), (9, .int (sg3 (hs nn lt (rAt σ j) (cn + 1) * rDn σ j) (ch lt (rAt σ j) * rUp σ j))), (0, .ref (B.1 0 0)), (1, .int (nI nn)), (2, .int (nI cn)), (3, .int (nI lt)), (5, .int (nI j)), (6, .int (nI (rAt σ j))), (7, .long (lN (hs nn lt (rAt σ j) (cn + 1))))]) hx hb dX7_holds_133 hl (by decide) rfl (fun ls hl => ?_)
                      refine lv_iinc (v := nI (j + 1)) (lv' := [(5, .int (nI (j + 1))), (4, .int (bI (hac σ nn cn lt (j + 1)))), (9, .int (sg3 (hs nn lt (rAt σ j) (cn + 1) * rDn σ j) (ch lt (rAt σ j) * rUp σ j))), (0, .ref (B.1 0 0)), (1, .int (nI nn)), (2, .int (nI cn)), (3, .int (nI lt)), (6, .int (nI (rAt σ j))), (7, .long (lN (hs nn lt (rAt σ j) (cn + 1))))]) hx hb dX7_holds_135 hl (k := 6) rfl (nI_1 _) (by decide) rfl (fun ls hl => ?_)
                      refine lv_goto (tgt := 6) hx hb dX7_holds_138 (by decide) ?_
                      exact ih (j + 1) (by omega) H locs hH hS ls (lv_sub hl [3, 4, 5, 6, 1, 0] rfl)
                  · refine lv_iload hx hb dX7_holds_115 (lv_at hl 0 rfl) ?_
                    refine lv_if_lt (tgt := 132) hx hb dX7_holds_117 (by decide) (fun c_117 => ?_) (fun c_117 => ?_)
                    · refine lv_iconst (v := nI 0) hx hb dX7_holds_132 (by decide) ?_
                      refine m_toe (bI (hac σ nn cn lt (j + 1))) (by first | exact hac_f c_107 | exact bI_f (by rw [hac_0 c_107 c_19 c_112]; exact decide_eq_false (fun q => q c_117)) | exact bI_f (by rw [hac_1 c_107 c_19 c_112]; exact decide_eq_false (fun q => q c_125))) ?_
                      refine lv_istore (lv' := [(4, .int (bI (hac σ nn cn lt (j + 1)))), (9, .int (sg3 (hs nn lt (rAt σ j) (cn + 1) * rDn σ j) (ch lt (rAt σ j) * rUp σ j))), (0, .ref (B.1 0 0)), (1, .int (nI nn)), (2, .int (nI cn)), (3, .int (nI lt)), (5, .int (nI j)), (6, .int (nI (rAt σ j))), (7, .long (lN (hs nn lt (rAt σ j) (cn + 1))))]) hx hb dX7_holds_133 hl (by decide) rfl (fun ls hl => ?_)
                      refine lv_iinc (v := nI (j + 1)) (lv' := [(5, .int (nI (j + 1))), (4, .int (bI (hac σ nn cn lt (j + 1)))), (9, .int (sg3 (hs nn lt (rAt σ j) (cn + 1) * rDn σ j) (ch lt (rAt σ j) * rUp σ j))), (0, .ref (B.1 0 0)), (1, .int (nI nn)), (2, .int (nI cn)), (3, .int (nI lt)), (6, .int (nI (rAt σ j))), (7, .long (lN (hs nn lt (rAt σ j) (cn + 1))))]) hx hb dX7_holds_135 hl (k := 6) rfl (nI_1 _) (by decide) rfl (fun ls hl => ?_)
                      refine lv_goto (tgt := 6) hx hb dX7_holds_138 (by decide) ?_
                      exact ih (j + 1) (by omega) H locs hH hS ls (lv_sub hl [3, 4, 5, 6, 1, 0] rfl)
                    · refine lv_goto (tgt := 128) hx hb dX7_holds_120 (by decide) ?_
                      refine lv_iconst (v := nI 1) hx hb dX7_holds_128 (by decide) ?_
                      refine lv_goto (tgt := 133) hx hb dX7_holds_129 (by decide) ?_
                      refine m_toe (bI (hac σ nn cn lt (j + 1))) (by first | exact bI_t (by rw [hac_0 c_107 c_19 c_112]; exact decide_eq_true c_117) | exact bI_t (by rw [hac_1 c_107 c_19 c_112]; exact decide_eq_true c_125)) ?_
                      refine lv_istore (lv' := [(4, .int (bI (hac σ nn cn lt (j + 1)))), (9, .int (sg3 (hs nn lt (rAt σ j) (cn + 1) * rDn σ j) (ch lt (rAt σ j) * rUp σ j))), (0, .ref (B.1 0 0)), (1, .int (nI nn)), (2, .int (nI cn)), (3, .int (nI lt)), (5, .int (nI j)), (6, .int (nI (rAt σ j))), (7, .long (lN (hs nn lt (rAt σ j) (cn + 1))))]) hx hb dX7_holds_133 hl (by decide) rfl (fun ls hl => ?_)
                      refine lv_iinc (v := nI (j + 1)) (lv' := [(5, .int (nI (j + 1))), (4, .int (bI (hac σ nn cn lt (j + 1)))), (9, .int (sg3 (hs nn lt (rAt σ j) (cn + 1) * rDn σ j) (ch lt (rAt σ j) * rUp σ j))), (0, .ref (B.1 0 0)), (1, .int (nI nn)), (2, .int (nI cn)), (3, .int (nI lt)), (6, .int (nI (rAt σ j))), (7, .long (lN (hs nn lt (rAt σ j) (cn + 1))))]) hx hb dX7_holds_135 hl (k := 6) rfl (nI_1 _) (by decide) rfl (fun ls hl => ?_)
                      refine lv_goto (tgt := 6) hx hb dX7_holds_138 (by decide) ?_
                      exact ih (j + 1) (by omega) H locs hH hS ls (lv_sub hl [3, 4, 5, 6, 1, 0] rfl)
              · refine lv_lload hx hb dX7_holds_46 (lv_at hl 7 rfl) ?_
                refine lv_aload_n hx hb dX7_holds_48 rfl (lv_at hl 0 rfl) ?_
                refine lv_iload_n hx hb dX7_holds_49 rfl (lv_at hl 1 rfl) ?_
                refine lv_iload hx hb dX7_holds_50 (lv_at hl 8 rfl) ?_
                refine m_kl (m_runV (k := 0) (i := 0) (ci := 7) ⟨hx, hb, hml, hown, hz⟩ hK hH hS (bm hM 0) rfl rfl (c_X7_ways l G B σ hM nn (nI i) (by omega) hW) mw_X7_ways wl_X7_123 ⟨rfl, rfl⟩ ⟨by decide, by decide⟩ rfl hl.1 rfl (Nat.le_of_ble_eq_true rfl) dX7_holds_52 ⟨Nat.zero_le _, Nat.zero_le _⟩) hS (fun r_52 σ_52 H locs hp hH hS => ?_)
                obtain ⟨hr1, hs1⟩ := hp
                rw [hs1] at hH
                rw [nI_I (by omega), chZ_nat] at hr1
                subst hr1
                refine lv_aload_n hx hb dX7_holds_55 rfl (lv_at hl 0 rfl) ?_
                refine lv_iload_n hx hb dX7_holds_56 rfl (lv_at hl 3 rfl) ?_
                refine lv_iload_n hx hb dX7_holds_57 rfl (lv_at hl 1 rfl) ?_
                refine m_isubN (by omega) hx hb dX7_holds_58 ?_
                refine lv_iload hx hb dX7_holds_59 (lv_at hl 6 rfl) ?_
                refine lv_iload hx hb dX7_holds_61 (lv_at hl 8 rfl) ?_
                refine lv_isub hx hb dX7_holds_63 ?_
                refine m_kl (m_runV (k := 0) (i := 0) (ci := 7) ⟨hx, hb, hml, hown, hz⟩ hK hH hS (bm hM 0) rfl rfl (c_X7_ways l G B σ hM (lt - nn) (nI (rAt σ j) - nI i) (by omega) hW) mw_X7_ways wl_X7_123 ⟨rfl, rfl⟩ ⟨by decide, by decide⟩ rfl hl.1 rfl (Nat.le_of_ble_eq_true rfl) dX7_holds_64 ⟨Nat.zero_le _, Nat.zero_le _⟩) hS (fun r_64 σ_64 H locs hp hH hS => ?_)
                obtain ⟨hr1, hs1⟩ := hp
                rw [hs1] at hH
                rw [i_subN (by omega) (by omega)] at hr1
                subst hr1
                refine m_lmulN hx hb dX7_holds_67 ?_
                refine m_laddN hx hb dX7_holds_68 ?_
                refine lv_lstore (lv' := [(7, .long (lN ((hs nn lt (rAt σ j) i) + ((ch nn i) * (chZ (lt - nn) ((rAt σ j : Int) - (i : Int))))))), (0, .ref (B.1 0 0)), (1, .int (nI nn)), (2, .int (nI cn)), (3, .int (nI lt)), (4, .int (bI (hac σ nn cn lt j))), (5, .int (nI j)), (6, .int (nI (rAt σ j))), (9, .int (nI i))]) hx hb dX7_holds_69 hl (by decide) rfl (fun ls hl => ?_)
                refine lv_iinc (v := nI (i + 1)) (lv' := [(9, .int (nI (i + 1))), (7, .long (lN ((hs nn lt (rAt σ j) i) + ((ch nn i) * (chZ (lt - nn) ((rAt σ j : Int) - (i : Int))))))), (0, .ref (B.1 0 0)), (1, .int (nI nn)), (2, .int (nI cn)), (3, .int (nI lt)), (4, .int (bI (hac σ nn cn lt j))), (5, .int (nI j)), (6, .int (nI (rAt σ j)))]) hx hb dX7_holds_71 hl (k := 8) rfl (nI_1 _) (by decide) rfl (fun ls hl => ?_)
                refine lv_goto (tgt := 40) hx hb dX7_holds_74 (by decide) ?_
                exact ihi (i + 1) (by omega) H locs hH hS ls (lv_sub hl [2, 3, 4, 5, 6, 7, 8, 1, 0] rfl)
          exact loopi (cn + 2) 0 (by omega) H locs hH hS ls (lv_sub hl [3, 4, 5, 6, 7, 8, 2, 1, 0] rfl)
        · refine lv_goto (tgt := 135) hx hb dX7_holds_22 (by decide) ?_
          refine lv_iinc (v := nI (j + 1)) (lv' := [(5, .int (nI (j + 1))), (0, .ref (B.1 0 0)), (1, .int (nI nn)), (2, .int (nI cn)), (3, .int (nI lt)), (4, .int (bI (hac σ nn cn lt j)))]) hx hb dX7_holds_135 hl (k := 5) rfl (nI_1 _) (by decide) rfl (fun ls hl => ?_)
          refine lv_goto (tgt := 6) hx hb dX7_holds_138 (by decide) ?_
          exact ih (j + 1) (by omega) H locs hH hS ls (by rw [hac_off c_19]; exact lv_sub hl [1, 2, 3, 4, 5, 0] rfl)
  refine lv_iconst (v := nI 1) hx hb dX7_holds_0 (by decide) ?_
  refine m_toe (bI (hac σ nn cn lt 0)) rfl ?_
  refine lv_istore (lv' := [(4, .int (bI (hac σ nn cn lt 0))), (0, .ref (B.1 0 0)), (1, .int (nI nn)), (2, .int (nI cn)), (3, .int (nI lt))]) hx hb dX7_holds_1 hl (by decide) rfl (fun ls hl => ?_)
  refine lv_iconst (v := nI 0) hx hb dX7_holds_3 (by decide) ?_
  refine lv_istore (lv' := [(5, .int (nI 0)), (4, .int (bI (hac σ nn cn lt 0))), (0, .ref (B.1 0 0)), (1, .int (nI nn)), (2, .int (nI cn)), (3, .int (nI lt))]) hx hb dX7_holds_4 hl (by decide) rfl (fun ls hl => ?_)
  exact loop 3 0 (by omega) s.heap [] hH hS ls (lv_sub hl [2, 3, 4, 5, 1, 0] rfl)
/-- the first number below k at which P is so -/
def fnd (P : Nat → Bool) : Nat → Option Nat
  | 0 => none
  | k + 1 => match fnd P k with
    | some j => some j
    | none => if P k then some k else none
theorem fnd_up {P : Nat → Bool} {k k2 j : Nat} (h : fnd P k = some j) (hk : k ≤ k2) : fnd P k2 = some j := by
  induction k2 with
  | zero => rw [Nat.le_zero.mp hk] at h; exact h
  | succ k2 ih =>
    rcases Nat.lt_or_ge k (k2 + 1) with q | q
    · unfold fnd; rw [ih (by omega)]
    · rw [show k = k2 + 1 by omega] at h; exact h
theorem fnd_hit {P : Nat → Bool} {k : Nat} (h : fnd P k = none) (hp : P k = true) : fnd P (k + 1) = some k := by unfold fnd; rw [h]; simp [hp]
theorem fnd_miss {P : Nat → Bool} {k : Nat} (h : fnd P k = none) (hp : P k = false) : fnd P (k + 1) = none := by unfold fnd; rw [h]; simp [hp]
theorem fnd_lt {P : Nat → Bool} {k j : Nat} (h : fnd P k = some j) : j < k ∧ P j = true := by
  induction k with
  | zero => exact absurd h (by simp [fnd])
  | succ k ih =>
    unfold fnd at h
    cases e : fnd P k with
    | some i => rw [e] at h; cases h; exact ⟨by have := (ih e).1; omega, (ih e).2⟩
    | none =>
      rw [e] at h
      by_cases q : P k = true
      · simp [q] at h; subst h; exact ⟨by omega, q⟩
      · simp [q] at h
/-- the least accept with which a plan of size m holds -/
def lc (σ : gS) (lt m : Nat) : Option Nat := fnd (fun q => hld σ m q lt) (m + 1)
def srA (σ : gS) (lt : Nat) : Int32 := match fnd (fun m => (lc σ lt (m + 1)).isSome) lt with
  | none => -1
  | some m => match lc σ lt (m + 1) with
    | none => -1
    | some q => nI (100 * (m + 1) + q)
theorem srA_none {σ : gS} {lt : Nat} (h : fnd (fun m => (lc σ lt (m + 1)).isSome) lt = none) : srA σ lt = -1 := by unfold srA; rw [h]
theorem srA_some {σ : gS} {lt m q : Nat} (h : fnd (fun m => (lc σ lt (m + 1)).isSome) m = none) (hm : m < lt) (hq : lc σ lt (m + 1) = some q) : srA σ lt = nI (100 * (m + 1) + q) := by
  have h2 := fnd_up (fnd_hit h (by rw [hq]; rfl)) (show m + 1 ≤ lt by omega)
  unfold srA
  rw [h2]
  show (match lc σ lt (m + 1) with | none => -1 | some q => nI (100 * (m + 1) + q)) = _
  rw [hq]
theorem maS_nI {σ : gS} {n : Int32} (h : maS σ n = true) : ∃ lt : Nat, n = nI lt ∧ 1 ≤ lt ∧ lt ≤ 60 := by
  have h1 := (of_decide_eq_true h).1
  obtain ⟨a, b⟩ := i_nat (x := n) (by omega)
  exact ⟨n.toInt.toNat, a, by omega, by omega⟩
set_option maxHeartbeats 4000000 in
set_option maxRecDepth 100000 in
theorem c_X7_search (l : Launch) (G : gG) (B : gB) (σ : gS) (hM : BkM B) (hR : WfR σ) (hW : WfCh σ) (x : Int32) : Met l yX7_search [.code yX7_search cX7_search 4 (some .int)] ({ frames := 2, cells := 0, slots := 0, locals := 66 } : Room) (mPc G B σ [.ref (B.1 0 0), .int (x)]) (mQi G B (fun r σ' => r = (if maS σ x = true then srA σ x.toNatClampNeg else -2) ∧ σ' = σ)) 0 0 (mA G) := by
  refine m_start (by decide) (Nat.le_of_ble_eq_true rfl) ?_
  intro p e s m below meth c ⟨hx, hb, hr, hml, hown, hK, hlk, hz⟩ hH hS ls hl
  have hl : lv_has ls 4 [(0, .ref (B.1 0 0)), (1, .int (x))] := hl
  refine lv_aload_n hx hb dX7_search_0 rfl (lv_at hl 0 rfl) ?_
  refine lv_iload_n hx hb dX7_search_1 rfl (lv_at hl 1 rfl) ?_
  refine m_ki (m_runV (k := 0) (i := 0) (ci := 7) ⟨hx, hb, hml, hown, hz⟩ hK hH hS (bm hM 0) rfl rfl (c_X7_maySearch l G B σ hM hR x) mw_X7_maySearch wl_X7_162 ⟨rfl, rfl⟩ ⟨by decide, by decide⟩ rfl hl.1 rfl (Nat.le_of_ble_eq_true rfl) dX7_search_2 ⟨Nat.zero_le _, Nat.zero_le _⟩) hS (fun r_2 σ_2 H locs hp hH hS => ?_)
  obtain ⟨hr1, hs1⟩ := hp
  subst hr1
  rw [hs1] at hH
  refine m_ifneB (tgt := 11) hx hb dX7_search_5 (by decide) (fun c_5 => ?_) (fun c_5 => ?_)
  · obtain ⟨lt, he, h1, h60⟩ := maS_nI c_5
    subst he
    refine lv_iconst (v := nI 1) hx hb dX7_search_11 (by decide) ?_
    refine lv_istore_n (lv' := [(2, .int (nI 1)), (0, .ref (B.1 0 0)), (1, .int (nI lt))]) hx hb dX7_search_12 rfl hl (by decide) rfl (fun ls hl => ?_)
    have loop : ∀ (n : Nat) (m1 : Nat), m1 ≤ lt ∧ lt < m1 + n ∧ fnd (fun m => (lc σ lt (m + 1)).isSome) m1 = none → ∀ (H : Heap) (locs : List Loc), Hp G B σ H → va_S (mA G) s.heap H locs → ∀ (ls : Array Slot), lv_has ls 4 [(0, .ref (B.1 0 0)), (1, .int (nI lt)), (2, .int (nI (m1 + 1)))] → W p l e ({ frames := 2, cells := 0, slots := 0, locals := 66 } : Room) s m ([.ref (B.1 0 0), .int (nI lt)] : List Value).toArray below meth c H locs 0 0 (MQ below (mQi G B (fun r σ' => r = (if maS σ (nI lt) = true then srA σ (nI lt).toNatClampNeg else -2) ∧ σ' = σ)) ([.ref (B.1 0 0), .int (nI lt)] : List Value).toArray s 0 0 (mA G)) (F0 m 13 ls []) := by
      intro n
      induction n with
      | zero => intro m1 hh; exfalso; omega
      | succ n ih =>
        intro m1 hh H locs hH hS ls hl
        refine lv_iload_n hx hb dX7_search_13 rfl (lv_at hl 2 rfl) ?_
        refine lv_iload_n hx hb dX7_search_14 rfl (lv_at hl 1 rfl) ?_
        refine m_icmp_gtN (tgt := 54) (by omega) (by omega) hx hb dX7_search_15 (by decide) (fun c_15 => ?_) (fun c_15 => ?_)
        · refine lv_iconst (v := (-1)) hx hb dX7_search_54 (by decide) ?_
          exact m_iret hx hb hr hlk hH hS dX7_search_55 (⟨by rw [c_5]; rw [nI_clamp (by omega)]; exact (srA_none (by have h9 := hh.2.2; rwa [show m1 = lt by omega] at h9)).symm, rfl⟩)
        · refine lv_iconst (v := nI 0) hx hb dX7_search_18 (by decide) ?_
          refine lv_istore_n (lv' := [(3, .int (nI 0)), (0, .ref (B.1 0 0)), (1, .int (nI lt)), (2, .int (nI (m1 + 1)))]) hx hb dX7_search_19 rfl hl (by decide) rfl (fun ls hl => ?_)
          have loopi : ∀ (n2 : Nat) (i : Nat), i ≤ m1 + 2 ∧ m1 + 2 < i + n2 ∧ fnd (fun q => hld σ (m1 + 1) q lt) i = none → ∀ (H : Heap) (locs : List Loc), Hp G B σ H → va_S (mA G) s.heap H locs → ∀ (ls : Array Slot), lv_has ls 4 [(0, .ref (B.1 0 0)), (1, .int (nI lt)), (2, .int (nI (m1 + 1))), (3, .int (nI i))] → W p l e ({ frames := 2, cells := 0, slots := 0, locals := 66 } : Room) s m ([.ref (B.1 0 0), .int (nI lt)] : List Value).toArray below meth c H locs 0 0 (MQ below (mQi G B (fun r σ' => r = (if maS σ (nI lt) = true then srA σ (nI lt).toNatClampNeg else -2) ∧ σ' = σ)) ([.ref (B.1 0 0), .int (nI lt)] : List Value).toArray s 0 0 (mA G)) (F0 m 20 ls []) := by
            intro n2
            induction n2 with
            | zero => intro i hhi; exfalso; omega
            | succ n2 ihi =>
              intro i hhi H locs hH hS ls hl
              refine lv_iload_n hx hb dX7_search_20 rfl (lv_at hl 3 rfl) ?_
              refine lv_iload_n hx hb dX7_search_21 rfl (lv_at hl 2 rfl) ?_
              refine m_icmp_gtN (tgt := 48) (by omega) (by omega) hx hb dX7_search_22 (by decide) (fun c_22 => ?_) (fun c_22 => ?_)
              · refine lv_iinc (v := nI (m1 + 1 + 1)) (lv' := [(2, .int (nI (m1 + 1 + 1))), (0, .ref (B.1 0 0)), (1, .int (nI lt)), (3, .int (nI i))]) hx hb dX7_search_48 hl (k := 2) rfl (nI_1 _) (by decide) rfl (fun ls hl => ?_)
                refine lv_goto (tgt := 13) hx hb dX7_search_51 (by decide) ?_
                exact ih (m1 + 1) ⟨by omega, by omega, fnd_miss hh.2.2 (by rw [show lc σ lt (m1 + 1) = none by rw [show i = m1 + 1 + 1 by omega] at hhi; exact hhi.2.2]; rfl)⟩ H locs hH hS ls (lv_sub hl [1, 2, 0] rfl)
              · refine lv_aload_n hx hb dX7_search_25 rfl (lv_at hl 0 rfl) ?_
                refine lv_iload_n hx hb dX7_search_26 rfl (lv_at hl 2 rfl) ?_
                refine lv_iload_n hx hb dX7_search_27 rfl (lv_at hl 3 rfl) ?_
                refine lv_iload_n hx hb dX7_search_28 rfl (lv_at hl 1 rfl) ?_
                refine m_ki (m_runV (k := 0) (i := 0) (ci := 7) ⟨hx, hb, hml, hown, hz⟩ hK hH hS (bm hM 0) rfl rfl (c_X7_holds l G B σ hM hR hW (m1 + 1) i lt (by omega) h60 (by omega)) mw_X7_holds wl_X7_165 ⟨rfl, rfl⟩ ⟨by decide, by decide⟩ rfl hl.1 rfl (Nat.le_of_ble_eq_true rfl) dX7_search_29 ⟨Nat.zero_le _, Nat.zero_le _⟩) hS (fun r_29 σ_29 H locs hp hH hS => ?_)
                obtain ⟨hr1, hs1⟩ := hp
                subst hr1
                rw [hs1] at hH
                refine m_ifeqB (tgt := 42) hx hb dX7_search_32 (by decide) (fun c_32 => ?_) (fun c_32 => ?_)
                · refine lv_iinc (v := nI (i + 1)) (lv' := [(3, .int (nI (i + 1))), (0, .ref (B.1 0 0)), (1, .int (nI lt)), (2, .int (nI (m1 + 1)))]) hx hb dX7_search_42 hl (k := 3) rfl (nI_1 _) (by decide) rfl (fun ls hl => ?_)
                  refine lv_goto (tgt := 20) hx hb dX7_search_45 (by decide) ?_
                  exact ihi (i + 1) ⟨by omega, by omega, fnd_miss hhi.2.2 c_32⟩ H locs hH hS ls (lv_sub hl [1, 2, 3, 0] rfl)
                · refine lv_bipush (v := nI 100) hx hb dX7_search_35 (by decide) ?_
                  refine lv_iload_n hx hb dX7_search_37 rfl (lv_at hl 2 rfl) ?_
                  refine m_imulN hx hb dX7_search_38 ?_
                  refine lv_iload_n hx hb dX7_search_39 rfl (lv_at hl 3 rfl) ?_
                  refine m_iaddN hx hb dX7_search_40 ?_
                  exact m_iret hx hb hr hlk hH hS dX7_search_41 (⟨by rw [c_5]; rw [nI_clamp (by omega)]; exact (srA_some hh.2.2 (by omega) (fnd_up (fnd_hit hhi.2.2 c_32) (by omega))).symm, rfl⟩)
          exact loopi (m1 + 3) 0 ⟨by omega, by omega, rfl⟩ H locs hH hS ls (lv_sub hl [1, 2, 3, 0] rfl)
    exact loop (lt + 1) 0 ⟨by omega, by omega, rfl⟩ H locs hH hS ls (lv_sub hl [1, 2, 0] rfl)
  · refine lv_bipush (v := (-2)) hx hb dX7_search_8 (by decide) ?_
    exact m_iret hx hb hr hlk hH hS dX7_search_10 (⟨by rw [c_5]; rfl, rfl⟩)
def lsI (o : Option Nat) : Int32 := match o with
  | none => -1
  | some j => nI j
def mst (σ : gS) (lt : Nat) : Nat → Nat × Nat
  | 0 => (0, 1000)
  | m + 1 => match lc σ lt (m + 1) with
    | none => mst σ lt m
    | some q => if q < (mst σ lt m).2 then ((mst σ lt m).1 + 1, q) else mst σ lt m
def mhit (σ : gS) (lt kn m : Nat) : Bool := match lc σ lt (m + 1) with
  | none => false
  | some q => decide (q < (mst σ lt m).2 ∧ (mst σ lt m).1 = kn)
def mnA (σ : gS) (lt kn : Nat) : Int32 := match fnd (mhit σ lt kn) lt with
  | none => -1
  | some m => match lc σ lt (m + 1) with
    | none => -1
    | some q => nI (100 * (m + 1) + q)
theorem mst_le (σ : gS) (lt m : Nat) : (mst σ lt m).1 ≤ m ∧ (mst σ lt m).2 ≤ 1000 := by
  induction m with
  | zero => exact ⟨Nat.le_refl 0, Nat.le_refl 1000⟩
  | succ m ih =>
    unfold mst
    cases e : lc σ lt (m + 1) with
    | none => exact ⟨by show (mst σ lt m).1 ≤ _; omega, ih.2⟩
    | some q =>
      show (if q < (mst σ lt m).2 then ((mst σ lt m).1 + 1, q) else mst σ lt m).1 ≤ m + 1 ∧ (if q < (mst σ lt m).2 then ((mst σ lt m).1 + 1, q) else mst σ lt m).2 ≤ 1000
      by_cases h : q < (mst σ lt m).2
      · rw [if_pos h]; exact ⟨by show _ + 1 ≤ _; omega, by show q ≤ _; omega⟩
      · rw [if_neg h]; exact ⟨by omega, ih.2⟩
theorem mst_n {σ : gS} {lt m : Nat} (h : lc σ lt (m + 1) = none) : mst σ lt (m + 1) = mst σ lt m := by
  show (match lc σ lt (m + 1) with | none => mst σ lt m | some q => if q < (mst σ lt m).2 then ((mst σ lt m).1 + 1, q) else mst σ lt m) = _
  rw [h]
theorem mst_s {σ : gS} {lt m q : Nat} (h : lc σ lt (m + 1) = some q) : mst σ lt (m + 1) = if q < (mst σ lt m).2 then ((mst σ lt m).1 + 1, q) else mst σ lt m := by
  show (match lc σ lt (m + 1) with | none => mst σ lt m | some q => if q < (mst σ lt m).2 then ((mst σ lt m).1 + 1, q) else mst σ lt m) = _
  rw [h]
theorem mhit_n {σ : gS} {lt kn m : Nat} (h : lc σ lt (m + 1) = none) : mhit σ lt kn m = false := by unfold mhit; rw [h]
theorem mhit_s {σ : gS} {lt kn m q : Nat} (h : lc σ lt (m + 1) = some q) : mhit σ lt kn m = decide (q < (mst σ lt m).2 ∧ (mst σ lt m).1 = kn) := by unfold mhit; rw [h]
theorem mnA_none {σ : gS} {lt kn : Nat} (h : fnd (mhit σ lt kn) lt = none) : mnA σ lt kn = -1 := by unfold mnA; rw [h]
theorem mnA_some {σ : gS} {lt kn m q : Nat} (h : fnd (mhit σ lt kn) m = none) (hm : m < lt) (hq : lc σ lt (m + 1) = some q) (h1 : q < (mst σ lt m).2) (h2 : (mst σ lt m).1 = kn) : mnA σ lt kn = nI (100 * (m + 1) + q) := by
  have h3 := fnd_up (fnd_hit h (by rw [mhit_s hq]; exact decide_eq_true ⟨h1, h2⟩)) (show m + 1 ≤ lt by omega)
  unfold mnA
  rw [h3]
  show (match lc σ lt (m + 1) with | none => -1 | some q => nI (100 * (m + 1) + q)) = _
  rw [hq]
set_option maxHeartbeats 4000000 in
set_option maxRecDepth 100000 in
theorem c_X7_minimal (l : Launch) (G : gG) (B : gB) (σ : gS) (hM : BkM B) (hR : WfR σ) (hW : WfCh σ) (x k : Int32) : Met l yX7_minimal [.code yX7_minimal cX7_minimal 8 (some .int)] ({ frames := 2, cells := 0, slots := 0, locals := 66 } : Room) (mPc G B σ [.ref (B.1 0 0), .int (x), .int (k)]) (mQi G B (fun r σ' => r = (if maS σ x = true ∧ 0 ≤ k.toInt then mnA σ x.toNatClampNeg k.toNatClampNeg else -2) ∧ σ' = σ)) 0 0 (mA G) := by
  refine m_start (by decide) (Nat.le_of_ble_eq_true rfl) ?_
  intro p e s m below meth c ⟨hx, hb, hr, hml, hown, hK, hlk, hz⟩ hH hS ls hl
  have hl : lv_has ls 8 [(0, .ref (B.1 0 0)), (1, .int (x)), (2, .int (k))] := hl
  refine lv_aload_n hx hb dX7_minimal_0 rfl (lv_at hl 0 rfl) ?_
  refine lv_iload_n hx hb dX7_minimal_1 rfl (lv_at hl 1 rfl) ?_
  refine m_ki (m_runV (k := 0) (i := 0) (ci := 7) ⟨hx, hb, hml, hown, hz⟩ hK hH hS (bm hM 0) rfl rfl (c_X7_maySearch l G B σ hM hR x) mw_X7_maySearch wl_X7_162 ⟨rfl, rfl⟩ ⟨by decide, by decide⟩ rfl hl.1 rfl (Nat.le_of_ble_eq_true rfl) dX7_minimal_2 ⟨Nat.zero_le _, Nat.zero_le _⟩) hS (fun r_2 σ_2 H locs hp hH hS => ?_)
  obtain ⟨hr1, hs1⟩ := hp
  subst hr1
  rw [hs1] at hH
  refine m_ifeqB (tgt := 12) hx hb dX7_minimal_5 (by decide) (fun c_5 => ?_) (fun c_5 => ?_)
  · refine lv_bipush (v := (-2)) hx hb dX7_minimal_12 (by decide) ?_
    exact m_iret hx hb hr hlk hH hS dX7_minimal_14 (by first | exact ⟨(if_neg (fun h => by rw [c_5] at h; exact absurd h.1 (by decide))).symm, rfl⟩ | exact ⟨(if_neg (fun h => c_9 (by rw [i_le, i0]; exact h.2))).symm, rfl⟩)
  · refine lv_iload_n hx hb dX7_minimal_8 rfl (lv_at hl 2 rfl) ?_
    refine lv_if_ge (tgt := 15) hx hb dX7_minimal_9 (by decide) (fun c_9 => ?_) (fun c_9 => ?_)
    · obtain ⟨lt, he, h1, h60⟩ := maS_nI c_5
      subst he
      rw [i_le, i0] at c_9
      obtain ⟨k1, k2⟩ := i_nat c_9
      have k3 := i_rng k
      obtain ⟨kn, hq⟩ : ∃ q : Nat, q = k.toInt.toNat := ⟨_, rfl⟩
      rw [← hq] at k1 k2
      have hkn : kn < 2147483648 := by omega
      clear c_9 hq k2 k3
      subst k1
      refine lv_iconst (v := nI 0) hx hb dX7_minimal_15 (by decide) ?_
      refine lv_istore_n (lv' := [(3, .int (nI 0)), (0, .ref (B.1 0 0)), (1, .int (nI lt)), (2, .int (nI kn))]) hx hb dX7_minimal_16 rfl hl (by decide) rfl (fun ls hl => ?_)
      refine lv_sipush (v := nI 1000) hx hb dX7_minimal_17 (by decide) ?_
      refine lv_istore (lv' := [(4, .int (nI 1000)), (3, .int (nI 0)), (0, .ref (B.1 0 0)), (1, .int (nI lt)), (2, .int (nI kn))]) hx hb dX7_minimal_20 hl (by decide) rfl (fun ls hl => ?_)
      refine lv_iconst (v := nI 1) hx hb dX7_minimal_22 (by decide) ?_
      refine lv_istore (lv' := [(5, .int (nI 1)), (4, .int (nI 1000)), (3, .int (nI 0)), (0, .ref (B.1 0 0)), (1, .int (nI lt)), (2, .int (nI kn))]) hx hb dX7_minimal_23 hl (by decide) rfl (fun ls hl => ?_)
      have loop : ∀ (n : Nat) (m1 : Nat), m1 ≤ lt ∧ lt < m1 + n ∧ fnd (mhit σ lt kn) m1 = none → ∀ (H : Heap) (locs : List Loc), Hp G B σ H → va_S (mA G) s.heap H locs → ∀ (ls : Array Slot), lv_has ls 8 [(0, .ref (B.1 0 0)), (1, .int (nI lt)), (2, .int (nI kn)), (3, .int (nI ((mst σ lt m1).1))), (4, .int (nI ((mst σ lt m1).2))), (5, .int (nI (m1 + 1)))] → W p l e ({ frames := 2, cells := 0, slots := 0, locals := 66 } : Room) s m ([.ref (B.1 0 0), .int (nI lt), .int (nI kn)] : List Value).toArray below meth c H locs 0 0 (MQ below (mQi G B (fun r σ' => r = (if maS σ (nI lt) = true ∧ 0 ≤ (nI kn).toInt then mnA σ (nI lt).toNatClampNeg (nI kn).toNatClampNeg else -2) ∧ σ' = σ)) ([.ref (B.1 0 0), .int (nI lt), .int (nI kn)] : List Value).toArray s 0 0 (mA G)) (F0 m 25 ls []) := by
        intro n
        induction n with
        | zero => intro m1 hh; exfalso; omega
        | succ n ih =>
          intro m1 hh H locs hH hS ls hl
          have hmL := mst_le σ lt m1
          refine lv_iload hx hb dX7_minimal_25 (lv_at hl 5 rfl) ?_
          refine lv_iload_n hx hb dX7_minimal_27 rfl (lv_at hl 1 rfl) ?_
          refine m_icmp_gtN (tgt := 113) (by omega) (by omega) hx hb dX7_minimal_28 (by decide) (fun c_28 => ?_) (fun c_28 => ?_)
          · refine lv_iconst (v := (-1)) hx hb dX7_minimal_113 (by decide) ?_
            exact m_iret hx hb hr hlk hH hS dX7_minimal_114 (⟨by rw [if_pos ⟨c_5, by rw [nI_I (by omega)]; omega⟩, nI_clamp (by omega), nI_clamp (by omega)]; exact (mnA_none (by have h9 := hh.2.2; rwa [show m1 = lt by omega] at h9)).symm, rfl⟩)
          · refine lv_iconst (v := (-1)) hx hb dX7_minimal_31 (by decide) ?_
            refine m_toe (lsI (fnd (fun q => hld σ (m1 + 1) q lt) 0)) rfl ?_
            refine lv_istore (lv' := [(6, .int (lsI (fnd (fun q => hld σ (m1 + 1) q lt) 0))), (0, .ref (B.1 0 0)), (1, .int (nI lt)), (2, .int (nI kn)), (3, .int (nI ((mst σ lt m1).1))), (4, .int (nI ((mst σ lt m1).2))), (5, .int (nI (m1 + 1)))]) hx hb dX7_minimal_32 hl (by decide) rfl (fun ls hl => ?_)
            refine lv_iconst (v := nI 0) hx hb dX7_minimal_34 (by decide) ?_
            refine lv_istore (lv' := [(7, .int (nI 0)), (6, .int (lsI (fnd (fun q => hld σ (m1 + 1) q lt) 0))), (0, .ref (B.1 0 0)), (1, .int (nI lt)), (2, .int (nI kn)), (3, .int (nI ((mst σ lt m1).1))), (4, .int (nI ((mst σ lt m1).2))), (5, .int (nI (m1 + 1)))]) hx hb dX7_minimal_35 hl (by decide) rfl (fun ls hl => ?_)
            have loopi : ∀ (n2 : Nat) (i : Nat), i ≤ m1 + 2 ∧ m1 + 2 < i + n2 → ∀ (H : Heap) (locs : List Loc), Hp G B σ H → va_S (mA G) s.heap H locs → ∀ (ls : Array Slot), lv_has ls 8 [(0, .ref (B.1 0 0)), (1, .int (nI lt)), (2, .int (nI kn)), (3, .int (nI ((mst σ lt m1).1))), (4, .int (nI ((mst σ lt m1).2))), (5, .int (nI (m1 + 1))), (6, .int (lsI (fnd (fun q => hld σ (m1 + 1) q lt) i))), (7, .int (nI i))] → W p l e ({ frames := 2, cells := 0, slots := 0, locals := 66 } : Room) s m ([.ref (B.1 0 0), .int (nI lt), .int (nI kn)] : List Value).toArray below meth c H locs 0 0 (MQ below (mQi G B (fun r σ' => r = (if maS σ (nI lt) = true ∧ 0 ≤ (nI kn).toInt then mnA σ (nI lt).toNatClampNeg (nI kn).toNatClampNeg else -2) ∧ σ' = σ)) ([.ref (B.1 0 0), .int (nI lt), .int (nI kn)] : List Value).toArray s 0 0 (mA G)) (F0 m 37 ls []) := by
              intro n2
              induction n2 with
              | zero => intro i hhi; exfalso; omega
              | succ n2 ihi =>
                intro i hhi H locs hH hS ls hl
                refine lv_iload hx hb dX7_minimal_37 (lv_at hl 7 rfl) ?_
                refine lv_iload hx hb dX7_minimal_39 (lv_at hl 5 rfl) ?_
                refine m_icmp_gtN (tgt := 71) (by omega) (by omega) hx hb dX7_minimal_41 (by decide) (fun c_41 => ?_) (fun c_41 => ?_)
                · have hlc : lc σ lt (m1 + 1) = fnd (fun q => hld σ (m1 + 1) q lt) i := by
                    first
                      | (rw [show i = m1 + 1 + 1 by omega]; rfl)
                      | (cases e : fnd (fun q => hld σ (m1 + 1) q lt) i with
                         | none => exact absurd c_46 (by rw [e]; decide)
                         | some j => exact fnd_up e (by omega))
                  refine lv_iload hx hb dX7_minimal_71 (lv_at hl 6 rfl) ?_
                  refine lv_if_lt (tgt := 107) hx hb dX7_minimal_73 (by decide) (fun c_73 => ?_) (fun c_73 => ?_)
                  · have hlz : lc σ lt (m1 + 1) = none := by
                      rw [hlc]
                      cases e : fnd (fun q => hld σ (m1 + 1) q lt) i with
                      | none => rfl
                      | some j => rw [e] at c_73; have := (fnd_lt e).1; exact absurd c_73 (nI_pos (by omega))
                    refine lv_iinc (v := nI (m1 + 1 + 1)) (lv' := [(5, .int (nI (m1 + 1 + 1))), (0, .ref (B.1 0 0)), (1, .int (nI lt)), (2, .int (nI kn)), (3, .int (nI ((mst σ lt m1).1))), (4, .int (nI ((mst σ lt m1).2))), (6, .int (lsI (fnd (fun q => hld σ (m1 + 1) q lt) i))), (7, .int (nI i))]) hx hb dX7_minimal_107 hl (k := 5) rfl (nI_1 _) (by decide) rfl (fun ls hl => ?_)
                    refine lv_goto (tgt := 25) hx hb dX7_minimal_110 (by decide) ?_
                    first | exact ih (m1 + 1) ⟨by omega, by omega, fnd_miss hh.2.2 (mhit_n hlz)⟩ H locs hH hS ls (by rw [mst_n hlz]; exact lv_sub hl [1, 2, 3, 4, 5, 0] rfl) | exact ih (m1 + 1) ⟨by omega, by omega, fnd_miss hh.2.2 (by rw [mhit_s hlq]; exact decide_eq_false (fun q => by omega))⟩ H locs hH hS ls (by rw [mst_s hlq, if_neg (by omega)]; exact lv_sub hl [1, 2, 3, 4, 5, 0] rfl)
                  · obtain ⟨jq, hj⟩ : ∃ j, fnd (fun q => hld σ (m1 + 1) q lt) i = some j := by
                      cases e : fnd (fun q => hld σ (m1 + 1) q lt) i with
                      | none => exact absurd (show lsI (fnd (fun q => hld σ (m1 + 1) q lt) i) < 0 by rw [e]; decide) c_73
                      | some j => exact ⟨j, rfl⟩
                    have hlq := hlc.trans hj
                    have hjl := (fnd_lt hj).1
                    rw [hj] at hl
                    have hl : lv_has ls 8 [(0, .ref (B.1 0 0)), (1, .int (nI lt)), (2, .int (nI kn)), (3, .int (nI ((mst σ lt m1).1))), (4, .int (nI ((mst σ lt m1).2))), (5, .int (nI (m1 + 1))), (6, .int (nI jq)), (7, .int (nI i))] := hl
                    refine lv_iload hx hb dX7_minimal_76 (lv_at hl 6 rfl) ?_
                    refine lv_iload hx hb dX7_minimal_78 (lv_at hl 4 rfl) ?_
                    refine m_icmp_ltN (tgt := 86) (by omega) (by omega) hx hb dX7_minimal_80 (by decide) (fun c_80 => ?_) (fun c_80 => ?_)
                    · refine lv_iload hx hb dX7_minimal_86 (lv_at hl 6 rfl) ?_
                      refine lv_istore (lv' := [(4, .int (nI jq)), (0, .ref (B.1 0 0)), (1, .int (nI lt)), (2, .int (nI kn)), (3, .int (nI ((mst σ lt m1).1))), (5, .int (nI (m1 + 1))), (6, .int (nI jq)), (7, .int (nI i))]) hx hb dX7_minimal_88 hl (by decide) rfl (fun ls hl => ?_)
                      refine lv_iload_n hx hb dX7_minimal_90 rfl (lv_at hl 4 rfl) ?_
                      refine lv_iload_n hx hb dX7_minimal_91 rfl (lv_at hl 3 rfl) ?_
                      refine m_icmp_neN (tgt := 104) (by omega) (by omega) hx hb dX7_minimal_92 (by decide) (fun c_92 => ?_) (fun c_92 => ?_)
                      · refine lv_iinc (v := nI ((mst σ lt m1).1 + 1)) (lv' := [(3, .int (nI ((mst σ lt m1).1 + 1))), (4, .int (nI jq)), (0, .ref (B.1 0 0)), (1, .int (nI lt)), (2, .int (nI kn)), (5, .int (nI (m1 + 1))), (6, .int (nI jq)), (7, .int (nI i))]) hx hb dX7_minimal_104 hl (k := 4) rfl (nI_1 _) (by decide) rfl (fun ls hl => ?_)
                        refine lv_iinc (v := nI (m1 + 1 + 1)) (lv' := [(5, .int (nI (m1 + 1 + 1))), (3, .int (nI ((mst σ lt m1).1 + 1))), (4, .int (nI jq)), (0, .ref (B.1 0 0)), (1, .int (nI lt)), (2, .int (nI kn)), (6, .int (nI jq)), (7, .int (nI i))]) hx hb dX7_minimal_107 hl (k := 5) rfl (nI_1 _) (by decide) rfl (fun ls hl => ?_)
                        refine lv_goto (tgt := 25) hx hb dX7_minimal_110 (by decide) ?_
                        exact ih (m1 + 1) ⟨by omega, by omega, fnd_miss hh.2.2 (by rw [mhit_s hlq]; exact decide_eq_false (fun q => c_92 q.2))⟩ H locs hH hS ls (by rw [mst_s hlq, if_pos c_80]; exact lv_sub hl [3, 4, 5, 1, 2, 0] rfl)
                      · refine lv_bipush (v := nI 100) hx hb dX7_minimal_95 (by decide) ?_
                        refine lv_iload hx hb dX7_minimal_97 (lv_at hl 5 rfl) ?_
                        refine m_imulN hx hb dX7_minimal_99 ?_
                        refine lv_iload hx hb dX7_minimal_100 (lv_at hl 6 rfl) ?_
                        refine m_iaddN hx hb dX7_minimal_102 ?_
                        exact m_iret hx hb hr hlk hH hS dX7_minimal_103 (⟨by rw [if_pos ⟨c_5, by rw [nI_I (by omega)]; omega⟩, nI_clamp (by omega), nI_clamp (by omega)]; exact (mnA_some hh.2.2 (by omega) hlq c_80 c_92).symm, rfl⟩)
                    · refine lv_goto (tgt := 107) hx hb dX7_minimal_83 (by decide) ?_
                      refine lv_iinc (v := nI (m1 + 1 + 1)) (lv' := [(5, .int (nI (m1 + 1 + 1))), (0, .ref (B.1 0 0)), (1, .int (nI lt)), (2, .int (nI kn)), (3, .int (nI ((mst σ lt m1).1))), (4, .int (nI ((mst σ lt m1).2))), (6, .int (nI jq)), (7, .int (nI i))]) hx hb dX7_minimal_107 hl (k := 5) rfl (nI_1 _) (by decide) rfl (fun ls hl => ?_)
                      refine lv_goto (tgt := 25) hx hb dX7_minimal_110 (by decide) ?_
                      first | exact ih (m1 + 1) ⟨by omega, by omega, fnd_miss hh.2.2 (mhit_n hlz)⟩ H locs hH hS ls (by rw [mst_n hlz]; exact lv_sub hl [1, 2, 3, 4, 5, 0] rfl) | exact ih (m1 + 1) ⟨by omega, by omega, fnd_miss hh.2.2 (by rw [mhit_s hlq]; exact decide_eq_false (fun q => by omega))⟩ H locs hH hS ls (by rw [mst_s hlq, if_neg (by omega)]; exact lv_sub hl [1, 2, 3, 4, 5, 0] rfl)
                · refine lv_iload hx hb dX7_minimal_44 (lv_at hl 6 rfl) ?_
                  refine lv_if_ge (tgt := 71) hx hb dX7_minimal_46 (by decide) (fun c_46 => ?_) (fun c_46 => ?_)
                  · have hlc : lc σ lt (m1 + 1) = fnd (fun q => hld σ (m1 + 1) q lt) i := by
                      first
                        | (rw [show i = m1 + 1 + 1 by omega]; rfl)
                        | (cases e : fnd (fun q => hld σ (m1 + 1) q lt) i with
                           | none => exact absurd c_46 (by rw [e]; decide)
                           | some j => exact fnd_up e (by omega))
                    refine lv_iload hx hb dX7_minimal_71 (lv_at hl 6 rfl) ?_
                    refine lv_if_lt (tgt := 107) hx hb dX7_minimal_73 (by decide) (fun c_73 => ?_) (fun c_73 => ?_)
                    · have hlz : lc σ lt (m1 + 1) = none := by
                        rw [hlc]
                        cases e : fnd (fun q => hld σ (m1 + 1) q lt) i with
                        | none => rfl
                        | some j => rw [e] at c_73; have := (fnd_lt e).1; exact absurd c_73 (nI_pos (by omega))
                      refine lv_iinc (v := nI (m1 + 1 + 1)) (lv' := [(5, .int (nI (m1 + 1 + 1))), (0, .ref (B.1 0 0)), (1, .int (nI lt)), (2, .int (nI kn)), (3, .int (nI ((mst σ lt m1).1))), (4, .int (nI ((mst σ lt m1).2))), (6, .int (lsI (fnd (fun q => hld σ (m1 + 1) q lt) i))), (7, .int (nI i))]) hx hb dX7_minimal_107 hl (k := 5) rfl (nI_1 _) (by decide) rfl (fun ls hl => ?_)
                      refine lv_goto (tgt := 25) hx hb dX7_minimal_110 (by decide) ?_
                      first | exact ih (m1 + 1) ⟨by omega, by omega, fnd_miss hh.2.2 (mhit_n hlz)⟩ H locs hH hS ls (by rw [mst_n hlz]; exact lv_sub hl [1, 2, 3, 4, 5, 0] rfl) | exact ih (m1 + 1) ⟨by omega, by omega, fnd_miss hh.2.2 (by rw [mhit_s hlq]; exact decide_eq_false (fun q => by omega))⟩ H locs hH hS ls (by rw [mst_s hlq, if_neg (by omega)]; exact lv_sub hl [1, 2, 3, 4, 5, 0] rfl)
                    · obtain ⟨jq, hj⟩ : ∃ j, fnd (fun q => hld σ (m1 + 1) q lt) i = some j := by
                        cases e : fnd (fun q => hld σ (m1 + 1) q lt) i with
                        | none => exact absurd (show lsI (fnd (fun q => hld σ (m1 + 1) q lt) i) < 0 by rw [e]; decide) c_73
                        | some j => exact ⟨j, rfl⟩
                      have hlq := hlc.trans hj
                      have hjl := (fnd_lt hj).1
                      rw [hj] at hl
                      have hl : lv_has ls 8 [(0, .ref (B.1 0 0)), (1, .int (nI lt)), (2, .int (nI kn)), (3, .int (nI ((mst σ lt m1).1))), (4, .int (nI ((mst σ lt m1).2))), (5, .int (nI (m1 + 1))), (6, .int (nI jq)), (7, .int (nI i))] := hl
                      refine lv_iload hx hb dX7_minimal_76 (lv_at hl 6 rfl) ?_
                      refine lv_iload hx hb dX7_minimal_78 (lv_at hl 4 rfl) ?_
                      refine m_icmp_ltN (tgt := 86) (by omega) (by omega) hx hb dX7_minimal_80 (by decide) (fun c_80 => ?_) (fun c_80 => ?_)
                      · refine lv_iload hx hb dX7_minimal_86 (lv_at hl 6 rfl) ?_
                        refine lv_istore (lv' := [(4, .int (nI jq)), (0, .ref (B.1 0 0)), (1, .int (nI lt)), (2, .int (nI kn)), (3, .int (nI ((mst σ lt m1).1))), (5, .int (nI (m1 + 1))), (6, .int (nI jq)), (7, .int (nI i))]) hx hb dX7_minimal_88 hl (by decide) rfl (fun ls hl => ?_)
                        refine lv_iload_n hx hb dX7_minimal_90 rfl (lv_at hl 4 rfl) ?_
                        refine lv_iload_n hx hb dX7_minimal_91 rfl (lv_at hl 3 rfl) ?_
                        refine m_icmp_neN (tgt := 104) (by omega) (by omega) hx hb dX7_minimal_92 (by decide) (fun c_92 => ?_) (fun c_92 => ?_)
                        · refine lv_iinc (v := nI ((mst σ lt m1).1 + 1)) (lv' := [(3, .int (nI ((mst σ lt m1).1 + 1))), (4, .int (nI jq)), (0, .ref (B.1 0 0)), (1, .int (nI lt)), (2, .int (nI kn)), (5, .int (nI (m1 + 1))), (6, .int (nI jq)), (7, .int (nI i))]) hx hb dX7_minimal_104 hl (k := 4) rfl (nI_1 _) (by decide) rfl (fun ls hl => ?_)
                          refine lv_iinc (v := nI (m1 + 1 + 1)) (lv' := [(5, .int (nI (m1 + 1 + 1))), (3, .int (nI ((mst σ lt m1).1 + 1))), (4, .int (nI jq)), (0, .ref (B.1 0 0)), (1, .int (nI lt)), (2, .int (nI kn)), (6, .int (nI jq)), (7, .int (nI i))]) hx hb dX7_minimal_107 hl (k := 5) rfl (nI_1 _) (by decide) rfl (fun ls hl => ?_)
                          refine lv_goto (tgt := 25) hx hb dX7_minimal_110 (by decide) ?_
                          exact ih (m1 + 1) ⟨by omega, by omega, fnd_miss hh.2.2 (by rw [mhit_s hlq]; exact decide_eq_false (fun q => c_92 q.2))⟩ H locs hH hS ls (by rw [mst_s hlq, if_pos c_80]; exact lv_sub hl [3, 4, 5, 1, 2, 0] rfl)
                        · refine lv_bipush (v := nI 100) hx hb dX7_minimal_95 (by decide) ?_
                          refine lv_iload hx hb dX7_minimal_97 (lv_at hl 5 rfl) ?_
                          refine m_imulN hx hb dX7_minimal_99 ?_
                          refine lv_iload hx hb dX7_minimal_100 (lv_at hl 6 rfl) ?_
                          refine m_iaddN hx hb dX7_minimal_102 ?_
                          exact m_iret hx hb hr hlk hH hS dX7_minimal_103 (⟨by rw [if_pos ⟨c_5, by rw [nI_I (by omega)]; omega⟩, nI_clamp (by omega), nI_clamp (by omega)]; exact (mnA_some hh.2.2 (by omega) hlq c_80 c_92).symm, rfl⟩)
                      · refine lv_goto (tgt := 107) hx hb dX7_minimal_83 (by decide) ?_
                        refine lv_iinc (v := nI (m1 + 1 + 1)) (lv' := [(5, .int (nI (m1 + 1 + 1))), (0, .ref (B.1 0 0)), (1, .int (nI lt)), (2, .int (nI kn)), (3, .int (nI ((mst σ lt m1).1))), (4, .int (nI ((mst σ lt m1).2))), (6, .int (nI jq)), (7, .int (nI i))]) hx hb dX7_minimal_107 hl (k := 5) rfl (nI_1 _) (by decide) rfl (fun ls hl => ?_)
                        refine lv_goto (tgt := 25) hx hb dX7_minimal_110 (by decide) ?_
                        first | exact ih (m1 + 1) ⟨by omega, by omega, fnd_miss hh.2.2 (mhit_n hlz)⟩ H locs hH hS ls (by rw [mst_n hlz]; exact lv_sub hl [1, 2, 3, 4, 5, 0] rfl) | exact ih (m1 + 1) ⟨by omega, by omega, fnd_miss hh.2.2 (by rw [mhit_s hlq]; exact decide_eq_false (fun q => by omega))⟩ H locs hH hS ls (by rw [mst_s hlq, if_neg (by omega)]; exact lv_sub hl [1, 2, 3, 4, 5, 0] rfl)
                  · have hno : fnd (fun q => hld σ (m1 + 1) q lt) i = none := by
                      cases e : fnd (fun q => hld σ (m1 + 1) q lt) i with
                      | none => rfl
                      | some j =>
                        rw [e] at c_46
                        have := (fnd_lt e).1
                        exact absurd (show (0 : Int32) ≤ nI j by rw [i_le, i0, nI_I (by omega)]; omega) c_46
                    refine lv_aload_n hx hb dX7_minimal_49 rfl (lv_at hl 0 rfl) ?_
                    refine lv_iload hx hb dX7_minimal_50 (lv_at hl 5 rfl) ?_
                    refine lv_iload hx hb dX7_minimal_52 (lv_at hl 7 rfl) ?_
                    refine lv_iload_n hx hb dX7_minimal_54 rfl (lv_at hl 1 rfl) ?_
                    refine m_ki (m_runV (k := 0) (i := 0) (ci := 7) ⟨hx, hb, hml, hown, hz⟩ hK hH hS (bm hM 0) rfl rfl (c_X7_holds l G B σ hM hR hW (m1 + 1) i lt (by omega) h60 (by omega)) mw_X7_holds wl_X7_165 ⟨rfl, rfl⟩ ⟨by decide, by decide⟩ rfl hl.1 rfl (Nat.le_of_ble_eq_true rfl) dX7_minimal_55 ⟨Nat.zero_le _, Nat.zero_le _⟩) hS (fun r_55 σ_55 H locs hp hH hS => ?_)
                    obtain ⟨hr1, hs1⟩ := hp
                    subst hr1
                    rw [hs1] at hH
                    refine m_ifeqB (tgt := 65) hx hb dX7_minimal_58 (by decide) (fun c_58 => ?_) (fun c_58 => ?_)
                    · refine lv_iinc (v := nI (i + 1)) (lv' := [(7, .int (nI (i + 1))), (0, .ref (B.1 0 0)), (1, .int (nI lt)), (2, .int (nI kn)), (3, .int (nI ((mst σ lt m1).1))), (4, .int (nI ((mst σ lt m1).2))), (5, .int (nI (m1 + 1))), (6, .int (lsI (fnd (fun q => hld σ (m1 + 1) q lt) i)))]) hx hb dX7_minimal_65 hl (k := 7) rfl (nI_1 _) (by decide) rfl (fun ls hl => ?_)
                      refine lv_goto (tgt := 37) hx hb dX7_minimal_68 (by decide) ?_
                      exact ihi (i + 1) (by omega) H locs hH hS ls (by rw [fnd_miss hno c_58]; rw [hno] at hl; exact lv_sub hl [1, 2, 3, 4, 5, 6, 7, 0] rfl)
                    · refine lv_iload hx hb dX7_minimal_61 (lv_at hl 7 rfl) ?_
                      refine lv_istore (lv' := [(6, .int (nI i)), (0, .ref (B.1 0 0)), (1, .int (nI lt)), (2, .int (nI kn)), (3, .int (nI ((mst σ lt m1).1))), (4, .int (nI ((mst σ lt m1).2))), (5, .int (nI (m1 + 1))), (7, .int (nI i))]) hx hb dX7_minimal_63 hl (by decide) rfl (fun ls hl => ?_)
                      refine lv_iinc (v := nI (i + 1)) (lv' := [(7, .int (nI (i + 1))), (6, .int (nI i)), (0, .ref (B.1 0 0)), (1, .int (nI lt)), (2, .int (nI kn)), (3, .int (nI ((mst σ lt m1).1))), (4, .int (nI ((mst σ lt m1).2))), (5, .int (nI (m1 + 1)))]) hx hb dX7_minimal_65 hl (k := 7) rfl (nI_1 _) (by decide) rfl (fun ls hl => ?_)
                      refine lv_goto (tgt := 37) hx hb dX7_minimal_68 (by decide) ?_
                      exact ihi (i + 1) (by omega) H locs hH hS ls (by rw [fnd_hit hno c_58]; exact lv_sub hl [2, 3, 4, 5, 6, 7, 1, 0] rfl)
            exact loopi (m1 + 3) 0 (by omega) H locs hH hS ls (lv_sub hl [2, 3, 4, 5, 6, 7, 1, 0] rfl)
      exact loop (lt + 1) 0 ⟨by omega, by omega, rfl⟩ H locs hH hS ls (lv_sub hl [3, 4, 5, 2, 1, 0] rfl)
    · refine lv_bipush (v := (-2)) hx hb dX7_minimal_12 (by decide) ?_
      exact m_iret hx hb hr hlk hH hS dX7_minimal_14 (by first | exact ⟨(if_neg (fun h => by rw [c_5] at h; exact absurd h.1 (by decide))).symm, rfl⟩ | exact ⟨(if_neg (fun h => c_9 (by rw [i_le, i0]; exact h.2))).symm, rfl⟩)
end
section
/-! lots: items judged one by one -/
def lSu (σ : gS) (q : Nat) : Nat := (σ.1 19 0 q).toNatClampNeg
def lSz (σ : gS) (q : Nat) : Nat := (σ.1 20 0 q).toNatClampNeg
def lPl (σ : gS) (q : Nat) : Nat := (σ.1 21 0 q).toNatClampNeg
def lRu (σ : gS) (q : Nat) : Nat := (σ.1 22 0 q).toNatClampNeg
def lSn (σ : gS) (q : Nat) : Nat := (σ.1 23 0 q).toNatClampNeg
def itm (σ : gS) (q k : Nat) : Nat := (σ.1 24 0 (60 * q + k)).toNatClampNeg
/-- what is so behind some items: 0, 1, 2; items; STAGE; minors; majors and criticals -/
abbrev jT : Type := Nat × Nat × Nat × Nat × Nat
def jD (t : jT) : Nat := t.2.2.2.2 + t.2.2.2.1 / 3
def isM (v : Nat) : Nat := if v = 1 then 1 else 0
def isB (v : Nat) : Nat := if 1 < v then 1 else 0
theorem isM_le (v : Nat) : isM v ≤ 1 := by unfold isM; split <;> omega
theorem isB_le (v : Nat) : isB v ≤ 1 := by unfold isB; split <;> omega
/-- one item of class v more -/
def jadd (t : jT) (v : Nat) : jT := (t.1, t.2.1 + 1, t.2.2.1, t.2.2.2.1 + isM v, t.2.2.2.2 + isB v)
/-- what that decides -/
def jdec (σ : gS) (p : Nat) (t : jT) (v : Nat) : jT :=
  if v = 3 ∨ rfI σ p t.2.2.1 ≤ (jD t : Int) then (2, t.2)
  else if t.2.1 = tot σ p (t.2.2.1 + 1) then (if (jD t : Int) ≤ acI σ p t.2.2.1 then (1, t.2) else (0, t.2.1, t.2.2.1 + 1, t.2.2.2))
  else t
def jstep (σ : gS) (p : Nat) (t : jT) (v : Nat) : jT := if t.1 = 0 then jdec σ p (jadd t v) v else t
def jd (σ : gS) (q p : Nat) : Nat → jT
  | 0 => (0, 0, 0, 0, 0)
  | n + 1 => jstep σ p (jd σ q p n) (itm σ q (jd σ q p n).2.1)
theorem jd_fix {σ : gS} {q p j n : Nat} (h : (jd σ q p j).1 ≠ 0) (hn : j ≤ n) : jd σ q p n = jd σ q p j := by
  induction n with
  | zero => rw [Nat.le_zero.mp hn]
  | succ n ih =>
    rcases Nat.lt_or_ge j (n + 1) with k | k
    · have e := ih (by omega)
      show jstep σ p (jd σ q p n) _ = _
      rw [e]
      unfold jstep
      rw [if_neg h]
    · rw [show j = n + 1 by omega]
theorem jdec_cnt (σ : gS) (p : Nat) (t : jT) (v : Nat) : (jdec σ p t v).2.1 = t.2.1 ∧ (jdec σ p t v).2.2.2 = t.2.2.2 := by
  unfold jdec
  split
  · exact ⟨rfl, rfl⟩
  · split
    · split
      · exact ⟨rfl, rfl⟩
      · exact ⟨rfl, rfl⟩
    · exact ⟨rfl, rfl⟩
theorem jd_cnt {σ : gS} {q p n : Nat} (h : (jd σ q p n).1 = 0) : (jd σ q p n).2.1 = n := by
  induction n with
  | zero => rfl
  | succ n ih =>
    by_cases h0 : (jd σ q p n).1 = 0
    · have e : jd σ q p (n + 1) = jdec σ p (jadd (jd σ q p n) (itm σ q (jd σ q p n).2.1)) (itm σ q (jd σ q p n).2.1) := by
        show jstep σ p _ _ = _
        unfold jstep
        rw [if_pos h0]
      rw [e, (jdec_cnt _ _ _ _).1]
      show (jd σ q p n).2.1 + 1 = n + 1
      rw [ih h0]
    · rw [jd_fix h0 (Nat.le_succ n)] at h
      exact absurd h h0
theorem jd_le (σ : gS) (q p n : Nat) : (jd σ q p n).2.1 ≤ n := by
  induction n with
  | zero => exact Nat.le_refl 0
  | succ n ih =>
    show (jstep σ p (jd σ q p n) _).2.1 ≤ n + 1
    unfold jstep
    split
    · rw [(jdec_cnt _ _ _ _).1]
      show (jd σ q p n).2.1 + 1 ≤ n + 1
      omega
    · omega
/-- while it is undecided the STAGE at hand is one of the plan's, and its end is ahead -/
theorem jd_inv {σ : gS} {q p : Nat} (hP : WfP1 σ p) (hc : clo σ p = true) {n : Nat} (h : (jd σ q p n).1 = 0) : (jd σ q p n).2.2.1 < stN σ p ∧ n < tot σ p ((jd σ q p n).2.2.1 + 1) := by
  have hc2 := of_decide_eq_true hc
  induction n with
  | zero =>
    refine ⟨hc2.1, ?_⟩
    have := (hP.2.2.1 0 hc2.1).2.1
    show 0 < 0 + szN σ p 0
    omega
  | succ n ih =>
    by_cases h0 : (jd σ q p n).1 = 0
    · obtain ⟨a, b⟩ := ih h0
      have hcnt := jd_cnt h0
      have e : jd σ q p (n + 1) = jdec σ p (jadd (jd σ q p n) (itm σ q (jd σ q p n).2.1)) (itm σ q (jd σ q p n).2.1) := by
        show jstep σ p _ _ = _
        unfold jstep
        rw [if_pos h0]
      rw [e] at h ⊢
      generalize hu : jadd (jd σ q p n) (itm σ q (jd σ q p n).2.1) = u at h ⊢
      have us : u.2.2.1 = (jd σ q p n).2.2.1 := by rw [← hu]; rfl
      have uc : u.2.1 = n + 1 := by rw [← hu]; show (jd σ q p n).2.1 + 1 = n + 1; rw [hcnt]
      unfold jdec at h ⊢
      by_cases c1 : itm σ q (jd σ q p n).2.1 = 3 ∨ rfI σ p u.2.2.1 ≤ (jD u : Int)
      · rw [if_pos c1] at h; exact absurd (show (2 : Nat) = 0 from h) (by decide)
      · rw [if_neg c1] at h ⊢
        by_cases c2 : u.2.1 = tot σ p (u.2.2.1 + 1)
        · rw [if_pos c2] at h ⊢
          by_cases c3 : (jD u : Int) ≤ acI σ p u.2.2.1
          · rw [if_pos c3] at h; exact absurd (show (1 : Nat) = 0 from h) (by decide)
          · rw [if_neg c3]
            have hlast : u.2.2.1 + 1 < stN σ p := by
              rcases Nat.lt_or_ge (u.2.2.1 + 1) (stN σ p) with k | k
              · exact k
              · exfalso
                have : stN σ p - 1 = u.2.2.1 := by omega
                rw [this] at hc2
                omega
            refine ⟨hlast, ?_⟩
            show n + 1 < tot σ p (u.2.2.1 + 1) + szN σ p (u.2.2.1 + 1)
            have := (hP.2.2.1 (u.2.2.1 + 1) hlast).2.1
            omega
        · rw [if_neg c2]
          exact ⟨by omega, by rw [us] at c2 ⊢; rw [uc] at c2; omega⟩
    · rw [jd_fix h0 (Nat.le_succ n)] at h
      exact absurd h h0
theorem jd_mm (σ : gS) (q p n : Nat) : (jd σ q p n).2.2.2.1 ≤ n ∧ (jd σ q p n).2.2.2.2 ≤ n := by
  induction n with
  | zero => exact ⟨Nat.le_refl 0, Nat.le_refl 0⟩
  | succ n ih =>
    have : (jd σ q p (n + 1)).2.2.2 = (jadd (jd σ q p n) (itm σ q (jd σ q p n).2.1)).2.2.2 ∨ (jd σ q p (n + 1)).2.2.2 = (jd σ q p n).2.2.2 := by
      show (jstep σ p _ _).2.2.2 = _ ∨ (jstep σ p _ _).2.2.2 = _
      unfold jstep
      split
      · exact Or.inl (jdec_cnt _ _ _ _).2
      · exact Or.inr rfl
    rcases this with e | e
    · rw [e]
      unfold jadd
      refine ⟨?_, ?_⟩
      · show (jd σ q p n).2.2.2.1 + isM _ ≤ n + 1
        have := isM_le (itm σ q (jd σ q p n).2.1)
        omega
      · show (jd σ q p n).2.2.2.2 + isB _ ≤ n + 1
        have := isB_le (itm σ q (jd σ q p n).2.1)
        omega
    · rw [e]; exact ⟨by omega, by omega⟩
/-- the four numbers that judge() leaves -/
def JP (σ τ : gS) (t : jT) : Prop := (∀ k i j, ¬ (k = 0 ∧ 31 ≤ j ∧ j ≤ 34) → τ.1 k i j = σ.1 k i j) ∧ τ.2 = σ.2 ∧ τ.1 0 0 31 = nI t.1 ∧ τ.1 0 0 32 = nI t.2.1 ∧ τ.1 0 0 33 = nI (jD t) ∧ τ.1 0 0 34 = nI t.2.2.1
/-- what judge() needs of a lot -/
def JH (σ : gS) (q pn sn : Nat) : Prop := q < 60 ∧ pn < 24 ∧ WfP1 σ pn ∧ clo σ pn = true ∧ σ.1 21 0 q = nI pn ∧ σ.1 23 0 q = nI sn ∧ sn ≤ 60 ∧ ∀ k, k < sn → σ.1 24 0 (60 * q + k) = nI (itm σ q k) ∧ itm σ q k ≤ 3
theorem JP_in {σ τ : gS} {t u : jT} (h : JP σ τ t) {τ' : gS} (h1 : ∀ k i j, ¬ (k = 0 ∧ 31 ≤ j ∧ j ≤ 34) → τ'.1 k i j = τ.1 k i j) (h2 : τ'.2 = τ.2) (h3 : τ'.1 0 0 31 = nI u.1) (h4 : τ'.1 0 0 32 = nI u.2.1) (h5 : τ'.1 0 0 33 = nI (jD u)) (h6 : τ'.1 0 0 34 = nI u.2.2.1) : JP σ τ' u := ⟨fun k i j q => (h1 k i j q).trans (h.1 k i j q), h2.trans h.2.1, h3, h4, h5, h6⟩
theorem sI_scr {τ : gS} {a : Nat} {v : Int32} (ha : 31 ≤ a ∧ a ≤ 34) : ∀ k i j, ¬ (k = 0 ∧ 31 ≤ j ∧ j ≤ 34) → (sI τ 0 0 a v).1 k i j = τ.1 k i j := fun k i j q => by
  rw [sI_at, if_neg (fun z => q ⟨z.1, by omega, by omega⟩)]
/-- the two shapes that an item leaves: decided (or the STAGE goes on), or neither -/
theorem JP_A {σ τ : gS} {t u : jT} {a b v : Nat} (h : JP σ τ t) (h1 : u.1 = v) (h2 : u.2.1 = a) (h3 : jD u = b) (h4 : u.2.2.1 = t.2.2.1) : JP σ (sI (sI (sI τ 0 0 32 (nI a)) 0 0 33 (nI b)) 0 0 31 (nI v)) u := by
  refine JP_in h (fun k i j q => ?_) rfl ?_ ?_ ?_ ?_
  · rw [sI_scr (by omega) k i j q, sI_scr (by omega) k i j q, sI_scr (by omega) k i j q]
  · rw [sI_at, if_pos ⟨rfl, rfl, rfl⟩, h1]
  · rw [sI_at, if_neg (by omega), sI_at, if_neg (by omega), sI_at, if_pos ⟨rfl, rfl, rfl⟩, h2]
  · rw [sI_at, if_neg (by omega), sI_at, if_pos ⟨rfl, rfl, rfl⟩, h3]
  · rw [sI_at, if_neg (by omega), sI_at, if_neg (by omega), sI_at, if_neg (by omega), h4]; exact h.2.2.2.2.2
theorem JP_B {σ τ : gS} {t u : jT} {a b : Nat} (h : JP σ τ t) (h1 : u.1 = t.1) (h2 : u.2.1 = a) (h3 : jD u = b) (h4 : u.2.2.1 = t.2.2.1) : JP σ (sI (sI τ 0 0 32 (nI a)) 0 0 33 (nI b)) u := by
  refine JP_in h (fun k i j q => ?_) rfl ?_ ?_ ?_ ?_
  · rw [sI_scr (by omega) k i j q, sI_scr (by omega) k i j q]
  · rw [sI_at, if_neg (by omega), sI_at, if_neg (by omega), h1]; exact h.2.2.1
  · rw [sI_at, if_neg (by omega), sI_at, if_pos ⟨rfl, rfl, rfl⟩, h2]
  · rw [sI_at, if_pos ⟨rfl, rfl, rfl⟩, h3]
  · rw [sI_at, if_neg (by omega), sI_at, if_neg (by omega), h4]; exact h.2.2.2.2.2
theorem JP_C {σ τ : gS} {t u : jT} {a b v : Nat} (h : JP σ τ t) (h1 : u.1 = t.1) (h2 : u.2.1 = a) (h3 : jD u = b) (h4 : u.2.2.1 = v) : JP σ (sI (sI (sI τ 0 0 32 (nI a)) 0 0 33 (nI b)) 0 0 34 (nI v)) u := by
  refine JP_in h (fun k i j q => ?_) rfl ?_ ?_ ?_ ?_
  · rw [sI_scr (by omega) k i j q, sI_scr (by omega) k i j q, sI_scr (by omega) k i j q]
  · rw [sI_at, if_neg (by omega), sI_at, if_neg (by omega), sI_at, if_neg (by omega), h1]; exact h.2.2.1
  · rw [sI_at, if_neg (by omega), sI_at, if_neg (by omega), sI_at, if_pos ⟨rfl, rfl, rfl⟩, h2]
  · rw [sI_at, if_neg (by omega), sI_at, if_pos ⟨rfl, rfl, rfl⟩, h3]
  · rw [sI_at, if_pos ⟨rfl, rfl, rfl⟩, h4]
theorem JP_0 (σ : gS) : JP σ (sI (sI (sI (sI σ 0 0 31 (nI 0)) 0 0 32 (nI 0)) 0 0 33 (nI 0)) 0 0 34 (nI 0)) (0, 0, 0, 0, 0) := by
  refine ⟨fun k i j q => ?_, rfl, ?_, ?_, ?_, ?_⟩
  · rw [sI_scr (by omega) k i j q, sI_scr (by omega) k i j q, sI_scr (by omega) k i j q, sI_scr (by omega) k i j q]
  · simp [sI_at]
  · simp [sI_at]
  · simp [sI_at]; rfl
  · simp [sI_at]
theorem jdec_now (σ : gS) (p : Nat) (t : jT) (v : Nat) (h : t.1 ≤ 2) : (jdec σ p t v).1 ≤ 2 := by
  unfold jdec
  split
  · exact Nat.le_refl 2
  · split
    · split
      · show 1 ≤ 2; omega
      · show 0 ≤ 2; omega
    · exact h
theorem jd_now (σ : gS) (q p n : Nat) : (jd σ q p n).1 ≤ 2 := by
  induction n with
  | zero => show 0 ≤ 2; omega
  | succ n ih =>
    show (jstep σ p _ _).1 ≤ 2
    unfold jstep
    split
    · exact jdec_now _ _ _ _ ih
    · exact ih
theorem jd_s {σ : gS} {q p j : Nat} (h : (jd σ q p j).1 = 0) : jd σ q p (j + 1) = jdec σ p (jadd (jd σ q p j) (itm σ q j)) (itm σ q j) := by
  show jstep σ p _ _ = _
  unfold jstep
  rw [if_pos h, jd_cnt h]
theorem jd_2 {σ : gS} {q p j : Nat} (h : (jd σ q p j).1 = 0) (hc : itm σ q j = 3 ∨ rfI σ p (jd σ q p j).2.2.1 ≤ (((jd σ q p j).2.2.2.2 + isB (itm σ q j) + ((jd σ q p j).2.2.2.1 + isM (itm σ q j)) / 3 : Nat) : Int)) : jd σ q p (j + 1) = (2, (jadd (jd σ q p j) (itm σ q j)).2) := by
  rw [jd_s h]
  exact if_pos hc
theorem jd_1 {σ : gS} {q p j : Nat} (h : (jd σ q p j).1 = 0) (hc : ¬ (itm σ q j = 3 ∨ rfI σ p (jd σ q p j).2.2.1 ≤ (((jd σ q p j).2.2.2.2 + isB (itm σ q j) + ((jd σ q p j).2.2.2.1 + isM (itm σ q j)) / 3 : Nat) : Int))) (he : j + 1 = tot σ p ((jd σ q p j).2.2.1 + 1)) (ha : (((jd σ q p j).2.2.2.2 + isB (itm σ q j) + ((jd σ q p j).2.2.2.1 + isM (itm σ q j)) / 3 : Nat) : Int) ≤ acI σ p (jd σ q p j).2.2.1) : jd σ q p (j + 1) = (1, (jadd (jd σ q p j) (itm σ q j)).2) := by
  rw [jd_s h]
  exact (if_neg hc).trans ((if_pos (show (jadd (jd σ q p j) (itm σ q j)).2.1 = tot σ p ((jadd (jd σ q p j) (itm σ q j)).2.2.1 + 1) from (by show (jd σ q p j).2.1 + 1 = _; rw [jd_cnt h]; exact he))).trans (if_pos ha))
theorem jd_0s {σ : gS} {q p j : Nat} (h : (jd σ q p j).1 = 0) (hc : ¬ (itm σ q j = 3 ∨ rfI σ p (jd σ q p j).2.2.1 ≤ (((jd σ q p j).2.2.2.2 + isB (itm σ q j) + ((jd σ q p j).2.2.2.1 + isM (itm σ q j)) / 3 : Nat) : Int))) (he : j + 1 = tot σ p ((jd σ q p j).2.2.1 + 1)) (ha : ¬ (((jd σ q p j).2.2.2.2 + isB (itm σ q j) + ((jd σ q p j).2.2.2.1 + isM (itm σ q j)) / 3 : Nat) : Int) ≤ acI σ p (jd σ q p j).2.2.1) : jd σ q p (j + 1) = (0, (jadd (jd σ q p j) (itm σ q j)).2.1, (jd σ q p j).2.2.1 + 1, (jadd (jd σ q p j) (itm σ q j)).2.2.2) := by
  rw [jd_s h]
  exact (if_neg hc).trans ((if_pos (show (jadd (jd σ q p j) (itm σ q j)).2.1 = tot σ p ((jadd (jd σ q p j) (itm σ q j)).2.2.1 + 1) from (by show (jd σ q p j).2.1 + 1 = _; rw [jd_cnt h]; exact he))).trans (if_neg ha))
theorem jd_0 {σ : gS} {q p j : Nat} (h : (jd σ q p j).1 = 0) (hc : ¬ (itm σ q j = 3 ∨ rfI σ p (jd σ q p j).2.2.1 ≤ (((jd σ q p j).2.2.2.2 + isB (itm σ q j) + ((jd σ q p j).2.2.2.1 + isM (itm σ q j)) / 3 : Nat) : Int))) (he : j + 1 ≠ tot σ p ((jd σ q p j).2.2.1 + 1)) : jd σ q p (j + 1) = jadd (jd σ q p j) (itm σ q j) := by
  rw [jd_s h]
  exact (if_neg hc).trans (if_neg (show ¬ (jadd (jd σ q p j) (itm σ q j)).2.1 = tot σ p ((jadd (jd σ q p j) (itm σ q j)).2.2.1 + 1) from (by show ¬ (jd σ q p j).2.1 + 1 = _; rw [jd_cnt h]; exact he)))
/-- two states with the same plans -/
def eqP (σ τ : gS) : Prop := ∀ k j, 3 ≤ k → k ≤ 6 → τ.1 k 0 j = σ.1 k 0 j
theorem eqP.st {σ τ : gS} (h : eqP σ τ) (p : Nat) : stN τ p = stN σ p := by unfold stN; rw [h 3 p (by omega) (by omega)]
theorem eqP.sz {σ τ : gS} (h : eqP σ τ) (p k : Nat) : szN τ p k = szN σ p k := by unfold szN; rw [h 4 _ (by omega) (by omega)]
theorem eqP.ac {σ τ : gS} (h : eqP σ τ) (p k : Nat) : acI τ p k = acI σ p k := by unfold acI; rw [h 5 _ (by omega) (by omega)]
theorem eqP.rf {σ τ : gS} (h : eqP σ τ) (p k : Nat) : rfI τ p k = rfI σ p k := by unfold rfI; rw [h 6 _ (by omega) (by omega)]
theorem eqP.to {σ τ : gS} (h : eqP σ τ) (p : Nat) : ∀ k, tot τ p k = tot σ p k
  | 0 => rfl
  | k + 1 => by show tot τ p k + szN τ p k = _; rw [eqP.to h p k, h.sz]; rfl
theorem eqP.wf {σ τ : gS} (h : eqP σ τ) {p : Nat} (hP : WfP1 σ p) : WfP1 τ p := by
  unfold WfP1 at hP ⊢
  rw [h.st, h.to]
  refine ⟨by rw [h 3 p (by omega) (by omega)]; exact hP.1, hP.2.1, fun k hk => ?_, hP.2.2.2.1, fun k hk => ?_, fun hk => ?_⟩
  · rw [h 4 _ (by omega) (by omega), h.sz, h.ac, h.rf]; exact hP.2.2.1 k hk
  · rw [h.ac, h.rf]; exact hP.2.2.2.2.1 k hk
  · rw [h.ac, h.rf]; exact hP.2.2.2.2.2 hk
theorem eqP.cl {σ τ : gS} (h : eqP σ τ) (p : Nat) : clo τ p = clo σ p := by unfold clo; rw [h.st, h.ac, h.rf]
theorem JP.eqP {σ τ : gS} {t : jT} (h : JP σ τ t) : eqP σ τ := fun k j h1 h2 => h.1 k 0 j (by omega)
theorem eqP.put {σ τ : gS} (h : eqP σ τ) {k i j : Nat} {v : Int32} (hk : k < 3 ∨ 6 < k) : eqP σ (sI τ k i j v) := fun a b h1 h2 => by
  rw [sI_at, if_neg (by omega)]; exact h a b h1 h2
end
section
set_option maxHeartbeats 4000000 in
set_option maxRecDepth 100000 in
theorem c_X7_judge (l : Launch) (G : gG) (B : gB) (σ : gS) (hM : BkM B) (qn pn sn : Nat) (hL : JH σ qn pn sn) : Met l yX7_judge [.code yX7_judge cX7_judge 6 none] ({ frames := 1, cells := 0, slots := 0, locals := 24 } : Room) (mPc G B σ [.ref (B.1 0 0), .int (nI qn)]) (mQv G B (fun τ => JP σ τ (jd σ qn pn sn))) 0 0 (mA G) := by
  refine m_start (by decide) (Nat.le_of_ble_eq_true rfl) ?_
  intro p e s m below meth c ⟨hx, hb, hr, hml, hown, hK, hlk, hz⟩ hH hS ls hl
  have hl : lv_has ls 6 [(0, .ref (B.1 0 0)), (1, .int (nI qn))] := hl
  have loop : ∀ (n : Nat) (j : Nat), j ≤ sn ∧ sn < j + n → ∀ (τ : gS) (H : Heap) (locs : List Loc), JP σ τ (jd σ qn pn j) → Hp G B τ H → va_S (mA G) s.heap H locs → ∀ (ls : Array Slot), lv_has ls 6 [(0, .ref (B.1 0 0)), (1, .int (nI qn)), (2, .int (nI pn)), (3, .int (nI ((jd σ qn pn j).2.2.2.1))), (4, .int (nI ((jd σ qn pn j).2.2.2.2)))] → W p l e ({ frames := 1, cells := 0, slots := 0, locals := 24 } : Room) s m ([.ref (B.1 0 0), .int (nI qn)] : List Value).toArray below meth c H locs 0 0 (MQ below (mQv G B (fun τ => JP σ τ (jd σ qn pn sn))) ([.ref (B.1 0 0), .int (nI qn)] : List Value).toArray s 0 0 (mA G)) (F0 m 32 ls []) := by
    intro n
    induction n with
    | zero => intro j hh; exfalso; omega
    | succ n ih =>
      intro j hh τ H locs hJ hH hS ls hl
      have hb1 := jd_now σ qn pn j
      have hb2 := jd_mm σ qn pn j
      have h60 := hL.2.2.2.2.2.2.1
      have hq := hL.1
      refine lv_aload_n hx hb dX7_judge_32 rfl (lv_at hl 0 rfl) ?_
      refine gf_X7_177 hx hb hown hK hH (bm hM 0) dX7_judge_33 ?_
      refine m_toi ((jd σ qn pn j).1) (hJ.2.2.1) ?_
      refine m_ifneN (tgt := 209) (by omega) hx hb dX7_judge_36 (by decide) (fun c_36 => ?_) (fun c_36 => ?_)
      · exact m_vret hx hb hr hlk hH hS dX7_judge_209 (by first | (rw [jd_fix (show (jd σ qn pn j).1 ≠ 0 by omega) hh.1]; exact hJ) | (have e1 := jd_cnt c_36; rw [show sn = j by omega]; exact hJ))
      · refine lv_aload_n hx hb dX7_judge_39 rfl (lv_at hl 0 rfl) ?_
        refine gf_X7_180 hx hb hown hK hH (bm hM 0) dX7_judge_40 ?_
        refine m_toi (j) (by rw [hJ.2.2.2.1, jd_cnt c_36]) ?_
        refine lv_aload_n hx hb dX7_judge_43 rfl (lv_at hl 0 rfl) ?_
        refine gf_X7_70 hx hb hown hK hH (bm hM 0) dX7_judge_44 ?_
        refine lv_iload_n hx hb dX7_judge_47 rfl (lv_at hl 1 rfl) ?_
        refine m_iald hx hb hK hH (n := 60) (bm hM 23) (fun _ _ => rfl) (qn) (rfl) (by omega) (by decide) dX7_judge_48 ?_
        refine m_toi (sn) ((hJ.1 23 0 qn (by omega)).trans hL.2.2.2.2.2.1) ?_
        refine m_icmp_geN (tgt := 209) (by omega) (by omega) hx hb dX7_judge_49 (by decide) (fun c_49 => ?_) (fun c_49 => ?_)
        · exact m_vret hx hb hr hlk hH hS dX7_judge_209 (by first | (rw [jd_fix (show (jd σ qn pn j).1 ≠ 0 by omega) hh.1]; exact hJ) | (have e1 := jd_cnt c_36; rw [show sn = j by omega]; exact hJ))
        · have hit := hL.2.2.2.2.2.2.2 j c_49
          obtain ⟨hv1, hv2⟩ := jd_inv (q := qn) hL.2.2.1 hL.2.2.2.1 c_36
          have hs4 := hL.2.2.1.2.1
          have hp24 := hL.2.1
          refine lv_aload_n hx hb dX7_judge_52 rfl (lv_at hl 0 rfl) ?_
          refine gf_X7_73 hx hb hown hK hH (bm hM 0) dX7_judge_53 ?_
          refine lv_bipush (v := nI 60) hx hb dX7_judge_56 (by decide) ?_
          refine lv_iload_n hx hb dX7_judge_58 rfl (lv_at hl 1 rfl) ?_
          refine m_imulN hx hb dX7_judge_59 ?_
          refine lv_aload_n hx hb dX7_judge_60 rfl (lv_at hl 0 rfl) ?_
          refine gf_X7_180 hx hb hown hK hH (bm hM 0) dX7_judge_61 ?_
          refine m_toi (j) (by rw [hJ.2.2.2.1, jd_cnt c_36]) ?_
          refine m_iaddN hx hb dX7_judge_64 ?_
          refine m_iald hx hb hK hH (n := 3600) (bm hM 24) (fun _ _ => rfl) (60 * qn + j) (rfl) (by omega) (by decide) dX7_judge_65 ?_
          refine m_toi (itm σ qn j) ((hJ.1 24 0 _ (by omega)).trans hit.1) ?_
          refine lv_istore (lv' := [(5, .int (nI (itm σ qn j))), (0, .ref (B.1 0 0)), (1, .int (nI qn)), (2, .int (nI pn)), (3, .int (nI ((jd σ qn pn j).2.2.2.1))), (4, .int (nI ((jd σ qn pn j).2.2.2.2)))]) hx hb dX7_judge_66 hl (by decide) rfl (fun ls hl => ?_)
          refine lv_aload_n hx hb dX7_judge_68 rfl (lv_at hl 1 rfl) ?_
          refine lv_dup hx hb dX7_judge_69 rfl ?_
          refine gf_X7_180 hx hb hown hK hH (bm hM 0) dX7_judge_70 ?_
          refine m_toi (j) (by rw [hJ.2.2.2.1, jd_cnt c_36]) ?_
          refine lv_iconst (v := nI 1) hx hb dX7_judge_73 (by decide) ?_
          refine m_iaddN hx hb dX7_judge_74 ?_
          refine pf_X7_180 hx hb hown hK hH hS (bm hM 0) dX7_judge_75 (fun H locs hH hS => ?_)
          refine lv_iload_n hx hb dX7_judge_78 rfl (lv_at hl 4 rfl) ?_
          refine lv_iload hx hb dX7_judge_79 (lv_at hl 0 rfl) ?_
          refine lv_iconst (v := nI 1) hx hb dX7_judge_81 (by decide) ?_
          have J_82 : ∀ (ls : Array Slot), lv_has ls 6 [(5, .int (nI (itm σ qn j))), (0, .ref (B.1 0 0)), (1, .int (nI qn)), (2, .int (nI pn)), (3, .int (nI ((jd σ qn pn j).2.2.2.1))), (4, .int (nI ((jd σ qn pn j).2.2.2.2)))] → W p l e ({ frames := 1, cells := 0, slots := 0, locals := 24 } : Room) s m ([.ref (B.1 0 0), .int (nI qn)] : List Value).toArray below meth c H locs 0 0 (MQ below (mQv G B (fun τ => JP σ τ (jd σ qn pn sn))) ([.ref (B.1 0 0), .int (nI qn)] : List Value).toArray s 0 0 (mA G)) (F0 m 90 ls [.int (nI (isM (itm σ qn j))), .int (nI ((jd σ qn pn j).2.2.2.1))]) := by
            intro ls hl
            refine m_iaddN hx hb dX7_judge_90 ?_
            have hm1 := isM_le (itm σ qn j)
            refine lv_istore_n (lv' := [(3, .int (nI ((jd σ qn pn j).2.2.2.1 + (isM (itm σ qn j))))), (5, .int (nI (itm σ qn j))), (0, .ref (B.1 0 0)), (1, .int (nI qn)), (2, .int (nI pn)), (4, .int (nI ((jd σ qn pn j).2.2.2.2)))]) hx hb dX7_judge_91 rfl hl (by decide) rfl (fun ls hl => ?_)
            refine lv_iload hx hb dX7_judge_92 (lv_at hl 5 rfl) ?_
            refine lv_iload hx hb dX7_judge_94 (lv_at hl 1 rfl) ?_
            refine lv_iconst (v := nI 1) hx hb dX7_judge_96 (by decide) ?_
            have J_97 : ∀ (ls : Array Slot), lv_has ls 6 [(3, .int (nI ((jd σ qn pn j).2.2.2.1 + (isM (itm σ qn j))))), (5, .int (nI (itm σ qn j))), (0, .ref (B.1 0 0)), (1, .int (nI qn)), (2, .int (nI pn)), (4, .int (nI ((jd σ qn pn j).2.2.2.2)))] → W p l e ({ frames := 1, cells := 0, slots := 0, locals := 24 } : Room) s m ([.ref (B.1 0 0), .int (nI qn)] : List Value).toArray below meth c H locs 0 0 (MQ below (mQv G B (fun τ => JP σ τ (jd σ qn pn sn))) ([.ref (B.1 0 0), .int (nI qn)] : List Value).toArray s 0 0 (mA G)) (F0 m 105 ls [.int (nI (isB (itm σ qn j))), .int (nI ((jd σ qn pn j).2.2.2.2))]) := by
              intro ls hl
              refine m_iaddN hx hb dX7_judge_105 ?_
              have hm2 := isB_le (itm σ qn j)
              refine lv_istore (lv' := [(4, .int (nI ((jd σ qn pn j).2.2.2.2 + (isB (itm σ qn j))))), (3, .int (nI ((jd σ qn pn j).2.2.2.1 + (isM (itm σ qn j))))), (5, .int (nI (itm σ qn j))), (0, .ref (B.1 0 0)), (1, .int (nI qn)), (2, .int (nI pn))]) hx hb dX7_judge_106 hl (by decide) rfl (fun ls hl => ?_)
              refine lv_aload_n hx hb dX7_judge_108 rfl (lv_at hl 3 rfl) ?_
              refine lv_iload hx hb dX7_judge_109 (lv_at hl 0 rfl) ?_
              refine lv_iload_n hx hb dX7_judge_111 rfl (lv_at hl 1 rfl) ?_
              refine lv_iconst (v := nI 3) hx hb dX7_judge_112 (by decide) ?_
              refine m_idivN (by omega) (by omega) (by omega) hx hb dX7_judge_113 ?_
              refine m_iaddN hx hb dX7_judge_114 ?_
              refine pf_X7_183 hx hb hown hK hH hS (bm hM 0) dX7_judge_115 (fun H locs hH hS => ?_)
              have hdX : ((jd σ qn pn j).2.2.2.2 + isB (itm σ qn j) + ((jd σ qn pn j).2.2.2.1 + isM (itm σ qn j)) / 3) / 1 ≤ 200 := by rw [Nat.div_one]; have := Nat.div_le_self ((jd σ qn pn j).2.2.2.1 + isM (itm σ qn j)) 3; omega
              rw [Nat.div_one] at hdX
              have heP : eqP σ τ := hJ.eqP
              refine lv_iload hx hb dX7_judge_118 (lv_at hl 2 rfl) ?_
              refine lv_iconst (v := nI 3) hx hb dX7_judge_120 (by decide) ?_
              refine m_icmp_eqN (tgt := 144) (by omega) (by omega) hx hb dX7_judge_121 (by decide) (fun c_121 => ?_) (fun c_121 => ?_)
              · refine lv_aload_n hx hb dX7_judge_144 rfl (lv_at hl 3 rfl) ?_
                refine lv_iconst (v := nI 2) hx hb dX7_judge_145 (by decide) ?_
                refine pf_X7_177 hx hb hown hK hH hS (bm hM 0) dX7_judge_146 (fun H locs hH hS => ?_)
                refine lv_goto (tgt := 206) hx hb dX7_judge_149 (by decide) ?_
                refine lv_goto (tgt := 32) hx hb dX7_judge_206 (by decide) ?_
                have heq := jd_2 c_36 (by first | exact Or.inl c_121 | (refine Or.inr ?_; rw [i_lt, nI_I (by omega)] at c_141; unfold rfI; omega))
                exact ih (j + 1) (by omega) _ H locs (by rw [heq]; exact JP_A hJ rfl (by show _ + 1 = _; rw [jd_cnt c_36]) rfl rfl) hH hS ls (by rw [heq]; exact lv_sub hl [3, 4, 5, 1, 0] rfl)
              · refine lv_aload_n hx hb dX7_judge_124 rfl (lv_at hl 3 rfl) ?_
                refine gf_X7_183 hx hb hown hK hH (bm hM 0) dX7_judge_125 ?_
                refine m_toi ((jd σ qn pn j).2.2.2.2 + isB (itm σ qn j) + ((jd σ qn pn j).2.2.2.1 + isM (itm σ qn j)) / 3) (by rw [sI_at, if_pos ⟨rfl, rfl, rfl⟩]) ?_
                refine lv_aload_n hx hb dX7_judge_128 rfl (lv_at hl 3 rfl) ?_
                refine gf_X7_19 hx hb hown hK hH (bm hM 0) dX7_judge_129 ?_
                refine lv_iconst (v := nI 4) hx hb dX7_judge_132 (by decide) ?_
                refine lv_iload_n hx hb dX7_judge_133 rfl (lv_at hl 5 rfl) ?_
                refine m_imulN hx hb dX7_judge_134 ?_
                refine lv_aload_n hx hb dX7_judge_135 rfl (lv_at hl 3 rfl) ?_
                refine gf_X7_186 hx hb hown hK hH (bm hM 0) dX7_judge_136 ?_
                refine m_toi ((jd σ qn pn j).2.2.1) (by rw [sI_at, if_neg (by omega), sI_at, if_neg (by omega)]; exact hJ.2.2.2.2.2) ?_
                refine m_iaddN hx hb dX7_judge_139 ?_
                refine m_iald hx hb hK hH (n := 96) (bm hM 6) (fun _ _ => rfl) (4 * pn + ((jd σ qn pn j).2.2.1)) (rfl) (by omega) (by decide) dX7_judge_140 ?_
                refine m_toe (σ.1 6 0 (4 * pn + (jd σ qn pn j).2.2.1)) (by rw [sI_at, if_neg (by omega), sI_at, if_neg (by omega)]; exact hJ.1 6 0 _ (by omega)) ?_
                refine lv_icmp_lt (tgt := 152) hx hb dX7_judge_141 (by decide) (fun c_141 => ?_) (fun c_141 => ?_)
                · have hnc : ¬ (itm σ qn j = 3 ∨ rfI σ pn (jd σ qn pn j).2.2.1 ≤ (((jd σ qn pn j).2.2.2.2 + isB (itm σ qn j) + ((jd σ qn pn j).2.2.2.1 + isM (itm σ qn j)) / 3 : Nat) : Int)) := by
                    rw [i_lt, nI_I (by omega)] at c_141
                    unfold rfI
                    omega
                  refine lv_aload_n hx hb dX7_judge_152 rfl (lv_at hl 3 rfl) ?_
                  refine gf_X7_180 hx hb hown hK hH (bm hM 0) dX7_judge_153 ?_
                  refine m_toi (j + 1) (by rw [sI_at, if_neg (by omega), sI_at, if_pos ⟨rfl, rfl, rfl⟩]) ?_
                  refine lv_aload_n hx hb dX7_judge_156 rfl (lv_at hl 3 rfl) ?_
                  refine lv_iload_n hx hb dX7_judge_157 rfl (lv_at hl 5 rfl) ?_
                  refine lv_aload_n hx hb dX7_judge_158 rfl (lv_at hl 3 rfl) ?_
                  refine gf_X7_186 hx hb hown hK hH (bm hM 0) dX7_judge_159 ?_
                  refine m_toi ((jd σ qn pn j).2.2.1) (by rw [sI_at, if_neg (by omega), sI_at, if_neg (by omega)]; exact hJ.2.2.2.2.2) ?_
                  have heQ : eqP σ (sI (sI τ 0 0 32 (nI (j + 1))) 0 0 33 (nI ((jd σ qn pn j).2.2.2.2 + isB (itm σ qn j) + ((jd σ qn pn j).2.2.2.1 + isM (itm σ qn j)) / 3))) := (heP.put (by omega)).put (by omega)
                  refine m_toe (nI ((jd σ qn pn j).2.2.1 + 1) - 1) (by rw [nI_pred]) ?_
                  refine m_ki (m_runV (k := 0) (i := 0) (ci := 7) ⟨hx, hb, hml, hown, hz⟩ hK hH hS (bm hM 0) rfl rfl (c_X7_upTo l G B (sI (sI τ 0 0 32 (nI (j + 1))) 0 0 33 (nI ((jd σ qn pn j).2.2.2.2 + isB (itm σ qn j) + ((jd σ qn pn j).2.2.2.1 + isM (itm σ qn j)) / 3))) hM pn ((jd σ qn pn j).2.2.1 + 1) hp24 (heQ.wf hL.2.2.1) (by rw [heQ.st]; omega)) mw_X7_upTo wl_X7_103 ⟨rfl, rfl⟩ ⟨by decide, by decide⟩ rfl hl.1 rfl (Nat.le_of_ble_eq_true rfl) dX7_judge_162 ⟨Nat.zero_le _, Nat.zero_le _⟩) hS (fun r_162 σ_162 H locs hp hH hS => ?_)
                  obtain ⟨hr1, hs1⟩ := hp
                  rw [hs1] at hH
                  rw [heQ.to] at hr1
                  subst hr1
                  have htl := tot_le hL.2.2.1 (show (jd σ qn pn j).2.2.1 + 1 ≤ stN σ pn by omega)
                  refine m_icmp_neN (tgt := 206) (by omega) (by omega) hx hb dX7_judge_165 (by decide) (fun c_165 => ?_) (fun c_165 => ?_)
                  · refine lv_goto (tgt := 32) hx hb dX7_judge_206 (by decide) ?_
                    have heq := jd_0 c_36 hnc c_165
                    exact ih (j + 1) (by omega) _ H locs (by rw [heq]; exact JP_B hJ rfl (by show _ + 1 = _; rw [jd_cnt c_36]) rfl rfl) hH hS ls (by rw [heq]; exact lv_sub hl [3, 4, 5, 1, 0] rfl)
                  · refine lv_aload_n hx hb dX7_judge_168 rfl (lv_at hl 3 rfl) ?_
                    refine gf_X7_183 hx hb hown hK hH (bm hM 0) dX7_judge_169 ?_
                    refine m_toi ((jd σ qn pn j).2.2.2.2 + isB (itm σ qn j) + ((jd σ qn pn j).2.2.2.1 + isM (itm σ qn j)) / 3) (by rw [sI_at, if_pos ⟨rfl, rfl, rfl⟩]) ?_
                    refine lv_aload_n hx hb dX7_judge_172 rfl (lv_at hl 3 rfl) ?_
                    refine gf_X7_16 hx hb hown hK hH (bm hM 0) dX7_judge_173 ?_
                    refine lv_iconst (v := nI 4) hx hb dX7_judge_176 (by decide) ?_
                    refine lv_iload_n hx hb dX7_judge_177 rfl (lv_at hl 5 rfl) ?_
                    refine m_imulN hx hb dX7_judge_178 ?_
                    refine lv_aload_n hx hb dX7_judge_179 rfl (lv_at hl 3 rfl) ?_
                    refine gf_X7_186 hx hb hown hK hH (bm hM 0) dX7_judge_180 ?_
                    refine m_toi ((jd σ qn pn j).2.2.1) (by rw [sI_at, if_neg (by omega), sI_at, if_neg (by omega)]; exact hJ.2.2.2.2.2) ?_
                    refine m_iaddN hx hb dX7_judge_183 ?_
                    refine m_iald hx hb hK hH (n := 96) (bm hM 5) (fun _ _ => rfl) (4 * pn + ((jd σ qn pn j).2.2.1)) (rfl) (by omega) (by decide) dX7_judge_184 ?_
                    refine m_toe (σ.1 5 0 (4 * pn + (jd σ qn pn j).2.2.1)) (by rw [sI_at, if_neg (by omega), sI_at, if_neg (by omega)]; exact hJ.1 5 0 _ (by omega)) ?_
                    refine lv_icmp_gt (tgt := 196) hx hb dX7_judge_185 (by decide) (fun c_185 => ?_) (fun c_185 => ?_)
                    · refine lv_aload_n hx hb dX7_judge_196 rfl (lv_at hl 3 rfl) ?_
                      refine lv_dup hx hb dX7_judge_197 rfl ?_
                      refine gf_X7_186 hx hb hown hK hH (bm hM 0) dX7_judge_198 ?_
                      refine m_toi ((jd σ qn pn j).2.2.1) (by rw [sI_at, if_neg (by omega), sI_at, if_neg (by omega)]; exact hJ.2.2.2.2.2) ?_
                      refine lv_iconst (v := nI 1) hx hb dX7_judge_201 (by decide) ?_
                      refine m_iaddN hx hb dX7_judge_202 ?_
                      refine pf_X7_186 hx hb hown hK hH hS (bm hM 0) dX7_judge_203 (fun H locs hH hS => ?_)
                      refine lv_goto (tgt := 32) hx hb dX7_judge_206 (by decide) ?_
                      have heq := jd_0s c_36 hnc c_165 (by rw [i_lt, nI_I (by omega)] at c_185; unfold acI; omega)
                      exact ih (j + 1) (by omega) _ H locs (by rw [heq]; exact JP_C hJ c_36.symm (by show _ + 1 = _; rw [jd_cnt c_36]) rfl rfl) hH hS ls (by rw [heq]; exact lv_sub hl [3, 4, 5, 1, 0] rfl)
                    · refine lv_aload_n hx hb dX7_judge_188 rfl (lv_at hl 3 rfl) ?_
                      refine lv_iconst (v := nI 1) hx hb dX7_judge_189 (by decide) ?_
                      refine pf_X7_177 hx hb hown hK hH hS (bm hM 0) dX7_judge_190 (fun H locs hH hS => ?_)
                      refine lv_goto (tgt := 206) hx hb dX7_judge_193 (by decide) ?_
                      refine lv_goto (tgt := 32) hx hb dX7_judge_206 (by decide) ?_
                      have heq := jd_1 c_36 hnc c_165 (by rw [i_lt, nI_I (by omega)] at c_185; unfold acI; omega)
                      exact ih (j + 1) (by omega) _ H locs (by rw [heq]; exact JP_A hJ rfl (by show _ + 1 = _; rw [jd_cnt c_36]) rfl rfl) hH hS ls (by rw [heq]; exact lv_sub hl [3, 4, 5, 1, 0] rfl)
                · refine lv_aload_n hx hb dX7_judge_144 rfl (lv_at hl 3 rfl) ?_
                  refine lv_iconst (v := nI 2) hx hb dX7_judge_145 (by decide) ?_
                  refine pf_X7_177 hx hb hown hK hH hS (bm hM 0) dX7_judge_146 (fun H locs hH hS => ?_)
                  refine lv_goto (tgt := 206) hx hb dX7_judge_149 (by decide) ?_
                  refine lv_goto (tgt := 32) hx hb dX7_judge_206 (by decide) ?_
                  have heq := jd_2 c_36 (by first | exact Or.inl c_121 | (refine Or.inr ?_; rw [i_lt, nI_I (by omega)] at c_141; unfold rfI; omega))
                  exact ih (j + 1) (by omega) _ H locs (by rw [heq]; exact JP_A hJ rfl (by show _ + 1 = _; rw [jd_cnt c_36]) rfl rfl) hH hS ls (by rw [heq]; exact lv_sub hl [3, 4, 5, 1, 0] rfl)
            refine m_icmp_leN (tgt := 104) (by omega) (by omega) hx hb dX7_judge_97 (by decide) (fun c_97 => ?_) (fun c_97 => ?_)
            · refine lv_iconst (v := nI 0) hx hb dX7_judge_104 (by decide) ?_
              refine m_toe (nI (isB (itm σ qn j))) (by unfold isB; rw [if_neg (by omega)]) ?_
              exact J_97 ls (lv_sub hl [0, 1, 2, 3, 4, 5] rfl)
            · refine lv_iconst (v := nI 1) hx hb dX7_judge_100 (by decide) ?_
              refine lv_goto (tgt := 105) hx hb dX7_judge_101 (by decide) ?_
              refine m_toe (nI (isB (itm σ qn j))) (by unfold isB; rw [if_pos c_97]) ?_
              exact J_97 ls (lv_sub hl [0, 1, 2, 3, 4, 5] rfl)
          refine m_icmp_neN (tgt := 89) (by omega) (by omega) hx hb dX7_judge_82 (by decide) (fun c_82 => ?_) (fun c_82 => ?_)
          · refine lv_iconst (v := nI 0) hx hb dX7_judge_89 (by decide) ?_
            refine m_toe (nI (isM (itm σ qn j))) (by unfold isM; rw [if_neg c_82]) ?_
            exact J_82 ls (lv_sub hl [0, 1, 2, 3, 4, 5] rfl)
          · refine lv_iconst (v := nI 1) hx hb dX7_judge_85 (by decide) ?_
            refine lv_goto (tgt := 90) hx hb dX7_judge_86 (by decide) ?_
            refine m_toe (nI (isM (itm σ qn j))) (by unfold isM; rw [if_pos c_82]) ?_
            exact J_82 ls (lv_sub hl [0, 1, 2, 3, 4, 5] rfl)
  have hq := hL.1
  refine lv_aload_n hx hb dX7_judge_0 rfl (lv_at hl 0 rfl) ?_
  refine lv_iconst (v := nI 0) hx hb dX7_judge_1 (by decide) ?_
  refine pf_X7_177 hx hb hown hK hH hS (bm hM 0) dX7_judge_2 (fun H locs hH hS => ?_)
  refine lv_aload_n hx hb dX7_judge_5 rfl (lv_at hl 0 rfl) ?_
  refine lv_iconst (v := nI 0) hx hb dX7_judge_6 (by decide) ?_
  refine pf_X7_180 hx hb hown hK hH hS (bm hM 0) dX7_judge_7 (fun H locs hH hS => ?_)
  refine lv_aload_n hx hb dX7_judge_10 rfl (lv_at hl 0 rfl) ?_
  refine lv_iconst (v := nI 0) hx hb dX7_judge_11 (by decide) ?_
  refine pf_X7_183 hx hb hown hK hH hS (bm hM 0) dX7_judge_12 (fun H locs hH hS => ?_)
  refine lv_aload_n hx hb dX7_judge_15 rfl (lv_at hl 0 rfl) ?_
  refine lv_iconst (v := nI 0) hx hb dX7_judge_16 (by decide) ?_
  refine pf_X7_186 hx hb hown hK hH hS (bm hM 0) dX7_judge_17 (fun H locs hH hS => ?_)
  refine lv_aload_n hx hb dX7_judge_20 rfl (lv_at hl 0 rfl) ?_
  refine gf_X7_64 hx hb hown hK hH (bm hM 0) dX7_judge_21 ?_
  refine lv_iload_n hx hb dX7_judge_24 rfl (lv_at hl 1 rfl) ?_
  refine m_iald hx hb hK hH (n := 60) (bm hM 21) (fun _ _ => rfl) (qn) (rfl) (by omega) (by decide) dX7_judge_25 ?_
  refine m_toi (pn) (((JP_0 σ).1 21 0 qn (by omega)).trans hL.2.2.2.2.1) ?_
  refine lv_istore_n (lv' := [(2, .int (nI pn)), (0, .ref (B.1 0 0)), (1, .int (nI qn))]) hx hb dX7_judge_26 rfl hl (by decide) rfl (fun ls hl => ?_)
  refine lv_iconst (v := nI 0) hx hb dX7_judge_27 (by decide) ?_
  refine lv_istore_n (lv' := [(3, .int (nI 0)), (2, .int (nI pn)), (0, .ref (B.1 0 0)), (1, .int (nI qn))]) hx hb dX7_judge_28 rfl hl (by decide) rfl (fun ls hl => ?_)
  refine lv_iconst (v := nI 0) hx hb dX7_judge_29 (by decide) ?_
  refine lv_istore (lv' := [(4, .int (nI 0)), (3, .int (nI 0)), (2, .int (nI pn)), (0, .ref (B.1 0 0)), (1, .int (nI qn))]) hx hb dX7_judge_30 hl (by decide) rfl (fun ls hl => ?_)
  exact loop (sn + 1) 0 (by omega) _ H locs (JP_0 σ) hH hS ls (lv_sub hl [3, 4, 2, 1, 0] rfl)
end
section
/-! what counts of a state: all but the check's own scratch numbers -/
def scI (k j : Nat) : Bool := decide (k = 35) || decide (k = 36) || (decide (k = 0) && decide (31 ≤ j) && decide (j ≤ 34))
def scJ (k j : Nat) : Bool := decide (k = 26) || decide (k = 27) || (decide (k = 0) && decide (28 ≤ j) && decide (j ≤ 30))
def core (σ : gS) : gS := (fun k i j => bif scI k j then 0 else σ.1 k i j, fun k i j => bif scJ k j then 0 else σ.2 k i j)
/-- the same but for scratch -/
def Sm (σ τ : gS) : Prop := core τ = core σ
theorem Sm.rf (σ : gS) : Sm σ σ := rfl
theorem Sm.tr {σ τ υ : gS} (h : Sm σ τ) (h2 : Sm τ υ) : Sm σ υ := Eq.trans h2 h
theorem Sm.cg {α : Sort _} (f : gS → α) {σ τ : gS} (h : Sm σ τ) : f (core τ) = f (core σ) := congrArg f h
theorem Sm.rd {σ τ : gS} (h : Sm σ τ) (k i j : Nat) (hs : scI k j = false) : τ.1 k i j = σ.1 k i j := by
  have h1 := congrArg (fun z : gS => z.1 k i j) h
  have h2 : (bif scI k j then 0 else τ.1 k i j) = (bif scI k j then 0 else σ.1 k i j) := h1
  rw [hs] at h2
  exact h2
theorem Sm.rdJ {σ τ : gS} (h : Sm σ τ) (k i j : Nat) (hs : scJ k j = false) : τ.2 k i j = σ.2 k i j := by
  have h1 := congrArg (fun z : gS => z.2 k i j) h
  have h2 : (bif scJ k j then 0 else τ.2 k i j) = (bif scJ k j then 0 else σ.2 k i j) := h1
  rw [hs] at h2
  exact h2
theorem Sm.mk' {σ τ : gS} (h1 : ∀ k i j, scI k j = false → τ.1 k i j = σ.1 k i j) (h2 : ∀ k i j, scJ k j = false → τ.2 k i j = σ.2 k i j) : Sm σ τ := by
  unfold Sm core
  refine Prod.ext ?_ ?_
  · funext k i j
    show (bif scI k j then 0 else τ.1 k i j) = (bif scI k j then 0 else σ.1 k i j)
    cases e : scI k j with
    | true => rfl
    | false => exact h1 k i j e
  · funext k i j
    show (bif scJ k j then 0 else τ.2 k i j) = (bif scJ k j then 0 else σ.2 k i j)
    cases e : scJ k j with
    | true => rfl
    | false => exact h2 k i j e
theorem Sm.put {σ τ : gS} (h : Sm σ τ) (k i j : Nat) (v : Int32) : Sm (sI σ k i j v) (sI τ k i j v) := Sm.mk' (fun a b c hs => by rw [sI_at, sI_at]; split; exact rfl; exact h.rd a b c hs) (fun a b c hs => h.rdJ a b c hs)
theorem Sm.putJ {σ τ : gS} (h : Sm σ τ) (k i j : Nat) (v : Int64) : Sm (sJ σ k i j v) (sJ τ k i j v) := Sm.mk' (fun a b c hs => h.rd a b c hs) (fun a b c hs => by rw [sJ_at, sJ_at]; split; exact rfl; exact h.rdJ a b c hs)
theorem JP.sm {σ τ : gS} {t : jT} (h : JP σ τ t) : Sm σ τ := Sm.mk' (fun k i j hs => h.1 k i j (fun q => by
    unfold scI at hs
    obtain ⟨rfl, q2, q3⟩ := q
    simp [q2, q3] at hs)) (fun k i j _ => by rw [h.2.1])
theorem Sm.eqP {σ τ : gS} (h : Sm σ τ) : eqP σ τ := fun k j h1 h2 => h.rd k 0 j (by
  unfold scI
  simp; omega)
theorem Sm.wfP {σ τ : gS} (h : Sm σ τ) (hW : WfP σ) : WfP τ := by
  have e : nP τ = nP σ := Sm.cg nP h
  refine ⟨by rw [e, h.rd 0 0 0 rfl]; exact hW.1, by rw [e]; exact hW.2.1, fun p hp => h.eqP.wf (hW.2.2 p (by rw [← e]; exact hp))⟩
theorem Sm.wfR {σ τ : gS} (h : Sm σ τ) (hW : WfR σ) : WfR τ := Eq.mpr (show WfR τ = WfR σ from Sm.cg WfR h) hW
theorem Sm.wfCh {σ τ : gS} (h : Sm σ τ) (hW : WfCh σ) : WfCh τ := Eq.mpr (show WfCh τ = WfCh σ from Sm.cg WfCh h) hW
/-- a lot as it must be -/
def jq (σ : gS) (q : Nat) : jT := jd σ q (lPl σ q) (lSn σ q)
def WfL1 (σ : gS) (q : Nat) : Prop := σ.1 19 0 q = nI (lSu σ q) ∧ lSu σ q < nS σ ∧ σ.1 20 0 q = nI (lSz σ q) ∧ σ.1 22 0 q = nI (lRu σ q) ∧ σ.1 21 0 q = nI (lPl σ q) ∧ lPl σ q < nP σ ∧ clo σ (lPl σ q) = true ∧ σ.1 23 0 q = nI (lSn σ q) ∧ lSn σ q ≤ 60 ∧ (∀ k, k < lSn σ q → σ.1 24 0 (60 * q + k) = nI (itm σ q k) ∧ itm σ q k ≤ 3) ∧ (jq σ q).2.1 = lSn σ q
def WfL (σ : gS) : Prop := σ.1 0 0 2 = nI (nL σ) ∧ nL σ ≤ 60 ∧ ∀ q, q < nL σ → WfL1 σ q
theorem WfL1.jh {σ : gS} {q : Nat} (hP : WfP σ) (hq : q < 60) (h : WfL1 σ q) : JH σ q (lPl σ q) (lSn σ q) := ⟨hq, by have := hP.2.1; have := h.2.2.2.2.2.1; omega, hP.2.2 _ h.2.2.2.2.2.1, h.2.2.2.2.2.2.1, h.2.2.2.2.1, h.2.2.2.2.2.2.2.1, h.2.2.2.2.2.2.2.2.1, h.2.2.2.2.2.2.2.2.2.1⟩
theorem jd_core (σ : gS) (q p : Nat) : ∀ n, jd (core σ) q p n = jd σ q p n
  | 0 => rfl
  | n + 1 => by
    have ht : ∀ k, tot (core σ) p k = tot σ p k := (Sm.eqP (σ := σ) (τ := core σ) (by
      refine Sm.mk' (fun k i j hs => ?_) (fun k i j hs => ?_)
      · show (bif scI k j then 0 else σ.1 k i j) = _; rw [hs]; rfl
      · show (bif scJ k j then 0 else σ.2 k i j) = _; rw [hs]; rfl)).to p
    show jstep (core σ) p (jd (core σ) q p n) (itm (core σ) q (jd (core σ) q p n).2.1) = jstep σ p (jd σ q p n) (itm σ q (jd σ q p n).2.1)
    rw [jd_core σ q p n]
    unfold jstep jdec
    simp only [ht]
    rfl
theorem Sm.jdE {σ τ : gS} (h : Sm σ τ) (q p n : Nat) : jd τ q p n = jd σ q p n := by
  rw [← jd_core τ, ← jd_core σ]
  exact congrArg (fun z => jd z q p n) h
theorem Sm.jqE {σ τ : gS} (h : Sm σ τ) (q : Nat) : jq τ q = jq σ q := by
  show jd τ q (lPl τ q) (lSn τ q) = _
  rw [h.jdE, show lPl τ q = lPl σ q from Sm.cg (fun z => lPl z q) h, show lSn τ q = lSn σ q from Sm.cg (fun z => lSn z q) h]
  rfl
def opn (σ : gS) (x : Int32) : Bool := isLo σ x && decide ((jq σ x.toNatClampNeg).1 = 0)
theorem opn_nI {σ : gS} {q : Nat} (hq : q < nL σ) (h : nL σ ≤ 60) : opn σ (nI q) = decide ((jq σ q).1 = 0) := by
  unfold opn
  rw [isLo_nI hq h, nI_clamp (by omega)]
  rfl
theorem opn_t {σ : gS} {x : Int32} (h60 : nL σ ≤ 60) (h : opn σ x = true) : ∃ q : Nat, q < nL σ ∧ x = nI q ∧ (jq σ q).1 = 0 := by
  unfold opn at h
  obtain ⟨h1, h2⟩ := Bool.and_eq_true_iff.mp h
  obtain ⟨q, hq, rfl⟩ := isLo_t h1
  rw [nI_clamp (by omega)] at h2
  exact ⟨q, hq, rfl, of_decide_eq_true h2⟩
/-- the k-th latest of a RUN -/
def rv (σ : gS) (s k : Nat) : Int32 := if k < rn σ s then σ.1 18 0 (60 * s + rn σ s - 1 - k) else 0
def rf5 (f : Nat → Int32) : Nat → Nat
  | 0 => 0
  | k + 1 => rf5 f k + (if f k = nI 2 then 1 else 0)
def ld (f : Nat → Int32) : Nat → Bool
  | 0 => true
  | k + 1 => ld f k && decide (f k = nI 1)
def nxr (r a : Nat) (f : Nat → Int32) : Nat := if r = 0 then (if 2 ≤ rf5 f 5 then 1 else if ld f 6 = true then 2 else 0) else if r = 1 then (if ld f 5 = true then 0 else 1) else (if a = 2 then 0 else 2)
theorem rf5_le (f : Nat → Int32) (k : Nat) : rf5 f k ≤ k := by
  induction k with
  | zero => exact Nat.le_refl 0
  | succ k ih => show rf5 f k + (if f k = nI 2 then 1 else 0) ≤ k + 1; split <;> omega
theorem ld_lt {f : Nat → Int32} {j k : Nat} (h : ld f j = true) (hk : k ≤ j) : ld f k = true := by
  induction j with
  | zero => rw [Nat.le_zero.mp hk]; rfl
  | succ j ih =>
    rcases Nat.lt_or_ge k (j + 1) with q | q
    · exact ih (Bool.and_eq_true_iff.mp h).1 (by omega)
    · rw [show k = j + 1 by omega]; exact h
theorem ld_at {f : Nat → Int32} {j k : Nat} (h : ld f k = true) (hj : j < k) : f j = nI 1 := by
  have h1 := ld_lt h (show j + 1 ≤ k by omega)
  exact of_decide_eq_true (Bool.and_eq_true_iff.mp h1).2
theorem ld_iff {f : Nat → Int32} {j k : Nat} (h : ld f j = true) (hn : ¬ f j = nI 1) : ld f k = true ↔ k ≤ j := by
  constructor
  · intro q
    rcases Nat.lt_or_ge j k with z | z
    · exact absurd (ld_at q z) hn
    · exact z
  · exact ld_lt h
/-- a decision comes to a supplier's RUN -/
def rcA (σ : gS) (s a : Nat) : gS := sI (sI σ 18 0 (60 * s + rn σ s) (nI a)) 17 0 s (nI (rn σ s + 1))
def rcv (σ : gS) (s a : Nat) : gS := if nxr (rl σ s) a (rv (rcA σ s a) s) = rl σ s then rcA σ s a else sI (sI (sI (rcA σ s a) 15 0 s (nI (nxr (rl σ s) a (rv (rcA σ s a) s)))) 16 0 s (σ.1 16 0 s + nI 1)) 17 0 s (nI 0)
theorem nxr_le (r a : Nat) (f : Nat → Int32) : nxr r a f ≤ 2 := by
  unfold nxr
  split
  · split
    · omega
    · split <;> omega
  · split
    · split <;> omega
    · split <;> omega
/-- what hears() does for a lot -/
def hrs (σ : gS) (q : Nat) : gS := if (jq σ q).1 = 0 then sI σ 23 0 q (nI (jq σ q).2.1) else rcv (sI σ 23 0 q (nI (jq σ q).2.1)) (lSu σ q) (jq σ q).1
end
section
/-! suppliers and lots, over states that differ in scratch alone -/
theorem Sm.wfS {σ τ : gS} (h : Sm σ τ) (hW : WfS σ) : WfS τ := Eq.mpr (show WfS τ = WfS σ from Sm.cg WfS h) hW
theorem Sm.wfL1 {σ τ : gS} (h : Sm σ τ) {q : Nat} (hW : WfL1 σ q) : WfL1 τ q := by
  unfold WfL1 at hW ⊢
  rw [h.jqE, show lSu τ q = lSu σ q from Sm.cg (fun z => lSu z q) h, show lSz τ q = lSz σ q from Sm.cg (fun z => lSz z q) h, show lRu τ q = lRu σ q from Sm.cg (fun z => lRu z q) h, show lPl τ q = lPl σ q from Sm.cg (fun z => lPl z q) h, show lSn τ q = lSn σ q from Sm.cg (fun z => lSn z q) h, show nS τ = nS σ from Sm.cg nS h, show nP τ = nP σ from Sm.cg nP h, h.eqP.cl, h.rd 19 0 q rfl, h.rd 20 0 q rfl, h.rd 21 0 q rfl, h.rd 22 0 q rfl, h.rd 23 0 q rfl]
  refine ⟨hW.1, hW.2.1, hW.2.2.1, hW.2.2.2.1, hW.2.2.2.2.1, hW.2.2.2.2.2.1, hW.2.2.2.2.2.2.1, hW.2.2.2.2.2.2.2.1, hW.2.2.2.2.2.2.2.2.1, fun k hk => ?_, hW.2.2.2.2.2.2.2.2.2.2⟩
  rw [h.rd 24 0 _ rfl, show itm τ q k = itm σ q k from Sm.cg (fun z => itm z q k) h]
  exact hW.2.2.2.2.2.2.2.2.2.1 k hk
theorem Sm.wfL {σ τ : gS} (h : Sm σ τ) (hW : WfL σ) : WfL τ := by
  have e : nL τ = nL σ := Sm.cg nL h
  exact ⟨by rw [e, h.rd 0 0 2 rfl]; exact hW.1, by rw [e]; exact hW.2.1, fun q hq => h.wfL1 (hW.2.2 q (by rw [← e]; exact hq))⟩
theorem Sm.opnE {σ τ : gS} (h : Sm σ τ) (x : Int32) : opn τ x = opn σ x := by
  unfold opn
  rw [h.jqE, show isLo τ x = isLo σ x from Sm.cg (fun z => isLo z x) h]
/-- the RUN's room: one more decision -/
theorem rcA_wfS {σ : gS} {s a : Nat} (hW : WfS σ) (hs : s < nS σ) (hr : rn σ s < 60) : WfS (rcA σ s a) := by
  have hcell : ∀ k j, k ≠ 18 → k ≠ 17 → (rcA σ s a).1 k 0 j = σ.1 k 0 j := fun k j h1 h2 => by
    unfold rcA
    rw [sI_at, if_neg (fun z => h2 z.1), sI_at, if_neg (fun z => h1 z.1)]
  have h17 : ∀ j, (rcA σ s a).1 17 0 j = if j = s then nI (rn σ s + 1) else σ.1 17 0 j := fun j => by
    unfold rcA
    rw [sI_at]
    by_cases e : j = s
    · rw [if_pos ⟨rfl, rfl, e⟩, if_pos e]
    · rw [if_neg (fun z => e z.2.2), if_neg e, sI_at, if_neg (by omega)]
  have hn : nS (rcA σ s a) = nS σ := rfl
  refine ⟨by rw [hn]; exact hW.1, by rw [hn]; exact hW.2.1, fun t ht => ?_, fun t h1 h2 => ?_⟩
  · obtain ⟨a1, a2, a3, a4, a5⟩ := hW.2.2.1 t ht
    have hrn : rn (rcA σ s a) t = if t = s then rn σ s + 1 else rn σ t := by
      unfold rn
      rw [h17 t]
      by_cases e : t = s
      · rw [if_pos e, if_pos e]; exact nI_clamp (by omega)
      · rw [if_neg e, if_neg e]
    refine ⟨a1, a2, a3, ?_, ?_⟩
    · rw [h17 t, hrn]
      by_cases e : t = s
      · rw [if_pos e, if_pos e]
      · rw [if_neg e, if_neg e]; exact a4
    · rw [hrn]
      by_cases e : t = s
      · rw [if_pos e]; omega
      · rw [if_neg e]; exact a5
  · have := hW.2.2.2 t h1 h2
    exact ⟨this.1, by rw [h17 t, if_neg (by omega)]; exact this.2⟩
theorem rn_rcA {σ : gS} {s a : Nat} (hr : rn σ s < 60) : rn (rcA σ s a) s = rn σ s + 1 := by
  unfold rn rcA
  rw [sI_at, if_pos ⟨rfl, rfl, rfl⟩]
  exact nI_clamp (by omega)
theorem rv_1 {σ : gS} {s k : Nat} (h : rv σ s k = nI 1) : k < rn σ s := by
  unfold rv at h
  rcases Nat.lt_or_ge k (rn σ s) with q | q
  · exact q
  · rw [if_neg (by omega)] at h; exact absurd h (by decide)
end
section
set_option maxHeartbeats 4000000 in
set_option maxRecDepth 100000 in
theorem c_X7_run (l : Launch) (G : gG) (B : gB) (σ : gS) (hM : BkM B) (hW : WfS σ) (x k : Int32) : Met l yX7_run [.code yX7_run cX7_run 3 (some .int)] ({ frames := 2, cells := 0, slots := 0, locals := 43 } : Room) (mPc G B σ [.ref (B.1 0 0), .int (x), .int (k)]) (mQi G B (fun v σ' => v = (if isSu σ x = true ∧ 0 ≤ k.toInt then rv σ x.toNatClampNeg k.toNatClampNeg else -2) ∧ σ' = σ)) 0 0 (mA G) := by
  refine m_start (by decide) (Nat.le_of_ble_eq_true rfl) ?_
  intro p e s m below meth c ⟨hx, hb, hr, hml, hown, hK, hlk, hz⟩ hH hS ls hl
  have hl : lv_has ls 3 [(0, .ref (B.1 0 0)), (1, .int (x)), (2, .int (k))] := hl
  refine lv_aload_n hx hb dX7_run_0 rfl (lv_at hl 0 rfl) ?_
  refine lv_iload_n hx hb dX7_run_1 rfl (lv_at hl 1 rfl) ?_
  refine m_ki (m_runV (k := 0) (i := 0) (ci := 7) ⟨hx, hb, hml, hown, hz⟩ hK hH hS (bm hM 0) rfl rfl (c_X7_isSupplier l G B σ hM hW x) mw_X7_isSupplier wl_X7_174 ⟨rfl, rfl⟩ ⟨by decide, by decide⟩ rfl hl.1 rfl (Nat.le_of_ble_eq_true rfl) dX7_run_2 ⟨Nat.zero_le _, Nat.zero_le _⟩) hS (fun r_2 σ_2 H locs hp hH hS => ?_)
  obtain ⟨hr1, hs1⟩ := hp
  subst hr1
  rw [hs1] at hH
  refine m_ifeqB (tgt := 12) hx hb dX7_run_5 (by decide) (fun c_5 => ?_) (fun c_5 => ?_)
  · refine lv_bipush (v := (-2)) hx hb dX7_run_12 (by decide) ?_
    exact m_iret hx hb hr hlk hH hS dX7_run_14 (by first | exact ⟨(if_neg (fun h => by rw [c_5] at h; exact absurd h.1 (by decide))).symm, rfl⟩ | exact ⟨(if_neg (fun h => c_9 (by rw [i_le, i0]; exact h.2))).symm, rfl⟩)
  · refine lv_iload_n hx hb dX7_run_8 rfl (lv_at hl 2 rfl) ?_
    refine lv_if_ge (tgt := 15) hx hb dX7_run_9 (by decide) (fun c_9 => ?_) (fun c_9 => ?_)
    · rw [i_le, i0] at c_9
      obtain ⟨k1, k2⟩ := i_nat c_9
      have k3 := i_rng k
      obtain ⟨kn, hq⟩ : ∃ q : Nat, q = k.toInt.toNat := ⟨_, rfl⟩
      rw [← hq] at k1 k2
      have hkn : kn < 2147483648 := by omega
      clear c_9 hq k2 k3
      subst k1
      obtain ⟨sn, hsn, he⟩ := isSu_t c_5
      subst he
      have h8 := hW.2.1
      have hS1 := hW.2.2.1 sn hsn
      have hS5 := hS1.2.2.2.2
      have hif : isSu σ (nI sn) = true ∧ 0 ≤ (nI kn).toInt := ⟨c_5, by rw [nI_I (by omega)]; omega⟩
      refine lv_iload_n hx hb dX7_run_15 rfl (lv_at hl 2 rfl) ?_
      refine lv_aload_n hx hb dX7_run_16 rfl (lv_at hl 0 rfl) ?_
      refine gf_X7_52 hx hb hown hK hH (bm hM 0) dX7_run_17 ?_
      refine lv_iload_n hx hb dX7_run_20 rfl (lv_at hl 1 rfl) ?_
      refine m_iald hx hb hK hH (n := 8) (bm hM 17) (fun _ _ => rfl) (sn) (rfl) (by omega) (by decide) dX7_run_21 ?_
      refine m_toi (rn σ sn) (hS1.2.2.2.1) ?_
      refine m_icmp_geN (tgt := 48) (by omega) (by omega) hx hb dX7_run_22 (by decide) (fun c_22 => ?_) (fun c_22 => ?_)
      · refine lv_iconst (v := nI 0) hx hb dX7_run_48 (by decide) ?_
        exact m_iret hx hb hr hlk hH hS dX7_run_49 (⟨by rw [if_pos hif, nI_clamp (by omega), nI_clamp (by omega)]; unfold rv; exact (if_neg (by omega)).symm, rfl⟩)
      · refine lv_aload_n hx hb dX7_run_25 rfl (lv_at hl 0 rfl) ?_
        refine gf_X7_55 hx hb hown hK hH (bm hM 0) dX7_run_26 ?_
        refine lv_bipush (v := nI 60) hx hb dX7_run_29 (by decide) ?_
        refine lv_iload_n hx hb dX7_run_31 rfl (lv_at hl 1 rfl) ?_
        refine m_imulN hx hb dX7_run_32 ?_
        refine lv_aload_n hx hb dX7_run_33 rfl (lv_at hl 0 rfl) ?_
        refine gf_X7_52 hx hb hown hK hH (bm hM 0) dX7_run_34 ?_
        refine lv_iload_n hx hb dX7_run_37 rfl (lv_at hl 1 rfl) ?_
        refine m_iald hx hb hK hH (n := 8) (bm hM 17) (fun _ _ => rfl) (sn) (rfl) (by omega) (by decide) dX7_run_38 ?_
        refine m_toi (rn σ sn) (hS1.2.2.2.1) ?_
        refine m_iaddN hx hb dX7_run_39 ?_
        refine lv_iconst (v := nI 1) hx hb dX7_run_40 (by decide) ?_
        refine m_isubN (by omega) hx hb dX7_run_41 ?_
        refine lv_iload_n hx hb dX7_run_42 rfl (lv_at hl 2 rfl) ?_
        refine m_isubN (by omega) hx hb dX7_run_43 ?_
        refine m_iald hx hb hK hH (n := 480) (bm hM 18) (fun _ _ => rfl) (((60 * sn + (rn σ sn)) - 1) - kn) (rfl) (by omega) (by decide) dX7_run_44 ?_
        refine lv_goto (tgt := 49) hx hb dX7_run_45 (by decide) ?_
        exact m_iret hx hb hr hlk hH hS dX7_run_49 (⟨by rw [if_pos hif, nI_clamp (by omega), nI_clamp (by omega)]; unfold rv; exact (if_pos c_22).symm, rfl⟩)
    · refine lv_bipush (v := (-2)) hx hb dX7_run_12 (by decide) ?_
      exact m_iret hx hb hr hlk hH hS dX7_run_14 (by first | exact ⟨(if_neg (fun h => by rw [c_5] at h; exact absurd h.1 (by decide))).symm, rfl⟩ | exact ⟨(if_neg (fun h => c_9 (by rw [i_le, i0]; exact h.2))).symm, rfl⟩)
def suOK (σ : gS) (x y z : Int32) : Bool := isCl σ x && isCl σ y && isCl σ z && decide (nS σ ≠ 8)
def suUp (σ : gS) (x y z : Int32) : gS := sI (sI (sI (sI (sI σ 14 0 (3 * nS σ) x) 14 0 (3 * nS σ + 1) y) 14 0 (3 * nS σ + 2) z) 15 0 (nS σ) (nI 0)) 0 0 1 (nI (nS σ + 1))
set_option maxHeartbeats 4000000 in
set_option maxRecDepth 100000 in
theorem c_X7_supplier (l : Launch) (G : gG) (B : gB) (σ : gS) (hM : BkM B) (hP : WfP σ) (hW : WfS σ) (x y z : Int32) : Met l yX7_supplier [.code yX7_supplier cX7_supplier 4 (some .int)] ({ frames := 3, cells := 0, slots := 0, locals := 64 } : Room) (mPc G B σ [.ref (B.1 0 0), .int (x), .int (y), .int (z)]) (mQi G B (fun v σ' => if suOK σ x y z = true then v = nI (nS σ) ∧ σ' = suUp σ x y z else v = -2 ∧ σ' = σ)) 0 0 (mA G) := by
  refine m_start (by decide) (Nat.le_of_ble_eq_true rfl) ?_
  intro p e s m below meth c ⟨hx, hb, hr, hml, hown, hK, hlk, hz⟩ hH hS ls hl
  have hl : lv_has ls 4 [(0, .ref (B.1 0 0)), (1, .int (x)), (2, .int (y)), (3, .int (z))] := hl
  refine lv_aload_n hx hb dX7_supplier_0 rfl (lv_at hl 0 rfl) ?_
  refine lv_iload_n hx hb dX7_supplier_1 rfl (lv_at hl 1 rfl) ?_
  refine m_ki (m_runV (k := 0) (i := 0) (ci := 7) ⟨hx, hb, hml, hown, hz⟩ hK hH hS (bm hM 0) rfl rfl (c_X7_isClosed l G B σ hM hP x) mw_X7_isClosed wl_X7_107 ⟨rfl, rfl⟩ ⟨by decide, by decide⟩ rfl hl.1 rfl (Nat.le_of_ble_eq_true rfl) dX7_supplier_2 ⟨Nat.zero_le _, Nat.zero_le _⟩) hS (fun r_2 σ_2 H locs hp hH hS => ?_)
  obtain ⟨hr1, hs1⟩ := hp
  subst hr1
  rw [hs1] at hH
  refine m_ifeqB (tgt := 33) hx hb dX7_supplier_5 (by decide) (fun c_5 => ?_) (fun c_5 => ?_)
  · have hno : suOK σ x y z = false := by
      unfold suOK
      first
        | (rw [c_5]; rfl)
        | (rw [c_13, Bool.and_false]; rfl)
        | (rw [c_21, Bool.and_false]; rfl)
        | (rw [decide_eq_false (fun h => h c_30), Bool.and_false])
    refine lv_bipush (v := (-2)) hx hb dX7_supplier_33 (by decide) ?_
    exact m_iret hx hb hr hlk hH hS dX7_supplier_35 (by rw [hno]; exact ⟨rfl, rfl⟩)
  · refine lv_aload_n hx hb dX7_supplier_8 rfl (lv_at hl 0 rfl) ?_
    refine lv_iload_n hx hb dX7_supplier_9 rfl (lv_at hl 2 rfl) ?_
    refine m_ki (m_runV (k := 0) (i := 0) (ci := 7) ⟨hx, hb, hml, hown, hz⟩ hK hH hS (bm hM 0) rfl rfl (c_X7_isClosed l G B σ hM hP y) mw_X7_isClosed wl_X7_107 ⟨rfl, rfl⟩ ⟨by decide, by decide⟩ rfl hl.1 rfl (Nat.le_of_ble_eq_true rfl) dX7_supplier_10 ⟨Nat.zero_le _, Nat.zero_le _⟩) hS (fun r_10 σ_10 H locs hp hH hS => ?_)
    obtain ⟨hr1, hs1⟩ := hp
    subst hr1
    rw [hs1] at hH
    refine m_ifeqB (tgt := 33) hx hb dX7_supplier_13 (by decide) (fun c_13 => ?_) (fun c_13 => ?_)
    · have hno : suOK σ x y z = false := by
        unfold suOK
        first
          | (rw [c_5]; rfl)
          | (rw [c_13, Bool.and_false]; rfl)
          | (rw [c_21, Bool.and_false]; rfl)
          | (rw [decide_eq_false (fun h => h c_30), Bool.and_false])
      refine lv_bipush (v := (-2)) hx hb dX7_supplier_33 (by decide) ?_
      exact m_iret hx hb hr hlk hH hS dX7_supplier_35 (by rw [hno]; exact ⟨rfl, rfl⟩)
    · refine lv_aload_n hx hb dX7_supplier_16 rfl (lv_at hl 0 rfl) ?_
      refine lv_iload_n hx hb dX7_supplier_17 rfl (lv_at hl 3 rfl) ?_
      refine m_ki (m_runV (k := 0) (i := 0) (ci := 7) ⟨hx, hb, hml, hown, hz⟩ hK hH hS (bm hM 0) rfl rfl (c_X7_isClosed l G B σ hM hP z) mw_X7_isClosed wl_X7_107 ⟨rfl, rfl⟩ ⟨by decide, by decide⟩ rfl hl.1 rfl (Nat.le_of_ble_eq_true rfl) dX7_supplier_18 ⟨Nat.zero_le _, Nat.zero_le _⟩) hS (fun r_18 σ_18 H locs hp hH hS => ?_)
      obtain ⟨hr1, hs1⟩ := hp
      subst hr1
      rw [hs1] at hH
      refine m_ifeqB (tgt := 33) hx hb dX7_supplier_21 (by decide) (fun c_21 => ?_) (fun c_21 => ?_)
      · have hno : suOK σ x y z = false := by
          unfold suOK
          first
            | (rw [c_5]; rfl)
            | (rw [c_13, Bool.and_false]; rfl)
            | (rw [c_21, Bool.and_false]; rfl)
            | (rw [decide_eq_false (fun h => h c_30), Bool.and_false])
        refine lv_bipush (v := (-2)) hx hb dX7_supplier_33 (by decide) ?_
        exact m_iret hx hb hr hlk hH hS dX7_supplier_35 (by rw [hno]; exact ⟨rfl, rfl⟩)
      · refine lv_aload_n hx hb dX7_supplier_24 rfl (lv_at hl 0 rfl) ?_
        have h8 := hW.2.1
        refine gf_X7_168 hx hb hown hK hH (bm hM 0) dX7_supplier_25 ?_
        refine m_toi (nS σ) (hW.1) ?_
        refine lv_bipush (v := nI 8) hx hb dX7_supplier_28 (by decide) ?_
        refine m_icmp_neN (tgt := 36) (by omega) (by omega) hx hb dX7_supplier_30 (by decide) (fun c_30 => ?_) (fun c_30 => ?_)
        · have hyes : suOK σ x y z = true := by
            unfold suOK
            rw [c_5, c_13, c_21, decide_eq_true c_30]
            rfl
          refine lv_aload_n hx hb dX7_supplier_36 rfl (lv_at hl 0 rfl) ?_
          refine gf_X7_43 hx hb hown hK hH (bm hM 0) dX7_supplier_37 ?_
          refine lv_iconst (v := nI 3) hx hb dX7_supplier_40 (by decide) ?_
          refine lv_aload_n hx hb dX7_supplier_41 rfl (lv_at hl 0 rfl) ?_
          refine gf_X7_168 hx hb hown hK hH (bm hM 0) dX7_supplier_42 ?_
          refine m_toi (nS σ) (hW.1) ?_
          refine m_imulN hx hb dX7_supplier_45 ?_
          refine lv_iload_n hx hb dX7_supplier_46 rfl (lv_at hl 1 rfl) ?_
          refine m_iast hx hb hK hH hS (n := 24) (bm hM 14) (fun _ _ => rfl) (3 * (nS σ)) (rfl) (by omega) (by decide) dX7_supplier_47 (fun H locs hH hS => ?_)
          refine lv_aload_n hx hb dX7_supplier_48 rfl (lv_at hl 0 rfl) ?_
          refine gf_X7_43 hx hb hown hK hH (bm hM 0) dX7_supplier_49 ?_
          refine lv_iconst (v := nI 3) hx hb dX7_supplier_52 (by decide) ?_
          refine lv_aload_n hx hb dX7_supplier_53 rfl (lv_at hl 0 rfl) ?_
          refine gf_X7_168 hx hb hown hK hH (bm hM 0) dX7_supplier_54 ?_
          refine m_toi (nS σ) (by rw [sI_at, if_neg (by omega)]; exact hW.1) ?_
          refine m_imulN hx hb dX7_supplier_57 ?_
          refine lv_iconst (v := nI 1) hx hb dX7_supplier_58 (by decide) ?_
          refine m_iaddN hx hb dX7_supplier_59 ?_
          refine lv_iload_n hx hb dX7_supplier_60 rfl (lv_at hl 2 rfl) ?_
          refine m_iast hx hb hK hH hS (n := 24) (bm hM 14) (fun _ _ => rfl) (3 * (nS σ) + 1) (rfl) (by omega) (by decide) dX7_supplier_61 (fun H locs hH hS => ?_)
          refine lv_aload_n hx hb dX7_supplier_62 rfl (lv_at hl 0 rfl) ?_
          refine gf_X7_43 hx hb hown hK hH (bm hM 0) dX7_supplier_63 ?_
          refine lv_iconst (v := nI 3) hx hb dX7_supplier_66 (by decide) ?_
          refine lv_aload_n hx hb dX7_supplier_67 rfl (lv_at hl 0 rfl) ?_
          refine gf_X7_168 hx hb hown hK hH (bm hM 0) dX7_supplier_68 ?_
          refine m_toi (nS σ) (by rw [sI_at, if_neg (by omega), sI_at, if_neg (by omega)]; exact hW.1) ?_
          refine m_imulN hx hb dX7_supplier_71 ?_
          refine lv_iconst (v := nI 2) hx hb dX7_supplier_72 (by decide) ?_
          refine m_iaddN hx hb dX7_supplier_73 ?_
          refine lv_iload_n hx hb dX7_supplier_74 rfl (lv_at hl 3 rfl) ?_
          refine m_iast hx hb hK hH hS (n := 24) (bm hM 14) (fun _ _ => rfl) (3 * (nS σ) + 2) (rfl) (by omega) (by decide) dX7_supplier_75 (fun H locs hH hS => ?_)
          refine lv_aload_n hx hb dX7_supplier_76 rfl (lv_at hl 0 rfl) ?_
          refine gf_X7_46 hx hb hown hK hH (bm hM 0) dX7_supplier_77 ?_
          refine lv_aload_n hx hb dX7_supplier_80 rfl (lv_at hl 0 rfl) ?_
          refine gf_X7_168 hx hb hown hK hH (bm hM 0) dX7_supplier_81 ?_
          refine m_toi (nS σ) (by rw [sI_at, if_neg (by omega), sI_at, if_neg (by omega), sI_at, if_neg (by omega)]; exact hW.1) ?_
          refine lv_iconst (v := nI 0) hx hb dX7_supplier_84 (by decide) ?_
          refine m_iast hx hb hK hH hS (n := 8) (bm hM 15) (fun _ _ => rfl) (nS σ) (rfl) (by omega) (by decide) dX7_supplier_85 (fun H locs hH hS => ?_)
          refine lv_aload_n hx hb dX7_supplier_86 rfl (lv_at hl 0 rfl) ?_
          refine lv_dup hx hb dX7_supplier_87 rfl ?_
          refine gf_X7_168 hx hb hown hK hH (bm hM 0) dX7_supplier_88 ?_
          refine m_toi (nS σ) (by rw [sI_at, if_neg (by omega), sI_at, if_neg (by omega), sI_at, if_neg (by omega), sI_at, if_neg (by omega)]; exact hW.1) ?_
          refine lv_iconst (v := nI 1) hx hb dX7_supplier_91 (by decide) ?_
          refine m_iaddN hx hb dX7_supplier_92 ?_
          refine pf_X7_168 hx hb hown hK hH hS (bm hM 0) dX7_supplier_93 (fun H locs hH hS => ?_)
          refine lv_aload_n hx hb dX7_supplier_96 rfl (lv_at hl 0 rfl) ?_
          refine gf_X7_168 hx hb hown hK hH (bm hM 0) dX7_supplier_97 ?_
          refine m_toi (nS σ + 1) (by rw [sI_at, if_pos ⟨rfl, rfl, rfl⟩]) ?_
          refine lv_iconst (v := nI 1) hx hb dX7_supplier_100 (by decide) ?_
          refine m_isubN (by omega) hx hb dX7_supplier_101 ?_
          exact m_iret hx hb hr hlk hH hS dX7_supplier_102 (by rw [hyes]; exact ⟨by congr 1, rfl⟩)
        · have hno : suOK σ x y z = false := by
            unfold suOK
            first
              | (rw [c_5]; rfl)
              | (rw [c_13, Bool.and_false]; rfl)
              | (rw [c_21, Bool.and_false]; rfl)
              | (rw [decide_eq_false (fun h => h c_30), Bool.and_false])
          refine lv_bipush (v := (-2)) hx hb dX7_supplier_33 (by decide) ?_
          exact m_iret hx hb hr hlk hH hS dX7_supplier_35 (by rw [hno]; exact ⟨rfl, rfl⟩)
def loOK (σ : gS) (x z : Int32) : Bool := isSu σ x && decide ((1 ≤ z.toInt ∧ z.toInt ≤ 60) ∧ (tot σ (pO σ x.toNatClampNeg (rl σ x.toNatClampNeg)) (stN σ (pO σ x.toNatClampNeg (rl σ x.toNatClampNeg))) : Int) ≤ z.toInt ∧ nL σ ≠ 60)
theorem loOK_nI {σ : gS} {s : Nat} {z : Int32} (hs : s < nS σ) (h8 : nS σ ≤ 8) : loOK σ (nI s) z = decide ((1 ≤ z.toInt ∧ z.toInt ≤ 60) ∧ (tot σ (pO σ s (rl σ s)) (stN σ (pO σ s (rl σ s))) : Int) ≤ z.toInt ∧ nL σ ≠ 60) := by
  unfold loOK
  rw [isSu_nI hs h8, nI_clamp (by omega)]
  rfl
def loUp (σ : gS) (s : Nat) (z : Int32) : gS := sI (sI (sI (sI (sI (sI σ 19 0 (nL σ) (nI s)) 20 0 (nL σ) z) 22 0 (nL σ) (nI (rl σ s))) 21 0 (nL σ) (nI (pO σ s (rl σ s)))) 23 0 (nL σ) (nI 0)) 0 0 2 (nI (nL σ + 1))
set_option maxHeartbeats 4000000 in
set_option maxRecDepth 100000 in
theorem c_X7_lot (l : Launch) (G : gG) (B : gB) (σ : gS) (hM : BkM B) (hP : WfP σ) (hW : WfS σ) (hL : σ.1 0 0 2 = nI (nL σ) ∧ nL σ ≤ 60) (x z : Int32) : Met l yX7_lot [.code yX7_lot cX7_lot 3 (some .int)] ({ frames := 2, cells := 0, slots := 0, locals := 45 } : Room) (mPc G B σ [.ref (B.1 0 0), .int (x), .int (z)]) (mQi G B (fun v σ' => if loOK σ x z = true then ∃ sn : Nat, sn < nS σ ∧ x = nI sn ∧ v = nI (nL σ) ∧ σ' = loUp σ sn z else v = -2 ∧ σ' = σ)) 0 0 (mA G) := by
  refine m_start (by decide) (Nat.le_of_ble_eq_true rfl) ?_
  intro p e s m below meth c ⟨hx, hb, hr, hml, hown, hK, hlk, hz⟩ hH hS ls hl
  have hl : lv_has ls 3 [(0, .ref (B.1 0 0)), (1, .int (x)), (2, .int (z))] := hl
  refine lv_aload_n hx hb dX7_lot_0 rfl (lv_at hl 0 rfl) ?_
  refine lv_iload_n hx hb dX7_lot_1 rfl (lv_at hl 1 rfl) ?_
  refine m_ki (m_runV (k := 0) (i := 0) (ci := 7) ⟨hx, hb, hml, hown, hz⟩ hK hH hS (bm hM 0) rfl rfl (c_X7_isSupplier l G B σ hM hW x) mw_X7_isSupplier wl_X7_174 ⟨rfl, rfl⟩ ⟨by decide, by decide⟩ rfl hl.1 rfl (Nat.le_of_ble_eq_true rfl) dX7_lot_2 ⟨Nat.zero_le _, Nat.zero_le _⟩) hS (fun r_2 σ_2 H locs hp hH hS => ?_)
  obtain ⟨hr1, hs1⟩ := hp
  subst hr1
  rw [hs1] at hH
  refine m_ifeqB (tgt := 50) hx hb dX7_lot_5 (by decide) (fun c_5 => ?_) (fun c_5 => ?_)
  · have hno : loOK σ (x) z = false := by
      first
        | (unfold loOK; rw [c_5]; rfl)
        | (rw [loOK_nI hsn h8]; have h9 := inR_f c_15; rw [n1I, n60I] at h9; exact decide_eq_false (fun hh => h9 hh.1))
        | (rw [loOK_nI hsn h8]; rw [i_lt, et] at c_38; exact decide_eq_false (fun hh => by omega))
        | (rw [loOK_nI hsn h8]; exact decide_eq_false (fun hh => hh.2.2 c_47))
    refine lv_bipush (v := (-2)) hx hb dX7_lot_50 (by decide) ?_
    exact m_iret hx hb hr hlk hH hS dX7_lot_52 (by rw [hno]; exact ⟨rfl, rfl⟩)
  · obtain ⟨sn, hsn, he⟩ := isSu_t c_5
    subst he
    have h8 := hW.2.1
    have hS1 := hW.2.2.1 sn hsn
    have hr2 := hS1.2.1
    have hp3 := hS1.2.2.1 (rl σ sn) (by omega)
    have h24 := hP.2.1
    have hP1 := hP.2.2 _ hp3.2.1
    have ht := tot_le hP1 (Nat.le_refl _)
    have et := nI_I (n := tot σ (pO σ sn (rl σ sn)) (stN σ (pO σ sn (rl σ sn)))) (by omega)
    have hl60 := hL.2
    refine lv_iload_n hx hb dX7_lot_8 rfl (lv_at hl 2 rfl) ?_
    refine lv_iconst (v := nI 1) hx hb dX7_lot_9 (by decide) ?_
    refine lv_bipush (v := nI 60) hx hb dX7_lot_10 (by decide) ?_
    refine m_ki (m_runS ⟨hx, hb, hml, hown, hz⟩ hK hH hS (c_X7_in l G B σ z (nI 1) (nI 60)) mw_X7_in wl_X7_95 ⟨rfl, rfl⟩ ⟨by decide, by decide⟩ rfl hl.1 rfl (Nat.le_of_ble_eq_true rfl) dX7_lot_12 ⟨Nat.zero_le _, Nat.zero_le _⟩) hS (fun r_12 σ_12 H locs hp hH hS => ?_)
    obtain ⟨hr1, hs1⟩ := hp
    subst hr1
    rw [hs1] at hH
    refine m_ifeqB (tgt := 50) hx hb dX7_lot_15 (by decide) (fun c_15 => ?_) (fun c_15 => ?_)
    · have hno : loOK σ (nI sn) z = false := by
        first
          | (unfold loOK; rw [c_5]; rfl)
          | (rw [loOK_nI hsn h8]; have h9 := inR_f c_15; rw [n1I, n60I] at h9; exact decide_eq_false (fun hh => h9 hh.1))
          | (rw [loOK_nI hsn h8]; rw [i_lt, et] at c_38; exact decide_eq_false (fun hh => by omega))
          | (rw [loOK_nI hsn h8]; exact decide_eq_false (fun hh => hh.2.2 c_47))
      refine lv_bipush (v := (-2)) hx hb dX7_lot_50 (by decide) ?_
      exact m_iret hx hb hr hlk hH hS dX7_lot_52 (by rw [hno]; exact ⟨rfl, rfl⟩)
    · refine lv_iload_n hx hb dX7_lot_18 rfl (lv_at hl 2 rfl) ?_
      refine lv_aload_n hx hb dX7_lot_19 rfl (lv_at hl 0 rfl) ?_
      refine lv_aload_n hx hb dX7_lot_20 rfl (lv_at hl 0 rfl) ?_
      refine gf_X7_43 hx hb hown hK hH (bm hM 0) dX7_lot_21 ?_
      refine lv_iconst (v := nI 3) hx hb dX7_lot_24 (by decide) ?_
      refine lv_iload_n hx hb dX7_lot_25 rfl (lv_at hl 1 rfl) ?_
      refine m_imulN hx hb dX7_lot_26 ?_
      refine lv_aload_n hx hb dX7_lot_27 rfl (lv_at hl 0 rfl) ?_
      refine gf_X7_46 hx hb hown hK hH (bm hM 0) dX7_lot_28 ?_
      refine lv_iload_n hx hb dX7_lot_31 rfl (lv_at hl 1 rfl) ?_
      refine m_iald hx hb hK hH (n := 8) (bm hM 15) (fun _ _ => rfl) (sn) (rfl) (by omega) (by decide) dX7_lot_32 ?_
      refine m_toi (rl σ sn) (hS1.1) ?_
      refine m_iaddN hx hb dX7_lot_33 ?_
      refine m_iald hx hb hK hH (n := 24) (bm hM 14) (fun _ _ => rfl) (3 * sn + (rl σ sn)) (rfl) (by omega) (by decide) dX7_lot_34 ?_
      refine m_toi (pO σ sn (rl σ sn)) (hp3.1) ?_
      refine m_ki (m_runV (k := 0) (i := 0) (ci := 7) ⟨hx, hb, hml, hown, hz⟩ hK hH hS (bm hM 0) rfl rfl (c_X7_all l G B σ hM (pO σ sn (rl σ sn)) (by omega) hP1) mw_X7_all wl_X7_110 ⟨rfl, rfl⟩ ⟨by decide, by decide⟩ rfl hl.1 rfl (Nat.le_of_ble_eq_true rfl) dX7_lot_35 ⟨Nat.zero_le _, Nat.zero_le _⟩) hS (fun r_35 σ_35 H locs hp hH hS => ?_)
      obtain ⟨hr1, hs1⟩ := hp
      subst hr1
      rw [hs1] at hH
      refine lv_icmp_lt (tgt := 50) hx hb dX7_lot_38 (by decide) (fun c_38 => ?_) (fun c_38 => ?_)
      · have hno : loOK σ (nI sn) z = false := by
          first
            | (unfold loOK; rw [c_5]; rfl)
            | (rw [loOK_nI hsn h8]; have h9 := inR_f c_15; rw [n1I, n60I] at h9; exact decide_eq_false (fun hh => h9 hh.1))
            | (rw [loOK_nI hsn h8]; rw [i_lt, et] at c_38; exact decide_eq_false (fun hh => by omega))
            | (rw [loOK_nI hsn h8]; exact decide_eq_false (fun hh => hh.2.2 c_47))
        refine lv_bipush (v := (-2)) hx hb dX7_lot_50 (by decide) ?_
        exact m_iret hx hb hr hlk hH hS dX7_lot_52 (by rw [hno]; exact ⟨rfl, rfl⟩)
      · refine lv_aload_n hx hb dX7_lot_41 rfl (lv_at hl 0 rfl) ?_
        refine gf_X7_171 hx hb hown hK hH (bm hM 0) dX7_lot_42 ?_
        refine m_toi (nL σ) (hL.1) ?_
        refine lv_bipush (v := nI 60) hx hb dX7_lot_45 (by decide) ?_
        refine m_icmp_neN (tgt := 53) (by omega) (by omega) hx hb dX7_lot_47 (by decide) (fun c_47 => ?_) (fun c_47 => ?_)
        · have hyes : loOK σ (nI sn) z = true := by
            rw [loOK_nI hsn h8]
            have h9 := inR_t c_15; rw [n1I, n60I] at h9
            rw [i_lt, et] at c_38
            exact decide_eq_true ⟨h9, by omega, c_47⟩
          refine lv_aload_n hx hb dX7_lot_53 rfl (lv_at hl 0 rfl) ?_
          refine gf_X7_58 hx hb hown hK hH (bm hM 0) dX7_lot_54 ?_
          refine lv_aload_n hx hb dX7_lot_57 rfl (lv_at hl 0 rfl) ?_
          refine gf_X7_171 hx hb hown hK hH (bm hM 0) dX7_lot_58 ?_
          refine m_toi (nL σ) (hL.1) ?_
          refine lv_iload_n hx hb dX7_lot_61 rfl (lv_at hl 1 rfl) ?_
          refine m_iast hx hb hK hH hS (n := 60) (bm hM 19) (fun _ _ => rfl) (nL σ) (rfl) (by omega) (by decide) dX7_lot_62 (fun H locs hH hS => ?_)
          refine lv_aload_n hx hb dX7_lot_63 rfl (lv_at hl 0 rfl) ?_
          refine gf_X7_61 hx hb hown hK hH (bm hM 0) dX7_lot_64 ?_
          refine lv_aload_n hx hb dX7_lot_67 rfl (lv_at hl 0 rfl) ?_
          refine gf_X7_171 hx hb hown hK hH (bm hM 0) dX7_lot_68 ?_
          refine m_toi (nL σ) (by rw [sI_at, if_neg (by omega)]; exact hL.1) ?_
          refine lv_iload_n hx hb dX7_lot_71 rfl (lv_at hl 2 rfl) ?_
          refine m_iast hx hb hK hH hS (n := 60) (bm hM 20) (fun _ _ => rfl) (nL σ) (rfl) (by omega) (by decide) dX7_lot_72 (fun H locs hH hS => ?_)
          refine lv_aload_n hx hb dX7_lot_73 rfl (lv_at hl 0 rfl) ?_
          refine gf_X7_67 hx hb hown hK hH (bm hM 0) dX7_lot_74 ?_
          refine lv_aload_n hx hb dX7_lot_77 rfl (lv_at hl 0 rfl) ?_
          refine gf_X7_171 hx hb hown hK hH (bm hM 0) dX7_lot_78 ?_
          refine m_toi (nL σ) (by rw [sI_at, if_neg (by omega), sI_at, if_neg (by omega)]; exact hL.1) ?_
          refine lv_aload_n hx hb dX7_lot_81 rfl (lv_at hl 0 rfl) ?_
          refine gf_X7_46 hx hb hown hK hH (bm hM 0) dX7_lot_82 ?_
          refine lv_iload_n hx hb dX7_lot_85 rfl (lv_at hl 1 rfl) ?_
          refine m_iald hx hb hK hH (n := 8) (bm hM 15) (fun _ _ => rfl) (sn) (rfl) (by omega) (by decide) dX7_lot_86 ?_
          refine m_toi (rl σ sn) (by rw [sI_at, if_neg (by omega), sI_at, if_neg (by omega)]; exact hS1.1) ?_
          refine m_iast hx hb hK hH hS (n := 60) (bm hM 22) (fun _ _ => rfl) (nL σ) (rfl) (by omega) (by decide) dX7_lot_87 (fun H locs hH hS => ?_)
          refine lv_aload_n hx hb dX7_lot_88 rfl (lv_at hl 0 rfl) ?_
          refine gf_X7_64 hx hb hown hK hH (bm hM 0) dX7_lot_89 ?_
          refine lv_aload_n hx hb dX7_lot_92 rfl (lv_at hl 0 rfl) ?_
          refine gf_X7_171 hx hb hown hK hH (bm hM 0) dX7_lot_93 ?_
          refine m_toi (nL σ) (by rw [sI_at, if_neg (by omega), sI_at, if_neg (by omega), sI_at, if_neg (by omega)]; exact hL.1) ?_
          refine lv_aload_n hx hb dX7_lot_96 rfl (lv_at hl 0 rfl) ?_
          refine gf_X7_43 hx hb hown hK hH (bm hM 0) dX7_lot_97 ?_
          refine lv_iconst (v := nI 3) hx hb dX7_lot_100 (by decide) ?_
          refine lv_iload_n hx hb dX7_lot_101 rfl (lv_at hl 1 rfl) ?_
          refine m_imulN hx hb dX7_lot_102 ?_
          refine lv_aload_n hx hb dX7_lot_103 rfl (lv_at hl 0 rfl) ?_
          refine gf_X7_46 hx hb hown hK hH (bm hM 0) dX7_lot_104 ?_
          refine lv_iload_n hx hb dX7_lot_107 rfl (lv_at hl 1 rfl) ?_
          refine m_iald hx hb hK hH (n := 8) (bm hM 15) (fun _ _ => rfl) (sn) (rfl) (by omega) (by decide) dX7_lot_108 ?_
          refine m_toi (rl σ sn) (by rw [sI_at, if_neg (by omega), sI_at, if_neg (by omega), sI_at, if_neg (by omega)]; exact hS1.1) ?_
          refine m_iaddN hx hb dX7_lot_109 ?_
          refine m_iald hx hb hK hH (n := 24) (bm hM 14) (fun _ _ => rfl) (3 * sn + (rl σ sn)) (rfl) (by omega) (by decide) dX7_lot_110 ?_
          refine m_toi (pO σ sn (rl σ sn)) (by rw [sI_at, if_neg (by omega), sI_at, if_neg (by omega), sI_at, if_neg (by omega)]; exact hp3.1) ?_
          refine m_iast hx hb hK hH hS (n := 60) (bm hM 21) (fun _ _ => rfl) (nL σ) (rfl) (by omega) (by decide) dX7_lot_111 (fun H locs hH hS => ?_)
          refine lv_aload_n hx hb dX7_lot_112 rfl (lv_at hl 0 rfl) ?_
          refine gf_X7_70 hx hb hown hK hH (bm hM 0) dX7_lot_113 ?_
          refine lv_aload_n hx hb dX7_lot_116 rfl (lv_at hl 0 rfl) ?_
          refine gf_X7_171 hx hb hown hK hH (bm hM 0) dX7_lot_117 ?_
          refine m_toi (nL σ) (by rw [sI_at, if_neg (by omega), sI_at, if_neg (by omega), sI_at, if_neg (by omega), sI_at, if_neg (by omega)]; exact hL.1) ?_
          refine lv_iconst (v := nI 0) hx hb dX7_lot_120 (by decide) ?_
          refine m_iast hx hb hK hH hS (n := 60) (bm hM 23) (fun _ _ => rfl) (nL σ) (rfl) (by omega) (by decide) dX7_lot_121 (fun H locs hH hS => ?_)
          refine lv_aload_n hx hb dX7_lot_122 rfl (lv_at hl 0 rfl) ?_
          refine lv_dup hx hb dX7_lot_123 rfl ?_
          refine gf_X7_171 hx hb hown hK hH (bm hM 0) dX7_lot_124 ?_
          refine m_toi (nL σ) (by rw [sI_at, if_neg (by omega), sI_at, if_neg (by omega), sI_at, if_neg (by omega), sI_at, if_neg (by omega), sI_at, if_neg (by omega)]; exact hL.1) ?_
          refine lv_iconst (v := nI 1) hx hb dX7_lot_127 (by decide) ?_
          refine m_iaddN hx hb dX7_lot_128 ?_
          refine pf_X7_171 hx hb hown hK hH hS (bm hM 0) dX7_lot_129 (fun H locs hH hS => ?_)
          refine lv_aload_n hx hb dX7_lot_132 rfl (lv_at hl 0 rfl) ?_
          refine gf_X7_171 hx hb hown hK hH (bm hM 0) dX7_lot_133 ?_
          refine m_toi (nL σ + 1) (by rw [sI_at, if_pos ⟨rfl, rfl, rfl⟩]) ?_
          refine lv_iconst (v := nI 1) hx hb dX7_lot_136 (by decide) ?_
          refine m_isubN (by omega) hx hb dX7_lot_137 ?_
          exact m_iret hx hb hr hlk hH hS dX7_lot_138 (by rw [hyes]; exact ⟨sn, hsn, rfl, by congr 1, rfl⟩)
        · have hno : loOK σ (nI sn) z = false := by
            first
              | (unfold loOK; rw [c_5]; rfl)
              | (rw [loOK_nI hsn h8]; have h9 := inR_f c_15; rw [n1I, n60I] at h9; exact decide_eq_false (fun hh => h9 hh.1))
              | (rw [loOK_nI hsn h8]; rw [i_lt, et] at c_38; exact decide_eq_false (fun hh => by omega))
              | (rw [loOK_nI hsn h8]; exact decide_eq_false (fun hh => hh.2.2 c_47))
          refine lv_bipush (v := (-2)) hx hb dX7_lot_50 (by decide) ?_
          exact m_iret hx hb hr hlk hH hS dX7_lot_52 (by rw [hno]; exact ⟨rfl, rfl⟩)
set_option maxHeartbeats 4000000 in
set_option maxRecDepth 100000 in
theorem c_X7_isOpen (l : Launch) (G : gG) (B : gB) (σ : gS) (hM : BkM B) (hP : WfP σ) (hL : WfL σ) (x : Int32) : Met l yX7_isOpen [.code yX7_isOpen cX7_isOpen 2 (some .boolean)] ({ frames := 2, cells := 0, slots := 0, locals := 49 } : Room) (mPc G B σ [.ref (B.1 0 0), .int (x)]) (mQi G B (fun v τ => v = bI (opn σ x) ∧ Sm σ τ)) 0 0 (mA G) := by
  refine m_start (by decide) (Nat.le_of_ble_eq_true rfl) ?_
  intro p e s m below meth c ⟨hx, hb, hr, hml, hown, hK, hlk, hz⟩ hH hS ls hl
  have hl : lv_has ls 2 [(0, .ref (B.1 0 0)), (1, .int (x))] := hl
  refine lv_aload_n hx hb dX7_isOpen_0 rfl (lv_at hl 0 rfl) ?_
  refine lv_iload_n hx hb dX7_isOpen_1 rfl (lv_at hl 1 rfl) ?_
  refine m_ki (m_runV (k := 0) (i := 0) (ci := 7) ⟨hx, hb, hml, hown, hz⟩ hK hH hS (bm hM 0) rfl rfl (c_X7_isLot l G B σ hM ⟨hL.1, hL.2.1⟩ x) mw_X7_isLot wl_X7_189 ⟨rfl, rfl⟩ ⟨by decide, by decide⟩ rfl hl.1 rfl (Nat.le_of_ble_eq_true rfl) dX7_isOpen_2 ⟨Nat.zero_le _, Nat.zero_le _⟩) hS (fun r_2 σ_2 H locs hp hH hS => ?_)
  obtain ⟨hr1, hs1⟩ := hp
  subst hr1
  rw [hs1] at hH
  refine m_ifneB (tgt := 10) hx hb dX7_isOpen_5 (by decide) (fun c_5 => ?_) (fun c_5 => ?_)
  · obtain ⟨qn, hqn, he⟩ := isLo_t c_5
    subst he
    have hl60 := hL.2.1
    have hL1 := hL.2.2 qn hqn
    refine lv_aload_n hx hb dX7_isOpen_10 rfl (lv_at hl 0 rfl) ?_
    refine lv_iload_n hx hb dX7_isOpen_11 rfl (lv_at hl 1 rfl) ?_
    refine m_kv (m_runV (k := 0) (i := 0) (ci := 7) ⟨hx, hb, hml, hown, hz⟩ hK hH hS (bm hM 0) rfl rfl (c_X7_judge l G B σ hM qn (lPl σ qn) (lSn σ qn) (hL1.jh hP (by omega))) mw_X7_judge wl_X7_192 ⟨rfl, rfl⟩ ⟨by decide, by decide⟩ rfl hl.1 rfl (Nat.le_of_ble_eq_true rfl) dX7_isOpen_12 ⟨Nat.zero_le _, Nat.zero_le _⟩) hS (fun σ_12 H locs hp hH hS => ?_)
    have hp : JP σ σ_12 (jq σ qn) := hp
    have hb1 : (jq σ qn).1 ≤ 2 := jd_now σ qn (lPl σ qn) (lSn σ qn)
    refine lv_aload_n hx hb dX7_isOpen_15 rfl (lv_at hl 0 rfl) ?_
    refine gf_X7_177 hx hb hown hK hH (bm hM 0) dX7_isOpen_16 ?_
    refine m_toi ((jq σ qn).1) (hp.2.2.1) ?_
    refine m_ifneN (tgt := 26) (by omega) hx hb dX7_isOpen_19 (by decide) (fun c_19 => ?_) (fun c_19 => ?_)
    · refine lv_iconst (v := nI 0) hx hb dX7_isOpen_26 (by decide) ?_
      exact m_zret hx hb hr hlk hH hS dX7_isOpen_27 (by first | exact Or.inl rfl | exact Or.inr rfl | exact bI_01 _) (⟨bI_f (by rw [opn_nI hqn hl60]; exact decide_eq_false (by omega)), hp.sm⟩)
    · refine lv_iconst (v := nI 1) hx hb dX7_isOpen_22 (by decide) ?_
      refine lv_goto (tgt := 27) hx hb dX7_isOpen_23 (by decide) ?_
      exact m_zret hx hb hr hlk hH hS dX7_isOpen_27 (by first | exact Or.inl rfl | exact Or.inr rfl | exact bI_01 _) (⟨bI_t (by rw [opn_nI hqn hl60]; exact decide_eq_true c_19), hp.sm⟩)
  · refine lv_iconst (v := nI 0) hx hb dX7_isOpen_8 (by decide) ?_
    exact m_zret hx hb hr hlk hH hS dX7_isOpen_9 (by first | exact Or.inl rfl | exact Or.inr rfl | exact bI_01 _) (⟨bI_f (by unfold opn; rw [c_5]; rfl), Sm.rf σ⟩)
end
section
theorem x23_S {σ : gS} {q : Nat} {v : Int32} (h : WfS σ) : WfS (sI σ 23 0 q v) := h
theorem x23_n (σ : gS) (q : Nat) (v : Int32) : nS (sI σ 23 0 q v) = nS σ := rfl
theorem x23_rn (σ : gS) (q : Nat) (v : Int32) (s : Nat) : rn (sI σ 23 0 q v) s = rn σ s := rfl
theorem x23_rl (σ : gS) (q : Nat) (v : Int32) (s : Nat) : rl (sI σ 23 0 q v) s = rl σ s := rfl
theorem x23_16 (σ : gS) (q : Nat) (v : Int32) (s : Nat) : (sI σ 23 0 q v).1 16 0 s = σ.1 16 0 s := rfl
theorem rcA_n (σ : gS) (s a : Nat) : nS (rcA σ s a) = nS σ := rfl
theorem rcA_15 (σ : gS) (s a t : Nat) : (rcA σ s a).1 15 0 t = σ.1 15 0 t := rfl
theorem rcA_16 (σ : gS) (s a t : Nat) : (rcA σ s a).1 16 0 t = σ.1 16 0 t := rfl
theorem Sm.nSE {σ τ : gS} (h : Sm σ τ) : nS τ = nS σ := Sm.cg nS h
theorem Sm.rnE {σ τ : gS} (h : Sm σ τ) (s : Nat) : rn τ s = rn σ s := Sm.cg (fun z => rn z s) h
theorem Sm.rvE {σ τ : gS} (h : Sm σ τ) (s : Nat) : rv τ s = rv σ s := Sm.cg (fun z => rv z s) h
theorem rcv_same {σ : gS} {s a : Nat} (h : nxr (rl σ s) a (rv (rcA σ s a) s) = rl σ s) : rcv σ s a = rcA σ s a := if_pos h
theorem rcv_new {σ : gS} {s a : Nat} (h : ¬ nxr (rl σ s) a (rv (rcA σ s a) s) = rl σ s) : rcv σ s a = sI (sI (sI (rcA σ s a) 15 0 s (nI (nxr (rl σ s) a (rv (rcA σ s a) s)))) 16 0 s (σ.1 16 0 s + nI 1)) 17 0 s (nI 0) := if_neg h
theorem hrs_0 {σ : gS} {q : Nat} (h : (jq σ q).1 = 0) : hrs σ q = sI σ 23 0 q (nI (jq σ q).2.1) := if_pos h
theorem hrs_1 {σ : gS} {q : Nat} (h : ¬ (jq σ q).1 = 0) : hrs σ q = rcv (sI σ 23 0 q (nI (jq σ q).2.1)) (lSu σ q) (jq σ q).1 := if_neg h
end
section
def abA (σ : gS) (q : Nat) (w : Int32) : Int32 := if w = nI 0 then nI (jq σ q).1 else if w = nI 1 then nI (lSn σ q) else if w = nI 2 then nI (jD (jq σ q)) else if w = nI 3 then nI (jq σ q).2.2.1 else if w = nI 4 then nI (lPl σ q) else if w = nI 5 then nI (lSz σ q) else if w = nI 6 then nI (lRu σ q) else -2
set_option maxHeartbeats 4000000 in
set_option maxRecDepth 100000 in
theorem c_X7_about (l : Launch) (G : gG) (B : gB) (σ : gS) (hM : BkM B) (hP : WfP σ) (hL : WfL σ) (x w : Int32) : Met l yX7_about [.code yX7_about cX7_about 3 (some .int)] ({ frames := 2, cells := 0, slots := 0, locals := 49 } : Room) (mPc G B σ [.ref (B.1 0 0), .int (x), .int (w)]) (mQi G B (fun v τ => v = (if isLo σ x = true then abA σ x.toNatClampNeg w else -2) ∧ Sm σ τ)) 0 0 (mA G) := by
  refine m_start (by decide) (Nat.le_of_ble_eq_true rfl) ?_
  intro p e s m below meth c ⟨hx, hb, hr, hml, hown, hK, hlk, hz⟩ hH hS ls hl
  have hl : lv_has ls 3 [(0, .ref (B.1 0 0)), (1, .int (x)), (2, .int (w))] := hl
  refine lv_aload_n hx hb dX7_about_0 rfl (lv_at hl 0 rfl) ?_
  refine lv_iload_n hx hb dX7_about_1 rfl (lv_at hl 1 rfl) ?_
  refine m_ki (m_runV (k := 0) (i := 0) (ci := 7) ⟨hx, hb, hml, hown, hz⟩ hK hH hS (bm hM 0) rfl rfl (c_X7_isLot l G B σ hM ⟨hL.1, hL.2.1⟩ x) mw_X7_isLot wl_X7_189 ⟨rfl, rfl⟩ ⟨by decide, by decide⟩ rfl hl.1 rfl (Nat.le_of_ble_eq_true rfl) dX7_about_2 ⟨Nat.zero_le _, Nat.zero_le _⟩) hS (fun r_2 σ_2 H locs hp hH hS => ?_)
  obtain ⟨hr1, hs1⟩ := hp
  subst hr1
  rw [hs1] at hH
  refine m_ifneB (tgt := 11) hx hb dX7_about_5 (by decide) (fun c_5 => ?_) (fun c_5 => ?_)
  · obtain ⟨qn, hqn, he⟩ := isLo_t c_5
    subst he
    have hl60 := hL.2.1
    have hL1 := hL.2.2 qn hqn
    refine lv_aload_n hx hb dX7_about_11 rfl (lv_at hl 0 rfl) ?_
    refine lv_iload_n hx hb dX7_about_12 rfl (lv_at hl 1 rfl) ?_
    refine m_kv (m_runV (k := 0) (i := 0) (ci := 7) ⟨hx, hb, hml, hown, hz⟩ hK hH hS (bm hM 0) rfl rfl (c_X7_judge l G B σ hM qn (lPl σ qn) (lSn σ qn) (hL1.jh hP (by omega))) mw_X7_judge wl_X7_192 ⟨rfl, rfl⟩ ⟨by decide, by decide⟩ rfl hl.1 rfl (Nat.le_of_ble_eq_true rfl) dX7_about_13 ⟨Nat.zero_le _, Nat.zero_le _⟩) hS (fun σ_13 H locs hp hH hS => ?_)
    have hp : JP σ σ_13 (jq σ qn) := hp
    have hif : isLo σ (nI qn) = true := c_5
    clear c_5
    refine lv_iload_n hx hb dX7_about_16 rfl (lv_at hl 2 rfl) ?_
    by_cases s_17_0 : w = nI 0
    · refine m_toe (nI 0) s_17_0 ?_
      refine lv_tableIn (off := 43) (tgt := 60) hx hb dX7_about_17 (by decide) (by decide) (by decide) (by decide) ?_
      refine lv_aload_n hx hb dX7_about_60 rfl (lv_at hl 0 rfl) ?_
      refine gf_X7_177 hx hb hown hK hH (bm hM 0) dX7_about_61 ?_
      refine m_toi ((jq σ qn).1) (hp.2.2.1) ?_
      exact m_iret hx hb hr hlk hH hS dX7_about_64 (⟨by rw [if_pos hif, nI_clamp (by omega)]; unfold abA; rw [if_pos s_17_0], hp.sm⟩)
    by_cases s_17_1 : w = nI 1
    · refine m_toe (nI 1) s_17_1 ?_
      refine lv_tableIn (off := 48) (tgt := 65) hx hb dX7_about_17 (by decide) (by decide) (by decide) (by decide) ?_
      refine lv_aload_n hx hb dX7_about_65 rfl (lv_at hl 0 rfl) ?_
      refine gf_X7_70 hx hb hown hK hH (bm hM 0) dX7_about_66 ?_
      refine lv_iload_n hx hb dX7_about_69 rfl (lv_at hl 1 rfl) ?_
      refine m_iald hx hb hK hH (n := 60) (bm hM 23) (fun _ _ => rfl) (qn) (rfl) (by omega) (by decide) dX7_about_70 ?_
      refine m_toi (lSn σ qn) ((hp.1 23 0 qn (by omega)).trans hL1.2.2.2.2.2.2.2.1) ?_
      exact m_iret hx hb hr hlk hH hS dX7_about_71 (⟨by rw [if_pos hif, nI_clamp (by omega)]; unfold abA; rw [if_neg s_17_0, if_pos s_17_1], hp.sm⟩)
    by_cases s_17_2 : w = nI 2
    · refine m_toe (nI 2) s_17_2 ?_
      refine lv_tableIn (off := 55) (tgt := 72) hx hb dX7_about_17 (by decide) (by decide) (by decide) (by decide) ?_
      refine lv_aload_n hx hb dX7_about_72 rfl (lv_at hl 0 rfl) ?_
      refine gf_X7_183 hx hb hown hK hH (bm hM 0) dX7_about_73 ?_
      refine m_toi (jD (jq σ qn)) (hp.2.2.2.2.1) ?_
      exact m_iret hx hb hr hlk hH hS dX7_about_76 (⟨by rw [if_pos hif, nI_clamp (by omega)]; unfold abA; rw [if_neg s_17_0, if_neg s_17_1, if_pos s_17_2], hp.sm⟩)
    by_cases s_17_3 : w = nI 3
    · refine m_toe (nI 3) s_17_3 ?_
      refine lv_tableIn (off := 60) (tgt := 77) hx hb dX7_about_17 (by decide) (by decide) (by decide) (by decide) ?_
      refine lv_aload_n hx hb dX7_about_77 rfl (lv_at hl 0 rfl) ?_
      refine gf_X7_186 hx hb hown hK hH (bm hM 0) dX7_about_78 ?_
      refine m_toi ((jq σ qn).2.2.1) (hp.2.2.2.2.2) ?_
      exact m_iret hx hb hr hlk hH hS dX7_about_81 (⟨by rw [if_pos hif, nI_clamp (by omega)]; unfold abA; rw [if_neg s_17_0, if_neg s_17_1, if_neg s_17_2, if_pos s_17_3], hp.sm⟩)
    by_cases s_17_4 : w = nI 4
    · refine m_toe (nI 4) s_17_4 ?_
      refine lv_tableIn (off := 65) (tgt := 82) hx hb dX7_about_17 (by decide) (by decide) (by decide) (by decide) ?_
      refine lv_aload_n hx hb dX7_about_82 rfl (lv_at hl 0 rfl) ?_
      refine gf_X7_64 hx hb hown hK hH (bm hM 0) dX7_about_83 ?_
      refine lv_iload_n hx hb dX7_about_86 rfl (lv_at hl 1 rfl) ?_
      refine m_iald hx hb hK hH (n := 60) (bm hM 21) (fun _ _ => rfl) (qn) (rfl) (by omega) (by decide) dX7_about_87 ?_
      refine m_toi (lPl σ qn) ((hp.1 21 0 qn (by omega)).trans hL1.2.2.2.2.1) ?_
      exact m_iret hx hb hr hlk hH hS dX7_about_88 (⟨by rw [if_pos hif, nI_clamp (by omega)]; unfold abA; rw [if_neg s_17_0, if_neg s_17_1, if_neg s_17_2, if_neg s_17_3, if_pos s_17_4], hp.sm⟩)
    by_cases s_17_5 : w = nI 5
    · refine m_toe (nI 5) s_17_5 ?_
      refine lv_tableIn (off := 72) (tgt := 89) hx hb dX7_about_17 (by decide) (by decide) (by decide) (by decide) ?_
      refine lv_aload_n hx hb dX7_about_89 rfl (lv_at hl 0 rfl) ?_
      refine gf_X7_61 hx hb hown hK hH (bm hM 0) dX7_about_90 ?_
      refine lv_iload_n hx hb dX7_about_93 rfl (lv_at hl 1 rfl) ?_
      refine m_iald hx hb hK hH (n := 60) (bm hM 20) (fun _ _ => rfl) (qn) (rfl) (by omega) (by decide) dX7_about_94 ?_
      refine m_toi (lSz σ qn) ((hp.1 20 0 qn (by omega)).trans hL1.2.2.1) ?_
      exact m_iret hx hb hr hlk hH hS dX7_about_95 (⟨by rw [if_pos hif, nI_clamp (by omega)]; unfold abA; rw [if_neg s_17_0, if_neg s_17_1, if_neg s_17_2, if_neg s_17_3, if_neg s_17_4, if_pos s_17_5], hp.sm⟩)
    by_cases s_17_6 : w = nI 6
    · refine m_toe (nI 6) s_17_6 ?_
      refine lv_tableIn (off := 79) (tgt := 96) hx hb dX7_about_17 (by decide) (by decide) (by decide) (by decide) ?_
      refine lv_aload_n hx hb dX7_about_96 rfl (lv_at hl 0 rfl) ?_
      refine gf_X7_67 hx hb hown hK hH (bm hM 0) dX7_about_97 ?_
      refine lv_iload_n hx hb dX7_about_100 rfl (lv_at hl 1 rfl) ?_
      refine m_iald hx hb hK hH (n := 60) (bm hM 22) (fun _ _ => rfl) (qn) (rfl) (by omega) (by decide) dX7_about_101 ?_
      refine m_toi (lRu σ qn) ((hp.1 22 0 qn (by omega)).trans hL1.2.2.2.1) ?_
      exact m_iret hx hb hr hlk hH hS dX7_about_102 (⟨by rw [if_pos hif, nI_clamp (by omega)]; unfold abA; rw [if_neg s_17_0, if_neg s_17_1, if_neg s_17_2, if_neg s_17_3, if_neg s_17_4, if_neg s_17_5, if_pos s_17_6], hp.sm⟩)
    have so_17 : w.toInt < 0 ∨ 6 < w.toInt := by
      simp only [i_eq] at s_17_0 s_17_1 s_17_2 s_17_3 s_17_4 s_17_5 s_17_6
      simp only [show (nI 0).toInt = 0 from rfl, show (nI 1).toInt = 1 from rfl, show (nI 2).toInt = 2 from rfl, show (nI 3).toInt = 3 from rfl, show (nI 4).toInt = 4 from rfl, show (nI 5).toInt = 5 from rfl, show (nI 6).toInt = 6 from rfl] at s_17_0 s_17_1 s_17_2 s_17_3 s_17_4 s_17_5 s_17_6
      omega
    refine lv_tableOut (tgt := 103) hx hb dX7_about_17 so_17 (by decide) ?_
    refine lv_bipush (v := (-2)) hx hb dX7_about_103 (by decide) ?_
    exact m_iret hx hb hr hlk hH hS dX7_about_105 (⟨by rw [if_pos hif, nI_clamp (by omega)]; unfold abA; rw [if_neg s_17_0, if_neg s_17_1, if_neg s_17_2, if_neg s_17_3, if_neg s_17_4, if_neg s_17_5, if_neg s_17_6], hp.sm⟩)
  · refine lv_bipush (v := (-2)) hx hb dX7_about_8 (by decide) ?_
    exact m_iret hx hb hr hlk hH hS dX7_about_10 (⟨(if_neg (fun h => by rw [c_5] at h; exact absurd h (by decide))).symm, Sm.rf σ⟩)
def unOK (σ : gS) (x : Int32) : Bool := opn σ x && decide (lSn σ x.toNatClampNeg ≠ 0)
set_option maxHeartbeats 4000000 in
set_option maxRecDepth 100000 in
theorem c_X7_undo (l : Launch) (G : gG) (B : gB) (σ : gS) (hM : BkM B) (hP : WfP σ) (hL : WfL σ) (x : Int32) : Met l yX7_undo [.code yX7_undo cX7_undo 2 (some .int)] ({ frames := 3, cells := 0, slots := 0, locals := 70 } : Room) (mPc G B σ [.ref (B.1 0 0), .int (x)]) (mQi G B (fun v τ => v = (if unOK σ x = true then nI (lSn σ x.toNatClampNeg - 1) else -2) ∧ Sm (if unOK σ x = true then sI σ 23 0 x.toNatClampNeg (nI (lSn σ x.toNatClampNeg - 1)) else σ) τ)) 0 0 (mA G) := by
  refine m_start (by decide) (Nat.le_of_ble_eq_true rfl) ?_
  intro p e s m below meth c ⟨hx, hb, hr, hml, hown, hK, hlk, hz⟩ hH hS ls hl
  have hl : lv_has ls 2 [(0, .ref (B.1 0 0)), (1, .int (x))] := hl
  refine lv_aload_n hx hb dX7_undo_0 rfl (lv_at hl 0 rfl) ?_
  refine lv_iload_n hx hb dX7_undo_1 rfl (lv_at hl 1 rfl) ?_
  refine m_ki (m_runV (k := 0) (i := 0) (ci := 7) ⟨hx, hb, hml, hown, hz⟩ hK hH hS (bm hM 0) rfl rfl (c_X7_isOpen l G B σ hM hP hL x) mw_X7_isOpen wl_X7_198 ⟨rfl, rfl⟩ ⟨by decide, by decide⟩ rfl hl.1 rfl (Nat.le_of_ble_eq_true rfl) dX7_undo_2 ⟨Nat.zero_le _, Nat.zero_le _⟩) hS (fun r_2 σ_2 H locs hp hH hS => ?_)
  obtain ⟨hr1, hsm⟩ := hp
  subst hr1
  refine m_ifeqB (tgt := 17) hx hb dX7_undo_5 (by decide) (fun c_5 => ?_) (fun c_5 => ?_)
  · have hno : unOK σ (x) = false := by
      unfold unOK
      first
        | (rw [c_5]; rfl)
        | (rw [nI_clamp (by omega), decide_eq_false (fun z => z c_14), Bool.and_false])
    refine lv_bipush (v := (-2)) hx hb dX7_undo_17 (by decide) ?_
    exact m_iret hx hb hr hlk hH hS dX7_undo_19 (⟨by rw [hno]; rfl, by rw [hno]; exact hsm⟩)
  · obtain ⟨qn, hqn, he, hop⟩ := opn_t hL.2.1 c_5
    subst he
    have hl60 := hL.2.1
    have hL1 := hL.2.2 qn hqn
    have hsn := hL1.2.2.2.2.2.2.2.2.1
    refine lv_aload_n hx hb dX7_undo_8 rfl (lv_at hl 0 rfl) ?_
    refine gf_X7_70 hx hb hown hK hH (bm hM 0) dX7_undo_9 ?_
    refine lv_iload_n hx hb dX7_undo_12 rfl (lv_at hl 1 rfl) ?_
    refine m_iald hx hb hK hH (n := 60) (bm hM 23) (fun _ _ => rfl) (qn) (rfl) (by omega) (by decide) dX7_undo_13 ?_
    refine m_toi (lSn σ qn) ((hsm.rd 23 0 qn rfl).trans hL1.2.2.2.2.2.2.2.1) ?_
    refine m_ifneN (tgt := 20) (by omega) hx hb dX7_undo_14 (by decide) (fun c_14 => ?_) (fun c_14 => ?_)
    · have hyes : unOK σ (nI qn) = true := by
        unfold unOK
        rw [nI_clamp (by omega), c_5, decide_eq_true (show lSn σ qn ≠ 0 by omega)]
        rfl
      refine lv_aload_n hx hb dX7_undo_20 rfl (lv_at hl 0 rfl) ?_
      refine gf_X7_70 hx hb hown hK hH (bm hM 0) dX7_undo_21 ?_
      refine lv_iload_n hx hb dX7_undo_24 rfl (lv_at hl 1 rfl) ?_
      refine lv_dup2_11 hx hb dX7_undo_25 rfl rfl ?_
      refine m_iald hx hb hK hH (n := 60) (bm hM 23) (fun _ _ => rfl) (qn) (rfl) (by omega) (by decide) dX7_undo_26 ?_
      refine m_toi (lSn σ qn) ((hsm.rd 23 0 qn rfl).trans hL1.2.2.2.2.2.2.2.1) ?_
      refine lv_iconst (v := nI 1) hx hb dX7_undo_27 (by decide) ?_
      refine m_isubN (by omega) hx hb dX7_undo_28 ?_
      refine m_iast hx hb hK hH hS (n := 60) (bm hM 23) (fun _ _ => rfl) (qn) (rfl) (by omega) (by decide) dX7_undo_29 (fun H locs hH hS => ?_)
      refine lv_aload_n hx hb dX7_undo_30 rfl (lv_at hl 0 rfl) ?_
      refine gf_X7_70 hx hb hown hK hH (bm hM 0) dX7_undo_31 ?_
      refine lv_iload_n hx hb dX7_undo_34 rfl (lv_at hl 1 rfl) ?_
      refine m_iald hx hb hK hH (n := 60) (bm hM 23) (fun _ _ => rfl) (qn) (rfl) (by omega) (by decide) dX7_undo_35 ?_
      refine m_toi (lSn σ qn - 1) (by rw [sI_at, if_pos ⟨rfl, rfl, rfl⟩]) ?_
      exact m_iret hx hb hr hlk hH hS dX7_undo_36 (⟨by rw [if_pos hyes, nI_clamp (by omega)], by rw [if_pos hyes, nI_clamp (by omega)]; exact hsm.put 23 0 qn _⟩)
    · have hno : unOK σ (nI qn) = false := by
        unfold unOK
        first
          | (rw [c_5]; rfl)
          | (rw [nI_clamp (by omega), decide_eq_false (fun z => z c_14), Bool.and_false])
      refine lv_bipush (v := (-2)) hx hb dX7_undo_17 (by decide) ?_
      exact m_iret hx hb hr hlk hH hS dX7_undo_19 (⟨by rw [hno]; rfl, by rw [hno]; exact hsm⟩)
set_option maxHeartbeats 4000000 in
set_option maxRecDepth 100000 in
theorem c_X7_hears (l : Launch) (G : gG) (B : gB) (σ : gS) (hM : BkM B) (hW : WfS σ) (qn : Nat) (hJ0 : JH σ qn (lPl σ qn) (lSn σ qn)) (hs1 : σ.1 19 0 qn = nI (lSu σ qn)) (hs2 : lSu σ qn < nS σ) (hrn : rn σ (lSu σ qn) < 60) : Met l yX7_hears [.code yX7_hears cX7_hears 7 (some .int)] ({ frames := 3, cells := 0, slots := 0, locals := 65 } : Room) (mPc G B σ [.ref (B.1 0 0), .int (nI qn)]) (mQi G B (fun v τ => v = nI (jq σ qn).1 ∧ Sm (hrs σ qn) τ)) 0 0 (mA G) := by
  refine m_start (by decide) (Nat.le_of_ble_eq_true rfl) ?_
  intro p e s m below meth c ⟨hx, hb, hr, hml, hown, hK, hlk, hz⟩ hH hS ls hl
  have hl : lv_has ls 7 [(0, .ref (B.1 0 0)), (1, .int (nI qn))] := hl
  refine lv_aload_n hx hb dX7_hears_0 rfl (lv_at hl 0 rfl) ?_
  refine lv_iload_n hx hb dX7_hears_1 rfl (lv_at hl 1 rfl) ?_
  refine m_kv (m_runV (k := 0) (i := 0) (ci := 7) ⟨hx, hb, hml, hown, hz⟩ hK hH hS (bm hM 0) rfl rfl (c_X7_judge l G B σ hM qn (lPl σ qn) (lSn σ qn) hJ0) mw_X7_judge wl_X7_192 ⟨rfl, rfl⟩ ⟨by decide, by decide⟩ rfl hl.1 rfl (Nat.le_of_ble_eq_true rfl) dX7_hears_2 ⟨Nat.zero_le _, Nat.zero_le _⟩) hS (fun σ_2 H locs hp hH hS => ?_)
  have hp : JP σ σ_2 (jq σ qn) := hp
  have hb1 : (jq σ qn).1 ≤ 2 := jd_now σ qn (lPl σ qn) (lSn σ qn)
  have hq := hJ0.1
  have h8 := hW.2.1
  have hS1 := hW.2.2.1 (lSu σ qn) hs2
  refine lv_aload_n hx hb dX7_hears_5 rfl (lv_at hl 0 rfl) ?_
  refine gf_X7_70 hx hb hown hK hH (bm hM 0) dX7_hears_6 ?_
  refine lv_iload_n hx hb dX7_hears_9 rfl (lv_at hl 1 rfl) ?_
  refine lv_aload_n hx hb dX7_hears_10 rfl (lv_at hl 0 rfl) ?_
  refine gf_X7_180 hx hb hown hK hH (bm hM 0) dX7_hears_11 ?_
  refine m_toi ((jq σ qn).2.1) (hp.2.2.2.1) ?_
  refine m_iast hx hb hK hH hS (n := 60) (bm hM 23) (fun _ _ => rfl) (qn) (rfl) (by omega) (by decide) dX7_hears_14 (fun H locs hH hS => ?_)
  refine lv_aload_n hx hb dX7_hears_15 rfl (lv_at hl 0 rfl) ?_
  refine gf_X7_177 hx hb hown hK hH (bm hM 0) dX7_hears_16 ?_
  refine m_toi ((jq σ qn).1) (by rw [sI_at, if_neg (by omega)]; exact hp.2.2.1) ?_
  refine m_ifneN (tgt := 24) (by omega) hx hb dX7_hears_19 (by decide) (fun c_19 => ?_) (fun c_19 => ?_)
  · refine lv_aload_n hx hb dX7_hears_24 rfl (lv_at hl 0 rfl) ?_
    refine gf_X7_177 hx hb hown hK hH (bm hM 0) dX7_hears_25 ?_
    refine m_toi ((jq σ qn).1) (by rw [sI_at, if_neg (by omega)]; exact hp.2.2.1) ?_
    refine lv_istore_n (lv' := [(2, .int (nI ((jq σ qn).1))), (0, .ref (B.1 0 0)), (1, .int (nI qn))]) hx hb dX7_hears_28 rfl hl (by decide) rfl (fun ls hl => ?_)
    refine lv_aload_n hx hb dX7_hears_29 rfl (lv_at hl 1 rfl) ?_
    refine gf_X7_58 hx hb hown hK hH (bm hM 0) dX7_hears_30 ?_
    refine lv_iload_n hx hb dX7_hears_33 rfl (lv_at hl 2 rfl) ?_
    refine m_iald hx hb hK hH (n := 60) (bm hM 19) (fun _ _ => rfl) (qn) (rfl) (by omega) (by decide) dX7_hears_34 ?_
    refine m_toi (lSu σ qn) (by rw [sI_at, if_neg (by omega)]; exact (hp.1 19 0 qn (by omega)).trans hs1) ?_
    refine lv_istore_n (lv' := [(3, .int (nI (lSu σ qn))), (2, .int (nI ((jq σ qn).1))), (0, .ref (B.1 0 0)), (1, .int (nI qn))]) hx hb dX7_hears_35 rfl hl (by decide) rfl (fun ls hl => ?_)
    refine lv_aload_n hx hb dX7_hears_36 rfl (lv_at hl 2 rfl) ?_
    refine gf_X7_55 hx hb hown hK hH (bm hM 0) dX7_hears_37 ?_
    refine lv_bipush (v := nI 60) hx hb dX7_hears_40 (by decide) ?_
    refine lv_iload_n hx hb dX7_hears_42 rfl (lv_at hl 0 rfl) ?_
    refine m_imulN hx hb dX7_hears_43 ?_
    refine lv_aload_n hx hb dX7_hears_44 rfl (lv_at hl 2 rfl) ?_
    refine gf_X7_52 hx hb hown hK hH (bm hM 0) dX7_hears_45 ?_
    refine lv_iload_n hx hb dX7_hears_48 rfl (lv_at hl 0 rfl) ?_
    refine m_iald hx hb hK hH (n := 8) (bm hM 17) (fun _ _ => rfl) (lSu σ qn) (rfl) (by omega) (by decide) dX7_hears_49 ?_
    refine m_toi (rn σ (lSu σ qn)) (by rw [sI_at, if_neg (by omega)]; exact (hp.1 17 0 _ (by omega)).trans hS1.2.2.2.1) ?_
    refine m_iaddN hx hb dX7_hears_50 ?_
    refine lv_iload_n hx hb dX7_hears_51 rfl (lv_at hl 1 rfl) ?_
    refine m_iast hx hb hK hH hS (n := 480) (bm hM 18) (fun _ _ => rfl) (60 * (lSu σ qn) + (rn σ (lSu σ qn))) (rfl) (by omega) (by decide) dX7_hears_52 (fun H locs hH hS => ?_)
    refine lv_aload_n hx hb dX7_hears_53 rfl (lv_at hl 2 rfl) ?_
    refine gf_X7_52 hx hb hown hK hH (bm hM 0) dX7_hears_54 ?_
    refine lv_iload_n hx hb dX7_hears_57 rfl (lv_at hl 0 rfl) ?_
    refine lv_dup2_11 hx hb dX7_hears_58 rfl rfl ?_
    refine m_iald hx hb hK hH (n := 8) (bm hM 17) (fun _ _ => rfl) (lSu σ qn) (rfl) (by omega) (by decide) dX7_hears_59 ?_
    refine m_toi (rn σ (lSu σ qn)) (by rw [sI_at, if_neg (by omega), sI_at, if_neg (by omega)]; exact (hp.1 17 0 _ (by omega)).trans hS1.2.2.2.1) ?_
    refine lv_iconst (v := nI 1) hx hb dX7_hears_60 (by decide) ?_
    refine m_iaddN hx hb dX7_hears_61 ?_
    refine m_iast hx hb hK hH hS (n := 8) (bm hM 17) (fun _ _ => rfl) (lSu σ qn) (rfl) (by omega) (by decide) dX7_hears_62 (fun H locs hH hS => ?_)
    obtain ⟨υ, hυ⟩ : ∃ z, z = sI (sI (sI σ_2 23 0 qn (nI ((jq σ qn).2.1))) 18 0 (60 * (lSu σ qn) + (rn σ (lSu σ qn))) (nI ((jq σ qn).1))) 17 0 (lSu σ qn) (nI (rn σ (lSu σ qn) + 1)) := ⟨_, rfl⟩
    rw [← hυ] at hH
    obtain ⟨σ1, hσ1⟩ : ∃ z, z = sI σ 23 0 qn (nI (jq σ qn).2.1) := ⟨_, rfl⟩
    obtain ⟨su, hsu⟩ : ∃ z, z = lSu σ qn := ⟨_, rfl⟩
    obtain ⟨an, han⟩ : ∃ z, z = (jq σ qn).1 := ⟨_, rfl⟩
    have hW1 : WfS σ1 := by rw [hσ1]; exact x23_S hW
    have hrn1 : rn σ1 su = rn σ su := by rw [hσ1]; exact x23_rn σ _ _ _
    have hrl1 : rl σ1 su = rl σ su := by rw [hσ1]; exact x23_rl σ _ _ _
    have h161 : σ1.1 16 0 su = σ.1 16 0 su := by rw [hσ1]; exact x23_16 σ _ _ _
    have hnS1 : nS σ1 = nS σ := by rw [hσ1]; exact x23_n σ _ _
    have hsm1 : Sm σ1 (sI σ_2 23 0 qn (nI (jq σ qn).2.1)) := by rw [hσ1]; exact hp.sm.put 23 0 qn _
    have hsmA : Sm (rcA σ1 su an) υ := by unfold rcA; rw [hυ, hrn1, hsu, han]; exact (hsm1.put 18 0 _ _).put 17 0 _ _
    rw [← hsu] at hs2 hrn hS1
    rw [← hsu, ← han] at hl
    rw [← han] at hb1 c_19
    have hWA : WfS υ := hsmA.wfS (rcA_wfS hW1 (by rw [hnS1]; exact hs2) (by rw [hrn1]; exact hrn))
    have hrA : rn υ su = rn σ su + 1 := (hsmA.rnE su).trans ((rn_rcA (by rw [hrn1]; exact hrn)).trans (by rw [hrn1]))
    have hnA : nS υ = nS σ := hsmA.nSE.trans ((rcA_n σ1 su an).trans hnS1)
    have hsA : isSu υ (nI su) = true := isSu_nI (by rw [hnA]; exact hs2) (by rw [hnA]; exact h8)
    have h15 : υ.1 15 0 su = nI (rl σ su) := (hsmA.rd 15 0 su rfl).trans ((rcA_15 σ1 su an su).trans (by rw [hσ1]; exact hS1.1))
    have h16 : υ.1 16 0 su = σ.1 16 0 su := (hsmA.rd 16 0 su rfl).trans ((rcA_16 σ1 su an su).trans h161)
    clear hυ hsm1
    refine lv_aload_n hx hb dX7_hears_63 rfl (lv_at hl 2 rfl) ?_
    refine gf_X7_46 hx hb hown hK hH (bm hM 0) dX7_hears_64 ?_
    refine lv_iload_n hx hb dX7_hears_67 rfl (lv_at hl 0 rfl) ?_
    refine m_iald hx hb hK hH (n := 8) (bm hM 15) (fun _ _ => rfl) (su) (rfl) (by omega) (by decide) dX7_hears_68 ?_
    refine m_toi (rl σ su) (h15) ?_
    refine lv_istore (lv' := [(4, .int (nI (rl σ su))), (3, .int (nI su)), (2, .int (nI an)), (0, .ref (B.1 0 0)), (1, .int (nI qn))]) hx hb dX7_hears_69 hl (by decide) rfl (fun ls hl => ?_)
    refine lv_iconst (v := nI 0) hx hb dX7_hears_71 (by decide) ?_
    refine lv_istore (lv' := [(5, .int (nI 0)), (4, .int (nI (rl σ su))), (3, .int (nI su)), (2, .int (nI an)), (0, .ref (B.1 0 0)), (1, .int (nI qn))]) hx hb dX7_hears_72 hl (by decide) rfl (fun ls hl => ?_)
    refine lv_iconst (v := nI 0) hx hb dX7_hears_74 (by decide) ?_
    refine lv_istore (lv' := [(6, .int (nI 0)), (5, .int (nI 0)), (4, .int (nI (rl σ su))), (3, .int (nI su)), (2, .int (nI an)), (0, .ref (B.1 0 0)), (1, .int (nI qn))]) hx hb dX7_hears_75 hl (by decide) rfl (fun ls hl => ?_)
    have loop : ∀ (n : Nat) (i : Nat), i ≤ 5 ∧ 5 < i + n → ∀ (H : Heap) (locs : List Loc), Hp G B υ H → va_S (mA G) s.heap H locs → ∀ (ls : Array Slot), lv_has ls 7 [(0, .ref (B.1 0 0)), (1, .int (nI qn)), (2, .int (nI an)), (3, .int (nI su)), (4, .int (nI (rl σ su))), (5, .int (nI (rf5 (rv υ su) i))), (6, .int (nI i))] → W p l e ({ frames := 3, cells := 0, slots := 0, locals := 65 } : Room) s m ([.ref (B.1 0 0), .int (nI qn)] : List Value).toArray below meth c H locs 0 0 (MQ below (mQi G B (fun v τ => v = nI (jq σ qn).1 ∧ Sm (hrs σ qn) τ)) ([.ref (B.1 0 0), .int (nI qn)] : List Value).toArray s 0 0 (mA G)) (F0 m 77 ls []) := by
      intro n
      induction n with
      | zero => intro i hh; exfalso; omega
      | succ n ih =>
        intro i hh H locs hH hS ls hl
        refine lv_iload hx hb dX7_hears_77 (lv_at hl 6 rfl) ?_
        refine lv_iconst (v := nI 5) hx hb dX7_hears_79 (by decide) ?_
        refine m_icmp_geN (tgt := 110) (by omega) (by omega) hx hb dX7_hears_80 (by decide) (fun c_80 => ?_) (fun c_80 => ?_)
        · have hi5 : i = 5 := by omega
          subst hi5
          refine lv_iconst (v := nI 0) hx hb dX7_hears_110 (by decide) ?_
          refine lv_istore (lv' := [(6, .int (nI 0)), (0, .ref (B.1 0 0)), (1, .int (nI qn)), (2, .int (nI an)), (3, .int (nI su)), (4, .int (nI (rl σ su))), (5, .int (nI (rf5 (rv υ su) 5)))]) hx hb dX7_hears_111 hl (by decide) rfl (fun ls hl => ?_)
          have loop2 : ∀ (n2 : Nat) (j : Nat), j ≤ rn υ su ∧ rn υ su < j + n2 ∧ ld (rv υ su) j = true → ∀ (H : Heap) (locs : List Loc), Hp G B υ H → va_S (mA G) s.heap H locs → ∀ (ls : Array Slot), lv_has ls 7 [(0, .ref (B.1 0 0)), (1, .int (nI qn)), (2, .int (nI an)), (3, .int (nI su)), (4, .int (nI (rl σ su))), (5, .int (nI (rf5 (rv υ su) 5))), (6, .int (nI j))] → W p l e ({ frames := 3, cells := 0, slots := 0, locals := 65 } : Room) s m ([.ref (B.1 0 0), .int (nI qn)] : List Value).toArray below meth c H locs 0 0 (MQ below (mQi G B (fun v τ => v = nI (jq σ qn).1 ∧ Sm (hrs σ qn) τ)) ([.ref (B.1 0 0), .int (nI qn)] : List Value).toArray s 0 0 (mA G)) (F0 m 113 ls []) := by
            intro n2
            induction n2 with
            | zero => intro j hj; exfalso; omega
            | succ n2 ih2 =>
              intro j hj H locs hH hS ls hl
              refine lv_aload_n hx hb dX7_hears_113 rfl (lv_at hl 0 rfl) ?_
              refine lv_iload_n hx hb dX7_hears_114 rfl (lv_at hl 3 rfl) ?_
              refine lv_iload hx hb dX7_hears_115 (lv_at hl 6 rfl) ?_
              refine m_ki (m_runV (k := 0) (i := 0) (ci := 7) ⟨hx, hb, hml, hown, hz⟩ hK hH hS (bm hM 0) rfl rfl (c_X7_run l G B υ hM hWA (nI su) (nI j)) mw_X7_run wl_X7_196 ⟨rfl, rfl⟩ ⟨by decide, by decide⟩ rfl hl.1 rfl (Nat.le_of_ble_eq_true rfl) dX7_hears_117 ⟨Nat.zero_le _, Nat.zero_le _⟩) hS (fun r_117 σ_117 H locs hp hH hS => ?_)
              obtain ⟨hr1, hs9⟩ := hp
              rw [hs9] at hH
              rw [if_pos ⟨hsA, by rw [nI_I (by omega)]; omega⟩, nI_clamp (by omega), nI_clamp (by omega)] at hr1
              subst hr1
              refine lv_iconst (v := nI 1) hx hb dX7_hears_120 (by decide) ?_
              refine lv_icmp_ne (tgt := 130) hx hb dX7_hears_121 (by decide) (fun c_121 => ?_) (fun c_121 => ?_)
              · have hr2 := hS1.2.1
                have hl5 := rf5_le (rv υ su) 5
                have hn2 := nxr_le (rl σ su) an (rv υ su)
                refine lv_iload hx hb dX7_hears_130 (lv_at hl 4 rfl) ?_
                have J_132 : ∀ (ls : Array Slot), lv_has ls 7 [(4, .int (nI (nxr (rl σ su) an (rv υ su)))), (0, .ref (B.1 0 0)), (1, .int (nI qn)), (2, .int (nI an)), (3, .int (nI su)), (5, .int (nI (rf5 (rv υ su) 5))), (6, .int (nI j))] → W p l e ({ frames := 3, cells := 0, slots := 0, locals := 65 } : Room) s m ([.ref (B.1 0 0), .int (nI qn)] : List Value).toArray below meth c H locs 0 0 (MQ below (mQi G B (fun v τ => v = nI (jq σ qn).1 ∧ Sm (hrs σ qn) τ)) ([.ref (B.1 0 0), .int (nI qn)] : List Value).toArray s 0 0 (mA G)) (F0 m 196 ls []) := by
                  intro ls hl
                  refine lv_iload hx hb dX7_hears_196 (lv_at hl 0 rfl) ?_
                  refine lv_aload_n hx hb dX7_hears_198 rfl (lv_at hl 1 rfl) ?_
                  refine gf_X7_46 hx hb hown hK hH (bm hM 0) dX7_hears_199 ?_
                  refine lv_iload_n hx hb dX7_hears_202 rfl (lv_at hl 4 rfl) ?_
                  refine m_iald hx hb hK hH (n := 8) (bm hM 15) (fun _ _ => rfl) (su) (rfl) (by omega) (by decide) dX7_hears_203 ?_
                  refine m_toi (rl σ su) (h15) ?_
                  refine m_icmp_eqN (tgt := 232) (by omega) (by omega) hx hb dX7_hears_204 (by decide) (fun c_204 => ?_) (fun c_204 => ?_)
                  · have hNX : nxr (rl σ1 su) an (rv (rcA σ1 su an) su) = nxr (rl σ su) an (rv υ su) := by rw [hsmA.rvE su, hrl1]
                    have hfin : hrs σ qn = rcv σ1 su an := by rw [hrs_1 (by rw [← han]; omega), ← hσ1, ← hsu, ← han]
                    refine lv_iload_n hx hb dX7_hears_232 rfl (lv_at hl 3 rfl) ?_
                    exact m_iret hx hb hr hlk hH hS dX7_hears_233 (⟨by rw [han], by rw [hfin, rcv_same (by rw [hNX, hrl1]; exact c_204)]; exact hsmA⟩)
                  · refine lv_aload_n hx hb dX7_hears_207 rfl (lv_at hl 1 rfl) ?_
                    refine gf_X7_46 hx hb hown hK hH (bm hM 0) dX7_hears_208 ?_
                    refine lv_iload_n hx hb dX7_hears_211 rfl (lv_at hl 4 rfl) ?_
                    refine lv_iload hx hb dX7_hears_212 (lv_at hl 0 rfl) ?_
                    refine m_iast hx hb hK hH hS (n := 8) (bm hM 15) (fun _ _ => rfl) (su) (rfl) (by omega) (by decide) dX7_hears_214 (fun H locs hH hS => ?_)
                    refine lv_aload_n hx hb dX7_hears_215 rfl (lv_at hl 1 rfl) ?_
                    refine gf_X7_49 hx hb hown hK hH (bm hM 0) dX7_hears_216 ?_
                    refine lv_iload_n hx hb dX7_hears_219 rfl (lv_at hl 4 rfl) ?_
                    refine lv_dup2_11 hx hb dX7_hears_220 rfl rfl ?_
                    refine m_iald hx hb hK hH (n := 8) (bm hM 16) (fun _ _ => rfl) (su) (rfl) (by omega) (by decide) dX7_hears_221 ?_
                    refine m_toe (σ.1 16 0 su) (by rw [sI_at, if_neg (by omega)]; exact h16) ?_
                    refine lv_iconst (v := nI 1) hx hb dX7_hears_222 (by decide) ?_
                    refine lv_iadd hx hb dX7_hears_223 ?_
                    refine m_iast hx hb hK hH hS (n := 8) (bm hM 16) (fun _ _ => rfl) (su) (rfl) (by omega) (by decide) dX7_hears_224 (fun H locs hH hS => ?_)
                    refine lv_aload_n hx hb dX7_hears_225 rfl (lv_at hl 1 rfl) ?_
                    refine gf_X7_52 hx hb hown hK hH (bm hM 0) dX7_hears_226 ?_
                    refine lv_iload_n hx hb dX7_hears_229 rfl (lv_at hl 4 rfl) ?_
                    refine lv_iconst (v := nI 0) hx hb dX7_hears_230 (by decide) ?_
                    refine m_iast hx hb hK hH hS (n := 8) (bm hM 17) (fun _ _ => rfl) (su) (rfl) (by omega) (by decide) dX7_hears_231 (fun H locs hH hS => ?_)
                    have hNX : nxr (rl σ1 su) an (rv (rcA σ1 su an) su) = nxr (rl σ su) an (rv υ su) := by rw [hsmA.rvE su, hrl1]
                    have hfin : hrs σ qn = rcv σ1 su an := by rw [hrs_1 (by rw [← han]; omega), ← hσ1, ← hsu, ← han]
                    refine lv_iload_n hx hb dX7_hears_232 rfl (lv_at hl 3 rfl) ?_
                    exact m_iret hx hb hr hlk hH hS dX7_hears_233 (⟨by rw [han], by rw [hfin, rcv_new (by rw [hNX, hrl1]; exact c_204), hNX, h161]; exact ((hsmA.put 15 0 _ _).put 16 0 _ _).put 17 0 _ _⟩)
                refine m_ifneN (tgt := 162) (by omega) hx hb dX7_hears_132 (by decide) (fun c_132 => ?_) (fun c_132 => ?_)
                · refine lv_iload hx hb dX7_hears_162 (lv_at hl 4 rfl) ?_
                  refine lv_iconst (v := nI 1) hx hb dX7_hears_164 (by decide) ?_
                  refine m_icmp_neN (tgt := 184) (by omega) (by omega) hx hb dX7_hears_165 (by decide) (fun c_165 => ?_) (fun c_165 => ?_)
                  · refine lv_iload_n hx hb dX7_hears_184 rfl (lv_at hl 2 rfl) ?_
                    refine lv_iconst (v := nI 2) hx hb dX7_hears_185 (by decide) ?_
                    refine m_icmp_neN (tgt := 193) (by omega) (by omega) hx hb dX7_hears_186 (by decide) (fun c_186 => ?_) (fun c_186 => ?_)
                    · refine lv_iconst (v := nI 2) hx hb dX7_hears_193 (by decide) ?_
                      refine lv_istore (lv' := [(4, .int (nI 2)), (0, .ref (B.1 0 0)), (1, .int (nI qn)), (2, .int (nI an)), (3, .int (nI su)), (5, .int (nI (rf5 (rv υ su) 5))), (6, .int (nI j))]) hx hb dX7_hears_194 hl (by decide) rfl (fun ls hl => ?_)
                      exact J_132 ls (by rw [show nxr (rl σ su) an (rv υ su) = 2 by unfold nxr; first | rw [if_pos c_132, if_pos c_138] | rw [if_pos c_132, if_neg (by omega), if_pos ((ld_iff hj.2.2 c_121).mpr c_149)] | rw [if_pos c_132, if_neg (by omega), if_neg (fun q => by have := (ld_iff hj.2.2 c_121).mp q; omega)] | rw [if_neg (by omega), if_pos c_165, if_pos ((ld_iff hj.2.2 c_121).mpr c_171)] | rw [if_neg (by omega), if_pos c_165, if_neg (fun q => by have := (ld_iff hj.2.2 c_121).mp q; omega)] | rw [if_neg (by omega), if_neg c_165, if_pos c_186] | rw [if_neg (by omega), if_neg c_165, if_neg c_186]]; exact lv_sub hl [0, 1, 2, 3, 4, 5, 6] rfl)
                    · refine lv_iconst (v := nI 0) hx hb dX7_hears_189 (by decide) ?_
                      refine lv_goto (tgt := 194) hx hb dX7_hears_190 (by decide) ?_
                      refine lv_istore (lv' := [(4, .int (nI 0)), (0, .ref (B.1 0 0)), (1, .int (nI qn)), (2, .int (nI an)), (3, .int (nI su)), (5, .int (nI (rf5 (rv υ su) 5))), (6, .int (nI j))]) hx hb dX7_hears_194 hl (by decide) rfl (fun ls hl => ?_)
                      exact J_132 ls (by rw [show nxr (rl σ su) an (rv υ su) = 0 by unfold nxr; first | rw [if_pos c_132, if_pos c_138] | rw [if_pos c_132, if_neg (by omega), if_pos ((ld_iff hj.2.2 c_121).mpr c_149)] | rw [if_pos c_132, if_neg (by omega), if_neg (fun q => by have := (ld_iff hj.2.2 c_121).mp q; omega)] | rw [if_neg (by omega), if_pos c_165, if_pos ((ld_iff hj.2.2 c_121).mpr c_171)] | rw [if_neg (by omega), if_pos c_165, if_neg (fun q => by have := (ld_iff hj.2.2 c_121).mp q; omega)] | rw [if_neg (by omega), if_neg c_165, if_pos c_186] | rw [if_neg (by omega), if_neg c_165, if_neg c_186]]; exact lv_sub hl [0, 1, 2, 3, 4, 5, 6] rfl)
                  · refine lv_iload hx hb dX7_hears_168 (lv_at hl 6 rfl) ?_
                    refine lv_iconst (v := nI 5) hx hb dX7_hears_170 (by decide) ?_
                    refine m_icmp_ltN (tgt := 178) (by omega) (by omega) hx hb dX7_hears_171 (by decide) (fun c_171 => ?_) (fun c_171 => ?_)
                    · refine lv_iconst (v := nI 1) hx hb dX7_hears_178 (by decide) ?_
                      refine lv_istore (lv' := [(4, .int (nI 1)), (0, .ref (B.1 0 0)), (1, .int (nI qn)), (2, .int (nI an)), (3, .int (nI su)), (5, .int (nI (rf5 (rv υ su) 5))), (6, .int (nI j))]) hx hb dX7_hears_179 hl (by decide) rfl (fun ls hl => ?_)
                      refine lv_goto (tgt := 196) hx hb dX7_hears_181 (by decide) ?_
                      exact J_132 ls (by rw [show nxr (rl σ su) an (rv υ su) = 1 by unfold nxr; first | rw [if_pos c_132, if_pos c_138] | rw [if_pos c_132, if_neg (by omega), if_pos ((ld_iff hj.2.2 c_121).mpr c_149)] | rw [if_pos c_132, if_neg (by omega), if_neg (fun q => by have := (ld_iff hj.2.2 c_121).mp q; omega)] | rw [if_neg (by omega), if_pos c_165, if_pos ((ld_iff hj.2.2 c_121).mpr c_171)] | rw [if_neg (by omega), if_pos c_165, if_neg (fun q => by have := (ld_iff hj.2.2 c_121).mp q; omega)] | rw [if_neg (by omega), if_neg c_165, if_pos c_186] | rw [if_neg (by omega), if_neg c_165, if_neg c_186]]; exact lv_sub hl [0, 1, 2, 3, 4, 5, 6] rfl)
                    · refine lv_iconst (v := nI 0) hx hb dX7_hears_174 (by decide) ?_
                      refine lv_goto (tgt := 179) hx hb dX7_hears_175 (by decide) ?_
                      refine lv_istore (lv' := [(4, .int (nI 0)), (0, .ref (B.1 0 0)), (1, .int (nI qn)), (2, .int (nI an)), (3, .int (nI su)), (5, .int (nI (rf5 (rv υ su) 5))), (6, .int (nI j))]) hx hb dX7_hears_179 hl (by decide) rfl (fun ls hl => ?_)
                      refine lv_goto (tgt := 196) hx hb dX7_hears_181 (by decide) ?_
                      exact J_132 ls (by rw [show nxr (rl σ su) an (rv υ su) = 0 by unfold nxr; first | rw [if_pos c_132, if_pos c_138] | rw [if_pos c_132, if_neg (by omega), if_pos ((ld_iff hj.2.2 c_121).mpr c_149)] | rw [if_pos c_132, if_neg (by omega), if_neg (fun q => by have := (ld_iff hj.2.2 c_121).mp q; omega)] | rw [if_neg (by omega), if_pos c_165, if_pos ((ld_iff hj.2.2 c_121).mpr c_171)] | rw [if_neg (by omega), if_pos c_165, if_neg (fun q => by have := (ld_iff hj.2.2 c_121).mp q; omega)] | rw [if_neg (by omega), if_neg c_165, if_pos c_186] | rw [if_neg (by omega), if_neg c_165, if_neg c_186]]; exact lv_sub hl [0, 1, 2, 3, 4, 5, 6] rfl)
                · refine lv_iload hx hb dX7_hears_135 (lv_at hl 5 rfl) ?_
                  refine lv_iconst (v := nI 2) hx hb dX7_hears_137 (by decide) ?_
                  refine m_icmp_ltN (tgt := 145) (by omega) (by omega) hx hb dX7_hears_138 (by decide) (fun c_138 => ?_) (fun c_138 => ?_)
                  · refine lv_iload hx hb dX7_hears_145 (lv_at hl 6 rfl) ?_
                    refine lv_bipush (v := nI 6) hx hb dX7_hears_147 (by decide) ?_
                    refine m_icmp_ltN (tgt := 156) (by omega) (by omega) hx hb dX7_hears_149 (by decide) (fun c_149 => ?_) (fun c_149 => ?_)
                    · refine lv_iconst (v := nI 0) hx hb dX7_hears_156 (by decide) ?_
                      refine lv_istore (lv' := [(4, .int (nI 0)), (0, .ref (B.1 0 0)), (1, .int (nI qn)), (2, .int (nI an)), (3, .int (nI su)), (5, .int (nI (rf5 (rv υ su) 5))), (6, .int (nI j))]) hx hb dX7_hears_157 hl (by decide) rfl (fun ls hl => ?_)
                      refine lv_goto (tgt := 196) hx hb dX7_hears_159 (by decide) ?_
                      exact J_132 ls (by rw [show nxr (rl σ su) an (rv υ su) = 0 by unfold nxr; first | rw [if_pos c_132, if_pos c_138] | rw [if_pos c_132, if_neg (by omega), if_pos ((ld_iff hj.2.2 c_121).mpr c_149)] | rw [if_pos c_132, if_neg (by omega), if_neg (fun q => by have := (ld_iff hj.2.2 c_121).mp q; omega)] | rw [if_neg (by omega), if_pos c_165, if_pos ((ld_iff hj.2.2 c_121).mpr c_171)] | rw [if_neg (by omega), if_pos c_165, if_neg (fun q => by have := (ld_iff hj.2.2 c_121).mp q; omega)] | rw [if_neg (by omega), if_neg c_165, if_pos c_186] | rw [if_neg (by omega), if_neg c_165, if_neg c_186]]; exact lv_sub hl [0, 1, 2, 3, 4, 5, 6] rfl)
                    · refine lv_iconst (v := nI 2) hx hb dX7_hears_152 (by decide) ?_
                      refine lv_goto (tgt := 157) hx hb dX7_hears_153 (by decide) ?_
                      refine lv_istore (lv' := [(4, .int (nI 2)), (0, .ref (B.1 0 0)), (1, .int (nI qn)), (2, .int (nI an)), (3, .int (nI su)), (5, .int (nI (rf5 (rv υ su) 5))), (6, .int (nI j))]) hx hb dX7_hears_157 hl (by decide) rfl (fun ls hl => ?_)
                      refine lv_goto (tgt := 196) hx hb dX7_hears_159 (by decide) ?_
                      exact J_132 ls (by rw [show nxr (rl σ su) an (rv υ su) = 2 by unfold nxr; first | rw [if_pos c_132, if_pos c_138] | rw [if_pos c_132, if_neg (by omega), if_pos ((ld_iff hj.2.2 c_121).mpr c_149)] | rw [if_pos c_132, if_neg (by omega), if_neg (fun q => by have := (ld_iff hj.2.2 c_121).mp q; omega)] | rw [if_neg (by omega), if_pos c_165, if_pos ((ld_iff hj.2.2 c_121).mpr c_171)] | rw [if_neg (by omega), if_pos c_165, if_neg (fun q => by have := (ld_iff hj.2.2 c_121).mp q; omega)] | rw [if_neg (by omega), if_neg c_165, if_pos c_186] | rw [if_neg (by omega), if_neg c_165, if_neg c_186]]; exact lv_sub hl [0, 1, 2, 3, 4, 5, 6] rfl)
                  · refine lv_iconst (v := nI 1) hx hb dX7_hears_141 (by decide) ?_
                    refine lv_goto (tgt := 157) hx hb dX7_hears_142 (by decide) ?_
                    refine lv_istore (lv' := [(4, .int (nI 1)), (0, .ref (B.1 0 0)), (1, .int (nI qn)), (2, .int (nI an)), (3, .int (nI su)), (5, .int (nI (rf5 (rv υ su) 5))), (6, .int (nI j))]) hx hb dX7_hears_157 hl (by decide) rfl (fun ls hl => ?_)
                    refine lv_goto (tgt := 196) hx hb dX7_hears_159 (by decide) ?_
                    exact J_132 ls (by rw [show nxr (rl σ su) an (rv υ su) = 1 by unfold nxr; first | rw [if_pos c_132, if_pos c_138] | rw [if_pos c_132, if_neg (by omega), if_pos ((ld_iff hj.2.2 c_121).mpr c_149)] | rw [if_pos c_132, if_neg (by omega), if_neg (fun q => by have := (ld_iff hj.2.2 c_121).mp q; omega)] | rw [if_neg (by omega), if_pos c_165, if_pos ((ld_iff hj.2.2 c_121).mpr c_171)] | rw [if_neg (by omega), if_pos c_165, if_neg (fun q => by have := (ld_iff hj.2.2 c_121).mp q; omega)] | rw [if_neg (by omega), if_neg c_165, if_pos c_186] | rw [if_neg (by omega), if_neg c_165, if_neg c_186]]; exact lv_sub hl [0, 1, 2, 3, 4, 5, 6] rfl)
              · refine lv_iinc (v := nI (j + 1)) (lv' := [(6, .int (nI (j + 1))), (0, .ref (B.1 0 0)), (1, .int (nI qn)), (2, .int (nI an)), (3, .int (nI su)), (4, .int (nI (rl σ su))), (5, .int (nI (rf5 (rv υ su) 5)))]) hx hb dX7_hears_124 hl (k := 6) rfl (nI_1 _) (by decide) rfl (fun ls hl => ?_)
                refine lv_goto (tgt := 113) hx hb dX7_hears_127 (by decide) ?_
                exact ih2 (j + 1) ⟨by have := rv_1 c_121; omega, by have := rv_1 c_121; omega, by show (ld _ j && _) = true; rw [hj.2.2, decide_eq_true c_121]; rfl⟩ H locs hH hS ls (lv_sub hl [1, 2, 3, 4, 5, 6, 0] rfl)
          exact loop2 (rn υ su + 1) 0 ⟨by omega, by omega, rfl⟩ H locs hH hS ls (lv_sub hl [1, 2, 3, 4, 5, 6, 0] rfl)
        · refine lv_iload hx hb dX7_hears_83 (lv_at hl 5 rfl) ?_
          refine lv_aload_n hx hb dX7_hears_85 rfl (lv_at hl 0 rfl) ?_
          refine lv_iload_n hx hb dX7_hears_86 rfl (lv_at hl 3 rfl) ?_
          refine lv_iload hx hb dX7_hears_87 (lv_at hl 6 rfl) ?_
          refine m_ki (m_runV (k := 0) (i := 0) (ci := 7) ⟨hx, hb, hml, hown, hz⟩ hK hH hS (bm hM 0) rfl rfl (c_X7_run l G B υ hM hWA (nI su) (nI i)) mw_X7_run wl_X7_196 ⟨rfl, rfl⟩ ⟨by decide, by decide⟩ rfl hl.1 rfl (Nat.le_of_ble_eq_true rfl) dX7_hears_89 ⟨Nat.zero_le _, Nat.zero_le _⟩) hS (fun r_89 σ_89 H locs hp hH hS => ?_)
          obtain ⟨hr1, hs9⟩ := hp
          rw [hs9] at hH
          rw [if_pos ⟨hsA, by rw [nI_I (by omega)]; omega⟩, nI_clamp (by omega), nI_clamp (by omega)] at hr1
          subst hr1
          refine lv_iconst (v := nI 2) hx hb dX7_hears_92 (by decide) ?_
          have J_93 : ∀ (ls : Array Slot), lv_has ls 7 [(0, .ref (B.1 0 0)), (1, .int (nI qn)), (2, .int (nI an)), (3, .int (nI su)), (4, .int (nI (rl σ su))), (5, .int (nI (rf5 (rv υ su) i))), (6, .int (nI i))] → W p l e ({ frames := 3, cells := 0, slots := 0, locals := 65 } : Room) s m ([.ref (B.1 0 0), .int (nI qn)] : List Value).toArray below meth c H locs 0 0 (MQ below (mQi G B (fun v τ => v = nI (jq σ qn).1 ∧ Sm (hrs σ qn) τ)) ([.ref (B.1 0 0), .int (nI qn)] : List Value).toArray s 0 0 (mA G)) (F0 m 101 ls [.int (nI (if rv υ su i = nI 2 then 1 else 0)), .int (nI (rf5 (rv υ su) i))]) := by
            intro ls hl
            refine m_iaddN hx hb dX7_hears_101 ?_
            refine lv_istore (lv' := [(5, .int (nI (rf5 (rv υ su) i + (if rv υ su i = nI 2 then 1 else 0)))), (0, .ref (B.1 0 0)), (1, .int (nI qn)), (2, .int (nI an)), (3, .int (nI su)), (4, .int (nI (rl σ su))), (6, .int (nI i))]) hx hb dX7_hears_102 hl (by decide) rfl (fun ls hl => ?_)
            refine lv_iinc (v := nI (i + 1)) (lv' := [(6, .int (nI (i + 1))), (5, .int (nI (rf5 (rv υ su) i + (if rv υ su i = nI 2 then 1 else 0)))), (0, .ref (B.1 0 0)), (1, .int (nI qn)), (2, .int (nI an)), (3, .int (nI su)), (4, .int (nI (rl σ su)))]) hx hb dX7_hears_104 hl (k := 6) rfl (nI_1 _) (by decide) rfl (fun ls hl => ?_)
            refine lv_goto (tgt := 77) hx hb dX7_hears_107 (by decide) ?_
            exact ih (i + 1) (by omega) H locs hH hS ls (lv_sub hl [2, 3, 4, 5, 6, 1, 0] rfl)
          refine lv_icmp_ne (tgt := 100) hx hb dX7_hears_93 (by decide) (fun c_93 => ?_) (fun c_93 => ?_)
          · refine lv_iconst (v := nI 0) hx hb dX7_hears_100 (by decide) ?_
            refine m_toe (nI (if rv υ su i = nI 2 then 1 else 0)) (by rw [if_neg c_93]) ?_
            exact J_93 ls (lv_sub hl [0, 1, 2, 3, 4, 5, 6] rfl)
          · refine lv_iconst (v := nI 1) hx hb dX7_hears_96 (by decide) ?_
            refine lv_goto (tgt := 101) hx hb dX7_hears_97 (by decide) ?_
            refine m_toe (nI (if rv υ su i = nI 2 then 1 else 0)) (by rw [if_pos c_93]) ?_
            exact J_93 ls (lv_sub hl [0, 1, 2, 3, 4, 5, 6] rfl)
    exact loop 6 0 (by omega) H locs hH hS ls (lv_sub hl [5, 6, 4, 3, 2, 1, 0] rfl)
  · refine lv_iconst (v := nI 0) hx hb dX7_hears_22 (by decide) ?_
    exact m_iret hx hb hr hlk hH hS dX7_hears_23 (⟨by rw [c_19], by unfold hrs; rw [if_pos c_19]; exact hp.sm.put 23 0 qn _⟩)
end
